/-! ===== questions, both sides: ranked, skim, winner ===== -/
def mRq (M : zM) (R : List Int) : Prop := M 9 0 23 = R.length ∧ ∀ j : Int, 0 ≤ j ∧ j < (R.length : Int) → M 37 0 j = rkt (R.getD j.toNat 0) ∧ M 38 0 j = rkg (R.getD j.toNat 0)
theorem mRq.s {M M' : zM} {R : List Int} (h : mRq M R) (f : mFs M M') : mRq M' R := by
  unfold mRq at h ⊢
  rw [f.F 23 (by omega), f.1 37 0 (by decide) (by decide), f.1 38 0 (by decide) (by decide)]
  exact h
/-- what the ranking writes -/
def mFk (M M' : zM) : Prop := (∀ k i, k ≠ 9 → ¬ (37 ≤ k ∧ k ≤ 38) → M' k i = M k i) ∧ (∀ j, j ≠ 23 → M' 9 0 j = M 9 0 j)
theorem mFk.rf {M : zM} : mFk M M := ⟨fun _ _ _ _ => rfl, fun _ _ => rfl⟩
theorem mFk.q {M M' : zM} {S : zS} (h : MX M S) (f : mFk M M') : mQ M M' := ⟨fun k i h1 h2 => f.1 k i h1 (by omega), fun j hj => f.2 j (by omega), by rw [f.2 7 (by omega)]; exact h.1.1.2.2.2.2.2⟩
section
variable {l : Launch} {M : zM} {S : zS}
def LX9_laysRanks_7 (l : Launch) (P : zM → Prop) (v1 : Int) (v2 : Int) (M : zM) : Prop := AW l m_X9_laysRanks (zTv m_X9_laysRanks P) 7 [(0, zr 9 0), (1, zi v1), (2, zi v2)] [] M
def LX9_laysRanks_40 (l : Launch) (P : zM → Prop) (v1 : Int) (v2 : Int) (v3 : Int) (v4 : Int) (M : zM) : Prop := AW l m_X9_laysRanks (zTv m_X9_laysRanks P) 40 [(0, zr 9 0), (1, zi v1), (2, zi v2), (3, zi v3), (4, zi v4)] [] M
theorem vX9_laysRanks_7 {l : Launch} {P : zM → Prop} {v1 : Int} {v2 : Int} {M : zM}
    (H0 : (zI v2 ∧ zI (M 27 0 180) ∧ ((M 27 0 180) ≤ v2 → P M) ∧ (v2 < (M 27 0 180) → ((0 ≤ 9 * v2 + 1 ∧ 9 * v2 + 1 < 187) ∧ (zI (M 27 0 (9 * v2 + 1)) ∧ zI v1 ∧ ((M 27 0 (9 * v2 + 1)) = v1 → (CI l m_X9_gainOf [zr 9 0, zi v2] M (fun x22 M19 => LX9_laysRanks_40 l P v1 v2 x22 (M19 9 0 23) M19))) ∧ ((M 27 0 (9 * v2 + 1)) ≠ v1 → LX9_laysRanks_7 l P v1 (v2 + 1) M)))))) :
    LX9_laysRanks_7 l P v1 v2 M :=
(aw_iload_n d_X9_laysRanks_7 rfl rfl 2 rfl
(aw_aload_n d_X9_laysRanks_8 rfl rfl 0 rfl (by decide)
(aw_VI (As := []) (st := [zi v2]) d_X9_laysRanks_9 rfl cv9_78 ⟨Nat.le_of_ble_eq_true rfl, Nat.le_of_ble_eq_true rfl⟩ rfl rfl (Nat.le_of_ble_eq_true rfl) (Nat.le_of_ble_eq_true rfl) (s_X9_traders) (fun _ _ hq => aw_eqs hq
(have z3 := H0.1; have z4 := H0.2.1; have e5 := H0.2.2; aw_icmp_ge d_X9_laysRanks_12 rfl rfl z3 z4 (fun c6 => have e8 := e5.1 c6; (aw_rv d_X9_laysRanks_128 rfl e8)) (fun c7 => have e9 := e5.2 c7; (aw_aload_n d_X9_laysRanks_15 rfl rfl 0 rfl (by decide)
(aw_iload_n d_X9_laysRanks_16 rfl rfl 2 rfl
(aw_iconst d_X9_laysRanks_17 rfl
(have z10 := e9.1; have e11 := e9.2; (aw_VI (As := [zi v2, zi 1]) (st := []) d_X9_laysRanks_18 rfl cv9_88 ⟨Nat.le_of_ble_eq_true rfl, Nat.le_of_ble_eq_true rfl⟩ rfl rfl (Nat.le_of_ble_eq_true rfl) (Nat.le_of_ble_eq_true rfl) (s_X9_of z10) (fun _ _ hq => aw_eqs hq
(aw_iload_n d_X9_laysRanks_21 rfl rfl 1 rfl
(have z12 := e11.1; have z13 := e11.2.1; have e14 := e11.2.2; aw_icmp_eq d_X9_laysRanks_22 rfl rfl z12 z13 (fun c15 => have e17 := e14.1 c15; (aw_aload_n d_X9_laysRanks_28 rfl rfl 0 rfl (by decide)
(aw_iload_n d_X9_laysRanks_29 rfl rfl 2 rfl
(aw_VI (As := [zi v2]) (st := []) d_X9_laysRanks_30 rfl cv9_204 ⟨Nat.le_of_ble_eq_true rfl, Nat.le_of_ble_eq_true rfl⟩ rfl rfl (Nat.le_of_ble_eq_true rfl) (Nat.le_of_ble_eq_true rfl) e17 (fun x22 M19 e20 => (aw_istore_n (lv' := [(3, zi x22), (0, zr 9 0), (1, zi v1), (2, zi v2)]) d_X9_laysRanks_33 rfl rfl (by decide) rfl
(aw_aload_n d_X9_laysRanks_34 rfl rfl 1 rfl (by decide)
(aw_getI (kc := 23) d_X9_laysRanks_35 rfl fl9_223 rfl rfl
(aw_istore (lv' := [(4, zi (M19 9 0 23)), (3, zi x22), (0, zr 9 0), (1, zi v1), (2, zi v2)]) d_X9_laysRanks_38 rfl (by decide) rfl
(aw_sub [2, 3, 4, 1, 0] rfl e20)))))))))) (fun c16 => have e18 := e14.2 c16; (aw_goto d_X9_laysRanks_25 rfl
(aw_iinc (lv' := [(2, zi (v2 + 1)), (0, zr 9 0), (1, zi v1)]) (y := (v2 + 1)) d_X9_laysRanks_122 rfl 2 rfl (by decide) rfl rfl
(aw_goto d_X9_laysRanks_125 rfl
(aw_sub [1, 2, 0] rfl e18)))))))))))))))))))
theorem vX9_laysRanks_40 {l : Launch} {P : zM → Prop} {v1 : Int} {v2 : Int} {v3 : Int} {v4 : Int} {M : zM}
    (H0 : (zI v4 ∧ (v4 ≤ 0 → ((0 ≤ v4 ∧ v4 < 20) ∧ ∀ M30 : zM, M30 = zu M 38 0 v4 v3 → (∀ M32 : zM, M32 = zu M30 37 0 v4 v2 → (∀ M34 : zM, M34 = zu M32 9 0 23 ((M32 9 0 23) + 1) → LX9_laysRanks_7 l P v1 (v2 + 1) M34)))) ∧ (0 < v4 → ((0 ≤ (v4 - 1) ∧ (v4 - 1) < 20) ∧ (zI (M 38 0 (v4 - 1)) ∧ zI v3 ∧ (v3 ≤ (M 38 0 (v4 - 1)) → ((0 ≤ v4 ∧ v4 < 20) ∧ ∀ M46 : zM, M46 = zu M 38 0 v4 v3 → (∀ M48 : zM, M48 = zu M46 37 0 v4 v2 → (∀ M50 : zM, M50 = zu M48 9 0 23 ((M48 9 0 23) + 1) → LX9_laysRanks_7 l P v1 (v2 + 1) M50)))) ∧ ((M 38 0 (v4 - 1)) < v3 → ((0 ≤ v4 ∧ v4 < 20) ∧ ∀ M53 : zM, M53 = zu M 38 0 v4 (M 38 0 (v4 - 1)) → (∀ M55 : zM, M55 = zu M53 37 0 v4 (M53 37 0 (v4 - 1)) → LX9_laysRanks_40 l P v1 v2 v3 (v4 - 1) M55)))))))) :
    LX9_laysRanks_40 l P v1 v2 v3 v4 M :=
(aw_iload d_X9_laysRanks_40 rfl 4 rfl
(have z23 := H0.1; have e24 := H0.2; aw_if_le d_X9_laysRanks_42 rfl rfl z23 (fun c25 => have e27 := e24.1 c25; (aw_aload_n d_X9_laysRanks_96 rfl rfl 0 rfl (by decide)
(aw_getR (k' := 38) (a := 0) (b := 0) (j := 0) d_X9_laysRanks_97 rfl fl9_44 rfl zj0 ⟨by decide, fun _ => by decide⟩
(aw_iload d_X9_laysRanks_100 rfl 4 rfl
(aw_iload_n d_X9_laysRanks_102 rfl rfl 3 rfl
(have z29 := e27.1; have e31 := e27.2 _ rfl; aw_iast d_X9_laysRanks_103 rfl za38 z29
(aw_aload_n d_X9_laysRanks_104 rfl rfl 0 rfl (by decide)
(aw_getR (k' := 37) (a := 0) (b := 0) (j := 0) d_X9_laysRanks_105 rfl fl9_41 rfl zj0 ⟨by decide, fun _ => by decide⟩
(aw_iload d_X9_laysRanks_108 rfl 4 rfl
(aw_iload_n d_X9_laysRanks_110 rfl rfl 2 rfl
(have e33 := e31 _ rfl; aw_iast d_X9_laysRanks_111 rfl za37 z29
(aw_aload_n d_X9_laysRanks_112 rfl rfl 0 rfl (by decide)
(aw_dup d_X9_laysRanks_113 rfl rfl
(aw_getI (kc := 23) d_X9_laysRanks_114 rfl fl9_223 rfl rfl
(aw_iconst d_X9_laysRanks_117 rfl
(aw_iadd d_X9_laysRanks_118 rfl
(have e35 := e33 _ rfl; aw_put (kc := 23) d_X9_laysRanks_119 rfl fp9_223 rfl rfl rfl rfl
(aw_iinc (lv' := [(2, zi (v2 + 1)), (0, zr 9 0), (1, zi v1), (3, zi v3), (4, zi v4)]) (y := (v2 + 1)) d_X9_laysRanks_122 rfl 2 rfl (by decide) rfl rfl
(aw_goto d_X9_laysRanks_125 rfl
(aw_sub [1, 2, 0] rfl e35)))))))))))))))))))) (fun c26 => have e28 := e24.2 c26; (aw_aload_n d_X9_laysRanks_45 rfl rfl 0 rfl (by decide)
(aw_getR (k' := 38) (a := 0) (b := 0) (j := 0) d_X9_laysRanks_46 rfl fl9_44 rfl zj0 ⟨by decide, fun _ => by decide⟩
(aw_iload d_X9_laysRanks_49 rfl 4 rfl
(aw_iconst d_X9_laysRanks_51 rfl
(aw_isub d_X9_laysRanks_52 rfl
(have z36 := e28.1; have e37 := e28.2; (aw_iald d_X9_laysRanks_53 rfl za38 z36
(aw_iload_n d_X9_laysRanks_54 rfl rfl 3 rfl
(have z38 := e37.1; have z39 := e37.2.1; have e40 := e37.2.2; aw_icmp_ge d_X9_laysRanks_55 rfl rfl z38 z39 (fun c41 => have e43 := e40.1 c41; (aw_aload_n d_X9_laysRanks_96 rfl rfl 0 rfl (by decide)
(aw_getR (k' := 38) (a := 0) (b := 0) (j := 0) d_X9_laysRanks_97 rfl fl9_44 rfl zj0 ⟨by decide, fun _ => by decide⟩
(aw_iload d_X9_laysRanks_100 rfl 4 rfl
(aw_iload_n d_X9_laysRanks_102 rfl rfl 3 rfl
(have z45 := e43.1; have e47 := e43.2 _ rfl; aw_iast d_X9_laysRanks_103 rfl za38 z45
(aw_aload_n d_X9_laysRanks_104 rfl rfl 0 rfl (by decide)
(aw_getR (k' := 37) (a := 0) (b := 0) (j := 0) d_X9_laysRanks_105 rfl fl9_41 rfl zj0 ⟨by decide, fun _ => by decide⟩
(aw_iload d_X9_laysRanks_108 rfl 4 rfl
(aw_iload_n d_X9_laysRanks_110 rfl rfl 2 rfl
(have e49 := e47 _ rfl; aw_iast d_X9_laysRanks_111 rfl za37 z45
(aw_aload_n d_X9_laysRanks_112 rfl rfl 0 rfl (by decide)
(aw_dup d_X9_laysRanks_113 rfl rfl
(aw_getI (kc := 23) d_X9_laysRanks_114 rfl fl9_223 rfl rfl
(aw_iconst d_X9_laysRanks_117 rfl
(aw_iadd d_X9_laysRanks_118 rfl
(have e51 := e49 _ rfl; aw_put (kc := 23) d_X9_laysRanks_119 rfl fp9_223 rfl rfl rfl rfl
(aw_iinc (lv' := [(2, zi (v2 + 1)), (0, zr 9 0), (1, zi v1), (3, zi v3), (4, zi v4)]) (y := (v2 + 1)) d_X9_laysRanks_122 rfl 2 rfl (by decide) rfl rfl
(aw_goto d_X9_laysRanks_125 rfl
(aw_sub [1, 2, 0] rfl e51)))))))))))))))))))) (fun c42 => have e44 := e40.2 c42; (aw_aload_n d_X9_laysRanks_58 rfl rfl 0 rfl (by decide)
(aw_getR (k' := 38) (a := 0) (b := 0) (j := 0) d_X9_laysRanks_59 rfl fl9_44 rfl zj0 ⟨by decide, fun _ => by decide⟩
(aw_iload d_X9_laysRanks_62 rfl 4 rfl
(aw_aload_n d_X9_laysRanks_64 rfl rfl 0 rfl (by decide)
(aw_getR (k' := 38) (a := 0) (b := 0) (j := 0) d_X9_laysRanks_65 rfl fl9_44 rfl zj0 ⟨by decide, fun _ => by decide⟩
(aw_iload d_X9_laysRanks_68 rfl 4 rfl
(aw_iconst d_X9_laysRanks_70 rfl
(aw_isub d_X9_laysRanks_71 rfl
(aw_iald d_X9_laysRanks_72 rfl za38 z36
(have z52 := e44.1; have e54 := e44.2 _ rfl; aw_iast d_X9_laysRanks_73 rfl za38 z52
(aw_aload_n d_X9_laysRanks_74 rfl rfl 0 rfl (by decide)
(aw_getR (k' := 37) (a := 0) (b := 0) (j := 0) d_X9_laysRanks_75 rfl fl9_41 rfl zj0 ⟨by decide, fun _ => by decide⟩
(aw_iload d_X9_laysRanks_78 rfl 4 rfl
(aw_aload_n d_X9_laysRanks_80 rfl rfl 0 rfl (by decide)
(aw_getR (k' := 37) (a := 0) (b := 0) (j := 0) d_X9_laysRanks_81 rfl fl9_41 rfl zj0 ⟨by decide, fun _ => by decide⟩
(aw_iload d_X9_laysRanks_84 rfl 4 rfl
(aw_iconst d_X9_laysRanks_86 rfl
(aw_isub d_X9_laysRanks_87 rfl
(aw_iald d_X9_laysRanks_88 rfl za37 z36
(have e56 := e54 _ rfl; aw_iast d_X9_laysRanks_89 rfl za37 z52
(aw_iinc (lv' := [(4, zi (v4 - 1)), (0, zr 9 0), (1, zi v1), (2, zi v2), (3, zi v3)]) (y := (v4 - 1)) d_X9_laysRanks_90 rfl 4 rfl (by decide) rfl rfl
(aw_goto d_X9_laysRanks_93 rfl
(aw_sub [1, 2, 3, 4, 0] rfl e56))))))))))))))))))))))))))))))))))))
theorem vX9_laysRanks {l : Launch} {P : zM → Prop} {v1 : Int} {M : zM}
    (H0 : (∀ M1 : zM, M1 = zu M 9 0 23 0 → LX9_laysRanks_7 l P v1 0 M1)) :
    CV l m_X9_laysRanks [zr 9 0, zi v1] M P :=
(aw_aload_n d_X9_laysRanks_0 rfl rfl 0 rfl (by decide)
(aw_iconst d_X9_laysRanks_1 rfl
(have e2 := H0 _ rfl; aw_put (kc := 23) d_X9_laysRanks_2 rfl fp9_223 rfl rfl rfl rfl
(aw_iconst d_X9_laysRanks_5 rfl
(aw_istore_n (lv' := [(2, zi 0), (0, zr 9 0), (1, zi v1)]) d_X9_laysRanks_6 rfl rfl (by decide) rfl
(aw_sub [1, 2, 0] rfl e2))))))
theorem r_place {R : List Int} {Q : Int → Prop} {x g t G : Int} {P : zM → Prop} (h : isRow R Q) (r : mRq M R) (hx : ∀ y ∈ R, y % 32 < x % 32) (hlen : R.length < 20) (e1 : rkt x = t) (e2 : rkg x = G) (zG : zI G) (hR : ∀ y ∈ R, zI (rkg y))
    (k : ∀ M' R', mFk M M' → isRow R' (fun y => Q y ∨ y = x) → mRq M' R' → LX9_laysRanks_7 l P g (t + 1) M') : LX9_laysRanks_40 l P g t G (R.length : Int) M := by
  have fin : ∀ (p : Nat) (M' M1 M2 M3 : zM), p ≤ R.length → mFk M M' → M' 9 0 23 = R.length → (∀ j : Int, 0 ≤ j ∧ j < p → M' 37 0 j = rkt (R.getD j.toNat 0) ∧ M' 38 0 j = rkg (R.getD j.toNat 0)) →
      (∀ j : Int, p < j ∧ j ≤ (R.length : Int) → M' 37 0 j = rkt (R.getD (j - 1).toNat 0) ∧ M' 38 0 j = rkg (R.getD (j - 1).toNat 0)) →
      (∀ j : Nat, p ≤ j → j < R.length → x < R.getD j 0) → (∀ j : Nat, j < p → R.getD j 0 < x) → M1 = zu M' 38 0 p G → M2 = zu M1 37 0 p t → M3 = zu M2 9 0 23 (M2 9 0 23 + 1) → LX9_laysRanks_7 l P g (t + 1) M3 := by
    intro p M' M1 M2 M3 hp' fr e4 h1 h2 h3 h4 q1 q2 q3
    refine k M3 _ ⟨fun k i a1 a2 => ?_, fun j hj => ?_⟩ (row_ins h hp' h4 h3) ⟨?_, fun j hj => ?_⟩
    · rw [q3, zu_k a1, q2, zu_k (by omega), q1, zu_k (by omega), fr.1 k i a1 a2]
    · rw [q3, zu_at, if_neg hj, q2, zu_k (by decide), q1, zu_k (by decide), fr.2 j hj]
    · rw [q3, zu_at, if_pos rfl, q2, zu_k (by decide), q1, zu_k (by decide), e4, ins_len hp']
      omega
    · rw [ins_len hp'] at hj
      have ev : (R.take p ++ x :: R.drop p).getD j.toNat 0 = if j < p then R.getD j.toNat 0 else if j = p then x else R.getD (j - 1).toNat 0 := by
        rw [List.getD_eq_getElem?_getD, ins_at hp']
        by_cases c : j < p
        · rw [if_pos (by omega), if_pos c, List.getD_eq_getElem?_getD]
        · rw [if_neg (by omega), if_neg c]
          by_cases c2 : j = p
          · rw [if_pos (by omega), if_pos c2]; rfl
          · rw [if_neg (by omega), if_neg c2, List.getD_eq_getElem?_getD, show (j - 1).toNat = j.toNat - 1 by omega]
      rw [ev, q3, zu_k (by decide), zu_k (by decide), q2, zu_at, zu_k (by decide), q1, zu_k (by decide), zu_at]
      by_cases c : j = p
      · subst c
        rw [if_pos rfl, if_pos rfl, if_neg (by omega), if_pos rfl]
        exact ⟨e1.symm, e2.symm⟩
      · by_cases c2 : j < p
        · simp only [if_neg c, if_pos c2]; exact h1 j ⟨hj.1, c2⟩
        · simp only [if_neg c2, if_neg c]; exact h2 j (by omega)
  have loop : ∀ (p : Nat) (M' : zM), p ≤ R.length → mFk M M' → M' 9 0 23 = R.length → (∀ j : Int, 0 ≤ j ∧ j < p → M' 37 0 j = rkt (R.getD j.toNat 0) ∧ M' 38 0 j = rkg (R.getD j.toNat 0)) →
      (∀ j : Int, p < j ∧ j ≤ (R.length : Int) → M' 37 0 j = rkt (R.getD (j - 1).toNat 0) ∧ M' 38 0 j = rkg (R.getD (j - 1).toNat 0)) →
      (∀ j : Nat, p ≤ j → j < R.length → x < R.getD j 0) → LX9_laysRanks_40 l P g t G (p : Int) M' := by
    intro p
    induction p with
    | zero =>
      intro M' hp' fr e4 h1 h2 h3
      refine vX9_laysRanks_40 ⟨by omega, fun _ => ⟨by omega, fun M1 q1 M2 q2 M3 q3 => ?_⟩, fun e => by omega⟩
      exact fin 0 M' M1 M2 M3 hp' fr e4 h1 h2 h3 (fun j hj => by omega) q1 q2 q3
    | succ p ih =>
      intro M' hp' fr e4 h1 h2 h3
      have hm : R.getD p 0 ∈ R := by
        have := at_mem (L := R) (j := (p : Int)) (by omega)
        rwa [show ((p : Int)).toNat = p by omega] at this
      have hv := h1 (((p + 1 : Nat) : Int) - 1) (by omega)
      rw [show (((p + 1 : Nat) : Int) - 1).toNat = p by omega] at hv
      have b1 := hR _ hm
      have b2 := hx _ hm
      refine vX9_laysRanks_40 ⟨by omega, fun e => by omega, fun _ => ⟨by omega, by rw [hv.2]; exact b1, zG, fun e => ⟨by omega, fun M1 q1 M2 q2 M3 q3 => ?_⟩, fun e => ⟨by omega, fun M1 q1 M2 q2 => ?_⟩⟩⟩
      · rw [hv.2] at e
        have hlt : R.getD p 0 < x := by unfold rkg at e e2; omega
        refine fin (p + 1) M' M1 M2 M3 hp' fr e4 h1 h2 h3 (fun j hj => ?_) q1 q2 q3
        by_cases c : j = p
        · subst c; exact hlt
        · have := at_lt h.1 (i := (j : Int)) (j := (p : Int)) (by omega)
          rw [show ((p : Int)).toNat = p by omega, show ((j : Int)).toNat = j by omega] at this
          omega
      · rw [hv.2] at e
        have hlt : x < R.getD p 0 := by unfold rkg at e e2; omega
        have s2 : M1 37 = M' 37 := by funext i; rw [q1, zu_k (by decide)]
        rw [s2, hv.1] at q2
        rw [hv.2] at q1
        have ep : (((p + 1 : Nat) : Int) - 1) = (p : Int) := by omega
        rw [ep]
        refine ih M2 (by omega) ⟨fun k i a1 a2 => by rw [q2, zu_k (by omega), q1, zu_k (by omega), fr.1 k i a1 a2], fun j hj => by rw [q2, zu_k (by decide), q1, zu_k (by decide), fr.2 j hj]⟩ (by rw [q2, zu_k (by decide), q1, zu_k (by decide)]; exact e4) (fun j hj => ?_) (fun j hj => ?_) (fun j hj1 hj2 => ?_)
        · rw [q2, zu_at, if_neg (by omega), zu_k (by decide), q1, zu_k (by decide), zu_at, if_neg (by omega)]
          exact h1 j (by omega)
        · rw [q2, zu_at, zu_k (by decide), q1, zu_k (by decide), zu_at]
          by_cases c : j = ((p + 1 : Nat) : Int)
          · rw [if_pos c, if_pos c, c, ep]
            exact ⟨rfl, rfl⟩
          · rw [if_neg c, if_neg c]
            exact h2 j (by omega)
        · by_cases c : j = p
          · subst c; exact hlt
          · exact h3 j (by omega) hj2
  exact loop R.length M (Nat.le_refl _) mFk.rf r.1 (fun j hj => r.2 j (by omega)) (fun j hj => by omega) (fun j h1 h2 => by omega)
theorem c_X9_laysRanks {g : Int} (h : MX M S) (hg : 0 ≤ g ∧ g < 4) : CV l m_X9_laysRanks [zr 9 0, zi g] M (fun M' => mQ M M' ∧ mRq M' (rkL S g (sGn S g)) ∧ isRow (rkL S g (sGn S g)) (rkP S g (sGn S g))) := by
  have ok := h.ok
  have hn := ok.1.1
  have loop : ∀ (n : Nat) (t : Nat) (M' : zM), (qn S - t).toNat = n → (t : Int) ≤ qn S → mQ M M' → (∃ R, mRq M' R ∧ isRow R (fun x => ∃ t', ((0 ≤ t' ∧ t' < (t : Int)) ∧ t' < qn S ∧ qgr S t' = g) ∧ x = rkK (sGn S g) t')) →
      LX9_laysRanks_7 l (fun M' => mQ M M' ∧ mRq M' (rkL S g (sGn S g)) ∧ isRow (rkL S g (sGn S g)) (rkP S g (sGn S g))) g (t : Int) M' := by
    intro n
    induction n with
    | zero =>
      intro t M' hn' ht f hR
      have hx := h.q f
      obtain ⟨R, r, hR⟩ := hR
      refine vX9_laysRanks_7 ⟨by omega, by rw [hx.n]; omega, fun _ => ?_, fun e => by rw [hx.n] at e; omega⟩
      have hr : isRow R (rkP S g (sGn S g)) := hR.to fun x => ⟨fun ⟨t', q, e⟩ => ⟨t', ⟨⟨q.1.1, q.2.1⟩, q.2.2⟩, e⟩, fun ⟨t', q, e⟩ => ⟨t', ⟨⟨q.1.1, by omega⟩, q.1.2, q.2⟩, e⟩⟩
      have e : rkL S g (sGn S g) = R := rowOf_is hr
      rw [e]
      exact ⟨f, r, hr⟩
    | succ n ih =>
      intro t M' hn' ht f hR
      have hx := h.q f
      obtain ⟨R, r, hR⟩ := hR
      have ht' : 0 ≤ (t : Int) ∧ (t : Int) < qn S := by omega
      have hgr := ok.2.1 t ht'
      have eg1 : M' 27 0 (9 * (t : Int) + 1) = qgr S t := by rw [← rS_gr (M := M') (t := (t : Int)) (by rw [hx.1.2]; exact ht'), hx.1.2]
      refine vX9_laysRanks_7 ⟨by omega, by rw [hx.n]; omega, fun e => by rw [hx.n] at e; omega, fun _ => ⟨by omega, ?_⟩⟩
      rw [eg1]
      refine ⟨by omega, by omega, fun e => ?_, fun e => ?_⟩
      · refine (c_X9_gainOf hx.1.1 (by rw [hx.1.2]; exact ht') (by rw [hx.2.1, hb_0])).mono ?_
        rintro x M1 ⟨rfl, f1, -, -⟩
        have hx1 := hx.q (mFs.q hx f1)
        have r1 := r.s f1
        rw [hx.Gn, e, r1.1]
        have hb := sGn_b ok g t
        have hk := rkK_d (G := sGn S g) (t := (t : Int)) (by omega)
        have hl := rk_len (n := t) hn.2 hR.1 (fun x hx => (hR.2 x).mp hx)
        refine r_place (x := rkK (sGn S g) t) hR r1 (fun y hy => ?_) (by omega) hk.1 hk.2 (by omega) (fun y hy => ?_) (fun M2 R' f2 hR' r' => ?_)
        · obtain ⟨t', q, rfl⟩ := (hR.2 y).mp hy
          have k1 : rkK (sGn S g) t' % 32 = t' := (rkK_d (by omega)).1
          have k2 : rkK (sGn S g) t % 32 = t := hk.1
          omega
        · obtain ⟨t', q, rfl⟩ := (hR.2 y).mp hy
          rw [(rkK_d (G := sGn S g) (t := t') (by omega)).2]
          have := sGn_b ok g t'
          omega
        · refine ih (t + 1) M2 (by omega) (by omega) ((f.tr (mFs.q hx f1)).tr (f2.q hx1)) ⟨R', r', hR'.to fun x => ⟨?_, ?_⟩⟩
          · rintro (⟨t', q, e2⟩ | e2)
            · exact ⟨t', ⟨⟨q.1.1, by omega⟩, q.2⟩, e2⟩
            · exact ⟨t, ⟨⟨by omega, by omega⟩, ht'.2, e⟩, e2⟩
          · rintro ⟨t', q, e2⟩
            by_cases c3 : t' = (t : Int)
            · subst c3; exact .inr e2
            · exact .inl ⟨t', ⟨⟨q.1.1, by omega⟩, q.2⟩, e2⟩
      · refine ih (t + 1) M' (by omega) (by omega) f ⟨R, r, hR.to fun x => ⟨?_, ?_⟩⟩
        · rintro ⟨t', q, e2⟩; exact ⟨t', ⟨⟨q.1.1, by omega⟩, q.2⟩, e2⟩
        · rintro ⟨t', q, e2⟩
          refine ⟨t', ⟨⟨q.1.1, ?_⟩, q.2⟩, e2⟩
          by_cases c3 : t' = (t : Int)
          · subst c3; exact absurd q.2.2 e
          · omega
  refine vX9_laysRanks ?_
  intro M1 q1
  refine loop _ 0 M1 rfl (by omega) (mFk.q h ⟨fun k i a1 _ => by rw [q1, zu_k a1], fun j hj => by rw [q1, zu_at, if_neg hj]⟩) ⟨[], ⟨by rw [q1, zu_at, if_pos rfl]; rfl, fun j hj => by simp at hj; omega⟩, List.Pairwise.nil, fun x => ⟨fun q => absurd q List.not_mem_nil, ?_⟩⟩
  rintro ⟨t', q, -⟩
  omega
noncomputable def aRanked (S : zS) (g k : Int) : Int := if ¬ (0 ≤ g ∧ g < 4) ∨ k < -1 then -1 else if k = -1 then (rkL S g (sGn S g)).length else if k < (rkL S g (sGn S g)).length then rkt ((rkL S g (sGn S g)).getD k.toNat 0) else -2
theorem aRanked_n {g k : Int} (h : ¬ (0 ≤ g ∧ g < 4) ∨ k < -1) : aRanked S g k = -1 := by rw [aRanked, if_pos h]
theorem vX8_ranked {l : Launch} {P : Int → zM → Prop} {v1 : Int} {v2 : Int} {M : zM}
    (H0 : (zI v1 ∧ ((¬ (0 ≤ v1 ∧ v1 < 4) → P (-1) M) ∧ (0 ≤ v1 ∧ v1 < 4 → (zI v2 ∧ ((-1) ≤ v2 → (CV l m_X8_rankGrade [zr 8 0, zi v1] M (fun M13 => ((v2 ≠ (-1) → (zI (M13 4 0 2) ∧ ((M13 4 0 2) ≤ v2 → P (-2) M13) ∧ (v2 < (M13 4 0 2) → ((zI v2 ∧ (0 ≤ M13 4 0 2 ∧ M13 4 0 2 ≤ 20)) ∧ P (if 0 ≤ (v2 : Int) ∧ v2 < M13 4 0 2 then M13 20 0 v2 else -1) M13)))) ∧ (v2 = (-1) → P (M13 4 0 2) M13))))) ∧ (v2 < (-1) → P (-1) M)))))) :
    CI l m_X8_ranked [zr 8 0, zi v1, zi v2] M P :=
(aw_iload_n d_X8_ranked_0 rfl rfl 1 rfl
(have z1 := H0.1; have e2 := H0.2; (aw_SI (As := [zi v1]) (st := []) d_X8_ranked_1 rfl cs8_99 ⟨Nat.le_of_ble_eq_true rfl, Nat.le_of_ble_eq_true rfl⟩ rfl rfl (Nat.le_of_ble_eq_true rfl) (Nat.le_of_ble_eq_true rfl) (s_X8_isGrade z1) (fun _ _ hq => aw_eqs hq
(aw_if_eq d_X8_ranked_4 rfl rfl zb_I (fun c3 => have e5 := e2.1 (zb_0 c3); (aw_iconst d_X8_ranked_12 rfl
(aw_ri d_X8_ranked_13 rfl e5))) (fun c4 => have e6 := e2.2 (zb_n0 c4); (aw_iload_n d_X8_ranked_7 rfl rfl 2 rfl
(aw_iconst d_X8_ranked_8 rfl
(have z7 := e6.1; have e8 := e6.2; aw_icmp_ge d_X8_ranked_9 rfl rfl z7 (by decide) (fun c9 => have e11 := e8.1 c9; (aw_aload_n d_X8_ranked_14 rfl rfl 0 rfl (by decide)
(aw_iload_n d_X8_ranked_15 rfl rfl 1 rfl
(aw_VV (As := [zi v1]) (st := []) d_X8_ranked_16 rfl cv8_363 ⟨Nat.le_of_ble_eq_true rfl, Nat.le_of_ble_eq_true rfl⟩ rfl rfl (Nat.le_of_ble_eq_true rfl) (Nat.le_of_ble_eq_true rfl) e11 (fun M13 e14 => (aw_iload_n d_X8_ranked_19 rfl rfl 2 rfl
(aw_iconst d_X8_ranked_20 rfl
(aw_icmp_ne d_X8_ranked_21 rfl rfl z7 (by decide) (fun c16 => have e18 := e14.1 c16; (aw_iload_n d_X8_ranked_32 rfl rfl 2 rfl
(aw_aload_n d_X8_ranked_33 rfl rfl 0 rfl (by decide)
(aw_getR (k' := 4) (a := 0) (b := 0) (j := 0) d_X8_ranked_34 rfl fl8_57 rfl zj0 ⟨by decide, fun _ => by decide⟩
(aw_getI (kc := 2) d_X8_ranked_37 rfl fl8_366 rfl rfl
(have z20 := e18.1; have e21 := e18.2; aw_icmp_ge d_X8_ranked_40 rfl rfl z7 z20 (fun c22 => have e24 := e21.1 c22; (aw_bipush d_X8_ranked_54 rfl (by decide)
(aw_ri d_X8_ranked_56 rfl e24))) (fun c23 => have e25 := e21.2 c23; (aw_aload_n d_X8_ranked_43 rfl rfl 0 rfl (by decide)
(aw_getR (k' := 4) (a := 0) (b := 0) (j := 0) d_X8_ranked_44 rfl fl8_57 rfl zj0 ⟨by decide, fun _ => by decide⟩
(aw_iload_n d_X8_ranked_47 rfl rfl 2 rfl
(have z26 := e25.1; have e27 := e25.2; (aw_VI (As := [zi v2]) (st := []) d_X8_ranked_48 rfl cv8_367 ⟨Nat.le_of_ble_eq_true rfl, Nat.le_of_ble_eq_true rfl⟩ rfl rfl (Nat.le_of_ble_eq_true rfl) (Nat.le_of_ble_eq_true rfl) (s_X4_traderAt z26) (fun _ _ hq => aw_eqs hq
(aw_goto d_X8_ranked_51 rfl
(aw_ri d_X8_ranked_56 rfl e27))))))))))))))) (fun c17 => have e19 := e14.2 c17; (aw_aload_n d_X8_ranked_24 rfl rfl 0 rfl (by decide)
(aw_getR (k' := 4) (a := 0) (b := 0) (j := 0) d_X8_ranked_25 rfl fl8_57 rfl zj0 ⟨by decide, fun _ => by decide⟩
(aw_getI (kc := 2) d_X8_ranked_28 rfl fl8_366 rfl rfl
(aw_ri d_X8_ranked_31 rfl e19))))))))))))) (fun c10 => have e12 := e8.2 c10; (aw_iconst d_X8_ranked_12 rfl
(aw_ri d_X8_ranked_13 rfl e12))))))))))))
theorem vX9_ranked {l : Launch} {P : Int → zM → Prop} {v1 : Int} {v2 : Int} {M : zM}
    (H0 : (zI v1 ∧ ((¬ (0 ≤ v1 ∧ v1 < 4) → P (-1) M) ∧ (0 ≤ v1 ∧ v1 < 4 → (zI v2 ∧ ((-1) ≤ v2 → (CV l m_X9_laysRanks [zr 9 0, zi v1] M (fun M13 => ((v2 ≠ (-1) → (zI (M13 9 0 23) ∧ ((M13 9 0 23) ≤ v2 → P (-2) M13) ∧ (v2 < (M13 9 0 23) → ((0 ≤ v2 ∧ v2 < 20) ∧ P (M13 37 0 v2) M13)))) ∧ (v2 = (-1) → P (M13 9 0 23) M13))))) ∧ (v2 < (-1) → P (-1) M)))))) :
    CI l m_X9_ranked [zr 9 0, zi v1, zi v2] M P :=
(aw_iload_n d_X9_ranked_0 rfl rfl 1 rfl
(have z1 := H0.1; have e2 := H0.2; (aw_SI (As := [zi v1]) (st := []) d_X9_ranked_1 rfl cs9_195 ⟨Nat.le_of_ble_eq_true rfl, Nat.le_of_ble_eq_true rfl⟩ rfl rfl (Nat.le_of_ble_eq_true rfl) (Nat.le_of_ble_eq_true rfl) (s_X9_isGrade z1) (fun _ _ hq => aw_eqs hq
(aw_if_eq d_X9_ranked_4 rfl rfl zb_I (fun c3 => have e5 := e2.1 (zb_0 c3); (aw_iconst d_X9_ranked_12 rfl
(aw_ri d_X9_ranked_13 rfl e5))) (fun c4 => have e6 := e2.2 (zb_n0 c4); (aw_iload_n d_X9_ranked_7 rfl rfl 2 rfl
(aw_iconst d_X9_ranked_8 rfl
(have z7 := e6.1; have e8 := e6.2; aw_icmp_ge d_X9_ranked_9 rfl rfl z7 (by decide) (fun c9 => have e11 := e8.1 c9; (aw_aload_n d_X9_ranked_14 rfl rfl 0 rfl (by decide)
(aw_iload_n d_X9_ranked_15 rfl rfl 1 rfl
(aw_VV (As := [zi v1]) (st := []) d_X9_ranked_16 rfl cv9_226 ⟨Nat.le_of_ble_eq_true rfl, Nat.le_of_ble_eq_true rfl⟩ rfl rfl (Nat.le_of_ble_eq_true rfl) (Nat.le_of_ble_eq_true rfl) e11 (fun M13 e14 => (aw_iload_n d_X9_ranked_19 rfl rfl 2 rfl
(aw_iconst d_X9_ranked_20 rfl
(aw_icmp_ne d_X9_ranked_21 rfl rfl z7 (by decide) (fun c16 => have e18 := e14.1 c16; (aw_iload_n d_X9_ranked_31 rfl rfl 2 rfl
(aw_aload_n d_X9_ranked_32 rfl rfl 0 rfl (by decide)
(aw_getI (kc := 23) d_X9_ranked_33 rfl fl9_223 rfl rfl
(have z20 := e18.1; have e21 := e18.2; aw_icmp_ge d_X9_ranked_36 rfl rfl z7 z20 (fun c22 => have e24 := e21.1 c22; (aw_bipush d_X9_ranked_48 rfl (by decide)
(aw_ri d_X9_ranked_50 rfl e24))) (fun c23 => have e25 := e21.2 c23; (aw_aload_n d_X9_ranked_39 rfl rfl 0 rfl (by decide)
(aw_getR (k' := 37) (a := 0) (b := 0) (j := 0) d_X9_ranked_40 rfl fl9_41 rfl zj0 ⟨by decide, fun _ => by decide⟩
(aw_iload_n d_X9_ranked_43 rfl rfl 2 rfl
(have z26 := e25.1; have e27 := e25.2; (aw_iald d_X9_ranked_44 rfl za37 z26
(aw_goto d_X9_ranked_45 rfl
(aw_ri d_X9_ranked_50 rfl e27))))))))))))) (fun c17 => have e19 := e14.2 c17; (aw_aload_n d_X9_ranked_24 rfl rfl 0 rfl (by decide)
(aw_getI (kc := 23) d_X9_ranked_25 rfl fl9_223 rfl rfl
(aw_goto d_X9_ranked_28 rfl
(aw_ri d_X9_ranked_50 rfl e19))))))))))))) (fun c10 => have e12 := e8.2 c10; (aw_iconst d_X9_ranked_12 rfl
(aw_ri d_X9_ranked_13 rfl e12))))))))))))
theorem vX8_skim {l : Launch} {P : Int → zM → Prop} {v1 : Int} {v2 : Int} {v3 : Int} {M : zM}
    (H0 : (zI v1 ∧ ((¬ (0 ≤ v1 ∧ v1 < 4) → P (-1) M) ∧ (0 ≤ v1 ∧ v1 < 4 → (zI v2 ∧ (v2 < 0 → P (-1) M) ∧ (0 ≤ v2 → ((20 < v2 → P (-1) M) ∧ (v2 ≤ 20 → (zI v3 ∧ ((v3 = 0 ∨ v3 = 1 → (CV l m_X8_rankGrade [zr 8 0, zi v1] M (fun M23 => (CI l m_X4_firstAsBits [zr 4 0, zi v2] M23 (fun x29 M26 => (CI l m_X8_worthOf [zr 8 0, zi (zshl 1 v1), zi x29] M26 (fun x33 M30 => (zI v3 ∧ (v3 ≠ 0 → P x33 M30) ∧ (v3 = 0 → P (M30 0 0 6) M30))))))))) ∧ (¬ (v3 = 0 ∨ v3 = 1) → P (-1) M))))))))))) :
    CI l m_X8_skim [zr 8 0, zi v1, zi v2, zi v3] M P :=
(aw_iload_n d_X8_skim_0 rfl rfl 1 rfl
(have z1 := H0.1; have e2 := H0.2; (aw_SI (As := [zi v1]) (st := []) d_X8_skim_1 rfl cs8_99 ⟨Nat.le_of_ble_eq_true rfl, Nat.le_of_ble_eq_true rfl⟩ rfl rfl (Nat.le_of_ble_eq_true rfl) (Nat.le_of_ble_eq_true rfl) (s_X8_isGrade z1) (fun _ _ hq => aw_eqs hq
(aw_if_eq d_X8_skim_4 rfl rfl zb_I (fun c3 => have e5 := e2.1 (zb_0 c3); (aw_iconst d_X8_skim_24 rfl
(aw_ri d_X8_skim_25 rfl e5))) (fun c4 => have e6 := e2.2 (zb_n0 c4); (aw_iload_n d_X8_skim_7 rfl rfl 2 rfl
(have z7 := e6.1; have e8 := e6.2; aw_if_lt d_X8_skim_8 rfl rfl z7 (fun c9 => have e11 := e8.1 c9; (aw_iconst d_X8_skim_24 rfl
(aw_ri d_X8_skim_25 rfl e11))) (fun c10 => have e12 := e8.2 c10; (aw_iload_n d_X8_skim_11 rfl rfl 2 rfl
(aw_bipush d_X8_skim_12 rfl (by decide)
(aw_icmp_gt d_X8_skim_14 rfl rfl z7 (by decide) (fun c13 => have e15 := e12.1 c13; (aw_iconst d_X8_skim_24 rfl
(aw_ri d_X8_skim_25 rfl e15))) (fun c14 => have e16 := e12.2 c14; (aw_iload_n d_X8_skim_17 rfl rfl 3 rfl
(have z17 := e16.1; have e18 := e16.2; (aw_SI (As := [zi v3]) (st := []) d_X8_skim_18 rfl cs8_248 ⟨Nat.le_of_ble_eq_true rfl, Nat.le_of_ble_eq_true rfl⟩ rfl rfl (Nat.le_of_ble_eq_true rfl) (Nat.le_of_ble_eq_true rfl) (s_X8_isZeroOrOne z17) (fun _ _ hq => aw_eqs hq
(aw_if_ne d_X8_skim_21 rfl rfl zb_I (fun c19 => have e21 := e18.1 (zb_n0 c19); (aw_aload_n d_X8_skim_26 rfl rfl 0 rfl (by decide)
(aw_iload_n d_X8_skim_27 rfl rfl 1 rfl
(aw_VV (As := [zi v1]) (st := []) d_X8_skim_28 rfl cv8_363 ⟨Nat.le_of_ble_eq_true rfl, Nat.le_of_ble_eq_true rfl⟩ rfl rfl (Nat.le_of_ble_eq_true rfl) (Nat.le_of_ble_eq_true rfl) e21 (fun M23 e24 => (aw_aload_n d_X8_skim_31 rfl rfl 0 rfl (by decide)
(aw_iload_n d_X8_skim_32 rfl rfl 1 rfl
(aw_SI (As := [zi v1]) (st := [zr 8 0]) d_X8_skim_33 rfl cs8_255 ⟨Nat.le_of_ble_eq_true rfl, Nat.le_of_ble_eq_true rfl⟩ rfl rfl (Nat.le_of_ble_eq_true rfl) (Nat.le_of_ble_eq_true rfl) (s_X8_bit) (fun _ _ hq => aw_eqs hq
(aw_aload_n d_X8_skim_36 rfl rfl 0 rfl (by decide)
(aw_getR (k' := 4) (a := 0) (b := 0) (j := 0) d_X8_skim_37 rfl fl8_57 rfl zj0 ⟨by decide, fun _ => by decide⟩
(aw_iload_n d_X8_skim_40 rfl rfl 2 rfl
(aw_VI (As := [zi v2]) (st := [zi (zshl 1 v1), zr 8 0]) d_X8_skim_41 rfl cv8_390 ⟨Nat.le_of_ble_eq_true rfl, Nat.le_of_ble_eq_true rfl⟩ rfl rfl (Nat.le_of_ble_eq_true rfl) (Nat.le_of_ble_eq_true rfl) e24 (fun x29 M26 e27 => (aw_VI (As := [zi (zshl 1 v1), zi x29]) (st := []) d_X8_skim_44 rfl cv8_348 ⟨Nat.le_of_ble_eq_true rfl, Nat.le_of_ble_eq_true rfl⟩ rfl rfl (Nat.le_of_ble_eq_true rfl) (Nat.le_of_ble_eq_true rfl) e27 (fun x33 M30 e31 => (aw_istore (lv' := [(4, zi x33), (0, zr 8 0), (1, zi v1), (2, zi v2), (3, zi v3)]) d_X8_skim_47 rfl (by decide) rfl
(aw_iload_n d_X8_skim_49 rfl rfl 4 rfl
(have z34 := e31.1; have e35 := e31.2; aw_if_ne d_X8_skim_50 rfl rfl z34 (fun c36 => have e38 := e35.1 c36; (aw_iload d_X8_skim_63 rfl 0 rfl
(aw_ri d_X8_skim_65 rfl e38))) (fun c37 => have e39 := e35.2 c37; (aw_aload_n d_X8_skim_53 rfl rfl 1 rfl (by decide)
(aw_getR (k' := 0) (a := 0) (b := 0) (j := 0) d_X8_skim_54 rfl fl8_47 rfl zj0 ⟨by decide, fun _ => by decide⟩
(aw_getI (kc := 6) d_X8_skim_57 rfl fl8_223 rfl rfl
(aw_goto d_X8_skim_60 rfl
(aw_ri d_X8_skim_65 rfl e39))))))))))))))))))))))))) (fun c20 => have e22 := e18.2 (zb_0 c20); (aw_iconst d_X8_skim_24 rfl
(aw_ri d_X8_skim_25 rfl e22)))))))))))))))))))))
def LX9_skim_39 (l : Launch) (P : Int → zM → Prop) (v1 : Int) (v2 : Int) (v3 : Int) (v4 : Int) (M : zM) : Prop := AW l m_X9_skim (zTi m_X9_skim P) 39 [(0, zr 9 0), (1, zi v1), (2, zi v2), (3, zi v3), (4, zi v4)] [] M
theorem vX9_skim_39 {l : Launch} {P : Int → zM → Prop} {v1 : Int} {v2 : Int} {v3 : Int} {v4 : Int} {M : zM}
    (H0 : (zI v4 ∧ zI v2 ∧ (v2 ≤ v4 → (CV l m_X9_laysOf [zr 9 0, zi (zshl 1 v1)] M (fun M33 => (∀ M36 : zM, M36 = zu M33 9 0 5 0 → (zI v3 ∧ (v3 ≠ 0 → P (M36 9 0 17) M36) ∧ (v3 = 0 → P (M36 9 0 16) M36)))))) ∧ (v4 < v2 → (zI (M 9 0 23) ∧ ((M 9 0 23) ≤ v4 → (CV l m_X9_laysOf [zr 9 0, zi (zshl 1 v1)] M (fun M50 => (∀ M53 : zM, M53 = zu M50 9 0 5 0 → (zI v3 ∧ (v3 ≠ 0 → P (M53 9 0 17) M53) ∧ (v3 = 0 → P (M53 9 0 16) M53)))))) ∧ (v4 < (M 9 0 23) → ((0 ≤ v4 ∧ v4 < 20) ∧ (∀ M63 : zM, M63 = zu M 9 0 5 (zor (M 9 0 5) (zshl 1 (M 37 0 v4))) → LX9_skim_39 l P v1 v2 v3 (v4 + 1) M63))))))) :
    LX9_skim_39 l P v1 v2 v3 v4 M :=
(aw_iload d_X9_skim_39 rfl 4 rfl
(aw_iload_n d_X9_skim_41 rfl rfl 2 rfl
(have z26 := H0.1; have z27 := H0.2.1; have e28 := H0.2.2; aw_icmp_ge d_X9_skim_42 rfl rfl z26 z27 (fun c29 => have e31 := e28.1 c29; (aw_aload_n d_X9_skim_78 rfl rfl 0 rfl (by decide)
(aw_iconst d_X9_skim_79 rfl
(aw_iload_n d_X9_skim_80 rfl rfl 1 rfl
(aw_ishl d_X9_skim_81 rfl zshl_h
(aw_VV (As := [zi (zshl 1 v1)]) (st := []) d_X9_skim_82 rfl cv9_139 ⟨Nat.le_of_ble_eq_true rfl, Nat.le_of_ble_eq_true rfl⟩ rfl rfl (Nat.le_of_ble_eq_true rfl) (Nat.le_of_ble_eq_true rfl) e31 (fun M33 e34 => (aw_aload_n d_X9_skim_85 rfl rfl 0 rfl (by decide)
(aw_iconst d_X9_skim_86 rfl
(have e37 := e34 _ rfl; aw_put (kc := 5) d_X9_skim_87 rfl fp9_107 rfl rfl rfl rfl
(aw_iload_n d_X9_skim_90 rfl rfl 3 rfl
(have z38 := e37.1; have e39 := e37.2; aw_if_ne d_X9_skim_91 rfl rfl z38 (fun c40 => have e42 := e39.1 c40; (aw_aload_n d_X9_skim_101 rfl rfl 0 rfl (by decide)
(aw_getI (kc := 17) d_X9_skim_102 rfl fl9_136 rfl rfl
(aw_ri d_X9_skim_105 rfl e42)))) (fun c41 => have e43 := e39.2 c41; (aw_aload_n d_X9_skim_94 rfl rfl 0 rfl (by decide)
(aw_getI (kc := 16) d_X9_skim_95 rfl fl9_133 rfl rfl
(aw_goto d_X9_skim_98 rfl
(aw_ri d_X9_skim_105 rfl e43))))))))))))))))) (fun c30 => have e32 := e28.2 c30; (aw_iload d_X9_skim_45 rfl 4 rfl
(aw_aload_n d_X9_skim_47 rfl rfl 0 rfl (by decide)
(aw_getI (kc := 23) d_X9_skim_48 rfl fl9_223 rfl rfl
(have z44 := e32.1; have e45 := e32.2; aw_icmp_ge d_X9_skim_51 rfl rfl z26 z44 (fun c46 => have e48 := e45.1 c46; (aw_aload_n d_X9_skim_78 rfl rfl 0 rfl (by decide)
(aw_iconst d_X9_skim_79 rfl
(aw_iload_n d_X9_skim_80 rfl rfl 1 rfl
(aw_ishl d_X9_skim_81 rfl zshl_h
(aw_VV (As := [zi (zshl 1 v1)]) (st := []) d_X9_skim_82 rfl cv9_139 ⟨Nat.le_of_ble_eq_true rfl, Nat.le_of_ble_eq_true rfl⟩ rfl rfl (Nat.le_of_ble_eq_true rfl) (Nat.le_of_ble_eq_true rfl) e48 (fun M50 e51 => (aw_aload_n d_X9_skim_85 rfl rfl 0 rfl (by decide)
(aw_iconst d_X9_skim_86 rfl
(have e54 := e51 _ rfl; aw_put (kc := 5) d_X9_skim_87 rfl fp9_107 rfl rfl rfl rfl
(aw_iload_n d_X9_skim_90 rfl rfl 3 rfl
(have z55 := e54.1; have e56 := e54.2; aw_if_ne d_X9_skim_91 rfl rfl z55 (fun c57 => have e59 := e56.1 c57; (aw_aload_n d_X9_skim_101 rfl rfl 0 rfl (by decide)
(aw_getI (kc := 17) d_X9_skim_102 rfl fl9_136 rfl rfl
(aw_ri d_X9_skim_105 rfl e59)))) (fun c58 => have e60 := e56.2 c58; (aw_aload_n d_X9_skim_94 rfl rfl 0 rfl (by decide)
(aw_getI (kc := 16) d_X9_skim_95 rfl fl9_133 rfl rfl
(aw_goto d_X9_skim_98 rfl
(aw_ri d_X9_skim_105 rfl e60))))))))))))))))) (fun c47 => have e49 := e45.2 c47; (aw_aload_n d_X9_skim_54 rfl rfl 0 rfl (by decide)
(aw_dup d_X9_skim_55 rfl rfl
(aw_getI (kc := 5) d_X9_skim_56 rfl fl9_107 rfl rfl
(aw_iconst d_X9_skim_59 rfl
(aw_aload_n d_X9_skim_60 rfl rfl 0 rfl (by decide)
(aw_getR (k' := 37) (a := 0) (b := 0) (j := 0) d_X9_skim_61 rfl fl9_41 rfl zj0 ⟨by decide, fun _ => by decide⟩
(aw_iload d_X9_skim_64 rfl 4 rfl
(have z61 := e49.1; have e62 := e49.2; (aw_iald d_X9_skim_66 rfl za37 z61
(aw_ishl d_X9_skim_67 rfl zshl_h
(aw_ior d_X9_skim_68 rfl zor_h
(have e64 := e62 _ rfl; aw_put (kc := 5) d_X9_skim_69 rfl fp9_107 rfl rfl rfl rfl
(aw_iinc (lv' := [(4, zi (v4 + 1)), (0, zr 9 0), (1, zi v1), (2, zi v2), (3, zi v3)]) (y := (v4 + 1)) d_X9_skim_72 rfl 4 rfl (by decide) rfl rfl
(aw_goto d_X9_skim_75 rfl
(aw_sub [1, 2, 3, 4, 0] rfl e64))))))))))))))))))))))))
theorem vX9_skim {l : Launch} {P : Int → zM → Prop} {v1 : Int} {v2 : Int} {v3 : Int} {M : zM}
    (H0 : (zI v1 ∧ ((¬ (0 ≤ v1 ∧ v1 < 4) → P (-1) M) ∧ (0 ≤ v1 ∧ v1 < 4 → (zI v2 ∧ ((zJ v2 ∧ zJ 0 ∧ zJ 20) ∧ ((¬ (0 ≤ v2 ∧ v2 ≤ 20) → P (-1) M) ∧ (0 ≤ v2 ∧ v2 ≤ 20 → (zI v3 ∧ ((zJ v3 ∧ zJ 0 ∧ zJ 1) ∧ ((0 ≤ v3 ∧ v3 ≤ 1 → (CV l m_X9_laysRanks [zr 9 0, zi v1] M (fun M23 => LX9_skim_39 l P v1 v2 v3 0 M23))) ∧ (¬ (0 ≤ v3 ∧ v3 ≤ 1) → P (-1) M)))))))))))) :
    CI l m_X9_skim [zr 9 0, zi v1, zi v2, zi v3] M P :=
(aw_iload_n d_X9_skim_0 rfl rfl 1 rfl
(have z1 := H0.1; have e2 := H0.2; (aw_SI (As := [zi v1]) (st := []) d_X9_skim_1 rfl cs9_195 ⟨Nat.le_of_ble_eq_true rfl, Nat.le_of_ble_eq_true rfl⟩ rfl rfl (Nat.le_of_ble_eq_true rfl) (Nat.le_of_ble_eq_true rfl) (s_X9_isGrade z1) (fun _ _ hq => aw_eqs hq
(aw_if_eq d_X9_skim_4 rfl rfl zb_I (fun c3 => have e5 := e2.1 (zb_0 c3); (aw_iconst d_X9_skim_29 rfl
(aw_ri d_X9_skim_30 rfl e5))) (fun c4 => have e6 := e2.2 (zb_n0 c4); (aw_iload_n d_X9_skim_7 rfl rfl 2 rfl
(have z7 := e6.1; have e8 := e6.2; (aw_i2l d_X9_skim_8 rfl z7
(aw_lconst (x := 0) d_X9_skim_9 rfl (by decide)
(aw_ldc2 d_X9_skim_10 rfl cl9_229
(have z9 := e8.1; have e10 := e8.2; (aw_SI (As := [zl v2, zl 0, zl 20]) (st := []) d_X9_skim_13 rfl cs9_82 ⟨Nat.le_of_ble_eq_true rfl, Nat.le_of_ble_eq_true rfl⟩ rfl rfl (Nat.le_of_ble_eq_true rfl) (Nat.le_of_ble_eq_true rfl) (s_X9_in z9) (fun _ _ hq => aw_eqs hq
(aw_if_eq d_X9_skim_16 rfl rfl zb_I (fun c11 => have e13 := e10.1 (zb_0 c11); (aw_iconst d_X9_skim_29 rfl
(aw_ri d_X9_skim_30 rfl e13))) (fun c12 => have e14 := e10.2 (zb_n0 c12); (aw_iload_n d_X9_skim_19 rfl rfl 3 rfl
(have z15 := e14.1; have e16 := e14.2; (aw_i2l d_X9_skim_20 rfl z15
(aw_lconst (x := 0) d_X9_skim_21 rfl (by decide)
(aw_lconst (x := 1) d_X9_skim_22 rfl (by decide)
(have z17 := e16.1; have e18 := e16.2; (aw_SI (As := [zl v3, zl 0, zl 1]) (st := []) d_X9_skim_23 rfl cs9_82 ⟨Nat.le_of_ble_eq_true rfl, Nat.le_of_ble_eq_true rfl⟩ rfl rfl (Nat.le_of_ble_eq_true rfl) (Nat.le_of_ble_eq_true rfl) (s_X9_in z17) (fun _ _ hq => aw_eqs hq
(aw_if_ne d_X9_skim_26 rfl rfl zb_I (fun c19 => have e21 := e18.1 (zb_n0 c19); (aw_aload_n d_X9_skim_31 rfl rfl 0 rfl (by decide)
(aw_iload_n d_X9_skim_32 rfl rfl 1 rfl
(aw_VV (As := [zi v1]) (st := []) d_X9_skim_33 rfl cv9_226 ⟨Nat.le_of_ble_eq_true rfl, Nat.le_of_ble_eq_true rfl⟩ rfl rfl (Nat.le_of_ble_eq_true rfl) (Nat.le_of_ble_eq_true rfl) e21 (fun M23 e24 => (aw_iconst d_X9_skim_36 rfl
(aw_istore (lv' := [(4, zi 0), (0, zr 9 0), (1, zi v1), (2, zi v2), (3, zi v3)]) d_X9_skim_37 rfl (by decide) rfl
(aw_sub [1, 2, 3, 4, 0] rfl e24)))))))) (fun c20 => have e22 := e18.2 (zb_0 c20); (aw_iconst d_X9_skim_29 rfl
(aw_ri d_X9_skim_30 rfl e22))))))))))))))))))))))))))))
theorem q8_ranked {g k : Int} (c : CX M S) (zg : zI g) (zk : zI k) : CI l m_X8_ranked [zr 8 0, zi g, zi k] M (fun x M' => x = aRanked S g k ∧ Fr kScr M M') := by
  refine vX8_ranked ⟨zg, fun a => ⟨(aRanked_n (.inl a)).symm, Fr.rf⟩, fun a => ⟨zk, fun b => ?_, fun b => ⟨(aRanked_n (.inr b)).symm, Fr.rf⟩⟩⟩
  refine (c_X8_rankGrade c a).mono ?_
  rintro M1 ⟨F, -, r, hr⟩
  have hl := rk_l20 c.2.1.1 hr
  rw [r.1]
  refine ⟨fun e => ⟨by omega, fun q => ⟨?_, F⟩, fun q => ⟨⟨zk, by omega⟩, ?_, F⟩⟩, fun e => ⟨?_, F⟩⟩
  · rw [aRanked, if_neg (by omega), if_neg e, if_neg (by omega)]
  · rw [if_pos (by omega), (r.2 k (by omega)).1, aRanked, if_neg (by omega), if_neg e, if_pos q]
  · rw [aRanked, if_neg (by omega), if_pos e]
theorem q9_ranked {g k : Int} (h : MX M S) (zg : zI g) (zk : zI k) : CI l m_X9_ranked [zr 9 0, zi g, zi k] M (fun x M' => x = aRanked S g k ∧ mQ M M') := by
  refine vX9_ranked ⟨zg, fun a => ⟨(aRanked_n (.inl a)).symm, mQ.rf h⟩, fun a => ⟨zk, fun b => ?_, fun b => ⟨(aRanked_n (.inr b)).symm, mQ.rf h⟩⟩⟩
  refine (c_X9_laysRanks h a).mono ?_
  rintro M1 ⟨F, r, hr⟩
  have hl := rk_l20 h.ok.1.1 hr
  rw [r.1]
  refine ⟨fun e => ⟨by omega, fun q => ⟨?_, F⟩, fun q => ⟨by omega, ?_, F⟩⟩, fun e => ⟨?_, F⟩⟩
  · rw [aRanked, if_neg (by omega), if_neg e, if_neg (by omega)]
  · rw [aRanked, if_neg (by omega), if_neg e, if_pos q, (r.2 k (by omega)).1]
  · rw [aRanked, if_neg (by omega), if_pos e]
noncomputable def skB (S : zS) (g n : Int) : Int := rkBits (rkL S g (sGn S g)) n.toNat
noncomputable def aSkim (S : zS) (g n k : Int) : Int := if ¬ (0 ≤ g ∧ g < 4) ∨ n < 0 ∨ 20 < n ∨ ¬ (k = 0 ∨ k = 1) then -1 else if k = 0 then tT (qfee S) (mB S (fun t => qgr S t = g ∧ hb (skB S g n) t = false) (qsy S)) (mA S (fun t => qgr S t = g ∧ hb (skB S g n) t = false) (qsy S)) else tW (qfee S) (mB S (fun t => qgr S t = g ∧ hb (skB S g n) t = false) (qsy S)) (mA S (fun t => qgr S t = g ∧ hb (skB S g n) t = false) (qsy S))
theorem aSkim_n {g n k : Int} (h : ¬ (0 ≤ g ∧ g < 4) ∨ n < 0 ∨ 20 < n ∨ ¬ (k = 0 ∨ k = 1)) : aSkim S g n k = -1 := by rw [aSkim, if_pos h]
theorem aSkim_i {g n k : Int} (h : 0 ≤ g ∧ g < 4) (hn : 0 ≤ n ∧ n ≤ 20) (hk : k = 0 ∨ k = 1) : aSkim S g n k = if k = 0 then tT (qfee S) (mB S (fun t => qgr S t = g ∧ hb (skB S g n) t = false) (qsy S)) (mA S (fun t => qgr S t = g ∧ hb (skB S g n) t = false) (qsy S)) else tW (qfee S) (mB S (fun t => qgr S t = g ∧ hb (skB S g n) t = false) (qsy S)) (mA S (fun t => qgr S t = g ∧ hb (skB S g n) t = false) (qsy S)) := by rw [aSkim, if_neg (by omega)]
theorem q8_skim {g n k : Int} (c : CX M S) (zg : zI g) (zn : zI n) (zk : zI k) : CI l m_X8_skim [zr 8 0, zi g, zi n, zi k] M (fun x M' => x = aSkim S g n k ∧ Fr kScr M M') := by
  refine vX8_skim ⟨zg, fun a => ⟨(aSkim_n (.inl a)).symm, Fr.rf⟩, fun a => ⟨zn, fun b => ⟨(aSkim_n (by omega)).symm, Fr.rf⟩, fun b => ⟨fun b2 => ⟨(aSkim_n (by omega)).symm, Fr.rf⟩, fun b2 => ⟨zk, fun d => ?_, fun d => ⟨(aSkim_n (by omega)).symm, Fr.rf⟩⟩⟩⟩⟩
  rw [aSkim_i a ⟨b, b2⟩ d]
  refine (c_X8_rankGrade c a).mono ?_
  rintro M1 ⟨F, -, r, hr⟩
  have c1 := c.scr F
  refine (c_X4_firstAsBits c.2 r hr ⟨b, b2⟩).eq ?_
  refine c_settleE c1 (grE c.2 a) fun M2 f2 s2 => ?_
  have F2 := F.tr f2.scr
  rw [s2.2.1.2.2.1]
  exact ⟨zk, fun e => ⟨by rw [if_neg e]; rfl, F2⟩, fun e => ⟨by rw [if_pos e]; rfl, F2⟩⟩
theorem q9_skim {g n k : Int} (h : MX M S) (zg : zI g) (zn : zI n) (zk : zI k) : CI l m_X9_skim [zr 9 0, zi g, zi n, zi k] M (fun x M' => x = aSkim S g n k ∧ mQ M M') := by
  have ok := h.ok
  refine vX9_skim ⟨zg, fun a => ⟨(aSkim_n (.inl a)).symm, mQ.rf h⟩, fun a => ⟨zn, by omega, fun b => ⟨(aSkim_n (by omega)).symm, mQ.rf h⟩, fun b => ⟨zk, by omega, fun d => ?_, fun d => ⟨(aSkim_n (by omega)).symm, mQ.rf h⟩⟩⟩⟩
  have d' : k = 0 ∨ k = 1 := by omega
  have ai := aSkim_i (S := S) a b d'
  refine (c_X9_laysRanks h a).mono ?_
  rintro M1 ⟨F, r, hr⟩
  have hx := h.q F
  have hl := rk_l20 ok.1.1 hr
  have fin : ∀ M' : zM, (∀ k i, k ≠ 9 → M' k i = M1 k i) → (∀ j, j ≠ 5 → M' 9 0 j = M1 9 0 j) → M' 9 0 5 = skB S g n → CV l m_X9_laysOf [zr 9 0, zi (zshl 1 g)] M' (fun M33 => (∀ M36 : zM, M36 = zu M33 9 0 5 0 → (zI k ∧ (k ≠ 0 → ((M36 9 0 17) = aSkim S g n k ∧ mQ M M36)) ∧ (k = 0 → ((M36 9 0 16) = aSkim S g n k ∧ mQ M M36))))) := by
    intro M' g1 g2 g3
    have e27 : M' 27 0 = M1 27 0 := g1 27 0 (by decide)
    have eS : rS M' = S := (rS_congr e27).trans hx.1.2
    have e6 : M' 9 0 6 = 0 := by rw [g2 6 (by decide), hx.2.2]
    have rc : RC M' := by
      have rc := hx.1.1
      unfold RC at rc ⊢
      rw [eS, g2 7 (by decide)]
      rw [hx.1.2] at rc
      exact ⟨mW_27 e27 rc.1, rc.2⟩
    have em := m_congrE (S := S) (E := rG M' g) (E' := fun t => qgr S t = g ∧ hb (skB S g n) t = false) (v := rV M') (v' := qsy S) (fun t' ht' => by
      unfold rG
      rw [eS, g3]) (fun t' u q _ => by
      unfold rV
      rw [eS, e6, hb_0]
      simp)
    refine (lays_g rc a).mono ?_
    rintro M2 ⟨f2, h2⟩
    unfold rB rA at h2
    rw [eS, em.1, em.2] at h2
    intro M3 q3
    have F3 : mQ M M3 := by
      refine ⟨fun k i h1 h2 => by rw [q3, zu_k h1, f2.1 k i h1 (by omega), g1 k i h1, F.1 k i h1 h2], fun j hj => ?_, ?_⟩
      · rw [q3, zu_at]
        by_cases c : j = 5
        · rw [if_pos c, c, h.2.1]
        · rw [if_neg c, f2.s.F j (by omega), g2 j c, F.2.1 j hj]
      · rw [q3, zu_at, if_neg (by decide), f2.s.F 7 (by omega), g2 7 (by decide)]
        exact F.2.2
    rw [ai]
    refine ⟨zk, fun e => ⟨?_, F3⟩, fun e => ⟨?_, F3⟩⟩
    · rw [if_neg e, q3, zu_at, if_neg (by decide), h2.2.2.2]
    · rw [if_pos e, q3, zu_at, if_neg (by decide), h2.2.2.1]
  have loop : ∀ (m : Nat) (i : Nat) (M' : zM), n.toNat - i = m → (i : Int) ≤ n → i ≤ (rkL S g (sGn S g)).length → (∀ k i, k ≠ 9 → M' k i = M1 k i) → (∀ j, j ≠ 5 → M' 9 0 j = M1 9 0 j) → M' 9 0 5 = rkBits (rkL S g (sGn S g)) i → LX9_skim_39 l (fun x M' => x = aSkim S g n k ∧ mQ M M') g n k (i : Int) M' := by
    intro m
    induction m with
    | zero =>
      intro i M' hm hi hi2 g1 g2 g3
      have : (i : Int) = n := by omega
      refine vX9_skim_39 ⟨by omega, by omega, fun _ => fin M' g1 g2 (by rw [g3, skB, show n.toNat = i by omega]), fun e => by omega⟩
    | succ m ih =>
      intro i M' hm hi hi2 g1 g2 g3
      have e23 : M' 9 0 23 = ((rkL S g (sGn S g)).length : Int) := by rw [g2 23 (by decide), r.1]
      refine vX9_skim_39 ⟨by omega, by omega, fun e => by omega, fun _ => ⟨by omega, fun e => fin M' g1 g2 ?_, fun e => ⟨by omega, fun M2 q2 => ?_⟩⟩⟩
      · rw [g3, skB, rkBits_ge (k := n.toNat) (by omega), show i = (rkL S g (sGn S g)).length by omega]
      · refine ih (i + 1) M2 (by omega) (by omega) (by omega) (fun k i hk => by rw [q2, zu_k hk, g1 k i hk]) (fun j hj => by rw [q2, zu_at, if_neg hj, g2 j hj]) ?_
        rw [q2, zu_at, if_pos rfl, g3, g1 37 0 (by decide), (r.2 i (by omega)).1, rkBits, if_pos (by omega)]
        rfl
  exact loop _ 0 M1 rfl (by omega) (by omega) (fun _ _ _ => rfl) (fun _ _ => rfl) (by rw [hx.2.1]; rfl)
/-! winner -/
def insO (x : Int) : List Int → List Int
  | [] => [x]
  | b :: R => if x < b then x :: b :: R else b :: insO x R
theorem insO_mem {x y : Int} : ∀ {R : List Int}, y ∈ insO x R ↔ y ∈ R ∨ y = x
  | [] => by simp [insO]
  | b :: R => by
    rw [insO]
    split
    · simp only [List.mem_cons]
      constructor
      · rintro (q | q | q)
        · exact .inr q
        · exact .inl (.inl q)
        · exact .inl (.inr q)
      · rintro ((q | q) | q)
        · exact .inr (.inl q)
        · exact .inr (.inr q)
        · exact .inl q
    · rw [List.mem_cons, insO_mem, List.mem_cons]
      constructor
      · rintro (q | q | q)
        · exact .inl (.inl q)
        · exact .inl (.inr q)
        · exact .inr q
      · rintro ((q | q) | q)
        · exact .inl q
        · exact .inr (.inl q)
        · exact .inr (.inr q)
theorem insO_pw {x : Int} : ∀ {R : List Int}, R.Pairwise (· < ·) → x ∉ R → (insO x R).Pairwise (· < ·)
  | [], _, _ => by simp [insO]
  | b :: R, h, hx => by
    have h' := List.pairwise_cons.mp h
    rw [insO]
    split
    · next c =>
      rw [List.pairwise_cons]
      refine ⟨fun y hy => ?_, h⟩
      rcases List.mem_cons.mp hy with q | q
      · omega
      · have := h'.1 y q; omega
    · next c =>
      rw [List.pairwise_cons]
      have hb : x ≠ b := fun q => hx (q ▸ List.mem_cons_self)
      refine ⟨fun y hy => ?_, insO_pw h'.2 (fun q => hx (List.mem_cons_of_mem _ q))⟩
      rcases insO_mem.mp hy with q | q
      · exact h'.1 y q
      · omega
theorem insO_cnt {x : Int} {q : Int → Bool} : ∀ {R : List Int}, ((insO x R).filter q).length = (R.filter q).length + (if q x = true then 1 else 0)
  | [] => by
    rw [insO, List.filter_cons]
    split <;> simp
  | b :: R => by
    rw [insO]
    split
    · rw [List.filter_cons]
      split <;> simp
    · rw [List.filter_cons, List.filter_cons]
      have := insO_cnt (x := x) (q := q) (R := R)
      split
      · rw [List.length_cons, List.length_cons, this]; omega
      · exact this
theorem insO_hd {x : Int} {R : List Int} (h : R.Pairwise (· < ·)) (hx : x ∉ R) : (insO x R).getD 0 0 = if R = [] then x else if x < R.getD 0 0 then x else R.getD 0 0 := by
  cases R with
  | nil => rfl
  | cons b R =>
    rw [if_neg (by simp), insO]
    show (if x < b then x :: b :: R else b :: insO x R).getD 0 0 = if x < b then x else b
    split <;> rfl
theorem lead_fil {q : Int → Bool} : ∀ {R : List Int}, R.Pairwise (· < ·) → (∀ a b, a < b → q b = true → q a = true) → (∀ j : Nat, j < (R.filter q).length → q (R.getD j 0) = true) ∧ ((R.filter q).length < R.length → ¬ q (R.getD (R.filter q).length 0) = true)
  | [], _, _ => ⟨fun j h => by simp at h, fun h => by simp at h⟩
  | b :: R, h, hd => by
    have h' := List.pairwise_cons.mp h
    have ih := lead_fil h'.2 hd
    rw [List.filter_cons]
    by_cases c : q b = true
    · rw [if_pos c]
      refine ⟨fun j hj => ?_, fun hl => ?_⟩
      · cases j with
        | zero => exact c
        | succ j => exact ih.1 j (by simpa using hj)
      · exact ih.2 (by simpa using hl)
    · rw [if_neg c]
      have e : R.filter q = [] := by
        rw [List.filter_eq_nil_iff]
        intro a ha qa
        exact c (hd b a (h'.1 a ha) qa)
      rw [e]
      exact ⟨fun j hj => by simp at hj, fun _ => c⟩
noncomputable def aWinner (S : zS) (g k : Int) : Int := if 0 ≤ g ∧ g < 4 then (if k = 0 then (if 0 < (rkL S g (sGn S g)).length then rkt ((rkL S g (sGn S g)).getD 0 0) else -2) else if k = 1 then (if 0 < (rkL S g (sGn S g)).length then rkg ((rkL S g (sGn S g)).getD 0 0) else 0) else if k = 2 then lead (fun k => decide (0 < rkg ((rkL S g (sGn S g)).getD k.toNat 0))) (rkL S g (sGn S g)).length else -2147483648) else -2147483648
theorem vX8_winner {l : Launch} {P : Int → zM → Prop} {v1 : Int} {v2 : Int} {M : zM}
    (H0 : (zI v1 ∧ ((0 ≤ v1 ∧ v1 < 4 → (CV l m_X8_rankGrade [zr 8 0, zi v1] M (fun M7 => (zI v2 ∧ (v2 = 0 → (zI (M7 4 0 2) ∧ ((M7 4 0 2) ≤ 0 → P (-2) M7) ∧ (0 < (M7 4 0 2) → ((zI 0 ∧ (0 ≤ M7 4 0 2 ∧ M7 4 0 2 ≤ 20)) ∧ P (if 0 ≤ (0 : Int) ∧ 0 < M7 4 0 2 then M7 20 0 0 else -1) M7)))) ∧ (v2 = 1 → ((zI 0 ∧ (0 ≤ M7 4 0 2 ∧ M7 4 0 2 ≤ 20)) ∧ P (if 0 ≤ (0 : Int) ∧ 0 < M7 4 0 2 then M7 21 0 0 else 0) M7)) ∧ (v2 = 2 → (CI l m_X4_winners [zr 4 0] M7 (fun x31 M28 => P x31 M28))) ∧ ((v2 < 0 ∨ 2 < v2) → P (-2147483648) M7))))) ∧ (¬ (0 ≤ v1 ∧ v1 < 4) → P (-2147483648) M)))) :
    CI l m_X8_winner [zr 8 0, zi v1, zi v2] M P :=
(aw_iload_n d_X8_winner_0 rfl rfl 1 rfl
(have z1 := H0.1; have e2 := H0.2; (aw_SI (As := [zi v1]) (st := []) d_X8_winner_1 rfl cs8_99 ⟨Nat.le_of_ble_eq_true rfl, Nat.le_of_ble_eq_true rfl⟩ rfl rfl (Nat.le_of_ble_eq_true rfl) (Nat.le_of_ble_eq_true rfl) (s_X8_isGrade z1) (fun _ _ hq => aw_eqs hq
(aw_if_ne d_X8_winner_4 rfl rfl zb_I (fun c3 => have e5 := e2.1 (zb_n0 c3); (aw_aload_n d_X8_winner_10 rfl rfl 0 rfl (by decide)
(aw_iload_n d_X8_winner_11 rfl rfl 1 rfl
(aw_VV (As := [zi v1]) (st := []) d_X8_winner_12 rfl cv8_363 ⟨Nat.le_of_ble_eq_true rfl, Nat.le_of_ble_eq_true rfl⟩ rfl rfl (Nat.le_of_ble_eq_true rfl) (Nat.le_of_ble_eq_true rfl) e5 (fun M7 e8 => (aw_iload_n d_X8_winner_15 rfl rfl 2 rfl
(have z10 := e8.1; have e11 := e8.2; aw_table (offs := [28, 52, 61]) d_X8_winner_16 rfl z10 rfl ⟨fun c12 => ⟨44, rfl, have e13 := e11.1 c12; (aw_aload_n d_X8_winner_44 rfl rfl 0 rfl (by decide)
(aw_getR (k' := 4) (a := 0) (b := 0) (j := 0) d_X8_winner_45 rfl fl8_57 rfl zj0 ⟨by decide, fun _ => by decide⟩
(aw_getI (kc := 2) d_X8_winner_48 rfl fl8_366 rfl rfl
(have z14 := e13.1; have e15 := e13.2; aw_if_le d_X8_winner_51 rfl rfl z14 (fun c16 => have e18 := e15.1 c16; (aw_bipush d_X8_winner_65 rfl (by decide)
(aw_ri d_X8_winner_67 rfl e18))) (fun c17 => have e19 := e15.2 c17; (aw_aload_n d_X8_winner_54 rfl rfl 0 rfl (by decide)
(aw_getR (k' := 4) (a := 0) (b := 0) (j := 0) d_X8_winner_55 rfl fl8_57 rfl zj0 ⟨by decide, fun _ => by decide⟩
(aw_iconst d_X8_winner_58 rfl
(have z20 := e19.1; have e21 := e19.2; (aw_VI (As := [zi 0]) (st := []) d_X8_winner_59 rfl cv8_367 ⟨Nat.le_of_ble_eq_true rfl, Nat.le_of_ble_eq_true rfl⟩ rfl rfl (Nat.le_of_ble_eq_true rfl) (Nat.le_of_ble_eq_true rfl) (s_X4_traderAt z20) (fun _ _ hq => aw_eqs hq
(aw_goto d_X8_winner_62 rfl
(aw_ri d_X8_winner_67 rfl e21)))))))))))))⟩, ⟨fun c22 => ⟨68, rfl, have e23 := e11.2.1 c22; (aw_aload_n d_X8_winner_68 rfl rfl 0 rfl (by decide)
(aw_getR (k' := 4) (a := 0) (b := 0) (j := 0) d_X8_winner_69 rfl fl8_57 rfl zj0 ⟨by decide, fun _ => by decide⟩
(aw_iconst d_X8_winner_72 rfl
(have z24 := e23.1; have e25 := e23.2; (aw_VI (As := [zi 0]) (st := []) d_X8_winner_73 rfl cv8_369 ⟨Nat.le_of_ble_eq_true rfl, Nat.le_of_ble_eq_true rfl⟩ rfl rfl (Nat.le_of_ble_eq_true rfl) (Nat.le_of_ble_eq_true rfl) (s_X4_gainAt z24) (fun _ _ hq => aw_eqs hq
(aw_ri d_X8_winner_76 rfl e25)))))))⟩, ⟨fun c26 => ⟨77, rfl, have e27 := e11.2.2.1 c26; (aw_aload_n d_X8_winner_77 rfl rfl 0 rfl (by decide)
(aw_getR (k' := 4) (a := 0) (b := 0) (j := 0) d_X8_winner_78 rfl fl8_57 rfl zj0 ⟨by decide, fun _ => by decide⟩
(aw_VI (As := []) (st := []) d_X8_winner_81 rfl cv8_372 ⟨Nat.le_of_ble_eq_true rfl, Nat.le_of_ble_eq_true rfl⟩ rfl rfl (Nat.le_of_ble_eq_true rfl) (Nat.le_of_ble_eq_true rfl) e27 (fun x31 M28 e29 => (aw_ri d_X8_winner_84 rfl e29)))))⟩, trivial⟩⟩⟩ (fun c32 => have e33 := e11.2.2.2 c32; (aw_ldc d_X8_winner_85 rfl ci8_195
(aw_ri d_X8_winner_87 rfl e33)))))))))) (fun c4 => have e6 := e2.2 (zb_0 c4); (aw_ldc d_X8_winner_7 rfl ci8_195
(aw_ri d_X8_winner_9 rfl e6))))))))
def LX9_winner_34 (l : Launch) (P : Int → zM → Prop) (v1 : Int) (v2 : Int) (v3 : Int) (v4 : Int) (v5 : Int) (v6 : Int) (M : zM) : Prop := AW l m_X9_winner (zTi m_X9_winner P) 34 [(0, zr 9 0), (1, zi v1), (2, zi v2), (3, zi v3), (4, zi v4), (5, zi v5), (6, zi v6)] [] M
theorem vX9_winner_34 {l : Launch} {P : Int → zM → Prop} {v1 : Int} {v2 : Int} {v3 : Int} {v4 : Int} {v5 : Int} {v6 : Int} {M : zM}
    (H0 : (zI v6 ∧ zI (M 27 0 180) ∧ ((M 27 0 180) ≤ v6 → (zI v2 ∧ (v2 ≠ 2 → ((v2 ≠ 0 → P v4 M) ∧ (v2 = 0 → P v3 M))) ∧ (v2 = 2 → P v5 M))) ∧ (v6 < (M 27 0 180) → ((0 ≤ 9 * v6 + 1 ∧ 9 * v6 + 1 < 187) ∧ (zI (M 27 0 (9 * v6 + 1)) ∧ zI v1 ∧ ((M 27 0 (9 * v6 + 1)) = v1 → (CI l m_X9_gainOf [zr 9 0, zi v6] M (fun x44 M41 => (zI x44 ∧ (x44 ≤ 0 → (zI v3 ∧ (v3 = (-2) → LX9_winner_34 l P v1 v2 v6 x44 (v5 + 0) (v6 + 1) M41) ∧ (v3 ≠ (-2) → (zI v4 ∧ (v4 < x44 → LX9_winner_34 l P v1 v2 v6 x44 (v5 + 0) (v6 + 1) M41) ∧ (x44 ≤ v4 → LX9_winner_34 l P v1 v2 v3 v4 (v5 + 0) (v6 + 1) M41))))) ∧ (0 < x44 → (zI v3 ∧ (v3 = (-2) → LX9_winner_34 l P v1 v2 v6 x44 (v5 + 1) (v6 + 1) M41) ∧ (v3 ≠ (-2) → (zI v4 ∧ (v4 < x44 → LX9_winner_34 l P v1 v2 v6 x44 (v5 + 1) (v6 + 1) M41) ∧ (x44 ≤ v4 → LX9_winner_34 l P v1 v2 v3 v4 (v5 + 1) (v6 + 1) M41))))))))) ∧ ((M 27 0 (9 * v6 + 1)) ≠ v1 → LX9_winner_34 l P v1 v2 v3 v4 v5 (v6 + 1) M)))))) :
    LX9_winner_34 l P v1 v2 v3 v4 v5 v6 M :=
(aw_iload d_X9_winner_34 rfl 6 rfl
(aw_aload_n d_X9_winner_36 rfl rfl 0 rfl (by decide)
(aw_VI (As := []) (st := [zi v6]) d_X9_winner_37 rfl cv9_78 ⟨Nat.le_of_ble_eq_true rfl, Nat.le_of_ble_eq_true rfl⟩ rfl rfl (Nat.le_of_ble_eq_true rfl) (Nat.le_of_ble_eq_true rfl) (s_X9_traders) (fun _ _ hq => aw_eqs hq
(have z15 := H0.1; have z16 := H0.2.1; have e17 := H0.2.2; aw_icmp_ge d_X9_winner_40 rfl rfl z15 z16 (fun c18 => have e20 := e17.1 c18; (aw_iload_n d_X9_winner_109 rfl rfl 2 rfl
(aw_iconst d_X9_winner_110 rfl
(have z22 := e20.1; have e23 := e20.2; aw_icmp_ne d_X9_winner_111 rfl rfl z22 (by decide) (fun c24 => have e26 := e23.1 c24; (aw_iload_n d_X9_winner_117 rfl rfl 2 rfl
(aw_if_ne d_X9_winner_118 rfl rfl z22 (fun c28 => have e30 := e26.1 c28; (aw_iload d_X9_winner_125 rfl 4 rfl
(aw_ri d_X9_winner_127 rfl e30))) (fun c29 => have e31 := e26.2 c29; (aw_iload_n d_X9_winner_121 rfl rfl 3 rfl
(aw_goto d_X9_winner_122 rfl
(aw_ri d_X9_winner_127 rfl e31))))))) (fun c25 => have e27 := e23.2 c25; (aw_iload d_X9_winner_114 rfl 5 rfl
(aw_ri d_X9_winner_116 rfl e27))))))) (fun c19 => have e21 := e17.2 c19; (aw_aload_n d_X9_winner_43 rfl rfl 0 rfl (by decide)
(aw_iload d_X9_winner_44 rfl 6 rfl
(aw_iconst d_X9_winner_46 rfl
(have z32 := e21.1; have e33 := e21.2; (aw_VI (As := [zi v6, zi 1]) (st := []) d_X9_winner_47 rfl cv9_88 ⟨Nat.le_of_ble_eq_true rfl, Nat.le_of_ble_eq_true rfl⟩ rfl rfl (Nat.le_of_ble_eq_true rfl) (Nat.le_of_ble_eq_true rfl) (s_X9_of z32) (fun _ _ hq => aw_eqs hq
(aw_iload_n d_X9_winner_50 rfl rfl 1 rfl
(have z34 := e33.1; have z35 := e33.2.1; have e36 := e33.2.2; aw_icmp_eq d_X9_winner_51 rfl rfl z34 z35 (fun c37 => have e39 := e36.1 c37; (aw_aload_n d_X9_winner_57 rfl rfl 0 rfl (by decide)
(aw_iload d_X9_winner_58 rfl 6 rfl
(aw_VI (As := [zi v6]) (st := []) d_X9_winner_60 rfl cv9_204 ⟨Nat.le_of_ble_eq_true rfl, Nat.le_of_ble_eq_true rfl⟩ rfl rfl (Nat.le_of_ble_eq_true rfl) (Nat.le_of_ble_eq_true rfl) e39 (fun x44 M41 e42 => (aw_istore (lv' := [(7, zi x44), (0, zr 9 0), (1, zi v1), (2, zi v2), (3, zi v3), (4, zi v4), (5, zi v5), (6, zi v6)]) d_X9_winner_63 rfl (by decide) rfl
(aw_iload d_X9_winner_65 rfl 6 rfl
(aw_iload d_X9_winner_67 rfl 0 rfl
(have z45 := e42.1; have e46 := e42.2; aw_if_le d_X9_winner_69 rfl rfl z45 (fun c47 => have e49 := e46.1 c47; (aw_iconst d_X9_winner_76 rfl
(aw_iadd d_X9_winner_77 rfl
(aw_istore (lv' := [(5, zi (v5 + 0)), (7, zi x44), (0, zr 9 0), (1, zi v1), (2, zi v2), (3, zi v3), (4, zi v4), (6, zi v6)]) d_X9_winner_78 rfl (by decide) rfl
(aw_iload_n d_X9_winner_80 rfl rfl 5 rfl
(aw_bipush d_X9_winner_81 rfl (by decide)
(have z51 := e49.1; have e52 := e49.2; aw_icmp_eq d_X9_winner_83 rfl rfl z51 (by decide) (fun c53 => have e55 := e52.1 c53; (aw_iload d_X9_winner_96 rfl 7 rfl
(aw_istore_n (lv' := [(3, zi v6), (5, zi (v5 + 0)), (7, zi x44), (0, zr 9 0), (1, zi v1), (2, zi v2), (4, zi v4), (6, zi v6)]) d_X9_winner_98 rfl rfl (by decide) rfl
(aw_iload d_X9_winner_99 rfl 2 rfl
(aw_istore (lv' := [(4, zi x44), (3, zi v6), (5, zi (v5 + 0)), (7, zi x44), (0, zr 9 0), (1, zi v1), (2, zi v2), (6, zi v6)]) d_X9_winner_101 rfl (by decide) rfl
(aw_iinc (lv' := [(6, zi (v6 + 1)), (4, zi x44), (3, zi v6), (5, zi (v5 + 0)), (7, zi x44), (0, zr 9 0), (1, zi v1), (2, zi v2)]) (y := (v6 + 1)) d_X9_winner_103 rfl 7 rfl (by decide) rfl rfl
(aw_goto d_X9_winner_106 rfl
(aw_sub [5, 6, 7, 2, 1, 3, 0] rfl e55)))))))) (fun c54 => have e56 := e52.2 c54; (aw_iload d_X9_winner_86 rfl 1 rfl
(aw_iload d_X9_winner_88 rfl 6 rfl
(have z57 := e56.1; have e58 := e56.2; aw_icmp_gt d_X9_winner_90 rfl rfl z45 z57 (fun c59 => have e61 := e58.1 c59; (aw_iload d_X9_winner_96 rfl 7 rfl
(aw_istore_n (lv' := [(3, zi v6), (5, zi (v5 + 0)), (7, zi x44), (0, zr 9 0), (1, zi v1), (2, zi v2), (4, zi v4), (6, zi v6)]) d_X9_winner_98 rfl rfl (by decide) rfl
(aw_iload d_X9_winner_99 rfl 2 rfl
(aw_istore (lv' := [(4, zi x44), (3, zi v6), (5, zi (v5 + 0)), (7, zi x44), (0, zr 9 0), (1, zi v1), (2, zi v2), (6, zi v6)]) d_X9_winner_101 rfl (by decide) rfl
(aw_iinc (lv' := [(6, zi (v6 + 1)), (4, zi x44), (3, zi v6), (5, zi (v5 + 0)), (7, zi x44), (0, zr 9 0), (1, zi v1), (2, zi v2)]) (y := (v6 + 1)) d_X9_winner_103 rfl 7 rfl (by decide) rfl rfl
(aw_goto d_X9_winner_106 rfl
(aw_sub [5, 6, 7, 2, 1, 3, 0] rfl e61)))))))) (fun c60 => have e62 := e58.2 c60; (aw_goto d_X9_winner_93 rfl
(aw_iinc (lv' := [(6, zi (v6 + 1)), (5, zi (v5 + 0)), (7, zi x44), (0, zr 9 0), (1, zi v1), (2, zi v2), (3, zi v3), (4, zi v4)]) (y := (v6 + 1)) d_X9_winner_103 rfl 7 rfl (by decide) rfl rfl
(aw_goto d_X9_winner_106 rfl
(aw_sub [3, 4, 5, 6, 7, 1, 0] rfl e62)))))))))))))))) (fun c48 => have e50 := e46.2 c48; (aw_iconst d_X9_winner_72 rfl
(aw_goto d_X9_winner_73 rfl
(aw_iadd d_X9_winner_77 rfl
(aw_istore (lv' := [(5, zi (v5 + 1)), (7, zi x44), (0, zr 9 0), (1, zi v1), (2, zi v2), (3, zi v3), (4, zi v4), (6, zi v6)]) d_X9_winner_78 rfl (by decide) rfl
(aw_iload_n d_X9_winner_80 rfl rfl 5 rfl
(aw_bipush d_X9_winner_81 rfl (by decide)
(have z63 := e50.1; have e64 := e50.2; aw_icmp_eq d_X9_winner_83 rfl rfl z63 (by decide) (fun c65 => have e67 := e64.1 c65; (aw_iload d_X9_winner_96 rfl 7 rfl
(aw_istore_n (lv' := [(3, zi v6), (5, zi (v5 + 1)), (7, zi x44), (0, zr 9 0), (1, zi v1), (2, zi v2), (4, zi v4), (6, zi v6)]) d_X9_winner_98 rfl rfl (by decide) rfl
(aw_iload d_X9_winner_99 rfl 2 rfl
(aw_istore (lv' := [(4, zi x44), (3, zi v6), (5, zi (v5 + 1)), (7, zi x44), (0, zr 9 0), (1, zi v1), (2, zi v2), (6, zi v6)]) d_X9_winner_101 rfl (by decide) rfl
(aw_iinc (lv' := [(6, zi (v6 + 1)), (4, zi x44), (3, zi v6), (5, zi (v5 + 1)), (7, zi x44), (0, zr 9 0), (1, zi v1), (2, zi v2)]) (y := (v6 + 1)) d_X9_winner_103 rfl 7 rfl (by decide) rfl rfl
(aw_goto d_X9_winner_106 rfl
(aw_sub [5, 6, 7, 2, 1, 3, 0] rfl e67)))))))) (fun c66 => have e68 := e64.2 c66; (aw_iload d_X9_winner_86 rfl 1 rfl
(aw_iload d_X9_winner_88 rfl 6 rfl
(have z69 := e68.1; have e70 := e68.2; aw_icmp_gt d_X9_winner_90 rfl rfl z45 z69 (fun c71 => have e73 := e70.1 c71; (aw_iload d_X9_winner_96 rfl 7 rfl
(aw_istore_n (lv' := [(3, zi v6), (5, zi (v5 + 1)), (7, zi x44), (0, zr 9 0), (1, zi v1), (2, zi v2), (4, zi v4), (6, zi v6)]) d_X9_winner_98 rfl rfl (by decide) rfl
(aw_iload d_X9_winner_99 rfl 2 rfl
(aw_istore (lv' := [(4, zi x44), (3, zi v6), (5, zi (v5 + 1)), (7, zi x44), (0, zr 9 0), (1, zi v1), (2, zi v2), (6, zi v6)]) d_X9_winner_101 rfl (by decide) rfl
(aw_iinc (lv' := [(6, zi (v6 + 1)), (4, zi x44), (3, zi v6), (5, zi (v5 + 1)), (7, zi x44), (0, zr 9 0), (1, zi v1), (2, zi v2)]) (y := (v6 + 1)) d_X9_winner_103 rfl 7 rfl (by decide) rfl rfl
(aw_goto d_X9_winner_106 rfl
(aw_sub [5, 6, 7, 2, 1, 3, 0] rfl e73)))))))) (fun c72 => have e74 := e70.2 c72; (aw_goto d_X9_winner_93 rfl
(aw_iinc (lv' := [(6, zi (v6 + 1)), (5, zi (v5 + 1)), (7, zi x44), (0, zr 9 0), (1, zi v1), (2, zi v2), (3, zi v3), (4, zi v4)]) (y := (v6 + 1)) d_X9_winner_103 rfl 7 rfl (by decide) rfl rfl
(aw_goto d_X9_winner_106 rfl
(aw_sub [3, 4, 5, 6, 7, 1, 0] rfl e74)))))))))))))))))))))))))) (fun c38 => have e40 := e36.2 c38; (aw_goto d_X9_winner_54 rfl
(aw_iinc (lv' := [(6, zi (v6 + 1)), (0, zr 9 0), (1, zi v1), (2, zi v2), (3, zi v3), (4, zi v4), (5, zi v5)]) (y := (v6 + 1)) d_X9_winner_103 rfl 6 rfl (by decide) rfl rfl
(aw_goto d_X9_winner_106 rfl
(aw_sub [1, 2, 3, 4, 5, 6, 0] rfl e40)))))))))))))))))))
theorem vX9_winner {l : Launch} {P : Int → zM → Prop} {v1 : Int} {v2 : Int} {M : zM}
    (H0 : (zI v1 ∧ ((¬ (0 ≤ v1 ∧ v1 < 4) → P (-2147483648) M) ∧ (0 ≤ v1 ∧ v1 < 4 → (zI v2 ∧ ((zJ v2 ∧ zJ 0 ∧ zJ 2) ∧ ((0 ≤ v2 ∧ v2 ≤ 2 → LX9_winner_34 l P v1 v2 (-2) 0 0 0 M) ∧ (¬ (0 ≤ v2 ∧ v2 ≤ 2) → P (-2147483648) M)))))))) :
    CI l m_X9_winner [zr 9 0, zi v1, zi v2] M P :=
(aw_iload_n d_X9_winner_0 rfl rfl 1 rfl
(have z1 := H0.1; have e2 := H0.2; (aw_SI (As := [zi v1]) (st := []) d_X9_winner_1 rfl cs9_195 ⟨Nat.le_of_ble_eq_true rfl, Nat.le_of_ble_eq_true rfl⟩ rfl rfl (Nat.le_of_ble_eq_true rfl) (Nat.le_of_ble_eq_true rfl) (s_X9_isGrade z1) (fun _ _ hq => aw_eqs hq
(aw_if_eq d_X9_winner_4 rfl rfl zb_I (fun c3 => have e5 := e2.1 (zb_0 c3); (aw_ldc d_X9_winner_19 rfl ci9_192
(aw_ri d_X9_winner_21 rfl e5))) (fun c4 => have e6 := e2.2 (zb_n0 c4); (aw_iload_n d_X9_winner_7 rfl rfl 2 rfl
(have z7 := e6.1; have e8 := e6.2; (aw_i2l d_X9_winner_8 rfl z7
(aw_lconst (x := 0) d_X9_winner_9 rfl (by decide)
(aw_ldc2 d_X9_winner_10 rfl cl9_217
(have z9 := e8.1; have e10 := e8.2; (aw_SI (As := [zl v2, zl 0, zl 2]) (st := []) d_X9_winner_13 rfl cs9_82 ⟨Nat.le_of_ble_eq_true rfl, Nat.le_of_ble_eq_true rfl⟩ rfl rfl (Nat.le_of_ble_eq_true rfl) (Nat.le_of_ble_eq_true rfl) (s_X9_in z9) (fun _ _ hq => aw_eqs hq
(aw_if_ne d_X9_winner_16 rfl rfl zb_I (fun c11 => have e13 := e10.1 (zb_n0 c11); (aw_bipush d_X9_winner_22 rfl (by decide)
(aw_istore_n (lv' := [(3, zi (-2)), (0, zr 9 0), (1, zi v1), (2, zi v2)]) d_X9_winner_24 rfl rfl (by decide) rfl
(aw_iconst d_X9_winner_25 rfl
(aw_istore (lv' := [(4, zi 0), (3, zi (-2)), (0, zr 9 0), (1, zi v1), (2, zi v2)]) d_X9_winner_26 rfl (by decide) rfl
(aw_iconst d_X9_winner_28 rfl
(aw_istore (lv' := [(5, zi 0), (4, zi 0), (3, zi (-2)), (0, zr 9 0), (1, zi v1), (2, zi v2)]) d_X9_winner_29 rfl (by decide) rfl
(aw_iconst d_X9_winner_31 rfl
(aw_istore (lv' := [(6, zi 0), (5, zi 0), (4, zi 0), (3, zi (-2)), (0, zr 9 0), (1, zi v1), (2, zi v2)]) d_X9_winner_32 rfl (by decide) rfl
(aw_sub [4, 5, 6, 3, 2, 1, 0] rfl e13)))))))))) (fun c12 => have e14 := e10.2 (zb_0 c12); (aw_ldc d_X9_winner_19 rfl ci9_192
(aw_ri d_X9_winner_21 rfl e14))))))))))))))))))
theorem q8_winner {g k : Int} (c : CX M S) (zg : zI g) (zk : zI k) : CI l m_X8_winner [zr 8 0, zi g, zi k] M (fun x M' => x = aWinner S g k ∧ Fr kScr M M') := by
  refine vX8_winner ⟨zg, fun a => ?_, fun a => ⟨by rw [aWinner, if_neg a], Fr.rf⟩⟩
  refine (c_X8_rankGrade c a).mono ?_
  rintro M1 ⟨F, -, r, hr⟩
  have hl := rk_l20 c.2.1.1 hr
  rw [r.1]
  refine ⟨zk, fun e => ⟨by omega, fun q => ⟨?_, F⟩, fun q => ⟨⟨by omega, by omega⟩, ?_, F⟩⟩, fun e => ⟨⟨by omega, by omega⟩, ?_, F⟩, fun e => ?_, fun e => ⟨?_, F⟩⟩
  · rw [aWinner, if_pos a, if_pos e, if_neg (by omega)]
  · rw [if_pos (by omega), (r.2 0 (by omega)).1, aWinner, if_pos a, if_pos e, if_pos (by omega)]
    rfl
  · by_cases q : 0 < (rkL S g (sGn S g)).length
    · rw [if_pos (by omega), (r.2 0 (by omega)).2, aWinner, if_pos a, if_neg (by omega), if_pos e, if_pos q]
      rfl
    · rw [if_neg (by omega), aWinner, if_pos a, if_neg (by omega), if_pos e, if_neg q]
  · refine (c_X4_winners c.2 r hr).eq ⟨?_, F⟩
    rw [aWinner, if_pos a, if_neg (by omega), if_neg (by omega), if_pos e]
  · rw [aWinner, if_pos a, if_neg (by omega), if_neg (by omega), if_neg (by omega)]
theorem q9_winner {g k : Int} (h : MX M S) (zg : zI g) (zk : zI k) : CI l m_X9_winner [zr 9 0, zi g, zi k] M (fun x M' => x = aWinner S g k ∧ mQ M M') := by
  have ok := h.ok
  have hn := ok.1.1
  refine vX9_winner ⟨zg, fun a => ⟨by rw [aWinner, if_neg a], mQ.rf h⟩, fun a => ⟨zk, by omega, fun b => ?_, fun b => ⟨by rw [aWinner, if_pos a, if_neg (by omega), if_neg (by omega), if_neg (by omega)], mQ.rf h⟩⟩⟩
  have loop : ∀ (n : Nat) (t : Nat) (M' : zM) (best most many : Int), (qn S - t).toNat = n → (t : Int) ≤ qn S → mQ M M' → (∃ R, isRow R (fun x => ∃ t', ((0 ≤ t' ∧ t' < (t : Int)) ∧ t' < qn S ∧ qgr S t' = g) ∧ x = rkK (sGn S g) t') ∧ best = (if R = [] then -2 else rkt (R.getD 0 0)) ∧ most = (if R = [] then 0 else rkg (R.getD 0 0)) ∧ many = (R.filter (fun x => decide (0 < rkg x))).length) →
      LX9_winner_34 l (fun x M' => x = aWinner S g k ∧ mQ M M') g k best most many (t : Int) M' := by
    intro n
    induction n with
    | zero =>
      intro t M' best most many hn' ht f hR
      have hx := h.q f
      obtain ⟨R, hR, e1, e2, e3⟩ := hR
      have hr : isRow R (rkP S g (sGn S g)) := hR.to fun x => ⟨fun ⟨t', q, e⟩ => ⟨t', ⟨⟨q.1.1, q.2.1⟩, q.2.2⟩, e⟩, fun ⟨t', q, e⟩ => ⟨t', ⟨⟨q.1.1, by omega⟩, q.1.2, q.2⟩, e⟩⟩
      have e : rkL S g (sGn S g) = R := rowOf_is hr
      have hne : 0 < R.length ↔ ¬ R = [] := by rw [← List.length_eq_zero_iff]; omega
      refine vX9_winner_34 ⟨by omega, by rw [hx.n]; omega, fun _ => ⟨zk, fun q => ⟨fun q2 => ⟨?_, f⟩, fun q2 => ⟨?_, f⟩⟩, fun q => ⟨?_, f⟩⟩, fun e => by rw [hx.n] at e; omega⟩
      · rw [aWinner, if_pos a, if_neg q2, if_pos (by omega), e, e2]
        by_cases c : R = []
        · rw [if_pos c, if_neg (fun q => hne.mp q c)]
        · rw [if_neg c, if_pos (hne.mpr c)]
      · rw [aWinner, if_pos a, if_pos q2, e, e1]
        by_cases c : R = []
        · rw [if_pos c, if_neg (fun q => hne.mp q c)]
        · rw [if_neg c, if_pos (hne.mpr c)]
      · rw [aWinner, if_pos a, if_neg (by omega), if_neg (by omega), if_pos q, e, e3]
        have lf := lead_fil (q := fun x => decide (0 < rkg x)) hr.1 (fun a b hab hb => by
          rw [decide_eq_true_eq] at hb ⊢
          unfold rkg at hb ⊢
          omega)
        refine (lead_eq ⟨by omega, ?_⟩ (fun j hj => ?_) (fun hj => ?_)).symm
        · have := List.length_filter_le (fun x => decide (0 < rkg x)) R
          omega
        · exact lf.1 j.toNat (by omega)
        · have := lf.2 (by omega)
          exact this
    | succ n ih =>
      intro t M' best most many hn' ht f hR
      have hx := h.q f
      obtain ⟨R, hR, e1, e2, e3⟩ := hR
      have ht' : 0 ≤ (t : Int) ∧ (t : Int) < qn S := by omega
      have hgr := ok.2.1 t ht'
      have eg1 : M' 27 0 (9 * (t : Int) + 1) = qgr S t := by rw [← rS_gr (M := M') (t := (t : Int)) (by rw [hx.1.2]; exact ht'), hx.1.2]
      refine vX9_winner_34 ⟨by omega, by rw [hx.n]; omega, fun e => by rw [hx.n] at e; omega, fun _ => ⟨by omega, ?_⟩⟩
      rw [eg1]
      refine ⟨by omega, by omega, fun e => ?_, fun e => ?_⟩
      · refine (c_X9_gainOf hx.1.1 (by rw [hx.1.2]; exact ht') (by rw [hx.2.1, hb_0])).mono ?_
        rintro x M1 ⟨rfl, f1, -, -⟩
        have F1 := f.tr (mFs.q hx f1)
        rw [hx.Gn, e]
        have hb := sGn_b ok g t
        have hk := rkK_d (G := sGn S g) (t := (t : Int)) (by omega)
        have hnot : rkK (sGn S g) t ∉ R := by
          intro q
          obtain ⟨t', q2, q3⟩ := (hR.2 _).mp q
          have k2 := rkK_d (G := sGn S g) (t := t') (by omega)
          rw [← q3, hk.1] at k2
          omega
        have hdR : ¬ R = [] → ∃ t', ((0 ≤ t' ∧ t' < (t : Int)) ∧ t' < qn S ∧ qgr S t' = g) ∧ R.getD 0 0 = rkK (sGn S g) t' := by
          intro c
          have : 0 < R.length := by
            have := mt List.length_eq_zero_iff.mp c
            omega
          have hm := at_mem (L := R) (j := 0) (by omega)
          exact (hR.2 _).mp hm
        have hR' : isRow (insO (rkK (sGn S g) t) R) (fun x => ∃ t', ((0 ≤ t' ∧ t' < ((t + 1 : Nat) : Int)) ∧ t' < qn S ∧ qgr S t' = g) ∧ x = rkK (sGn S g) t') := by
          refine ⟨insO_pw hR.1 hnot, fun x => insO_mem.trans ⟨?_, ?_⟩⟩
          · rintro (q | q)
            · obtain ⟨t', q, e2⟩ := (hR.2 x).mp q
              exact ⟨t', ⟨⟨q.1.1, by omega⟩, q.2⟩, e2⟩
            · exact ⟨t, ⟨⟨by omega, by omega⟩, ht'.2, e⟩, q⟩
          · rintro ⟨t', q, e2⟩
            by_cases c3 : t' = (t : Int)
            · subst c3; exact .inr e2
            · exact .inl ((hR.2 x).mpr ⟨t', ⟨⟨q.1.1, by omega⟩, q.2⟩, e2⟩)
        have ne' : ¬ insO (rkK (sGn S g) t) R = [] := by
          intro q
          have := (insO_mem (x := rkK (sGn S g) t) (y := rkK (sGn S g) t) (R := R)).mpr (.inr rfl)
          rw [q] at this
          exact absurd this List.not_mem_nil
        have hc := insO_cnt (x := rkK (sGn S g) t) (q := fun x => decide (0 < rkg x)) (R := R)
        have hh := insO_hd hR.1 hnot
        -- a new best
        have new : (R = [] ∨ most < sGn S g t) → ∀ m, m = (if 0 < sGn S g t then 1 else 0) → LX9_winner_34 l (fun x M' => x = aWinner S g k ∧ mQ M M') g k (t : Int) (sGn S g t) (many + m) ((t : Int) + 1) M1 := by
          intro c m hm
          have hd : (insO (rkK (sGn S g) t) R).getD 0 0 = rkK (sGn S g) t := by
            rw [hh]
            by_cases c1 : R = []
            · rw [if_pos c1]
            · rw [if_neg c1, if_pos]
              obtain ⟨t', q, q3⟩ := hdR c1
              have k2 := rkK_d (G := sGn S g) (t := t') (by omega)
              rw [if_neg c1, q3, k2.2] at e2
              have := c.resolve_left c1
              rw [q3]
              unfold rkK
              omega
          have := ih (t + 1) M1 (t : Int) (sGn S g t) (many + m) (by omega) (by omega) F1 ⟨_, hR', by rw [if_neg ne', hd, hk.1], by rw [if_neg ne', hd, hk.2], by
            rw [hc, e3, hm, hk.2]
            by_cases c2 : 0 < sGn S g t
            · rw [if_pos c2, if_pos (by simpa using c2)]; omega
            · rw [if_neg c2, if_neg (by simpa using c2)]; omega⟩
          rw [show ((t + 1 : Nat) : Int) = (t : Int) + 1 by omega] at this
          exact this
        have old : ¬ R = [] → sGn S g t ≤ most → ∀ m, m = (if 0 < sGn S g t then 1 else 0) → LX9_winner_34 l (fun x M' => x = aWinner S g k ∧ mQ M M') g k best most (many + m) ((t : Int) + 1) M1 := by
          intro c1 c2 m hm
          have hd : (insO (rkK (sGn S g) t) R).getD 0 0 = R.getD 0 0 := by
            rw [hh, if_neg c1, if_neg]
            obtain ⟨t', q, q3⟩ := hdR c1
            have k2 := rkK_d (G := sGn S g) (t := t') (by omega)
            rw [if_neg c1, q3, k2.2] at e2
            rw [q3]
            unfold rkK
            omega
          have := ih (t + 1) M1 best most (many + m) (by omega) (by omega) F1 ⟨_, hR', by rw [if_neg ne', hd, e1, if_neg c1], by rw [if_neg ne', hd, e2, if_neg c1], by
            rw [hc, e3, hm, hk.2]
            by_cases c2 : 0 < sGn S g t
            · rw [if_pos c2, if_pos (by simpa using c2)]; omega
            · rw [if_neg c2, if_neg (by simpa using c2)]; omega⟩
          rw [show ((t + 1 : Nat) : Int) = (t : Int) + 1 by omega] at this
          exact this
        have bz : zI best ∧ (best = -2 ↔ R = []) ∧ zI most := by
          by_cases c1 : R = []
          · rw [if_pos c1] at e1 e2
            exact ⟨by omega, ⟨fun _ => c1, fun _ => e1⟩, by omega⟩
          · obtain ⟨t', q, q3⟩ := hdR c1
            have k2 := rkK_d (G := sGn S g) (t := t') (by omega)
            have b2 := sGn_b ok g t'
            rw [if_neg c1, q3] at e1 e2
            rw [k2.1] at e1
            rw [k2.2] at e2
            exact ⟨by omega, ⟨fun q4 => by omega, fun q4 => absurd q4 c1⟩, by omega⟩
        refine ⟨by omega, fun d => ⟨bz.1, fun d2 => new (.inl (bz.2.1.mp d2)) 0 (by rw [if_neg (by omega)]), fun d2 => ⟨bz.2.2, fun d3 => new (.inr d3) 0 (by rw [if_neg (by omega)]), fun d3 => old (fun q => d2 (bz.2.1.mpr q)) d3 0 (by rw [if_neg (by omega)])⟩⟩, fun d => ⟨bz.1, fun d2 => new (.inl (bz.2.1.mp d2)) 1 (by rw [if_pos d]), fun d2 => ⟨bz.2.2, fun d3 => new (.inr d3) 1 (by rw [if_pos d]), fun d3 => old (fun q => d2 (bz.2.1.mpr q)) d3 1 (by rw [if_pos d])⟩⟩⟩
      · have := ih (t + 1) M' best most many (by omega) (by omega) f ⟨R, hR.to fun x => ⟨?_, ?_⟩, e1, e2, e3⟩
        · rw [show ((t + 1 : Nat) : Int) = (t : Int) + 1 by omega] at this
          exact this
        · rintro ⟨t', q, e2⟩; exact ⟨t', ⟨⟨q.1.1, by omega⟩, q.2⟩, e2⟩
        · rintro ⟨t', q, e2⟩
          refine ⟨t', ⟨⟨q.1.1, ?_⟩, q.2⟩, e2⟩
          by_cases c3 : t' = (t : Int)
          · subst c3; exact absurd q.2.2 e
          · omega
  exact loop _ 0 M (-2) 0 0 rfl (by omega) (mQ.rf h) ⟨[], ⟨List.Pairwise.nil, fun x => ⟨fun q => absurd q List.not_mem_nil, fun ⟨t', q, _⟩ => by omega⟩⟩, rfl, rfl, rfl⟩
end
