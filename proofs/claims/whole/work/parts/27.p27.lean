/-! ===== the reference: a market laid ===== -/
def mRB (M : zM) (B : List Int) : Prop := M 9 0 11 = B.length ∧ ∀ j : Int, 0 ≤ j ∧ j < (B.length : Int) → M 33 0 j = gB B j ∧ M 31 0 j = ktr (B.getD j.toNat 0) ∧ M 32 0 j = kun (B.getD j.toNat 0)
def mRA (M : zM) (f : Int) (A : List Int) : Prop := M 9 0 15 = A.length ∧ ∀ j : Int, 0 ≤ j ∧ j < (A.length : Int) → M 36 0 j = gA f A j ∧ M 34 0 j = ktr (A.getD j.toNat 0) ∧ M 35 0 j = kun (A.getD j.toNat 0)
section
variable {l : Launch} {M : zM}

def LX9_comesBid_13 (l : Launch) (P : zM → Prop) (v1 : Int) (v2 : Int) (v3 : Int) (v4 : Int) (M : zM) : Prop := AW l m_X9_comesBid (zTv m_X9_comesBid P) 13 [(0, zr 9 0), (1, zi v1), (2, zi v2), (3, zi v3), (4, zi v4)] [] M
theorem vX9_comesBid_13 {l : Launch} {P : zM → Prop} {v1 : Int} {v2 : Int} {v3 : Int} {v4 : Int} {M : zM}
    (H0 : (zI v4 ∧ (v4 ≤ 0 → ((0 ≤ v4 ∧ v4 < 80) ∧ ∀ M10 : zM, M10 = zu M 33 0 v4 v3 → (∀ M12 : zM, M12 = zu M10 31 0 v4 v1 → (∀ M14 : zM, M14 = zu M12 32 0 v4 v2 → (∀ M16 : zM, M16 = zu M14 9 0 11 ((M14 9 0 11) + 1) → P M16))))) ∧ (0 < v4 → ((0 ≤ (v4 - 1) ∧ (v4 - 1) < 80) ∧ (zI (M 33 0 (v4 - 1)) ∧ zI v3 ∧ (v3 ≤ (M 33 0 (v4 - 1)) → ((0 ≤ v4 ∧ v4 < 80) ∧ ∀ M28 : zM, M28 = zu M 33 0 v4 v3 → (∀ M30 : zM, M30 = zu M28 31 0 v4 v1 → (∀ M32 : zM, M32 = zu M30 32 0 v4 v2 → (∀ M34 : zM, M34 = zu M32 9 0 11 ((M32 9 0 11) + 1) → P M34))))) ∧ ((M 33 0 (v4 - 1)) < v3 → ((0 ≤ v4 ∧ v4 < 80) ∧ ∀ M37 : zM, M37 = zu M 33 0 v4 (M 33 0 (v4 - 1)) → (∀ M39 : zM, M39 = zu M37 31 0 v4 (M37 31 0 (v4 - 1)) → (∀ M41 : zM, M41 = zu M39 32 0 v4 (M39 32 0 (v4 - 1)) → LX9_comesBid_13 l P v1 v2 v3 (v4 - 1) M41))))))))) :
    LX9_comesBid_13 l P v1 v2 v3 v4 M :=
(aw_iload d_X9_comesBid_13 rfl 4 rfl
(have z3 := H0.1; have e4 := H0.2; aw_if_le d_X9_comesBid_15 rfl rfl z3 (fun c5 => have e7 := e4.1 c5; (aw_aload_n d_X9_comesBid_85 rfl rfl 0 rfl (by decide)
(aw_getR (k' := 33) (a := 0) (b := 0) (j := 0) d_X9_comesBid_86 rfl fl9_29 rfl zj0 ⟨by decide, fun _ => by decide⟩
(aw_iload d_X9_comesBid_89 rfl 4 rfl
(aw_iload_n d_X9_comesBid_91 rfl rfl 3 rfl
(have z9 := e7.1; have e11 := e7.2 _ rfl; aw_iast d_X9_comesBid_92 rfl za33 z9
(aw_aload_n d_X9_comesBid_93 rfl rfl 0 rfl (by decide)
(aw_getR (k' := 31) (a := 0) (b := 0) (j := 0) d_X9_comesBid_94 rfl fl9_23 rfl zj0 ⟨by decide, fun _ => by decide⟩
(aw_iload d_X9_comesBid_97 rfl 4 rfl
(aw_iload_n d_X9_comesBid_99 rfl rfl 1 rfl
(have e13 := e11 _ rfl; aw_iast d_X9_comesBid_100 rfl za31 z9
(aw_aload_n d_X9_comesBid_101 rfl rfl 0 rfl (by decide)
(aw_getR (k' := 32) (a := 0) (b := 0) (j := 0) d_X9_comesBid_102 rfl fl9_26 rfl zj0 ⟨by decide, fun _ => by decide⟩
(aw_iload d_X9_comesBid_105 rfl 4 rfl
(aw_iload_n d_X9_comesBid_107 rfl rfl 2 rfl
(have e15 := e13 _ rfl; aw_iast d_X9_comesBid_108 rfl za32 z9
(aw_aload_n d_X9_comesBid_109 rfl rfl 0 rfl (by decide)
(aw_dup d_X9_comesBid_110 rfl rfl
(aw_getI (kc := 11) d_X9_comesBid_111 rfl fl9_113 rfl rfl
(aw_iconst d_X9_comesBid_114 rfl
(aw_iadd d_X9_comesBid_115 rfl
(have e17 := e15 _ rfl; aw_put (kc := 11) d_X9_comesBid_116 rfl fp9_113 rfl rfl rfl rfl
(aw_rv d_X9_comesBid_119 rfl e17))))))))))))))))))))))) (fun c6 => have e8 := e4.2 c6; (aw_aload_n d_X9_comesBid_18 rfl rfl 0 rfl (by decide)
(aw_getR (k' := 33) (a := 0) (b := 0) (j := 0) d_X9_comesBid_19 rfl fl9_29 rfl zj0 ⟨by decide, fun _ => by decide⟩
(aw_iload d_X9_comesBid_22 rfl 4 rfl
(aw_iconst d_X9_comesBid_24 rfl
(aw_isub d_X9_comesBid_25 rfl
(have z18 := e8.1; have e19 := e8.2; (aw_iald d_X9_comesBid_26 rfl za33 z18
(aw_iload_n d_X9_comesBid_27 rfl rfl 3 rfl
(have z20 := e19.1; have z21 := e19.2.1; have e22 := e19.2.2; aw_icmp_ge d_X9_comesBid_28 rfl rfl z20 z21 (fun c23 => have e25 := e22.1 c23; (aw_aload_n d_X9_comesBid_85 rfl rfl 0 rfl (by decide)
(aw_getR (k' := 33) (a := 0) (b := 0) (j := 0) d_X9_comesBid_86 rfl fl9_29 rfl zj0 ⟨by decide, fun _ => by decide⟩
(aw_iload d_X9_comesBid_89 rfl 4 rfl
(aw_iload_n d_X9_comesBid_91 rfl rfl 3 rfl
(have z27 := e25.1; have e29 := e25.2 _ rfl; aw_iast d_X9_comesBid_92 rfl za33 z27
(aw_aload_n d_X9_comesBid_93 rfl rfl 0 rfl (by decide)
(aw_getR (k' := 31) (a := 0) (b := 0) (j := 0) d_X9_comesBid_94 rfl fl9_23 rfl zj0 ⟨by decide, fun _ => by decide⟩
(aw_iload d_X9_comesBid_97 rfl 4 rfl
(aw_iload_n d_X9_comesBid_99 rfl rfl 1 rfl
(have e31 := e29 _ rfl; aw_iast d_X9_comesBid_100 rfl za31 z27
(aw_aload_n d_X9_comesBid_101 rfl rfl 0 rfl (by decide)
(aw_getR (k' := 32) (a := 0) (b := 0) (j := 0) d_X9_comesBid_102 rfl fl9_26 rfl zj0 ⟨by decide, fun _ => by decide⟩
(aw_iload d_X9_comesBid_105 rfl 4 rfl
(aw_iload_n d_X9_comesBid_107 rfl rfl 2 rfl
(have e33 := e31 _ rfl; aw_iast d_X9_comesBid_108 rfl za32 z27
(aw_aload_n d_X9_comesBid_109 rfl rfl 0 rfl (by decide)
(aw_dup d_X9_comesBid_110 rfl rfl
(aw_getI (kc := 11) d_X9_comesBid_111 rfl fl9_113 rfl rfl
(aw_iconst d_X9_comesBid_114 rfl
(aw_iadd d_X9_comesBid_115 rfl
(have e35 := e33 _ rfl; aw_put (kc := 11) d_X9_comesBid_116 rfl fp9_113 rfl rfl rfl rfl
(aw_rv d_X9_comesBid_119 rfl e35))))))))))))))))))))))) (fun c24 => have e26 := e22.2 c24; (aw_aload_n d_X9_comesBid_31 rfl rfl 0 rfl (by decide)
(aw_getR (k' := 33) (a := 0) (b := 0) (j := 0) d_X9_comesBid_32 rfl fl9_29 rfl zj0 ⟨by decide, fun _ => by decide⟩
(aw_iload d_X9_comesBid_35 rfl 4 rfl
(aw_aload_n d_X9_comesBid_37 rfl rfl 0 rfl (by decide)
(aw_getR (k' := 33) (a := 0) (b := 0) (j := 0) d_X9_comesBid_38 rfl fl9_29 rfl zj0 ⟨by decide, fun _ => by decide⟩
(aw_iload d_X9_comesBid_41 rfl 4 rfl
(aw_iconst d_X9_comesBid_43 rfl
(aw_isub d_X9_comesBid_44 rfl
(aw_iald d_X9_comesBid_45 rfl za33 z18
(have z36 := e26.1; have e38 := e26.2 _ rfl; aw_iast d_X9_comesBid_46 rfl za33 z36
(aw_aload_n d_X9_comesBid_47 rfl rfl 0 rfl (by decide)
(aw_getR (k' := 31) (a := 0) (b := 0) (j := 0) d_X9_comesBid_48 rfl fl9_23 rfl zj0 ⟨by decide, fun _ => by decide⟩
(aw_iload d_X9_comesBid_51 rfl 4 rfl
(aw_aload_n d_X9_comesBid_53 rfl rfl 0 rfl (by decide)
(aw_getR (k' := 31) (a := 0) (b := 0) (j := 0) d_X9_comesBid_54 rfl fl9_23 rfl zj0 ⟨by decide, fun _ => by decide⟩
(aw_iload d_X9_comesBid_57 rfl 4 rfl
(aw_iconst d_X9_comesBid_59 rfl
(aw_isub d_X9_comesBid_60 rfl
(aw_iald d_X9_comesBid_61 rfl za31 z18
(have e40 := e38 _ rfl; aw_iast d_X9_comesBid_62 rfl za31 z36
(aw_aload_n d_X9_comesBid_63 rfl rfl 0 rfl (by decide)
(aw_getR (k' := 32) (a := 0) (b := 0) (j := 0) d_X9_comesBid_64 rfl fl9_26 rfl zj0 ⟨by decide, fun _ => by decide⟩
(aw_iload d_X9_comesBid_67 rfl 4 rfl
(aw_aload_n d_X9_comesBid_69 rfl rfl 0 rfl (by decide)
(aw_getR (k' := 32) (a := 0) (b := 0) (j := 0) d_X9_comesBid_70 rfl fl9_26 rfl zj0 ⟨by decide, fun _ => by decide⟩
(aw_iload d_X9_comesBid_73 rfl 4 rfl
(aw_iconst d_X9_comesBid_75 rfl
(aw_isub d_X9_comesBid_76 rfl
(aw_iald d_X9_comesBid_77 rfl za32 z18
(have e42 := e40 _ rfl; aw_iast d_X9_comesBid_78 rfl za32 z36
(aw_iinc (lv' := [(4, zi (v4 - 1)), (0, zr 9 0), (1, zi v1), (2, zi v2), (3, zi v3)]) (y := (v4 - 1)) d_X9_comesBid_79 rfl 4 rfl (by decide) rfl rfl
(aw_goto d_X9_comesBid_82 rfl
(aw_sub [1, 2, 3, 4, 0] rfl e42))))))))))))))))))))))))))))))))))))))))))))))
theorem vX9_comesBid {l : Launch} {P : zM → Prop} {v1 : Int} {v2 : Int} {M : zM}
    (H0 : (((0 ≤ v1 ∧ v1 < 20) ∧ (0 ≤ v2 ∧ v2 < 4) ∧ zI (M 27 0 (9 * v1 + (3 + v2)) + M 9 0 7)) ∧ LX9_comesBid_13 l P v1 v2 (msaid M v1 v2) (M 9 0 11) M)) :
    CV l m_X9_comesBid [zr 9 0, zi v1, zi v2] M P :=
(aw_aload_n d_X9_comesBid_0 rfl rfl 0 rfl (by decide)
(aw_iload_n d_X9_comesBid_1 rfl rfl 1 rfl
(aw_iload_n d_X9_comesBid_2 rfl rfl 2 rfl
(have z1 := H0.1; have e2 := H0.2; (aw_VI (As := [zi v1, zi v2]) (st := []) d_X9_comesBid_3 rfl cv9_110 ⟨Nat.le_of_ble_eq_true rfl, Nat.le_of_ble_eq_true rfl⟩ rfl rfl (Nat.le_of_ble_eq_true rfl) (Nat.le_of_ble_eq_true rfl) (s_X9_said z1) (fun _ _ hq => aw_eqs hq
(aw_istore_n (lv' := [(3, zi (msaid M v1 v2)), (0, zr 9 0), (1, zi v1), (2, zi v2)]) d_X9_comesBid_6 rfl rfl (by decide) rfl
(aw_aload_n d_X9_comesBid_7 rfl rfl 1 rfl (by decide)
(aw_getI (kc := 11) d_X9_comesBid_8 rfl fl9_113 rfl rfl
(aw_istore (lv' := [(4, zi (M 9 0 11)), (3, zi (msaid M v1 v2)), (0, zr 9 0), (1, zi v1), (2, zi v2)]) d_X9_comesBid_11 rfl (by decide) rfl
(aw_sub [2, 3, 4, 1, 0] rfl e2)))))))))))
theorem c_X9_comesBid {R : List Int} {P : Int → Prop} {x t u : Int} (h : isRow R P) (r : mRB M  R) (hx : ∀ y ∈ R, y % 80 < x % 80) (hxr : 0 ≤ x ∧ x < 800000) (hR : ∀ y ∈ R, 0 ≤ y ∧ y < 800000) (hlen : R.length < 80)
    (hp : (0 ≤ t ∧ t < 20) ∧ (0 ≤ u ∧ u < 4) ∧ zI (M 27 0 (9 * t + (3 + u)) + M 9 0 7))  (e1 : ktr x = t) (e2 : kun x = u) (e3 : kbv x = msaid M t u) :
    CV l m_X9_comesBid [zr 9 0, zi t, zi u] M (fun M' => (∀ k i, k ≠ 9 → ¬ (31 ≤ k ∧ k ≤ 33) → M' k i = M k i) ∧ (∀ i j, ¬ (i = 0 ∧ j = 11) → M' 9 i j = M 9 i j) ∧ ∃ R', isRow R' (fun y => P y ∨ y = x) ∧ R'.length = R.length + 1 ∧ mRB M'  R') := by
  have fin : ∀ (p : Nat) (M' M1 M2 M3 M4 : zM), p ≤ R.length → (∀ k i, ¬ (31 ≤ k ∧ k ≤ 33) → M' k i = M k i) → (∀ j : Int, 0 ≤ j ∧ j < p → M' 33 0 j = kbv (R.getD j.toNat 0) ∧ M' 31 0 j = ktr (R.getD j.toNat 0) ∧ M' 32 0 j = kun (R.getD j.toNat 0)) →
      (∀ j : Int, p < j ∧ j ≤ (R.length : Int) → M' 33 0 j = kbv (R.getD (j - 1).toNat 0) ∧ M' 31 0 j = ktr (R.getD (j - 1).toNat 0) ∧ M' 32 0 j = kun (R.getD (j - 1).toNat 0)) →
      (∀ j : Nat, p ≤ j → j < R.length → x < R.getD j 0) → (∀ j : Nat, j < p → R.getD j 0 < x) → M1 = zu M' 33 0 p (kbv x) → M2 = zu M1 31 0 p t → M3 = zu M2 32 0 p u → M4 = zu M3 9 0 11 (M3 9 0 11 + 1) →
      (∀ k i, k ≠ 9 → ¬ (31 ≤ k ∧ k ≤ 33) → M4 k i = M k i) ∧ (∀ i j, ¬ (i = 0 ∧ j = 11) → M4 9 i j = M 9 i j) ∧ ∃ R', isRow R' (fun y => P y ∨ y = x) ∧ R'.length = R.length + 1 ∧ mRB M4  R' := by
    intro p M' M1 M2 M3 M4 hp' fr h1 h2 h3 h4 q1 q2 q3 q4
    have g9 : M3 9 = M 9 := by funext i; rw [q3, zu_k (by decide), q2, zu_k (by decide), q1, zu_k (by decide), fr _ _ (by decide)]
    refine ⟨fun k i hk hk2 => ?_, fun i j hij => ?_, _, row_ins h hp' h4 h3, ins_len hp', ?_, fun j hj => ?_⟩
    · rw [q4, zu_k hk, q3, zu_k (by omega), q2, zu_k (by omega), q1, zu_k (by omega), fr _ _ hk2]
    · rw [q4, g9]
      unfold zu
      rw [if_neg (by rintro ⟨-, a, b⟩; exact hij ⟨a, b⟩), g9]
    · rw [q4, zu_at, if_pos rfl, g9, r.1, ins_len hp']
      omega
    · rw [ins_len hp'] at hj
      have ev : (R.take p ++ x :: R.drop p).getD j.toNat 0 = if j < p then R.getD j.toNat 0 else if j = p then x else R.getD (j - 1).toNat 0 := by
        rw [List.getD_eq_getElem?_getD, ins_at hp']
        by_cases c : j < p
        · rw [if_pos (by omega), if_pos c, List.getD_eq_getElem?_getD]
        · rw [if_neg (by omega), if_neg c]
          by_cases c2 : j = p
          · rw [if_pos (by omega), if_pos c2]; rfl
          · rw [if_neg (by omega), if_neg c2, List.getD_eq_getElem?_getD, show (j - 1).toNat = j.toNat - 1 by omega]
      unfold gB
      rw [ev, q4, zu_k (by decide), zu_k (by decide), zu_k (by decide), q3, zu_k (by decide), zu_k (by decide), zu_at, q2, zu_k (by decide), zu_at, zu_k (by decide), q1, zu_at, zu_k (by decide), zu_k (by decide)]
      by_cases c : j = p
      · subst c
        rw [if_pos rfl, if_pos rfl, if_pos rfl, if_neg (by omega), if_pos rfl]
        exact ⟨rfl, e1.symm, e2.symm⟩
      · by_cases c2 : j < p
        · simp only [if_neg c, if_pos c2]; exact h1 j ⟨hj.1, c2⟩
        · simp only [if_neg c2, if_neg c]; exact h2 j (by omega)
  have loop : ∀ (p : Nat) (M' : zM), p ≤ R.length → (∀ k i, ¬ (31 ≤ k ∧ k ≤ 33) → M' k i = M k i) → (∀ j : Int, 0 ≤ j ∧ j < p → M' 33 0 j = kbv (R.getD j.toNat 0) ∧ M' 31 0 j = ktr (R.getD j.toNat 0) ∧ M' 32 0 j = kun (R.getD j.toNat 0)) →
      (∀ j : Int, p < j ∧ j ≤ (R.length : Int) → M' 33 0 j = kbv (R.getD (j - 1).toNat 0) ∧ M' 31 0 j = ktr (R.getD (j - 1).toNat 0) ∧ M' 32 0 j = kun (R.getD (j - 1).toNat 0)) →
      (∀ j : Nat, p ≤ j → j < R.length → x < R.getD j 0) → LX9_comesBid_13 l (fun M' => (∀ k i, k ≠ 9 → ¬ (31 ≤ k ∧ k ≤ 33) → M' k i = M k i) ∧ (∀ i j, ¬ (i = 0 ∧ j = 11) → M' 9 i j = M 9 i j) ∧ ∃ R', isRow R' (fun y => P y ∨ y = x) ∧ R'.length = R.length + 1 ∧ mRB M'  R') t u (kbv x) (p : Int) M' := by
    intro p
    induction p with
    | zero =>
      intro M' hp' fr h1 h2 h3
      refine vX9_comesBid_13 ⟨by omega, fun _ => ⟨by omega, fun M1 q1 M2 q2 M3 q3 M4 q4 => ?_⟩, fun e => by omega⟩
      exact fin 0 M' M1 M2 M3 M4 hp' fr h1 h2 h3 (fun j hj => by omega) q1 q2 q3 q4
    | succ p ih =>
      intro M' hp' fr h1 h2 h3
      have hm : R.getD p 0 ∈ R := by
        have := at_mem (L := R) (j := (p : Int)) (by omega)
        rwa [show ((p : Int)).toNat = p by omega] at this
      have hv := h1 (((p + 1 : Nat) : Int) - 1) (by omega)
      rw [show (((p + 1 : Nat) : Int) - 1).toNat = p by omega] at hv
      have b1 := hR _ hm
      have b2 := hx _ hm
      refine vX9_comesBid_13 ⟨by omega, fun e => by omega, fun _ => ⟨by omega, by rw [hv.1]; unfold kbv; omega, by unfold kbv; omega, fun e => ⟨by omega, fun M1 q1 M2 q2 M3 q3 M4 q4 => ?_⟩, fun e => ⟨by omega, fun M1 q1 M2 q2 M3 q3 => ?_⟩⟩⟩
      · rw [hv.1] at e
        have hlt : R.getD p 0 < x := by unfold kbv at e; omega
        refine fin (p + 1) M' M1 M2 M3 M4 hp' fr h1 h2 h3 (fun j hj => ?_) q1 q2 q3 q4
        by_cases c : j = p
        · subst c; exact hlt
        · have := at_lt h.1 (i := (j : Int)) (j := (p : Int)) (by omega)
          rw [show ((p : Int)).toNat = p by omega, show ((j : Int)).toNat = j by omega] at this
          omega
      · rw [hv.1] at e
        have hlt : x < R.getD p 0 := by unfold kbv at e; omega
        have s2 : M1 31 = M' 31 := by funext i; rw [q1, zu_k (by decide)]
        have s3 : M2 32 = M' 32 := by funext i; rw [q2, zu_k (by decide), q1, zu_k (by decide)]
        rw [s2, hv.2.1] at q2
        rw [s3, hv.2.2] at q3
        rw [hv.1] at q1
        have ep : (((p + 1 : Nat) : Int) - 1) = (p : Int) := by omega
        rw [ep]
        refine ih M3 (by omega) (fun k i hk => by rw [q3, zu_k (by omega), q2, zu_k (by omega), q1, zu_k (by omega), fr _ _ hk]) (fun j hj => ?_) (fun j hj => ?_) (fun j hj1 hj2 => ?_)
        · rw [q3, zu_k (by decide), zu_k (by decide), zu_at, if_neg (by omega), q2, zu_k (by decide), zu_at, if_neg (by omega), zu_k (by decide), q1, zu_at, if_neg (by omega), zu_k (by decide), zu_k (by decide)]
          exact h1 j (by omega)
        · rw [q3, zu_k (by decide), zu_k (by decide), zu_at, q2, zu_k (by decide), zu_at, zu_k (by decide), q1, zu_at, zu_k (by decide), zu_k (by decide)]
          by_cases c : j = ((p + 1 : Nat) : Int)
          · rw [if_pos c, if_pos c, if_pos c, c, ep]
            exact ⟨rfl, rfl, rfl⟩
          · rw [if_neg c, if_neg c, if_neg c]
            exact h2 j (by omega)
        · by_cases c : j = p
          · subst c; exact hlt
          · exact h3 j (by omega) hj2
  refine vX9_comesBid ⟨hp, ?_⟩
  rw [r.1, ← e3]
  exact loop R.length M (Nat.le_refl _) (fun _ _ _ => rfl) (fun j hj => r.2 j (by omega)) (fun j hj => by omega) (fun j h1 h2 => by omega)

def LX9_comesAsk_22 (l : Launch) (P : zM → Prop) (v1 : Int) (v2 : Int) (v3 : Int) (v4 : Int) (M : zM) : Prop := AW l m_X9_comesAsk (zTv m_X9_comesAsk P) 22 [(0, zr 9 0), (1, zi v1), (2, zi v2), (3, zi v3), (4, zi v4)] [] M
theorem vX9_comesAsk_22 {l : Launch} {P : zM → Prop} {v1 : Int} {v2 : Int} {v3 : Int} {v4 : Int} {M : zM}
    (H0 : (zI v4 ∧ (v4 ≤ 0 → ((0 ≤ v4 ∧ v4 < 80) ∧ ∀ M10 : zM, M10 = zu M 36 0 v4 v3 → (∀ M12 : zM, M12 = zu M10 34 0 v4 v1 → (∀ M14 : zM, M14 = zu M12 35 0 v4 v2 → (∀ M16 : zM, M16 = zu M14 9 0 15 ((M14 9 0 15) + 1) → P M16))))) ∧ (0 < v4 → ((0 ≤ (v4 - 1) ∧ (v4 - 1) < 80) ∧ (zI (M 36 0 (v4 - 1)) ∧ zI v3 ∧ ((M 36 0 (v4 - 1)) ≤ v3 → ((0 ≤ v4 ∧ v4 < 80) ∧ ∀ M28 : zM, M28 = zu M 36 0 v4 v3 → (∀ M30 : zM, M30 = zu M28 34 0 v4 v1 → (∀ M32 : zM, M32 = zu M30 35 0 v4 v2 → (∀ M34 : zM, M34 = zu M32 9 0 15 ((M32 9 0 15) + 1) → P M34))))) ∧ (v3 < (M 36 0 (v4 - 1)) → ((0 ≤ v4 ∧ v4 < 80) ∧ ∀ M37 : zM, M37 = zu M 36 0 v4 (M 36 0 (v4 - 1)) → (∀ M39 : zM, M39 = zu M37 34 0 v4 (M37 34 0 (v4 - 1)) → (∀ M41 : zM, M41 = zu M39 35 0 v4 (M39 35 0 (v4 - 1)) → LX9_comesAsk_22 l P v1 v2 v3 (v4 - 1) M41))))))))) :
    LX9_comesAsk_22 l P v1 v2 v3 v4 M :=
(aw_iload d_X9_comesAsk_22 rfl 4 rfl
(have z3 := H0.1; have e4 := H0.2; aw_if_le d_X9_comesAsk_24 rfl rfl z3 (fun c5 => have e7 := e4.1 c5; (aw_aload_n d_X9_comesAsk_94 rfl rfl 0 rfl (by decide)
(aw_getR (k' := 36) (a := 0) (b := 0) (j := 0) d_X9_comesAsk_95 rfl fl9_38 rfl zj0 ⟨by decide, fun _ => by decide⟩
(aw_iload d_X9_comesAsk_98 rfl 4 rfl
(aw_iload_n d_X9_comesAsk_100 rfl rfl 3 rfl
(have z9 := e7.1; have e11 := e7.2 _ rfl; aw_iast d_X9_comesAsk_101 rfl za36 z9
(aw_aload_n d_X9_comesAsk_102 rfl rfl 0 rfl (by decide)
(aw_getR (k' := 34) (a := 0) (b := 0) (j := 0) d_X9_comesAsk_103 rfl fl9_32 rfl zj0 ⟨by decide, fun _ => by decide⟩
(aw_iload d_X9_comesAsk_106 rfl 4 rfl
(aw_iload_n d_X9_comesAsk_108 rfl rfl 1 rfl
(have e13 := e11 _ rfl; aw_iast d_X9_comesAsk_109 rfl za34 z9
(aw_aload_n d_X9_comesAsk_110 rfl rfl 0 rfl (by decide)
(aw_getR (k' := 35) (a := 0) (b := 0) (j := 0) d_X9_comesAsk_111 rfl fl9_35 rfl zj0 ⟨by decide, fun _ => by decide⟩
(aw_iload d_X9_comesAsk_114 rfl 4 rfl
(aw_iload_n d_X9_comesAsk_116 rfl rfl 2 rfl
(have e15 := e13 _ rfl; aw_iast d_X9_comesAsk_117 rfl za35 z9
(aw_aload_n d_X9_comesAsk_118 rfl rfl 0 rfl (by decide)
(aw_dup d_X9_comesAsk_119 rfl rfl
(aw_getI (kc := 15) d_X9_comesAsk_120 rfl fl9_116 rfl rfl
(aw_iconst d_X9_comesAsk_123 rfl
(aw_iadd d_X9_comesAsk_124 rfl
(have e17 := e15 _ rfl; aw_put (kc := 15) d_X9_comesAsk_125 rfl fp9_116 rfl rfl rfl rfl
(aw_rv d_X9_comesAsk_128 rfl e17))))))))))))))))))))))) (fun c6 => have e8 := e4.2 c6; (aw_aload_n d_X9_comesAsk_27 rfl rfl 0 rfl (by decide)
(aw_getR (k' := 36) (a := 0) (b := 0) (j := 0) d_X9_comesAsk_28 rfl fl9_38 rfl zj0 ⟨by decide, fun _ => by decide⟩
(aw_iload d_X9_comesAsk_31 rfl 4 rfl
(aw_iconst d_X9_comesAsk_33 rfl
(aw_isub d_X9_comesAsk_34 rfl
(have z18 := e8.1; have e19 := e8.2; (aw_iald d_X9_comesAsk_35 rfl za36 z18
(aw_iload_n d_X9_comesAsk_36 rfl rfl 3 rfl
(have z20 := e19.1; have z21 := e19.2.1; have e22 := e19.2.2; aw_icmp_le d_X9_comesAsk_37 rfl rfl z20 z21 (fun c23 => have e25 := e22.1 c23; (aw_aload_n d_X9_comesAsk_94 rfl rfl 0 rfl (by decide)
(aw_getR (k' := 36) (a := 0) (b := 0) (j := 0) d_X9_comesAsk_95 rfl fl9_38 rfl zj0 ⟨by decide, fun _ => by decide⟩
(aw_iload d_X9_comesAsk_98 rfl 4 rfl
(aw_iload_n d_X9_comesAsk_100 rfl rfl 3 rfl
(have z27 := e25.1; have e29 := e25.2 _ rfl; aw_iast d_X9_comesAsk_101 rfl za36 z27
(aw_aload_n d_X9_comesAsk_102 rfl rfl 0 rfl (by decide)
(aw_getR (k' := 34) (a := 0) (b := 0) (j := 0) d_X9_comesAsk_103 rfl fl9_32 rfl zj0 ⟨by decide, fun _ => by decide⟩
(aw_iload d_X9_comesAsk_106 rfl 4 rfl
(aw_iload_n d_X9_comesAsk_108 rfl rfl 1 rfl
(have e31 := e29 _ rfl; aw_iast d_X9_comesAsk_109 rfl za34 z27
(aw_aload_n d_X9_comesAsk_110 rfl rfl 0 rfl (by decide)
(aw_getR (k' := 35) (a := 0) (b := 0) (j := 0) d_X9_comesAsk_111 rfl fl9_35 rfl zj0 ⟨by decide, fun _ => by decide⟩
(aw_iload d_X9_comesAsk_114 rfl 4 rfl
(aw_iload_n d_X9_comesAsk_116 rfl rfl 2 rfl
(have e33 := e31 _ rfl; aw_iast d_X9_comesAsk_117 rfl za35 z27
(aw_aload_n d_X9_comesAsk_118 rfl rfl 0 rfl (by decide)
(aw_dup d_X9_comesAsk_119 rfl rfl
(aw_getI (kc := 15) d_X9_comesAsk_120 rfl fl9_116 rfl rfl
(aw_iconst d_X9_comesAsk_123 rfl
(aw_iadd d_X9_comesAsk_124 rfl
(have e35 := e33 _ rfl; aw_put (kc := 15) d_X9_comesAsk_125 rfl fp9_116 rfl rfl rfl rfl
(aw_rv d_X9_comesAsk_128 rfl e35))))))))))))))))))))))) (fun c24 => have e26 := e22.2 c24; (aw_aload_n d_X9_comesAsk_40 rfl rfl 0 rfl (by decide)
(aw_getR (k' := 36) (a := 0) (b := 0) (j := 0) d_X9_comesAsk_41 rfl fl9_38 rfl zj0 ⟨by decide, fun _ => by decide⟩
(aw_iload d_X9_comesAsk_44 rfl 4 rfl
(aw_aload_n d_X9_comesAsk_46 rfl rfl 0 rfl (by decide)
(aw_getR (k' := 36) (a := 0) (b := 0) (j := 0) d_X9_comesAsk_47 rfl fl9_38 rfl zj0 ⟨by decide, fun _ => by decide⟩
(aw_iload d_X9_comesAsk_50 rfl 4 rfl
(aw_iconst d_X9_comesAsk_52 rfl
(aw_isub d_X9_comesAsk_53 rfl
(aw_iald d_X9_comesAsk_54 rfl za36 z18
(have z36 := e26.1; have e38 := e26.2 _ rfl; aw_iast d_X9_comesAsk_55 rfl za36 z36
(aw_aload_n d_X9_comesAsk_56 rfl rfl 0 rfl (by decide)
(aw_getR (k' := 34) (a := 0) (b := 0) (j := 0) d_X9_comesAsk_57 rfl fl9_32 rfl zj0 ⟨by decide, fun _ => by decide⟩
(aw_iload d_X9_comesAsk_60 rfl 4 rfl
(aw_aload_n d_X9_comesAsk_62 rfl rfl 0 rfl (by decide)
(aw_getR (k' := 34) (a := 0) (b := 0) (j := 0) d_X9_comesAsk_63 rfl fl9_32 rfl zj0 ⟨by decide, fun _ => by decide⟩
(aw_iload d_X9_comesAsk_66 rfl 4 rfl
(aw_iconst d_X9_comesAsk_68 rfl
(aw_isub d_X9_comesAsk_69 rfl
(aw_iald d_X9_comesAsk_70 rfl za34 z18
(have e40 := e38 _ rfl; aw_iast d_X9_comesAsk_71 rfl za34 z36
(aw_aload_n d_X9_comesAsk_72 rfl rfl 0 rfl (by decide)
(aw_getR (k' := 35) (a := 0) (b := 0) (j := 0) d_X9_comesAsk_73 rfl fl9_35 rfl zj0 ⟨by decide, fun _ => by decide⟩
(aw_iload d_X9_comesAsk_76 rfl 4 rfl
(aw_aload_n d_X9_comesAsk_78 rfl rfl 0 rfl (by decide)
(aw_getR (k' := 35) (a := 0) (b := 0) (j := 0) d_X9_comesAsk_79 rfl fl9_35 rfl zj0 ⟨by decide, fun _ => by decide⟩
(aw_iload d_X9_comesAsk_82 rfl 4 rfl
(aw_iconst d_X9_comesAsk_84 rfl
(aw_isub d_X9_comesAsk_85 rfl
(aw_iald d_X9_comesAsk_86 rfl za35 z18
(have e42 := e40 _ rfl; aw_iast d_X9_comesAsk_87 rfl za35 z36
(aw_iinc (lv' := [(4, zi (v4 - 1)), (0, zr 9 0), (1, zi v1), (2, zi v2), (3, zi v3)]) (y := (v4 - 1)) d_X9_comesAsk_88 rfl 4 rfl (by decide) rfl rfl
(aw_goto d_X9_comesAsk_91 rfl
(aw_sub [1, 2, 3, 4, 0] rfl e42))))))))))))))))))))))))))))))))))))))))))))))
theorem vX9_comesAsk {l : Launch} {P : zM → Prop} {v1 : Int} {v2 : Int} {M : zM}
    (H0 : (((0 ≤ v1 ∧ v1 < 20) ∧ (0 ≤ v2 ∧ v2 < 4) ∧ zI (M 27 0 (9 * v1 + (3 + v2)) + M 9 0 7)) ∧ LX9_comesAsk_22 l P v1 v2 ((msaid M v1 v2) + (M 27 0 181)) (M 9 0 15) M)) :
    CV l m_X9_comesAsk [zr 9 0, zi v1, zi v2] M P :=
(aw_aload_n d_X9_comesAsk_0 rfl rfl 0 rfl (by decide)
(aw_iload_n d_X9_comesAsk_1 rfl rfl 1 rfl
(aw_iload_n d_X9_comesAsk_2 rfl rfl 2 rfl
(have z1 := H0.1; have e2 := H0.2; (aw_VI (As := [zi v1, zi v2]) (st := []) d_X9_comesAsk_3 rfl cv9_110 ⟨Nat.le_of_ble_eq_true rfl, Nat.le_of_ble_eq_true rfl⟩ rfl rfl (Nat.le_of_ble_eq_true rfl) (Nat.le_of_ble_eq_true rfl) (s_X9_said z1) (fun _ _ hq => aw_eqs hq
(aw_aload_n d_X9_comesAsk_6 rfl rfl 0 rfl (by decide)
(aw_getR (k' := 27) (a := 0) (b := 0) (j := 0) d_X9_comesAsk_7 rfl fl9_7 rfl zj0 ⟨by decide, fun _ => by decide⟩
(aw_sipush d_X9_comesAsk_10 rfl (by decide)
(aw_iald d_X9_comesAsk_13 rfl za27 (by decide)
(aw_iadd d_X9_comesAsk_14 rfl
(aw_istore_n (lv' := [(3, zi ((msaid M v1 v2) + (M 27 0 181))), (0, zr 9 0), (1, zi v1), (2, zi v2)]) d_X9_comesAsk_15 rfl rfl (by decide) rfl
(aw_aload_n d_X9_comesAsk_16 rfl rfl 1 rfl (by decide)
(aw_getI (kc := 15) d_X9_comesAsk_17 rfl fl9_116 rfl rfl
(aw_istore (lv' := [(4, zi (M 9 0 15)), (3, zi ((msaid M v1 v2) + (M 27 0 181))), (0, zr 9 0), (1, zi v1), (2, zi v2)]) d_X9_comesAsk_20 rfl (by decide) rfl
(aw_sub [2, 3, 4, 1, 0] rfl e2))))))))))))))))
theorem c_X9_comesAsk {f : Int} {R : List Int} {P : Int → Prop} {x t u : Int} (h : isRow R P) (r : mRA M f R) (hx : ∀ y ∈ R, y % 80 < x % 80) (hxr : 0 ≤ x ∧ x < 800000) (hR : ∀ y ∈ R, 0 ≤ y ∧ y < 800000) (hlen : R.length < 80)
    (hp : (0 ≤ t ∧ t < 20) ∧ (0 ≤ u ∧ u < 4) ∧ zI (M 27 0 (9 * t + (3 + u)) + M 9 0 7)) (hf : 0 ≤ f ∧ f ≤ 500) (e1 : ktr x = t) (e2 : kun x = u) (e3 : kav f x = msaid M t u + M 27 0 181) :
    CV l m_X9_comesAsk [zr 9 0, zi t, zi u] M (fun M' => (∀ k i, k ≠ 9 → ¬ (34 ≤ k ∧ k ≤ 36) → M' k i = M k i) ∧ (∀ i j, ¬ (i = 0 ∧ j = 15) → M' 9 i j = M 9 i j) ∧ ∃ R', isRow R' (fun y => P y ∨ y = x) ∧ R'.length = R.length + 1 ∧ mRA M' f R') := by
  have fin : ∀ (p : Nat) (M' M1 M2 M3 M4 : zM), p ≤ R.length → (∀ k i, ¬ (34 ≤ k ∧ k ≤ 36) → M' k i = M k i) → (∀ j : Int, 0 ≤ j ∧ j < p → M' 36 0 j = kav f (R.getD j.toNat 0) ∧ M' 34 0 j = ktr (R.getD j.toNat 0) ∧ M' 35 0 j = kun (R.getD j.toNat 0)) →
      (∀ j : Int, p < j ∧ j ≤ (R.length : Int) → M' 36 0 j = kav f (R.getD (j - 1).toNat 0) ∧ M' 34 0 j = ktr (R.getD (j - 1).toNat 0) ∧ M' 35 0 j = kun (R.getD (j - 1).toNat 0)) →
      (∀ j : Nat, p ≤ j → j < R.length → x < R.getD j 0) → (∀ j : Nat, j < p → R.getD j 0 < x) → M1 = zu M' 36 0 p (kav f x) → M2 = zu M1 34 0 p t → M3 = zu M2 35 0 p u → M4 = zu M3 9 0 15 (M3 9 0 15 + 1) →
      (∀ k i, k ≠ 9 → ¬ (34 ≤ k ∧ k ≤ 36) → M4 k i = M k i) ∧ (∀ i j, ¬ (i = 0 ∧ j = 15) → M4 9 i j = M 9 i j) ∧ ∃ R', isRow R' (fun y => P y ∨ y = x) ∧ R'.length = R.length + 1 ∧ mRA M4 f R' := by
    intro p M' M1 M2 M3 M4 hp' fr h1 h2 h3 h4 q1 q2 q3 q4
    have g9 : M3 9 = M 9 := by funext i; rw [q3, zu_k (by decide), q2, zu_k (by decide), q1, zu_k (by decide), fr _ _ (by decide)]
    refine ⟨fun k i hk hk2 => ?_, fun i j hij => ?_, _, row_ins h hp' h4 h3, ins_len hp', ?_, fun j hj => ?_⟩
    · rw [q4, zu_k hk, q3, zu_k (by omega), q2, zu_k (by omega), q1, zu_k (by omega), fr _ _ hk2]
    · rw [q4, g9]
      unfold zu
      rw [if_neg (by rintro ⟨-, a, b⟩; exact hij ⟨a, b⟩), g9]
    · rw [q4, zu_at, if_pos rfl, g9, r.1, ins_len hp']
      omega
    · rw [ins_len hp'] at hj
      have ev : (R.take p ++ x :: R.drop p).getD j.toNat 0 = if j < p then R.getD j.toNat 0 else if j = p then x else R.getD (j - 1).toNat 0 := by
        rw [List.getD_eq_getElem?_getD, ins_at hp']
        by_cases c : j < p
        · rw [if_pos (by omega), if_pos c, List.getD_eq_getElem?_getD]
        · rw [if_neg (by omega), if_neg c]
          by_cases c2 : j = p
          · rw [if_pos (by omega), if_pos c2]; rfl
          · rw [if_neg (by omega), if_neg c2, List.getD_eq_getElem?_getD, show (j - 1).toNat = j.toNat - 1 by omega]
      unfold gA
      rw [ev, q4, zu_k (by decide), zu_k (by decide), zu_k (by decide), q3, zu_k (by decide), zu_k (by decide), zu_at, q2, zu_k (by decide), zu_at, zu_k (by decide), q1, zu_at, zu_k (by decide), zu_k (by decide)]
      by_cases c : j = p
      · subst c
        rw [if_pos rfl, if_pos rfl, if_pos rfl, if_neg (by omega), if_pos rfl]
        exact ⟨rfl, e1.symm, e2.symm⟩
      · by_cases c2 : j < p
        · simp only [if_neg c, if_pos c2]; exact h1 j ⟨hj.1, c2⟩
        · simp only [if_neg c2, if_neg c]; exact h2 j (by omega)
  have loop : ∀ (p : Nat) (M' : zM), p ≤ R.length → (∀ k i, ¬ (34 ≤ k ∧ k ≤ 36) → M' k i = M k i) → (∀ j : Int, 0 ≤ j ∧ j < p → M' 36 0 j = kav f (R.getD j.toNat 0) ∧ M' 34 0 j = ktr (R.getD j.toNat 0) ∧ M' 35 0 j = kun (R.getD j.toNat 0)) →
      (∀ j : Int, p < j ∧ j ≤ (R.length : Int) → M' 36 0 j = kav f (R.getD (j - 1).toNat 0) ∧ M' 34 0 j = ktr (R.getD (j - 1).toNat 0) ∧ M' 35 0 j = kun (R.getD (j - 1).toNat 0)) →
      (∀ j : Nat, p ≤ j → j < R.length → x < R.getD j 0) → LX9_comesAsk_22 l (fun M' => (∀ k i, k ≠ 9 → ¬ (34 ≤ k ∧ k ≤ 36) → M' k i = M k i) ∧ (∀ i j, ¬ (i = 0 ∧ j = 15) → M' 9 i j = M 9 i j) ∧ ∃ R', isRow R' (fun y => P y ∨ y = x) ∧ R'.length = R.length + 1 ∧ mRA M' f R') t u (kav f x) (p : Int) M' := by
    intro p
    induction p with
    | zero =>
      intro M' hp' fr h1 h2 h3
      refine vX9_comesAsk_22 ⟨by omega, fun _ => ⟨by omega, fun M1 q1 M2 q2 M3 q3 M4 q4 => ?_⟩, fun e => by omega⟩
      exact fin 0 M' M1 M2 M3 M4 hp' fr h1 h2 h3 (fun j hj => by omega) q1 q2 q3 q4
    | succ p ih =>
      intro M' hp' fr h1 h2 h3
      have hm : R.getD p 0 ∈ R := by
        have := at_mem (L := R) (j := (p : Int)) (by omega)
        rwa [show ((p : Int)).toNat = p by omega] at this
      have hv := h1 (((p + 1 : Nat) : Int) - 1) (by omega)
      rw [show (((p + 1 : Nat) : Int) - 1).toNat = p by omega] at hv
      have b1 := hR _ hm
      have b2 := hx _ hm
      refine vX9_comesAsk_22 ⟨by omega, fun e => by omega, fun _ => ⟨by omega, by rw [hv.1]; unfold kav; omega, by unfold kav; omega, fun e => ⟨by omega, fun M1 q1 M2 q2 M3 q3 M4 q4 => ?_⟩, fun e => ⟨by omega, fun M1 q1 M2 q2 M3 q3 => ?_⟩⟩⟩
      · rw [hv.1] at e
        have hlt : R.getD p 0 < x := by unfold kav at e; omega
        refine fin (p + 1) M' M1 M2 M3 M4 hp' fr h1 h2 h3 (fun j hj => ?_) q1 q2 q3 q4
        by_cases c : j = p
        · subst c; exact hlt
        · have := at_lt h.1 (i := (j : Int)) (j := (p : Int)) (by omega)
          rw [show ((p : Int)).toNat = p by omega, show ((j : Int)).toNat = j by omega] at this
          omega
      · rw [hv.1] at e
        have hlt : x < R.getD p 0 := by unfold kav at e; omega
        have s2 : M1 34 = M' 34 := by funext i; rw [q1, zu_k (by decide)]
        have s3 : M2 35 = M' 35 := by funext i; rw [q2, zu_k (by decide), q1, zu_k (by decide)]
        rw [s2, hv.2.1] at q2
        rw [s3, hv.2.2] at q3
        rw [hv.1] at q1
        have ep : (((p + 1 : Nat) : Int) - 1) = (p : Int) := by omega
        rw [ep]
        refine ih M3 (by omega) (fun k i hk => by rw [q3, zu_k (by omega), q2, zu_k (by omega), q1, zu_k (by omega), fr _ _ hk]) (fun j hj => ?_) (fun j hj => ?_) (fun j hj1 hj2 => ?_)
        · rw [q3, zu_k (by decide), zu_k (by decide), zu_at, if_neg (by omega), q2, zu_k (by decide), zu_at, if_neg (by omega), zu_k (by decide), q1, zu_at, if_neg (by omega), zu_k (by decide), zu_k (by decide)]
          exact h1 j (by omega)
        · rw [q3, zu_k (by decide), zu_k (by decide), zu_at, q2, zu_k (by decide), zu_at, zu_k (by decide), q1, zu_at, zu_k (by decide), zu_k (by decide)]
          by_cases c : j = ((p + 1 : Nat) : Int)
          · rw [if_pos c, if_pos c, if_pos c, c, ep]
            exact ⟨rfl, rfl, rfl⟩
          · rw [if_neg c, if_neg c, if_neg c]
            exact h2 j (by omega)
        · by_cases c : j = p
          · subst c; exact hlt
          · exact h3 j (by omega) hj2
  refine vX9_comesAsk ⟨hp, ?_⟩
  rw [r.1, ← e3]
  exact loop R.length M (Nat.le_refl _) (fun _ _ _ => rfl) (fun j hj => r.2 j (by omega)) (fun j hj => by omega) (fun j h1 h2 => by omega)
end
