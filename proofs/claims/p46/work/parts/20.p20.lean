/-! ===== the class: a book is filled ===== -/
def rwI (M : zM) (k i : Nat) (L : List Int) : Prop := ∀ j : Int, 0 ≤ j ∧ j < (L.length : Int) → M k i j = L.getD j.toNat 0
def bkR (M : zM) (b : Nat) (B A : List Int) : Prop := M 0 b 2 = B.length ∧ M 0 b 3 = A.length ∧ rwI M 10 b B ∧ rwI M 11 b A
def kBk (b k i : Nat) : Prop := (k = 0 ∨ k = 10 ∨ k = 11) ∧ i = b
theorem rwI_nil {M : zM} {k i : Nat} : rwI M k i [] := fun j h => by simp at h; omega
theorem rwI.of {M M' : zM} {k i : Nat} {L : List Int} (h : rwI M k i L) (e : M' k i = M k i) : rwI M' k i L := fun j hj => by rw [e]; exact h j hj
theorem bkR.of {M M' : zM} {b : Nat} {B A : List Int} (h : bkR M b B A) (e0 : M' 0 b = M 0 b) (e1 : M' 10 b = M 10 b) (e2 : M' 11 b = M 11 b) : bkR M' b B A :=
  ⟨by rw [e0]; exact h.1, by rw [e0]; exact h.2.1, h.2.2.1.of e1, h.2.2.2.of e2⟩
section
variable {l : Launch} {M : zM}
def LX0_insert_14 (l : Launch) (P : Int → zM → Prop) (k0 : Nat) (i0 : Nat) (v1 : Int) (v2 : Int) (v3 : Int) (M : zM) : Prop := AW l m_X0_insert (zTi m_X0_insert P) 14 [(0, zr k0 i0), (1, zi v1), (2, zi v2), (3, zi v3)] [] M
theorem vX0_insert_14 {l : Launch} {P : Int → zM → Prop} {k0 : Nat} {i0 : Nat} {v1 : Int} {v2 : Int} {v3 : Int} {M : zM} (hz_k0 : zar k0 0) (hl_k0 : zlen k0 = 80)
    (H0 : (zI v3 ∧ (v3 ≤ 0 → ((0 ≤ v3 ∧ v3 < 80) ∧ ∀ M18 : zM, M18 = zu M k0 i0 v3 v2 → P (v1 + 1) M18)) ∧ (0 < v3 → ((0 ≤ (v3 - 1) ∧ (v3 - 1) < 80) ∧ (zI (M k0 i0 (v3 - 1)) ∧ zI v2 ∧ ((M k0 i0 (v3 - 1)) ≤ v2 → ((0 ≤ v3 ∧ v3 < 80) ∧ ∀ M30 : zM, M30 = zu M k0 i0 v3 v2 → P (v1 + 1) M30)) ∧ (v2 < (M k0 i0 (v3 - 1)) → ((0 ≤ v3 ∧ v3 < 80) ∧ ∀ M33 : zM, M33 = zu M k0 i0 v3 (M k0 i0 (v3 - 1)) → LX0_insert_14 l P k0 i0 v1 v2 (v3 - 1) M33))))))) :
    LX0_insert_14 l P k0 i0 v1 v2 v3 M :=
(aw_iload_n d_X0_insert_14 rfl rfl 3 rfl
(have z11 := H0.1; have e12 := H0.2; aw_if_le d_X0_insert_15 rfl rfl z11 (fun c13 => have e15 := e12.1 c13; (aw_aload_n d_X0_insert_41 rfl rfl 0 rfl (zk_ne hz_k0.1)
(aw_iload_n d_X0_insert_42 rfl rfl 3 rfl
(aw_iload_n d_X0_insert_43 rfl rfl 2 rfl
(have z17 := e15.1; have e19 := e15.2 _ rfl; aw_iast d_X0_insert_44 rfl hz_k0 ⟨z17.1, by rw [hl_k0]; exact z17.2⟩
(aw_iload_n d_X0_insert_45 rfl rfl 1 rfl
(aw_iconst d_X0_insert_46 rfl
(aw_iadd d_X0_insert_47 rfl
(aw_ri d_X0_insert_48 rfl e19))))))))) (fun c14 => have e16 := e12.2 c14; (aw_aload_n d_X0_insert_18 rfl rfl 0 rfl (zk_ne hz_k0.1)
(aw_iload_n d_X0_insert_19 rfl rfl 3 rfl
(aw_iconst d_X0_insert_20 rfl
(aw_isub d_X0_insert_21 rfl
(have z20 := e16.1; have e21 := e16.2; (aw_iald d_X0_insert_22 rfl hz_k0 ⟨z20.1, by rw [hl_k0]; exact z20.2⟩
(aw_iload_n d_X0_insert_23 rfl rfl 2 rfl
(have z22 := e21.1; have z23 := e21.2.1; have e24 := e21.2.2; aw_icmp_le d_X0_insert_24 rfl rfl z22 z23 (fun c25 => have e27 := e24.1 c25; (aw_aload_n d_X0_insert_41 rfl rfl 0 rfl (zk_ne hz_k0.1)
(aw_iload_n d_X0_insert_42 rfl rfl 3 rfl
(aw_iload_n d_X0_insert_43 rfl rfl 2 rfl
(have z29 := e27.1; have e31 := e27.2 _ rfl; aw_iast d_X0_insert_44 rfl hz_k0 ⟨z29.1, by rw [hl_k0]; exact z29.2⟩
(aw_iload_n d_X0_insert_45 rfl rfl 1 rfl
(aw_iconst d_X0_insert_46 rfl
(aw_iadd d_X0_insert_47 rfl
(aw_ri d_X0_insert_48 rfl e31))))))))) (fun c26 => have e28 := e24.2 c26; (aw_aload_n d_X0_insert_27 rfl rfl 0 rfl (zk_ne hz_k0.1)
(aw_iload_n d_X0_insert_28 rfl rfl 3 rfl
(aw_aload_n d_X0_insert_29 rfl rfl 0 rfl (zk_ne hz_k0.1)
(aw_iload_n d_X0_insert_30 rfl rfl 3 rfl
(aw_iconst d_X0_insert_31 rfl
(aw_isub d_X0_insert_32 rfl
(aw_iald d_X0_insert_33 rfl hz_k0 ⟨z20.1, by rw [hl_k0]; exact z20.2⟩
(have z32 := e28.1; have e34 := e28.2 _ rfl; aw_iast d_X0_insert_34 rfl hz_k0 ⟨z32.1, by rw [hl_k0]; exact z32.2⟩
(aw_iinc (lv' := [(3, zi (v3 - 1)), (0, zr k0 i0), (1, zi v1), (2, zi v2)]) (y := (v3 - 1)) d_X0_insert_35 rfl 3 rfl (by decide) rfl rfl
(aw_goto d_X0_insert_38 rfl
(aw_sub [1, 2, 3, 0] rfl e34)))))))))))))))))))))))
theorem vX0_insert {l : Launch} {P : Int → zM → Prop} {k0 : Nat} {i0 : Nat} {v1 : Int} {v2 : Int} {M : zM} (hz_k0 : zar k0 0) (hl_k0 : zlen k0 = 80)
    (H0 : (zI v1 ∧ (v1 < 0 → P v1 M) ∧ (0 ≤ v1 → ((v1 < 80 → LX0_insert_14 l P k0 i0 v1 v2 v1 M) ∧ (80 ≤ v1 → P v1 M))))) :
    CI l m_X0_insert [zr k0 i0, zi v1, zi v2] M P :=
(aw_iload_n d_X0_insert_0 rfl rfl 1 rfl
(have z1 := H0.1; have e2 := H0.2; aw_if_lt d_X0_insert_1 rfl rfl z1 (fun c3 => have e5 := e2.1 c3; (aw_iload_n d_X0_insert_10 rfl rfl 1 rfl
(aw_ri d_X0_insert_11 rfl e5))) (fun c4 => have e6 := e2.2 c4; (aw_iload_n d_X0_insert_4 rfl rfl 1 rfl
(aw_aload_n d_X0_insert_5 rfl rfl 0 rfl (zk_ne hz_k0.1)
(aw_alen (x := 80) d_X0_insert_6 rfl ⟨hz_k0.1, hz_k0.2.1, by rw [hz_k0.2.2]; decide⟩ (by rw [hl_k0]; rfl)
(aw_icmp_lt d_X0_insert_7 rfl rfl z1 (by decide) (fun c7 => have e9 := e6.1 c7; (aw_iload_n d_X0_insert_12 rfl rfl 1 rfl
(aw_istore_n (lv' := [(3, zi v1), (0, zr k0 i0), (1, zi v1), (2, zi v2)]) d_X0_insert_13 rfl rfl (by decide) rfl
(aw_sub [1, 2, 3, 0] rfl e9)))) (fun c8 => have e10 := e6.2 c8; (aw_iload_n d_X0_insert_10 rfl rfl 1 rfl
(aw_ri d_X0_insert_11 rfl e10))))))))))
theorem c_X0_insert {k i : Nat} {L : List Int} {P : Int → Prop} {x : Int} (hz : zar k 0) (hl : zlen k = 80) (r : rwI M k i L) (h : isRow L P) (hx : ¬ P x) (hlen : L.length < 80) (zx : zI x) (zL : ∀ y ∈ L, zI y) :
    CI l m_X0_insert [zr k i, zi (L.length : Int), zi x] M (fun q M' => q = L.length + 1 ∧ (∀ k' i', ¬ (k' = k ∧ i' = i) → M' k' i' = M k' i') ∧ ∃ L', isRow L' (fun y => P y ∨ y = x) ∧ L'.length = L.length + 1 ∧ rwI M' k i L') := by
  have fin : ∀ (p : Nat) (M' M2 : zM), p ≤ L.length → (∀ k' i', ¬ (k' = k ∧ i' = i) → M' k' i' = M k' i') → (∀ j : Int, 0 ≤ j ∧ j < p → M' k i j = L.getD j.toNat 0) → (∀ j : Int, p < j ∧ j ≤ (L.length : Int) → M' k i j = L.getD (j - 1).toNat 0) →
      (∀ j : Nat, p ≤ j → j < L.length → x < L.getD j 0) → (∀ j : Nat, j < p → L.getD j 0 < x) → M2 = zu M' k i p x →
      (∀ k' i', ¬ (k' = k ∧ i' = i) → M2 k' i' = M k' i') ∧ ∃ L', isRow L' (fun y => P y ∨ y = x) ∧ L'.length = L.length + 1 ∧ rwI M2 k i L' := by
    intro p M' M2 hp f h1 h2 h3 h4 e
    refine ⟨fun k' i' q => by rw [e, zu_o _ _ q, f _ _ q], _, row_ins h hp h4 h3, ins_len hp, fun j hj => ?_⟩
    rw [ins_len hp] at hj
    rw [List.getD_eq_getElem?_getD, ins_at hp, e, zu_at]
    by_cases c : j = p
    · rw [if_pos c, if_neg (by omega), if_pos (by omega)]; rfl
    · rw [if_neg c]
      by_cases c2 : j < p
      · rw [if_pos (by omega), h1 j ⟨hj.1, c2⟩, List.getD_eq_getElem?_getD]
      · rw [if_neg (by omega), if_neg (by omega), h2 j (by omega), List.getD_eq_getElem?_getD, show (j - 1).toNat = j.toNat - 1 by omega]
  have loop : ∀ (p : Nat) (M' : zM), p ≤ L.length → (∀ k' i', ¬ (k' = k ∧ i' = i) → M' k' i' = M k' i') → (∀ j : Int, 0 ≤ j ∧ j < p → M' k i j = L.getD j.toNat 0) → (∀ j : Int, p < j ∧ j ≤ (L.length : Int) → M' k i j = L.getD (j - 1).toNat 0) →
      (∀ j : Nat, p ≤ j → j < L.length → x < L.getD j 0) → LX0_insert_14 l (fun q M' => q = L.length + 1 ∧ (∀ k' i', ¬ (k' = k ∧ i' = i) → M' k' i' = M k' i') ∧ ∃ L', isRow L' (fun y => P y ∨ y = x) ∧ L'.length = L.length + 1 ∧ rwI M' k i L') k i (L.length : Int) x (p : Int) M' := by
    intro p
    induction p with
    | zero =>
      intro M' hp f h1 h2 h3
      refine vX0_insert_14 hz hl ⟨by omega, fun _ => ⟨by omega, fun M2 e => ⟨rfl, ?_⟩⟩, fun e => by omega⟩
      exact fin 0 M' M2 hp f h1 h2 h3 (fun j hj => by omega) e
    | succ p ih =>
      intro M' hp f h1 h2 h3
      have hv : M' k i (((p + 1 : Nat) : Int) - 1) = L.getD p 0 := by
        rw [h1 _ (by omega), show (((p + 1 : Nat) : Int) - 1).toNat = p by omega]
      have hm : L.getD p 0 ∈ L := by
        have := at_mem (L := L) (j := (p : Int)) (by omega)
        rwa [show ((p : Int)).toNat = p by omega] at this
      refine vX0_insert_14 hz hl ⟨by omega, fun e => by omega, fun _ => ⟨by omega, by rw [hv]; exact zL _ hm, zx, fun e => ⟨by omega, fun M2 e2 => ⟨rfl, ?_⟩⟩, fun e => ⟨by omega, fun M2 e2 => ?_⟩⟩⟩
      · rw [hv] at e
        have hne : L.getD p 0 ≠ x := fun q => hx ((h.2 x).mp (q ▸ hm))
        refine fin (p + 1) M' M2 hp f h1 h2 h3 (fun j hj => ?_) e2
        by_cases c : j = p
        · subst c; omega
        · have := at_lt h.1 (i := (j : Int)) (j := (p : Int)) (by omega)
          rw [show ((p : Int)).toNat = p by omega, show ((j : Int)).toNat = j by omega] at this
          omega
      · rw [hv] at e
        rw [hv] at e2
        have ep : (((p + 1 : Nat) : Int) - 1) = (p : Int) := by omega
        rw [ep]
        refine ih M2 (by omega) (fun k' i' q => by rw [e2, zu_o _ _ q, f _ _ q]) (fun j hj => ?_) (fun j hj => ?_) (fun j hj1 hj2 => ?_)
        · rw [e2, zu_at, if_neg (by omega), h1 j (by omega)]
        · rw [e2, zu_at]
          by_cases c : j = ((p + 1 : Nat) : Int)
          · rw [if_pos c, c, ep]; rfl
          · rw [if_neg c, h2 j (by omega)]
        · by_cases c : j = p
          · subst c; exact e
          · exact h3 j (by omega) hj2
  refine vX0_insert hz hl ⟨by omega, fun e => by omega, fun _ => ⟨fun _ => ?_, fun e => by omega⟩⟩
  exact loop L.length M (Nat.le_refl _) (fun _ _ _ => rfl) r (fun j hj => by omega) (fun j h1 h2 => by omega)
def LX0_takeTrader_17 (l : Launch) (P : zM → Prop) (b : Nat) (h1 : Nat) (v2 : Int) (v3 : Int) (v4 : Int) (v5 : Int) (v6 : Int) (M : zM) : Prop := AW l m_X0_takeTrader (zTv m_X0_takeTrader P) 17 [(0, zr 0 b), (1, zr 1 h1), (2, zi v2), (3, zi v3), (4, zi v4), (5, zi v5), (6, zi v6)] [] M
theorem vX0_takeTrader_17 {l : Launch} {P : zM → Prop} {b : Nat} {h1 : Nat} {v2 : Int} {v3 : Int} {v4 : Int} {v5 : Int} {v6 : Int} {M : zM}
    (H0 : (zI v6 ∧ zI v5 ∧ (v5 ≤ v6 → P M) ∧ (v6 < v5 → ((hW M h1 ∧ zI v2 ∧ zI v6) ∧ (zI ((qsy (hS M h1) v2 v6) + v3) ∧ (zI (min ((qsy (hS M h1) v2 v6) + v3) 9999) ∧ (zI v4 ∧ (v4 = 0 → (CI l m_X0_insert [zr 10 b, zi (M 0 b 2), zi (((9999 - (max 0 (min ((qsy (hS M h1) v2 v6) + v3) 9999))) * 80) + ((v2 * 4) + v6))] M (fun x27 M24 => (∀ M28 : zM, M28 = zu M24 0 b 2 x27 → LX0_takeTrader_17 l P b h1 v2 v3 v4 v5 (v6 + 1) M28)))) ∧ (v4 ≠ 0 → (CI l m_X0_insert [zr 11 b, zi (M 0 b 3), zi (((max 0 (min ((qsy (hS M h1) v2 v6) + v3) 9999)) * 80) + ((v2 * 4) + v6))] M (fun x33 M30 => (∀ M34 : zM, M34 = zu M30 0 b 3 x33 → LX0_takeTrader_17 l P b h1 v2 v3 v4 v5 (v6 + 1) M34))))))))))) :
    LX0_takeTrader_17 l P b h1 v2 v3 v4 v5 v6 M :=
(aw_iload d_X0_takeTrader_17 rfl 6 rfl
(aw_iload d_X0_takeTrader_19 rfl 5 rfl
(have z5 := H0.1; have z6 := H0.2.1; have e7 := H0.2.2; aw_icmp_ge d_X0_takeTrader_21 rfl rfl z5 z6 (fun c8 => have e10 := e7.1 c8; (aw_rv d_X0_takeTrader_121 rfl e10)) (fun c9 => have e11 := e7.2 c9; (aw_aload_n d_X0_takeTrader_24 rfl rfl 1 rfl (by decide)
(aw_iload_n d_X0_takeTrader_25 rfl rfl 2 rfl
(aw_iload d_X0_takeTrader_26 rfl 6 rfl
(have z12 := e11.1; have e13 := e11.2; (aw_VI (As := [zi v2, zi v6]) (st := []) d_X0_takeTrader_28 rfl cv0_48 ⟨Nat.le_of_ble_eq_true rfl, Nat.le_of_ble_eq_true rfl⟩ rfl rfl (Nat.le_of_ble_eq_true rfl) (Nat.le_of_ble_eq_true rfl) (s_X1_said z12) (fun _ _ hq => aw_eqs hq
(aw_iload_n d_X0_takeTrader_31 rfl rfl 3 rfl
(aw_iadd d_X0_takeTrader_32 rfl
(aw_istore (lv' := [(7, zi ((qsy (hS M h1) v2 v6) + v3)), (0, zr 0 b), (1, zr 1 h1), (2, zi v2), (3, zi v3), (4, zi v4), (5, zi v5), (6, zi v6)]) d_X0_takeTrader_33 rfl (by decide) rfl
(aw_iconst d_X0_takeTrader_35 rfl
(aw_iload d_X0_takeTrader_36 rfl 0 rfl
(aw_sipush d_X0_takeTrader_38 rfl (by decide)
(have z14 := e13.1; have e15 := e13.2; (aw_min d_X0_takeTrader_41 rfl cm0_52 ⟨Nat.le_of_ble_eq_true rfl, Nat.le_of_ble_eq_true rfl⟩ z14 (by decide)
(have z16 := e15.1; have e17 := e15.2; (aw_max d_X0_takeTrader_44 rfl cm0_57 ⟨Nat.le_of_ble_eq_true rfl, Nat.le_of_ble_eq_true rfl⟩ (by decide) z16
(aw_istore (lv' := [(7, zi (max 0 (min ((qsy (hS M h1) v2 v6) + v3) 9999))), (0, zr 0 b), (1, zr 1 h1), (2, zi v2), (3, zi v3), (4, zi v4), (5, zi v5), (6, zi v6)]) d_X0_takeTrader_47 rfl (by decide) rfl
(aw_iload_n d_X0_takeTrader_49 rfl rfl 3 rfl
(aw_iconst d_X0_takeTrader_50 rfl
(aw_imul d_X0_takeTrader_51 rfl
(aw_iload d_X0_takeTrader_52 rfl 7 rfl
(aw_iadd d_X0_takeTrader_54 rfl
(aw_istore (lv' := [(8, zi ((v2 * 4) + v6)), (7, zi (max 0 (min ((qsy (hS M h1) v2 v6) + v3) 9999))), (0, zr 0 b), (1, zr 1 h1), (2, zi v2), (3, zi v3), (4, zi v4), (5, zi v5), (6, zi v6)]) d_X0_takeTrader_55 rfl (by decide) rfl
(aw_iload d_X0_takeTrader_57 rfl 6 rfl
(have z18 := e17.1; have e19 := e17.2; aw_if_eq d_X0_takeTrader_59 rfl rfl z18 (fun c20 => have e22 := e19.1 c20; (aw_aload_n d_X0_takeTrader_88 rfl rfl 2 rfl (by decide)
(aw_aload_n d_X0_takeTrader_89 rfl rfl 2 rfl (by decide)
(aw_getR (k' := 10) (a := 1) (b := 0) (j := b) d_X0_takeTrader_90 rfl fl0_9 rfl zj1 ⟨by decide, fun h => h⟩
(aw_aload_n d_X0_takeTrader_93 rfl rfl 2 rfl (by decide)
(aw_getI (kc := 2) d_X0_takeTrader_94 rfl fl0_18 rfl rfl
(aw_sipush d_X0_takeTrader_97 rfl (by decide)
(aw_iload d_X0_takeTrader_100 rfl 1 rfl
(aw_isub d_X0_takeTrader_102 rfl
(aw_bipush d_X0_takeTrader_103 rfl (by decide)
(aw_imul d_X0_takeTrader_105 rfl
(aw_iload d_X0_takeTrader_106 rfl 0 rfl
(aw_iadd d_X0_takeTrader_108 rfl
(aw_SI (As := [zr 10 b, zi (M 0 b 2), zi (((9999 - (max 0 (min ((qsy (hS M h1) v2 v6) + v3) 9999))) * 80) + ((v2 * 4) + v6))]) (st := [zr 0 b]) d_X0_takeTrader_109 rfl cs0_60 ⟨Nat.le_of_ble_eq_true rfl, Nat.le_of_ble_eq_true rfl⟩ rfl rfl (Nat.le_of_ble_eq_true rfl) (Nat.le_of_ble_eq_true rfl) e22 (fun x27 M24 e25 => (have e29 := e25 _ rfl; aw_put (kc := 2) d_X0_takeTrader_112 rfl fp0_18 rfl rfl rfl rfl
(aw_iinc (lv' := [(6, zi (v6 + 1)), (8, zi ((v2 * 4) + v6)), (7, zi (max 0 (min ((qsy (hS M h1) v2 v6) + v3) 9999))), (0, zr 0 b), (1, zr 1 h1), (2, zi v2), (3, zi v3), (4, zi v4), (5, zi v5)]) (y := (v6 + 1)) d_X0_takeTrader_115 rfl 8 rfl (by decide) rfl rfl
(aw_goto d_X0_takeTrader_118 rfl
(aw_sub [3, 4, 5, 6, 7, 8, 0] rfl e29))))))))))))))))))) (fun c21 => have e23 := e19.2 c21; (aw_aload_n d_X0_takeTrader_62 rfl rfl 2 rfl (by decide)
(aw_aload_n d_X0_takeTrader_63 rfl rfl 2 rfl (by decide)
(aw_getR (k' := 11) (a := 1) (b := 0) (j := b) d_X0_takeTrader_64 rfl fl0_15 rfl zj1 ⟨by decide, fun h => h⟩
(aw_aload_n d_X0_takeTrader_67 rfl rfl 2 rfl (by decide)
(aw_getI (kc := 3) d_X0_takeTrader_68 rfl fl0_22 rfl rfl
(aw_iload d_X0_takeTrader_71 rfl 1 rfl
(aw_bipush d_X0_takeTrader_73 rfl (by decide)
(aw_imul d_X0_takeTrader_75 rfl
(aw_iload d_X0_takeTrader_76 rfl 0 rfl
(aw_iadd d_X0_takeTrader_78 rfl
(aw_SI (As := [zr 11 b, zi (M 0 b 3), zi (((max 0 (min ((qsy (hS M h1) v2 v6) + v3) 9999)) * 80) + ((v2 * 4) + v6))]) (st := [zr 0 b]) d_X0_takeTrader_79 rfl cs0_60 ⟨Nat.le_of_ble_eq_true rfl, Nat.le_of_ble_eq_true rfl⟩ rfl rfl (Nat.le_of_ble_eq_true rfl) (Nat.le_of_ble_eq_true rfl) e23 (fun x33 M30 e31 => (have e35 := e31 _ rfl; aw_put (kc := 3) d_X0_takeTrader_82 rfl fp0_22 rfl rfl rfl rfl
(aw_goto d_X0_takeTrader_85 rfl
(aw_iinc (lv' := [(6, zi (v6 + 1)), (8, zi ((v2 * 4) + v6)), (7, zi (max 0 (min ((qsy (hS M h1) v2 v6) + v3) 9999))), (0, zr 0 b), (1, zr 1 h1), (2, zi v2), (3, zi v3), (4, zi v4), (5, zi v5)]) (y := (v6 + 1)) d_X0_takeTrader_115 rfl 8 rfl (by decide) rfl rfl
(aw_goto d_X0_takeTrader_118 rfl
(aw_sub [3, 4, 5, 6, 7, 8, 0] rfl e35)))))))))))))))))))))))))))))))))))))))))))))))
theorem vX0_takeTrader {l : Launch} {P : zM → Prop} {b : Nat} {h1 : Nat} {v2 : Int} {v3 : Int} {M : zM}
    (H0 : ((hW M h1 ∧ zI v2) ∧ ((hW M h1 ∧ zI v2) ∧ LX0_takeTrader_17 l P b h1 v2 v3 (zb (qsl (hS M h1) v2 = 1)) (qun (hS M h1) v2) 0 M))) :
    CV l m_X0_takeTrader [zr 0 b, zr 1 h1, zi v2, zi v3] M P :=
(aw_aload_n d_X0_takeTrader_0 rfl rfl 1 rfl (by decide)
(aw_iload_n d_X0_takeTrader_1 rfl rfl 2 rfl
(have z1 := H0.1; have e2 := H0.2; (aw_VI (As := [zi v2]) (st := []) d_X0_takeTrader_2 rfl cv0_41 ⟨Nat.le_of_ble_eq_true rfl, Nat.le_of_ble_eq_true rfl⟩ rfl rfl (Nat.le_of_ble_eq_true rfl) (Nat.le_of_ble_eq_true rfl) (s_X1_isSeller z1) (fun _ _ hq => aw_eqs hq
(aw_istore (lv' := [(4, zi (zb (qsl (hS M h1) v2 = 1))), (0, zr 0 b), (1, zr 1 h1), (2, zi v2), (3, zi v3)]) d_X0_takeTrader_5 rfl (by decide) rfl
(aw_aload_n d_X0_takeTrader_7 rfl rfl 2 rfl (by decide)
(aw_iload_n d_X0_takeTrader_8 rfl rfl 3 rfl
(have z3 := e2.1; have e4 := e2.2; (aw_VI (As := [zi v2]) (st := []) d_X0_takeTrader_9 rfl cv0_45 ⟨Nat.le_of_ble_eq_true rfl, Nat.le_of_ble_eq_true rfl⟩ rfl rfl (Nat.le_of_ble_eq_true rfl) (Nat.le_of_ble_eq_true rfl) (s_X1_unitsOf z3) (fun _ _ hq => aw_eqs hq
(aw_istore (lv' := [(5, zi (qun (hS M h1) v2)), (4, zi (zb (qsl (hS M h1) v2 = 1))), (0, zr 0 b), (1, zr 1 h1), (2, zi v2), (3, zi v3)]) d_X0_takeTrader_12 rfl (by decide) rfl
(aw_iconst d_X0_takeTrader_14 rfl
(aw_istore (lv' := [(6, zi 0), (5, zi (qun (hS M h1) v2)), (4, zi (zb (qsl (hS M h1) v2 = 1))), (0, zr 0 b), (1, zr 1 h1), (2, zi v2), (3, zi v3)]) d_X0_takeTrader_15 rfl (by decide) rfl
(aw_sub [3, 4, 5, 6, 2, 1, 0] rfl e4)))))))))))))))
theorem c_X0_takeTrader {b h : Nat} {t d : Int} {S : zS} {E : Int → Prop} {v : Int → Int → Int} (w : hW M h) (eS : hS M h = S) (ht : 0 ≤ t ∧ t < qn S) (hE : ¬ E t) (ok : okM S v) (hd : -1000 ≤ d ∧ d ≤ 1000)
    (hy : ∀ u, 0 ≤ u ∧ u < qun S t → 0 ≤ qsy S t u ∧ qsy S t u ≤ 9999) (hv : ∀ u, 0 ≤ u ∧ u < qun S t → v t u = max 0 (min (qsy S t u + d) 9999)) (hb : bkR M b (mB S E v) (mA S E v)) :
    CV l m_X0_takeTrader [zr 0 b, zr 1 h, zi t, zi d] M (fun M' => Fx (kBk b) M M' ∧ bkR M' b (mB S (fun t' => E t' ∨ t' = t) v) (mA S (fun t' => E t' ∨ t' = t) v)) := by
  have hn := ok.1
  have hu4 := ok.2.1 t ht
  subst eS
  have ht' : 0 ≤ t ∧ t < M 1 h 6 := by rw [hS_n] at ht; exact ht
  have hq : ∀ u, 0 ≤ u ∧ u < qun (hS M h) t → qU (hS M h) t u := fun u hu => ⟨ht.1, ht.2, hu.1, hu.2⟩
  have sl01 : qsl (hS M h) t = 0 ∨ qsl (hS M h) t = 1 := by rw [hS_sl, if_pos ht']; exact w.2.1 t (by omega)
  have loop : ∀ (n : Nat) (u : Int) (M' : zM), (qun (hS M h) t - u).toNat = n → 0 ≤ u ∧ u ≤ qun (hS M h) t → Fx (kBk b) M M' →
      (∃ B A, bkR M' b B A ∧ isRow B (fun x => PB (hS M h) E v x ∨ ∃ u', (0 ≤ u' ∧ u' < u) ∧ ¬ qsl (hS M h) t = 1 ∧ x = kB v t u') ∧ isRow A (fun x => PA (hS M h) E v x ∨ ∃ u', (0 ≤ u' ∧ u' < u) ∧ qsl (hS M h) t = 1 ∧ x = kA v t u')) →
      LX0_takeTrader_17 l (fun M' => Fx (kBk b) M M' ∧ bkR M' b (mB (hS M h) (fun t' => E t' ∨ t' = t) v) (mA (hS M h) (fun t' => E t' ∨ t' = t) v)) b h t d (zb (qsl (hS M h) t = 1)) (qun (hS M h) t) u M' := by
    intro n
    induction n with
    | zero =>
      intro u M' hn' hu f hx
      obtain ⟨B, A, hr, hB, hA⟩ := hx
      have hu' : u = qun (hS M h) t := by omega
      refine vX0_takeTrader_17 ⟨by omega, by omega, fun _ => ⟨f, ?_⟩, fun e => by omega⟩
      have e1 : mB (hS M h) (fun t' => E t' ∨ t' = t) v = B := by
        refine rowOf_is (hB.to fun x => ⟨?_, ?_⟩)
        · rintro (⟨t1, u1, c, rfl⟩ | ⟨u1, h1, h2, rfl⟩)
          · exact ⟨t1, u1, ⟨c.1, .inl c.2.1, c.2.2⟩, rfl⟩
          · exact ⟨t, u1, ⟨hq u1 (by omega), .inr rfl, h2⟩, rfl⟩
        · rintro ⟨t1, u1, c, rfl⟩
          rcases c.2.1 with q | q
          · exact .inl ⟨t1, u1, ⟨c.1, q, c.2.2⟩, rfl⟩
          · subst q; exact .inr ⟨u1, by have := c.1; unfold qU at this; omega, c.2.2, rfl⟩
      have e2 : mA (hS M h) (fun t' => E t' ∨ t' = t) v = A := by
        refine rowOf_is (hA.to fun x => ⟨?_, ?_⟩)
        · rintro (⟨t1, u1, c, rfl⟩ | ⟨u1, h1, h2, rfl⟩)
          · exact ⟨t1, u1, ⟨c.1, .inl c.2.1, c.2.2⟩, rfl⟩
          · exact ⟨t, u1, ⟨hq u1 (by omega), .inr rfl, h2⟩, rfl⟩
        · rintro ⟨t1, u1, c, rfl⟩
          rcases c.2.1 with q | q
          · exact .inl ⟨t1, u1, ⟨c.1, q, c.2.2⟩, rfl⟩
          · subst q; exact .inr ⟨u1, by have := c.1; unfold qU at this; omega, c.2.2, rfl⟩
      rw [e1, e2]
      exact hr
    | succ n ih =>
      intro u M' hn' hu f hx
      obtain ⟨B, A, hr, hB, hA⟩ := hx
      have k1 : ∀ k, (k = 1 ∨ (12 ≤ k ∧ k ≤ 17)) → M' k h = M k h := fun k hk => f k h (fun q => by have := q.1; omega)
      have eS : hS M' h = hS M h := hS_congr (k1 _ (by omega)) (k1 _ (by omega)) (k1 _ (by omega)) (k1 _ (by omega)) (k1 _ (by omega)) (k1 _ (by omega)) (k1 _ (by omega))
      have w' : hW M' h := hW_congr (k1 _ (by omega)) (k1 _ (by omega)) (k1 _ (by omega)) w
      have hy' := hy u (by omega)
      have hv' := hv u (by omega)
      have hu1 := hq u (by omega)
      have hk := ok.rng hu1
      have d1 := kB_d hk
      have d2 := kA_d hk
      refine vX0_takeTrader_17 ⟨by omega, by omega, fun e => by omega, fun _ => ?_⟩
      rw [eS, ← hv']
      have eB : (9999 - v t u) * 80 + (t * 4 + u) = kB v t u := by unfold kB; omega
      have eA : v t u * 80 + (t * 4 + u) = kA v t u := by unfold kA; omega
      rw [eB, eA]
      refine ⟨⟨w', by omega, by omega⟩, by omega, by omega, zb_I, fun e => ?_, fun e => ?_⟩
      · have e := zb_0 e
        have rngB : ∀ x, (PB (hS M h) E v x ∨ ∃ u', (0 ≤ u' ∧ u' < u) ∧ ¬ qsl (hS M h) t = 1 ∧ x = kB v t u') → PB (hS M h) (fun t' => E t' ∨ t' = t) v x := by
          rintro x (⟨t1, u1, c, rfl⟩ | ⟨u1, h1, h2, rfl⟩)
          · exact ⟨t1, u1, ⟨c.1, .inl c.2.1, c.2.2⟩, rfl⟩
          · exact ⟨t, u1, ⟨hq u1 (by omega), .inr rfl, h2⟩, rfl⟩
        have hx : ¬ (PB (hS M h) E v (kB v t u) ∨ ∃ u', (0 ≤ u' ∧ u' < u) ∧ ¬ qsl (hS M h) t = 1 ∧ kB v t u = kB v t u') := by
          rintro (⟨t1, u1, c, q⟩ | ⟨u1, h1, -, q⟩)
          · have d3 := kB_d (ok.rng c.1)
            have : t = t1 := by rw [← d1.1, ← d3.1, q]
            exact hE (this ▸ c.2.1)
          · have d3 := kB_d (ok.rng (hq u1 (by omega)))
            have : u = u1 := by rw [← d1.2.1, ← d3.2.1, q]
            omega
        have hB2 : ∀ L' : List Int, isRow L' (fun y => (PB (hS M h) E v y ∨ ∃ u', (0 ≤ u' ∧ u' < u) ∧ ¬ qsl (hS M h) t = 1 ∧ y = kB v t u') ∨ y = kB v t u) → isRow L' (fun x => PB (hS M h) E v x ∨ ∃ u', (0 ≤ u' ∧ u' < u + 1) ∧ ¬ qsl (hS M h) t = 1 ∧ x = kB v t u') := by
          intro L' hL'
          refine hL'.to fun x => ⟨?_, ?_⟩
          · rintro ((q | ⟨u1, h1, h2, q⟩) | q)
            · exact .inl q
            · exact .inr ⟨u1, by omega, h2, q⟩
            · exact .inr ⟨u, by omega, e, q⟩
          · rintro (q | ⟨u1, h1, h2, q⟩)
            · exact .inl (.inl q)
            · by_cases c : u1 = u
              · subst c; exact .inr q
              · exact .inl (.inr ⟨u1, by omega, h2, q⟩)
        have hlen : B.length < 80 := by
          have p : (∀ j : Nat, j < B.length → B.getD j 0 < kB v t u) ∨ True := .inr trivial
          have key : (kB v t u :: B).length ≤ 80 := by
            refine len_slots (fun x => x % 80) 80 _ ?_ (fun x _ => by omega)
            rw [List.pairwise_cons]
            have mem80 : ∀ x, PB (hS M h) (fun t' => E t' ∨ t' = t) v x → ∀ y, PB (hS M h) (fun t' => E t' ∨ t' = t) v y → x % 80 = y % 80 → x = y := by
              rintro x ⟨t1, u1, c, rfl⟩ y ⟨t2, u2, c', rfl⟩ q
              have a1 := ok.rng c.1
              have a2 := ok.rng c'.1
              have b1 := (kB_d a1).2.2.2.2.2
              have b2 := (kB_d a2).2.2.2.2.2
              have et : t1 = t2 := by omega
              have eu : u1 = u2 := by omega
              rw [et, eu]
            have me : PB (hS M h) (fun t' => E t' ∨ t' = t) v (kB v t u) := ⟨t, u, ⟨hu1, .inr rfl, e⟩, rfl⟩
            refine ⟨fun y hy q => ?_, hB.1.imp_of_mem fun {a c} ha hc hac q => ?_⟩
            · have hy' := (hB.2 y).mp hy
              have := mem80 _ me _ (rngB y hy') q
              exact hx (this ▸ hy')
            · have := mem80 _ (rngB a ((hB.2 a).mp ha)) _ (rngB c ((hB.2 c).mp hc)) q
              omega
          rw [List.length_cons] at key; omega
        have ins := c_X0_insert (l := l) (M := M') (k := 10) (i := b) za10 rfl hr.2.2.1 hB hx hlen (by omega) (fun y hy => by
          have := PB_rng ok y (rngB y ((hB.2 y).mp hy))
          omega)
        rw [hr.1]
        refine ins.mono ?_
        rintro q M2 ⟨rfl, f2, L', hL', hl', hr'⟩
        intro M3 e3
        refine ih (u + 1) M3 (by omega) (by omega) ?_ ⟨L', A, ⟨by rw [e3, zu_at, if_pos rfl, hl']; omega, ?_, ?_, ?_⟩, hB2 L' hL', ?_⟩
        · rw [e3]
          refine Fx.zu (f.tr fun k i hk => f2 k i fun q => hk ⟨by omega, q.2⟩) ⟨.inl rfl, rfl⟩
        · rw [e3, zu_at, if_neg (by decide), f2 _ _ (by omega)]; exact hr.2.1
        · exact hr'.of (by rw [e3, zu_k (by decide)])
        · exact hr.2.2.2.of (by rw [e3, zu_k (by decide), f2 _ _ (by omega)])
        · refine hA.to fun x => ⟨?_, ?_⟩
          · rintro (q | ⟨u1, h1, h2, q⟩)
            · exact .inl q
            · exact absurd h2 e
          · rintro (q | ⟨u1, h1, h2, q⟩)
            · exact .inl q
            · exact absurd h2 e
      · have e := zb_n0 e
        have rngA : ∀ x, (PA (hS M h) E v x ∨ ∃ u', (0 ≤ u' ∧ u' < u) ∧ qsl (hS M h) t = 1 ∧ x = kA v t u') → PA (hS M h) (fun t' => E t' ∨ t' = t) v x := by
          rintro x (⟨t1, u1, c, rfl⟩ | ⟨u1, h1, h2, rfl⟩)
          · exact ⟨t1, u1, ⟨c.1, .inl c.2.1, c.2.2⟩, rfl⟩
          · exact ⟨t, u1, ⟨hq u1 (by omega), .inr rfl, h2⟩, rfl⟩
        have hx : ¬ (PA (hS M h) E v (kA v t u) ∨ ∃ u', (0 ≤ u' ∧ u' < u) ∧ qsl (hS M h) t = 1 ∧ kA v t u = kA v t u') := by
          rintro (⟨t1, u1, c, q⟩ | ⟨u1, h1, -, q⟩)
          · have d3 := kA_d (ok.rng c.1)
            have : t = t1 := by rw [← d2.1, ← d3.1, q]
            exact hE (this ▸ c.2.1)
          · have d3 := kA_d (ok.rng (hq u1 (by omega)))
            have : u = u1 := by rw [← d2.2.1, ← d3.2.1, q]
            omega
        have hA2 : ∀ L' : List Int, isRow L' (fun y => (PA (hS M h) E v y ∨ ∃ u', (0 ≤ u' ∧ u' < u) ∧ qsl (hS M h) t = 1 ∧ y = kA v t u') ∨ y = kA v t u) → isRow L' (fun x => PA (hS M h) E v x ∨ ∃ u', (0 ≤ u' ∧ u' < u + 1) ∧ qsl (hS M h) t = 1 ∧ x = kA v t u') := by
          intro L' hL'
          refine hL'.to fun x => ⟨?_, ?_⟩
          · rintro ((q | ⟨u1, h1, h2, q⟩) | q)
            · exact .inl q
            · exact .inr ⟨u1, by omega, h2, q⟩
            · exact .inr ⟨u, by omega, e, q⟩
          · rintro (q | ⟨u1, h1, h2, q⟩)
            · exact .inl (.inl q)
            · by_cases c : u1 = u
              · subst c; exact .inr q
              · exact .inl (.inr ⟨u1, by omega, h2, q⟩)
        have hlen : A.length < 80 := by
          have key : (kA v t u :: A).length ≤ 80 := by
            refine len_slots (fun x => x % 80) 80 _ ?_ (fun x _ => by omega)
            rw [List.pairwise_cons]
            have mem80 : ∀ x, PA (hS M h) (fun t' => E t' ∨ t' = t) v x → ∀ y, PA (hS M h) (fun t' => E t' ∨ t' = t) v y → x % 80 = y % 80 → x = y := by
              rintro x ⟨t1, u1, c, rfl⟩ y ⟨t2, u2, c', rfl⟩ q
              have a1 := ok.rng c.1
              have a2 := ok.rng c'.1
              have b1 := (kA_d a1).2.2.2.2.2
              have b2 := (kA_d a2).2.2.2.2.2
              have et : t1 = t2 := by omega
              have eu : u1 = u2 := by omega
              rw [et, eu]
            have me : PA (hS M h) (fun t' => E t' ∨ t' = t) v (kA v t u) := ⟨t, u, ⟨hu1, .inr rfl, e⟩, rfl⟩
            refine ⟨fun y hy q => ?_, hA.1.imp_of_mem fun {a c} ha hc hac q => ?_⟩
            · have hy' := (hA.2 y).mp hy
              have := mem80 _ me _ (rngA y hy') q
              exact hx (this ▸ hy')
            · have := mem80 _ (rngA a ((hA.2 a).mp ha)) _ (rngA c ((hA.2 c).mp hc)) q
              omega
          rw [List.length_cons] at key; omega
        have ins := c_X0_insert (l := l) (M := M') (k := 11) (i := b) za11 rfl hr.2.2.2 hA hx hlen (by omega) (fun y hy => by
          have := PA_rng ok y (rngA y ((hA.2 y).mp hy))
          omega)
        rw [hr.2.1]
        refine ins.mono ?_
        rintro q M2 ⟨rfl, f2, L', hL', hl', hr'⟩
        intro M3 e3
        refine ih (u + 1) M3 (by omega) (by omega) ?_ ⟨B, L', ⟨?_, by rw [e3, zu_at, if_pos rfl, hl']; omega, ?_, ?_⟩, ?_, hA2 L' hL'⟩
        · rw [e3]
          refine Fx.zu (f.tr fun k i hk => f2 k i fun q => hk ⟨by omega, q.2⟩) ⟨.inl rfl, rfl⟩
        · rw [e3, zu_at, if_neg (by decide), f2 _ _ (by omega)]; exact hr.1
        · exact hr.2.2.1.of (by rw [e3, zu_k (by decide), f2 _ _ (by omega)])
        · exact hr'.of (by rw [e3, zu_k (by decide)])
        · refine hB.to fun x => ⟨?_, ?_⟩
          · rintro (q | ⟨u1, h1, h2, q⟩)
            · exact .inl q
            · exact absurd e h2
          · rintro (q | ⟨u1, h1, h2, q⟩)
            · exact .inl q
            · exact absurd e h2
  refine vX0_takeTrader ⟨⟨w, by omega⟩, ⟨w, by omega⟩, ?_⟩
  refine loop _ 0 M rfl (by omega) Fx.rf ⟨_, _, hb, (mB_ok ok).to fun x => ⟨.inl, ?_⟩, (mA_ok ok).to fun x => ⟨.inl, ?_⟩⟩
  · rintro (q | ⟨u1, h1, -⟩)
    · exact q
    · omega
  · rintro (q | ⟨u1, h1, -⟩)
    · exact q
    · omega
end

