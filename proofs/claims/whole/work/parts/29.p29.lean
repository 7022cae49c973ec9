/-! ===== the reference: done by a law, deals, gains, takings ===== -/
def mFs (M M' : zM) : Prop := (∀ k i, k ≠ 9 → ¬ (31 ≤ k ∧ k ≤ 36) → M' k i = M k i) ∧ (∀ i j, ¬ (i = 0 ∧ (j = 11 ∨ (15 ≤ j ∧ j ≤ 20))) → M' 9 i j = M 9 i j)
theorem mFr.s {M M' : zM} (f : mFr M M') : mFs M M' := ⟨f.1, fun i j h => f.2 i j (by omega)⟩
theorem mFs.rf {M : zM} : mFs M M := ⟨fun _ _ _ _ => rfl, fun _ _ _ => rfl⟩
theorem mFs.tr {M M1 M2 : zM} (a : mFs M M1) (b : mFs M1 M2) : mFs M M2 := ⟨fun k i h1 h2 => (b.1 k i h1 h2).trans (a.1 k i h1 h2), fun i j h => (b.2 i j h).trans (a.2 i j h)⟩
theorem mFs.S {M M' : zM} (f : mFs M M') : rS M' = rS M := rS_congr (f.1 27 0 (by decide) (by decide))
theorem mFs.F {M M' : zM} (f : mFs M M') (j : Int) (h : ¬ (j = 11 ∨ (15 ≤ j ∧ j ≤ 20))) : M' 9 0 j = M 9 0 j := f.2 0 j (fun q => h q.2)
theorem mFs.V {M M' : zM} (f : mFs M M') : rV M' = rV M := by
  funext t u
  unfold rV
  rw [f.S, f.F 6 (by omega), f.F 7 (by omega)]
theorem mFs.rc {M M' : zM} (f : mFs M M') (rc : RC M) : RC M' := by
  unfold RC at rc ⊢
  rw [f.S, f.F 7 (by omega)]
  exact ⟨mW_27 (f.1 27 0 (by decide) (by decide)) rc.1, rc.2⟩
def rG (M : zM) (g t : Int) : Prop := qgr (rS M) t = g ∧ hb (M 9 0 5) t = false
theorem mFs.G {M M' : zM} (f : mFs M M') {g : Int} : rG M' g = rG M g := by
  funext t
  unfold rG
  rw [f.S, f.F 5 (by omega)]
noncomputable abbrev rB (M : zM) (g : Int) : List Int := mB (rS M) (rG M g) (rV M)
noncomputable abbrev rA (M : zM) (g : Int) : List Int := mA (rS M) (rG M g) (rV M)
theorem mFs.B {M M' : zM} (f : mFs M M') {g : Int} : rB M' g = rB M g := by unfold rB; rw [f.S, f.G, f.V]
theorem mFs.A {M M' : zM} (f : mFs M M') {g : Int} : rA M' g = rA M g := by unfold rA; rw [f.S, f.G, f.V]
theorem rE_G {M : zM} {g : Int} (rc : RC M) (hg : 0 ≤ g ∧ g < 4) : mB (rS M) (rE M (zshl 1 g)) (rV M) = rB M g ∧ mA (rS M) (rE M (zshl 1 g)) (rV M) = rA M g := by
  refine m_congrE (fun t ht => ?_) (fun _ _ _ _ => rfl)
  have := rc.2.2.1 t ht
  unfold rE rG
  rw [hb_bit (by omega) (by omega), decide_eq_true_eq]
def mF3 (M M' : zM) : Prop := ∀ k i j, ¬ (k = 9 ∧ i = 0 ∧ 18 ≤ j ∧ j ≤ 20) → M' k i j = M k i j
theorem mF3.fld {M M' : zM} {j x : Int} (e : M' = zu M 9 0 j x) (h : 18 ≤ j ∧ j ≤ 20) : mF3 M M' := by
  intro k i j' h2
  rw [e]
  unfold zu
  rw [if_neg]
  rintro ⟨a, b, c⟩
  exact h2 ⟨a, b, by omega⟩
theorem mF3.tr {M M1 M2 : zM} (a : mF3 M M1) (b : mF3 M1 M2) : mF3 M M2 := fun k i j h => (b k i j h).trans (a k i j h)
theorem mF3.k {M M' : zM} (f : mF3 M M') {k i : Nat} (h : k ≠ 9) : M' k i = M k i := by funext j; exact f k i j (fun q => h q.1)
theorem mF3.s {M M' : zM} (f : mF3 M M') : mFs M M' := ⟨fun k i h _ => f.k h, fun i j h => f 9 i j (by omega)⟩
theorem mF3.ld {M M' : zM} (f : mF3 M M') {B A : List Int} {e : Int} (h : mLd M B A e) : mLd M' B A e := by
  obtain ⟨h1, h2, h3, h4⟩ := h
  exact ⟨h1.of (f _ _ _ (by omega)) (f.k (by decide)) (f.k (by decide)) (f.k (by decide)), h2.of (f _ _ _ (by omega)) (f.k (by decide)) (f.k (by decide)) (f.k (by decide)), by rw [f _ _ _ (by omega)]; exact h3, by rw [f _ _ _ (by omega)]; exact h4⟩
def mDn (M : zM) (B A : List Int) (f w : Int) : Prop := M 9 0 18 = dN B A f w ∧ (tT f B A ≠ 0 → M 9 0 19 = dP B A f w ∧ M 9 0 20 = dG B A f w) ∧ (tT f B A = 0 → M 9 0 19 = 0 ∧ M 9 0 20 = 0)
theorem mDn.of {M M' : zM} {B A : List Int} {f w : Int} (h : mDn M B A f w) (e : ∀ j, 18 ≤ j ∧ j ≤ 20 → M' 9 0 j = M 9 0 j) : mDn M' B A f w := by
  unfold mDn at h ⊢
  rw [e 18 (by omega), e 19 (by omega), e 20 (by omega)]
  exact h
theorem mFr.dn {M M' : zM} {B A : List Int} {f w : Int} (fr : mFr M M') (h : mDn M B A f w) : mDn M' B A f w := h.of fun j hj => fr.2 0 j (by omega)
def cnt2 (B A : List Int) (t n : Int) : Int := zsum (fun k => if ktr (B.getD k.toNat 0) = t ∨ ktr (A.getD k.toNat 0) = t then 1 else 0) n
theorem cnt2_B {B A : List Int} {t n : Int} (h : ∀ x ∈ A, ktr x ≠ t) (hn : n ≤ (A.length : Int)) : cnt2 B A t n = cnt B t n := by
  refine zsum_congr fun k hk => ?_
  have := h _ (at_mem (j := k) (by omega))
  by_cases c : ktr (B.getD k.toNat 0) = t
  · rw [if_pos (.inl c), if_pos c]
  · rw [if_neg (by rintro (q | q); exact c q; exact this q), if_neg c]
theorem cnt2_A {B A : List Int} {t n : Int} (h : ∀ x ∈ B, ktr x ≠ t) (hn : n ≤ (B.length : Int)) : cnt2 B A t n = cnt A t n := by
  refine zsum_congr fun k hk => ?_
  have := h _ (at_mem (j := k) (by omega))
  by_cases c : ktr (A.getD k.toNat 0) = t
  · rw [if_pos (.inr c), if_pos c]
  · rw [if_neg (by rintro (q | q); exact this q; exact c q), if_neg c]
theorem aw_nm {l : Launch} {X : zD} {T : zT} {pc : Nat} {lv : List (Nat × zV)} {st : List zV} {M0 : zM} (h : ∀ M', M' = M0 → AW l X T pc lv st M') : AW l X T pc lv st M0 := h _ rfl
section
variable {l : Launch} {M : zM} {B A : List Int} {f : Int}
theorem lays_g {g : Int} (rc : RC M) (hg : 0 ≤ g ∧ g < 4) : CV l m_X9_laysOf [zr 9 0, zi (zshl 1 g)] M (fun M' => mFr M M' ∧ mLd M' (rB M g) (rA M g) (qfee (rS M))) := by
  have h := rE_G rc hg
  rw [← h.1, ← h.2]
  exact c_X9_laysOf rc
theorem vX9_worthOf {l : Launch} {P : Int → zM → Prop} {v1 : Int} {M : zM}
    (H0 : (CV l m_X9_laysOf [zr 9 0, zi v1] M (fun M1 => P (M1 9 0 17) M1))) :
    CI l m_X9_worthOf [zr 9 0, zi v1] M P :=
(aw_aload_n d_X9_worthOf_0 rfl rfl 0 rfl (by decide)
(aw_iload_n d_X9_worthOf_1 rfl rfl 1 rfl
(aw_VV (As := [zi v1]) (st := []) d_X9_worthOf_2 rfl cv9_139 ⟨Nat.le_of_ble_eq_true rfl, Nat.le_of_ble_eq_true rfl⟩ rfl rfl (Nat.le_of_ble_eq_true rfl) (Nat.le_of_ble_eq_true rfl) H0 (fun M1 e2 => (aw_aload_n d_X9_worthOf_5 rfl rfl 0 rfl (by decide)
(aw_getI (kc := 17) d_X9_worthOf_6 rfl fl9_136 rfl rfl
(aw_ri d_X9_worthOf_9 rfl e2)))))))
theorem vX9_worthWithout {l : Launch} {P : Int → zM → Prop} {v1 : Int} {v2 : Int} {M : zM}
    (H0 : (∀ M1 : zM, M1 = zu M 9 0 5 (zor (M 9 0 5) (zshl 1 v2)) → (CI l m_X9_worthOf [zr 9 0, zi (zshl 1 v1)] M1 (fun x6 M3 => (∀ M7 : zM, M7 = zu M3 9 0 5 (M 9 0 5) → P x6 M7))))) :
    CI l m_X9_worthWithout [zr 9 0, zi v1, zi v2] M P :=
(aw_aload_n d_X9_worthWithout_0 rfl rfl 0 rfl (by decide)
(aw_getI (kc := 5) d_X9_worthWithout_1 rfl fl9_107 rfl rfl
(aw_istore_n (lv' := [(3, zi (M 9 0 5)), (0, zr 9 0), (1, zi v1), (2, zi v2)]) d_X9_worthWithout_4 rfl rfl (by decide) rfl
(aw_aload_n d_X9_worthWithout_5 rfl rfl 1 rfl (by decide)
(aw_dup d_X9_worthWithout_6 rfl rfl
(aw_getI (kc := 5) d_X9_worthWithout_7 rfl fl9_107 rfl rfl
(aw_iconst d_X9_worthWithout_10 rfl
(aw_iload_n d_X9_worthWithout_11 rfl rfl 3 rfl
(aw_ishl d_X9_worthWithout_12 rfl zshl_h
(aw_ior d_X9_worthWithout_13 rfl zor_h
(have e2 := H0 _ rfl; aw_put (kc := 5) d_X9_worthWithout_14 rfl fp9_107 rfl rfl rfl rfl
(aw_aload_n d_X9_worthWithout_17 rfl rfl 1 rfl (by decide)
(aw_iconst d_X9_worthWithout_18 rfl
(aw_iload_n d_X9_worthWithout_19 rfl rfl 2 rfl
(aw_ishl d_X9_worthWithout_20 rfl zshl_h
(aw_VI (As := [zi (zshl 1 v1)]) (st := []) d_X9_worthWithout_21 rfl cv9_143 ⟨Nat.le_of_ble_eq_true rfl, Nat.le_of_ble_eq_true rfl⟩ rfl rfl (Nat.le_of_ble_eq_true rfl) (Nat.le_of_ble_eq_true rfl) e2 (fun x6 M3 e4 => (aw_istore (lv' := [(4, zi x6), (3, zi (M 9 0 5)), (0, zr 9 0), (1, zi v1), (2, zi v2)]) d_X9_worthWithout_24 rfl (by decide) rfl
(aw_aload_n d_X9_worthWithout_26 rfl rfl 2 rfl (by decide)
(aw_iload_n d_X9_worthWithout_27 rfl rfl 1 rfl
(have e8 := e4 _ rfl; aw_put (kc := 5) d_X9_worthWithout_28 rfl fp9_107 rfl rfl rfl rfl
(aw_iload d_X9_worthWithout_31 rfl 0 rfl
(aw_ri d_X9_worthWithout_33 rfl e8)))))))))))))))))))))))
theorem vX9_all {l : Launch} {P : zM → Prop} {v1 : Int} {M : zM}
    (H0 : (∀ M1 : zM, M1 = zu M 9 0 18 (M 9 0 16) → (∀ M3 : zM, M3 = zu M1 9 0 19 v1 → (∀ M5 : zM, M5 = zu M3 9 0 20 (v1 - (M3 27 0 181)) → P M5)))) :
    CV l m_X9_all [zr 9 0, zi v1] M P :=
(aw_aload_n d_X9_all_0 rfl rfl 0 rfl (by decide)
(aw_aload_n d_X9_all_1 rfl rfl 0 rfl (by decide)
(aw_getI (kc := 16) d_X9_all_2 rfl fl9_133 rfl rfl
(have e2 := H0 _ rfl; aw_put (kc := 18) d_X9_all_5 rfl fp9_146 rfl rfl rfl rfl
(aw_aload_n d_X9_all_8 rfl rfl 0 rfl (by decide)
(aw_iload_n d_X9_all_9 rfl rfl 1 rfl
(have e4 := e2 _ rfl; aw_put (kc := 19) d_X9_all_10 rfl fp9_149 rfl rfl rfl rfl
(aw_aload_n d_X9_all_13 rfl rfl 0 rfl (by decide)
(aw_iload_n d_X9_all_14 rfl rfl 1 rfl
(aw_aload_n d_X9_all_15 rfl rfl 0 rfl (by decide)
(aw_getR (k' := 27) (a := 0) (b := 0) (j := 0) d_X9_all_16 rfl fl9_7 rfl zj0 ⟨by decide, fun _ => by decide⟩
(aw_sipush d_X9_all_19 rfl (by decide)
(aw_iald d_X9_all_22 rfl za27 (by decide)
(aw_isub d_X9_all_23 rfl
(have e6 := e4 _ rfl; aw_put (kc := 20) d_X9_all_24 rfl fp9_152 rfl rfl rfl rfl
(aw_rv d_X9_all_27 rfl e6))))))))))))))))
theorem vX9_laysLess {l : Launch} {P : zM → Prop}  {M : zM}
    (H0 : (∀ M1 : zM, M1 = zu M 9 0 18 ((M 9 0 16) - 1) → ((0 ≤ ((M1 9 0 16) - 1) ∧ ((M1 9 0 16) - 1) < 80) ∧ (∀ M5 : zM, M5 = zu M1 9 0 19 (M1 33 0 ((M1 9 0 16) - 1)) → ((0 ≤ ((M5 9 0 16) - 1) ∧ ((M5 9 0 16) - 1) < 80) ∧ (∀ M9 : zM, M9 = zu M5 9 0 20 ((M5 36 0 ((M5 9 0 16) - 1)) - (M5 27 0 181)) → P M9)))))) :
    CV l m_X9_laysLess [zr 9 0] M P :=
(aw_aload_n d_X9_laysLess_0 rfl rfl 0 rfl (by decide)
(aw_aload_n d_X9_laysLess_1 rfl rfl 0 rfl (by decide)
(aw_getI (kc := 16) d_X9_laysLess_2 rfl fl9_133 rfl rfl
(aw_iconst d_X9_laysLess_5 rfl
(aw_isub d_X9_laysLess_6 rfl
(have e2 := H0 _ rfl; aw_put (kc := 18) d_X9_laysLess_7 rfl fp9_146 rfl rfl rfl rfl
(aw_aload_n d_X9_laysLess_10 rfl rfl 0 rfl (by decide)
(aw_aload_n d_X9_laysLess_11 rfl rfl 0 rfl (by decide)
(aw_getR (k' := 33) (a := 0) (b := 0) (j := 0) d_X9_laysLess_12 rfl fl9_29 rfl zj0 ⟨by decide, fun _ => by decide⟩
(aw_aload_n d_X9_laysLess_15 rfl rfl 0 rfl (by decide)
(aw_getI (kc := 16) d_X9_laysLess_16 rfl fl9_133 rfl rfl
(aw_iconst d_X9_laysLess_19 rfl
(aw_isub d_X9_laysLess_20 rfl
(have z3 := e2.1; have e4 := e2.2; (aw_iald d_X9_laysLess_21 rfl za33 z3
(have e6 := e4 _ rfl; aw_put (kc := 19) d_X9_laysLess_22 rfl fp9_149 rfl rfl rfl rfl
(aw_aload_n d_X9_laysLess_25 rfl rfl 0 rfl (by decide)
(aw_aload_n d_X9_laysLess_26 rfl rfl 0 rfl (by decide)
(aw_getR (k' := 36) (a := 0) (b := 0) (j := 0) d_X9_laysLess_27 rfl fl9_38 rfl zj0 ⟨by decide, fun _ => by decide⟩
(aw_aload_n d_X9_laysLess_30 rfl rfl 0 rfl (by decide)
(aw_getI (kc := 16) d_X9_laysLess_31 rfl fl9_133 rfl rfl
(aw_iconst d_X9_laysLess_34 rfl
(aw_isub d_X9_laysLess_35 rfl
(have z7 := e6.1; have e8 := e6.2; (aw_iald d_X9_laysLess_36 rfl za36 z7
(aw_aload_n d_X9_laysLess_37 rfl rfl 0 rfl (by decide)
(aw_getR (k' := 27) (a := 0) (b := 0) (j := 0) d_X9_laysLess_38 rfl fl9_7 rfl zj0 ⟨by decide, fun _ => by decide⟩
(aw_sipush d_X9_laysLess_41 rfl (by decide)
(aw_iald d_X9_laysLess_44 rfl za27 (by decide)
(aw_isub d_X9_laysLess_45 rfl
(have e10 := e8 _ rfl; aw_put (kc := 20) d_X9_laysLess_46 rfl fp9_152 rfl rfl rfl rfl
(aw_rv d_X9_laysLess_49 rfl e10))))))))))))))))))))))))))))))))
theorem vX9_laysCut {l : Launch} {P : zM → Prop}  {M : zM}
    (H0 : (zI (M 9 0 11) ∧ zI (M 9 0 16) ∧ ((M 9 0 11) = (M 9 0 16) → (CV l m_X9_laysLess [zr 9 0] M (fun M8 => P M8))) ∧ ((M 9 0 11) ≠ (M 9 0 16) → (zI (M 9 0 15) ∧ ((M 9 0 15) ≠ (M 9 0 16) → ((0 ≤ (M 9 0 16) ∧ (M 9 0 16) < 80) ∧ ((0 ≤ ((M 33 0 (M 9 0 16)) + (M 36 0 (M 9 0 16))) ∧ ((M 33 0 (M 9 0 16)) + (M 36 0 (M 9 0 16))) < 2147483648) ∧ ((0 ≤ ((M 9 0 16) - 1) ∧ ((M 9 0 16) - 1) < 80) ∧ (zI (((M 33 0 (M 9 0 16)) + (M 36 0 (M 9 0 16))) / 2) ∧ zI (M 33 0 ((M 9 0 16) - 1)) ∧ ((M 33 0 ((M 9 0 16) - 1)) < (((M 33 0 (M 9 0 16)) + (M 36 0 (M 9 0 16))) / 2) → (CV l m_X9_laysLess [zr 9 0] M (fun M30 => P M30))) ∧ ((((M 33 0 (M 9 0 16)) + (M 36 0 (M 9 0 16))) / 2) ≤ (M 33 0 ((M 9 0 16) - 1)) → (zI (M 36 0 ((M 9 0 16) - 1)) ∧ ((((M 33 0 (M 9 0 16)) + (M 36 0 (M 9 0 16))) / 2) < (M 36 0 ((M 9 0 16) - 1)) → (CV l m_X9_laysLess [zr 9 0] M (fun M39 => P M39))) ∧ ((M 36 0 ((M 9 0 16) - 1)) ≤ (((M 33 0 (M 9 0 16)) + (M 36 0 (M 9 0 16))) / 2) → (CV l m_X9_all [zr 9 0, zi (((M 33 0 (M 9 0 16)) + (M 36 0 (M 9 0 16))) / 2)] M (fun M42 => P M42)))))))))) ∧ ((M 9 0 15) = (M 9 0 16) → (CV l m_X9_laysLess [zr 9 0] M (fun M45 => P M45))))))) :
    CV l m_X9_laysCut [zr 9 0] M P :=
(aw_aload_n d_X9_laysCut_0 rfl rfl 0 rfl (by decide)
(aw_getI (kc := 11) d_X9_laysCut_1 rfl fl9_113 rfl rfl
(aw_aload_n d_X9_laysCut_4 rfl rfl 0 rfl (by decide)
(aw_getI (kc := 16) d_X9_laysCut_5 rfl fl9_133 rfl rfl
(have z1 := H0.1; have z2 := H0.2.1; have e3 := H0.2.2; aw_icmp_eq d_X9_laysCut_8 rfl rfl z1 z2 (fun c4 => have e6 := e3.1 c4; (aw_aload_n d_X9_laysCut_22 rfl rfl 0 rfl (by decide)
(aw_VV (As := []) (st := []) d_X9_laysCut_23 rfl cv9_155 ⟨Nat.le_of_ble_eq_true rfl, Nat.le_of_ble_eq_true rfl⟩ rfl rfl (Nat.le_of_ble_eq_true rfl) (Nat.le_of_ble_eq_true rfl) e6 (fun M8 e9 => (aw_rv d_X9_laysCut_26 rfl e9))))) (fun c5 => have e7 := e3.2 c5; (aw_aload_n d_X9_laysCut_11 rfl rfl 0 rfl (by decide)
(aw_getI (kc := 15) d_X9_laysCut_12 rfl fl9_116 rfl rfl
(aw_aload_n d_X9_laysCut_15 rfl rfl 0 rfl (by decide)
(aw_getI (kc := 16) d_X9_laysCut_16 rfl fl9_133 rfl rfl
(have z11 := e7.1; have e12 := e7.2; aw_icmp_ne d_X9_laysCut_19 rfl rfl z11 z2 (fun c13 => have e15 := e12.1 c13; (aw_aload_n d_X9_laysCut_27 rfl rfl 0 rfl (by decide)
(aw_getR (k' := 33) (a := 0) (b := 0) (j := 0) d_X9_laysCut_28 rfl fl9_29 rfl zj0 ⟨by decide, fun _ => by decide⟩
(aw_aload_n d_X9_laysCut_31 rfl rfl 0 rfl (by decide)
(aw_getI (kc := 16) d_X9_laysCut_32 rfl fl9_133 rfl rfl
(have z17 := e15.1; have e18 := e15.2; (aw_iald d_X9_laysCut_35 rfl za33 z17
(aw_aload_n d_X9_laysCut_36 rfl rfl 0 rfl (by decide)
(aw_getR (k' := 36) (a := 0) (b := 0) (j := 0) d_X9_laysCut_37 rfl fl9_38 rfl zj0 ⟨by decide, fun _ => by decide⟩
(aw_aload_n d_X9_laysCut_40 rfl rfl 0 rfl (by decide)
(aw_getI (kc := 16) d_X9_laysCut_41 rfl fl9_133 rfl rfl
(aw_iald d_X9_laysCut_44 rfl za36 z17
(aw_iadd d_X9_laysCut_45 rfl
(have z19 := e18.1; have e20 := e18.2; (aw_SI (As := [zi ((M 33 0 (M 9 0 16)) + (M 36 0 (M 9 0 16)))]) (st := []) d_X9_laysCut_46 rfl cs9_158 ⟨Nat.le_of_ble_eq_true rfl, Nat.le_of_ble_eq_true rfl⟩ rfl rfl (Nat.le_of_ble_eq_true rfl) (Nat.le_of_ble_eq_true rfl) (s_X9_halfDown z19) (fun _ _ hq => aw_eqs hq
(aw_istore_n (lv' := [(1, zi (((M 33 0 (M 9 0 16)) + (M 36 0 (M 9 0 16))) / 2)), (0, zr 9 0)]) d_X9_laysCut_49 rfl rfl (by decide) rfl
(aw_iload_n d_X9_laysCut_50 rfl rfl 0 rfl
(aw_aload_n d_X9_laysCut_51 rfl rfl 1 rfl (by decide)
(aw_getR (k' := 33) (a := 0) (b := 0) (j := 0) d_X9_laysCut_52 rfl fl9_29 rfl zj0 ⟨by decide, fun _ => by decide⟩
(aw_aload_n d_X9_laysCut_55 rfl rfl 1 rfl (by decide)
(aw_getI (kc := 16) d_X9_laysCut_56 rfl fl9_133 rfl rfl
(aw_iconst d_X9_laysCut_59 rfl
(aw_isub d_X9_laysCut_60 rfl
(have z21 := e20.1; have e22 := e20.2; (aw_iald d_X9_laysCut_61 rfl za33 z21
(have z23 := e22.1; have z24 := e22.2.1; have e25 := e22.2.2; aw_icmp_gt d_X9_laysCut_62 rfl rfl z23 z24 (fun c26 => have e28 := e25.1 c26; (aw_aload_n d_X9_laysCut_88 rfl rfl 1 rfl (by decide)
(aw_VV (As := []) (st := []) d_X9_laysCut_89 rfl cv9_155 ⟨Nat.le_of_ble_eq_true rfl, Nat.le_of_ble_eq_true rfl⟩ rfl rfl (Nat.le_of_ble_eq_true rfl) (Nat.le_of_ble_eq_true rfl) e28 (fun M30 e31 => (aw_rv d_X9_laysCut_92 rfl e31))))) (fun c27 => have e29 := e25.2 c27; (aw_iload_n d_X9_laysCut_65 rfl rfl 0 rfl
(aw_aload_n d_X9_laysCut_66 rfl rfl 1 rfl (by decide)
(aw_getR (k' := 36) (a := 0) (b := 0) (j := 0) d_X9_laysCut_67 rfl fl9_38 rfl zj0 ⟨by decide, fun _ => by decide⟩
(aw_aload_n d_X9_laysCut_70 rfl rfl 1 rfl (by decide)
(aw_getI (kc := 16) d_X9_laysCut_71 rfl fl9_133 rfl rfl
(aw_iconst d_X9_laysCut_74 rfl
(aw_isub d_X9_laysCut_75 rfl
(aw_iald d_X9_laysCut_76 rfl za36 z21
(have z33 := e29.1; have e34 := e29.2; aw_icmp_lt d_X9_laysCut_77 rfl rfl z23 z33 (fun c35 => have e37 := e34.1 c35; (aw_aload_n d_X9_laysCut_88 rfl rfl 1 rfl (by decide)
(aw_VV (As := []) (st := []) d_X9_laysCut_89 rfl cv9_155 ⟨Nat.le_of_ble_eq_true rfl, Nat.le_of_ble_eq_true rfl⟩ rfl rfl (Nat.le_of_ble_eq_true rfl) (Nat.le_of_ble_eq_true rfl) e37 (fun M39 e40 => (aw_rv d_X9_laysCut_92 rfl e40))))) (fun c36 => have e38 := e34.2 c36; (aw_aload_n d_X9_laysCut_80 rfl rfl 1 rfl (by decide)
(aw_iload_n d_X9_laysCut_81 rfl rfl 0 rfl
(aw_VV (As := [zi (((M 33 0 (M 9 0 16)) + (M 36 0 (M 9 0 16))) / 2)]) (st := []) d_X9_laysCut_82 rfl cv9_161 ⟨Nat.le_of_ble_eq_true rfl, Nat.le_of_ble_eq_true rfl⟩ rfl rfl (Nat.le_of_ble_eq_true rfl) (Nat.le_of_ble_eq_true rfl) e38 (fun M42 e43 => (aw_goto d_X9_laysCut_85 rfl
(aw_rv d_X9_laysCut_92 rfl e43)))))))))))))))))))))))))))))))))))))))))))) (fun c14 => have e16 := e12.2 c14; (aw_aload_n d_X9_laysCut_22 rfl rfl 0 rfl (by decide)
(aw_VV (As := []) (st := []) d_X9_laysCut_23 rfl cv9_155 ⟨Nat.le_of_ble_eq_true rfl, Nat.le_of_ble_eq_true rfl⟩ rfl rfl (Nat.le_of_ble_eq_true rfl) (Nat.le_of_ble_eq_true rfl) e16 (fun M45 e46 => (aw_rv d_X9_laysCut_26 rfl e46))))))))))))))))
theorem vX9_laysBy {l : Launch} {P : zM → Prop} {v1 : Int} {M : zM}
    (H0 : (∀ M1 : zM, M1 = zu M 9 0 18 0 → (∀ M3 : zM, M3 = zu M1 9 0 19 0 → (∀ M5 : zM, M5 = zu M3 9 0 20 0 → (zI (M5 9 0 16) ∧ ((M5 9 0 16) ≠ 0 → (zI v1 ∧ (v1 ≠ 0 → ((v1 ≠ 2 → ((0 ≤ ((M5 9 0 16) - 1) ∧ ((M5 9 0 16) - 1) < 80) ∧ ((0 ≤ ((M5 33 0 ((M5 9 0 16) - 1)) + (M5 36 0 ((M5 9 0 16) - 1))) ∧ ((M5 33 0 ((M5 9 0 16) - 1)) + (M5 36 0 ((M5 9 0 16) - 1))) < 2147483648) ∧ (CV l m_X9_all [zr 9 0, zi (((M5 33 0 ((M5 9 0 16) - 1)) + (M5 36 0 ((M5 9 0 16) - 1))) / 2)] M5 (fun M27 => P M27))))) ∧ (v1 = 2 → (CV l m_X9_laysLess [zr 9 0] M5 (fun M30 => P M30))))) ∧ (v1 = 0 → (CV l m_X9_laysCut [zr 9 0] M5 (fun M33 => P M33))))) ∧ ((M5 9 0 16) = 0 → P M5)))))) :
    CV l m_X9_laysBy [zr 9 0, zi v1] M P :=
(aw_aload_n d_X9_laysBy_0 rfl rfl 0 rfl (by decide)
(aw_iconst d_X9_laysBy_1 rfl
(have e2 := H0 _ rfl; aw_put (kc := 18) d_X9_laysBy_2 rfl fp9_146 rfl rfl rfl rfl
(aw_aload_n d_X9_laysBy_5 rfl rfl 0 rfl (by decide)
(aw_iconst d_X9_laysBy_6 rfl
(have e4 := e2 _ rfl; aw_put (kc := 19) d_X9_laysBy_7 rfl fp9_149 rfl rfl rfl rfl
(aw_aload_n d_X9_laysBy_10 rfl rfl 0 rfl (by decide)
(aw_iconst d_X9_laysBy_11 rfl
(aw_put (kc := 20) d_X9_laysBy_12 rfl fp9_152 rfl rfl rfl rfl
(aw_nm fun M5 hqM5 => have e6 := e4 M5 hqM5; (aw_aload_n d_X9_laysBy_15 rfl rfl 0 rfl (by decide)
(aw_getI (kc := 16) d_X9_laysBy_16 rfl fl9_133 rfl rfl
(have z7 := e6.1; have e8 := e6.2; aw_if_ne d_X9_laysBy_19 rfl rfl z7 (fun c9 => have e11 := e8.1 c9; (aw_iload_n d_X9_laysBy_23 rfl rfl 1 rfl
(have z13 := e11.1; have e14 := e11.2; aw_if_ne d_X9_laysBy_24 rfl rfl z13 (fun c15 => have e17 := e14.1 c15; (aw_iload_n d_X9_laysBy_34 rfl rfl 1 rfl
(aw_iconst d_X9_laysBy_35 rfl
(aw_icmp_ne d_X9_laysBy_36 rfl rfl z13 (by decide) (fun c19 => have e21 := e17.1 c19; (aw_aload_n d_X9_laysBy_46 rfl rfl 0 rfl (by decide)
(aw_aload_n d_X9_laysBy_47 rfl rfl 0 rfl (by decide)
(aw_getR (k' := 33) (a := 0) (b := 0) (j := 0) d_X9_laysBy_48 rfl fl9_29 rfl zj0 ⟨by decide, fun _ => by decide⟩
(aw_aload_n d_X9_laysBy_51 rfl rfl 0 rfl (by decide)
(aw_getI (kc := 16) d_X9_laysBy_52 rfl fl9_133 rfl rfl
(aw_iconst d_X9_laysBy_55 rfl
(aw_isub d_X9_laysBy_56 rfl
(have z23 := e21.1; have e24 := e21.2; (aw_iald d_X9_laysBy_57 rfl za33 z23
(aw_aload_n d_X9_laysBy_58 rfl rfl 0 rfl (by decide)
(aw_getR (k' := 36) (a := 0) (b := 0) (j := 0) d_X9_laysBy_59 rfl fl9_38 rfl zj0 ⟨by decide, fun _ => by decide⟩
(aw_aload_n d_X9_laysBy_62 rfl rfl 0 rfl (by decide)
(aw_getI (kc := 16) d_X9_laysBy_63 rfl fl9_133 rfl rfl
(aw_iconst d_X9_laysBy_66 rfl
(aw_isub d_X9_laysBy_67 rfl
(aw_iald d_X9_laysBy_68 rfl za36 z23
(aw_iadd d_X9_laysBy_69 rfl
(have z25 := e24.1; have e26 := e24.2; (aw_SI (As := [zi ((M5 33 0 ((M5 9 0 16) - 1)) + (M5 36 0 ((M5 9 0 16) - 1)))]) (st := [zr 9 0]) d_X9_laysBy_70 rfl cs9_158 ⟨Nat.le_of_ble_eq_true rfl, Nat.le_of_ble_eq_true rfl⟩ rfl rfl (Nat.le_of_ble_eq_true rfl) (Nat.le_of_ble_eq_true rfl) (s_X9_halfDown z25) (fun _ _ hq => aw_eqs hq
(aw_VV (As := [zi (((M5 33 0 ((M5 9 0 16) - 1)) + (M5 36 0 ((M5 9 0 16) - 1))) / 2)]) (st := []) d_X9_laysBy_73 rfl cv9_161 ⟨Nat.le_of_ble_eq_true rfl, Nat.le_of_ble_eq_true rfl⟩ rfl rfl (Nat.le_of_ble_eq_true rfl) (Nat.le_of_ble_eq_true rfl) e26 (fun M27 e28 => (aw_rv d_X9_laysBy_76 rfl e28)))))))))))))))))))))))) (fun c20 => have e22 := e17.2 c20; (aw_aload_n d_X9_laysBy_39 rfl rfl 0 rfl (by decide)
(aw_VV (As := []) (st := []) d_X9_laysBy_40 rfl cv9_155 ⟨Nat.le_of_ble_eq_true rfl, Nat.le_of_ble_eq_true rfl⟩ rfl rfl (Nat.le_of_ble_eq_true rfl) (Nat.le_of_ble_eq_true rfl) e22 (fun M30 e31 => (aw_goto d_X9_laysBy_43 rfl
(aw_rv d_X9_laysBy_76 rfl e31)))))))))) (fun c16 => have e18 := e14.2 c16; (aw_aload_n d_X9_laysBy_27 rfl rfl 0 rfl (by decide)
(aw_VV (As := []) (st := []) d_X9_laysBy_28 rfl cv9_164 ⟨Nat.le_of_ble_eq_true rfl, Nat.le_of_ble_eq_true rfl⟩ rfl rfl (Nat.le_of_ble_eq_true rfl) (Nat.le_of_ble_eq_true rfl) e18 (fun M33 e34 => (aw_goto d_X9_laysBy_31 rfl
(aw_rv d_X9_laysBy_76 rfl e34))))))))) (fun c10 => have e12 := e8.2 c10; (aw_rv d_X9_laysBy_22 rfl e12)))))))))))))))
theorem vX9_lays {l : Launch} {P : zM → Prop} {v1 : Int} {M : zM}
    (H0 : (CV l m_X9_laysOf [zr 9 0, zi (zshl 1 v1)] M (fun M1 => (CV l m_X9_laysBy [zr 9 0, zi (M1 27 0 182)] M1 (fun M4 => P M4))))) :
    CV l m_X9_lays [zr 9 0, zi v1] M P :=
(aw_aload_n d_X9_lays_0 rfl rfl 0 rfl (by decide)
(aw_iconst d_X9_lays_1 rfl
(aw_iload_n d_X9_lays_2 rfl rfl 1 rfl
(aw_ishl d_X9_lays_3 rfl zshl_h
(aw_VV (As := [zi (zshl 1 v1)]) (st := []) d_X9_lays_4 rfl cv9_139 ⟨Nat.le_of_ble_eq_true rfl, Nat.le_of_ble_eq_true rfl⟩ rfl rfl (Nat.le_of_ble_eq_true rfl) (Nat.le_of_ble_eq_true rfl) H0 (fun M1 e2 => (aw_aload_n d_X9_lays_7 rfl rfl 0 rfl (by decide)
(aw_aload_n d_X9_lays_8 rfl rfl 0 rfl (by decide)
(aw_getR (k' := 27) (a := 0) (b := 0) (j := 0) d_X9_lays_9 rfl fl9_7 rfl zj0 ⟨by decide, fun _ => by decide⟩
(aw_sipush d_X9_lays_12 rfl (by decide)
(aw_iald d_X9_lays_15 rfl za27 (by decide)
(aw_VV (As := [zi (M1 27 0 182)]) (st := []) d_X9_lays_16 rfl cv9_167 ⟨Nat.le_of_ble_eq_true rfl, Nat.le_of_ble_eq_true rfl⟩ rfl rfl (Nat.le_of_ble_eq_true rfl) (Nat.le_of_ble_eq_true rfl) e2 (fun M4 e5 => (aw_rv d_X9_lays_19 rfl e5))))))))))))))
theorem c_X9_worthOf {g : Int} (rc : RC M) (hg : 0 ≤ g ∧ g < 4) : CI l m_X9_worthOf [zr 9 0, zi (zshl 1 g)] M (fun x M' => x = tW (qfee (rS M)) (rB M g) (rA M g) ∧ mFr M M' ∧ mLd M' (rB M g) (rA M g) (qfee (rS M))) :=
  vX9_worthOf ((lays_g rc hg).mono fun M' h => ⟨h.2.2.2.2, h⟩)
theorem c_X9_worthWithout {g t : Int} (rc : RC M) (hg : 0 ≤ g ∧ g < 4) (ht : 0 ≤ t ∧ t < qn (rS M)) : CI l m_X9_worthWithout [zr 9 0, zi g, zi t] M (fun x M' => x = mWo (rB M g) (rA M g) (qfee (rS M)) t ∧ mFr M M') := by
  have ok := rc.ok
  have hn := rc.2.1.1
  refine vX9_worthWithout ?_
  intro M1 q1
  have e27 : M1 27 0 = M 27 0 := by rw [q1, zu_k (by decide)]
  have eS : rS M1 = rS M := rS_congr e27
  have e7 : M1 9 0 7 = M 9 0 7 := by rw [q1, zu_at, if_neg (by decide)]
  have e6 : M1 9 0 6 = M 9 0 6 := by rw [q1, zu_at, if_neg (by decide)]
  have e5 : M1 9 0 5 = zor (M 9 0 5) (zshl 1 t) := by rw [q1, zu_at, if_pos rfl]
  have eV : rV M1 = rV M := by funext a b; unfold rV; rw [eS, e6, e7]
  have rc1 : RC M1 := by unfold RC; rw [eS, e7]; exact ⟨mW_27 e27 rc.1, rc.2⟩
  have eG := m_congrE (S := rS M) (E := rG M1 g) (E' := fun t' => rG M g t' ∧ t' ≠ t) (v := rV M) (v' := rV M) (fun t' ht' => by
    unfold rG
    rw [eS, e5, hb_or, hb_bit (by omega) (by omega)]
    simp only [Bool.or_eq_false_iff, decide_eq_false_iff_not]
    exact ⟨fun q => ⟨⟨q.1, q.2.1⟩, q.2.2⟩, fun q => ⟨q.1.1, q.1.2, q.2⟩⟩) (fun _ _ _ _ => rfl)
  have eO := m_out (E := rG M g) (t := t) ok
  refine (c_X9_worthOf rc1 hg).mono ?_
  rintro x M2 ⟨rfl, f2, -⟩
  intro M3 q3
  refine ⟨?_, ?_, ?_⟩
  · unfold rB rA mWo
    rw [eS, eV, eG.1, eG.2, eO.1, eO.2]
  · intro k i h1 h2
    rw [q3, zu_k h1, f2.1 k i h1 h2, q1, zu_k h1]
  · intro i j h
    rw [q3]
    unfold zu
    by_cases c : i = 0 ∧ j = 5
    · rw [if_pos ⟨rfl, c.1, c.2⟩, c.1, c.2]
    · rw [if_neg (fun q => c q.2), f2.2 i j h, q1]
      unfold zu
      rw [if_neg (fun q => c q.2)]
theorem c_X9_laysLess (h : mLd M B A f) (g : gd B A) (hf : M 27 0 181 = f) (hT : tT f B A ≠ 0) : CV l m_X9_laysLess [zr 9 0] M (fun M' => mF3 M M' ∧ M' 9 0 18 = tT f B A - 1 ∧ M' 9 0 19 = gB B (tT f B A - 1) ∧ M' 9 0 20 = gA f A (tT f B A - 1) - f) := by
  have hb := tT_b (f := f) (B := B) (A := A)
  have hl := g.1
  refine vX9_laysLess ?_
  intro M1 q1
  have f1 := mF3.fld q1 (by omega)
  have h1 := f1.ld h
  rw [h1.2.2.1]
  refine ⟨by omega, fun M2 q2 => ?_⟩
  have f2 := f1.tr (mF3.fld q2 (by omega))
  have h2 := f2.ld h
  rw [h2.2.2.1]
  refine ⟨by omega, fun M3 q3 => ⟨f2.tr (mF3.fld q3 (by omega)), ?_, ?_, ?_⟩⟩
  · rw [q3, zu_at, if_neg (by decide), q2, zu_at, if_neg (by decide), q1, zu_at, if_pos rfl, h.2.2.1]
  · rw [q3, zu_at, if_neg (by decide), q2, zu_at, if_pos rfl, (h1.1.2 _ (by omega)).1]
  · rw [q3, zu_at, if_pos rfl, (h2.2.1.2 _ (by omega)).1, f2 27 0 181 (by decide), hf]
theorem c_X9_all {p : Int} (h : mLd M B A f) (hf : M 27 0 181 = f) : CV l m_X9_all [zr 9 0, zi p] M (fun M' => mF3 M M' ∧ M' 9 0 18 = tT f B A ∧ M' 9 0 19 = p ∧ M' 9 0 20 = p - f) := by
  refine vX9_all ?_
  intro M1 q1 M2 q2 M3 q3
  have f2 := (mF3.fld q1 (by omega)).tr (mF3.fld q2 (by omega))
  refine ⟨f2.tr (mF3.fld q3 (by omega)), ?_, ?_, ?_⟩
  · rw [q3, zu_at, if_neg (by decide), q2, zu_at, if_neg (by decide), q1, zu_at, if_pos rfl, h.2.2.1]
  · rw [q3, zu_at, if_neg (by decide), q2, zu_at, if_pos rfl]
  · rw [q3, zu_at, if_pos rfl, f2 27 0 181 (by decide), hf]
theorem less_dn {M' : zM} {w : Int} (hT : tT f B A ≠ 0) (hc : ¬ full B A f w) (h : M' 9 0 18 = tT f B A - 1 ∧ M' 9 0 19 = gB B (tT f B A - 1) ∧ M' 9 0 20 = gA f A (tT f B A - 1) - f) : mDn M' B A f w := by
  refine ⟨?_, fun _ => ⟨?_, ?_⟩, fun q => absurd q hT⟩
  · rw [h.1, dN, if_neg hT, if_neg hc]
  · rw [h.2.1, dP, if_neg hc]
  · rw [h.2.2, dG, if_neg hc]
theorem all_dn {M' : zM} {w p : Int} (hT : tT f B A ≠ 0) (hc : full B A f w) (hp : p = dP B A f w) (h : M' 9 0 18 = tT f B A ∧ M' 9 0 19 = p ∧ M' 9 0 20 = p - f) : mDn M' B A f w := by
  refine ⟨?_, fun _ => ⟨?_, ?_⟩, fun q => absurd q hT⟩
  · rw [h.1, dN, if_neg hT, if_pos hc]
  · rw [h.2.1, hp]
  · rw [h.2.2, dG, if_pos hc, hp]
theorem c_X9_laysCut (h : mLd M B A f) (g : gd B A) (hf : M 27 0 181 = f) (hf2 : 0 ≤ f ∧ f ≤ 500) (hT : tT f B A ≠ 0) : CV l m_X9_laysCut [zr 9 0] M (fun M' => mF3 M M' ∧ mDn M' B A f 0) := by
  have hb := tT_b (f := f) (B := B) (A := A)
  have hl := g.1
  have less : ¬ full B A f 0 → CV l m_X9_laysLess [zr 9 0] M (fun M' => mF3 M M' ∧ mDn M' B A f 0) := fun hc => (c_X9_laysLess h g hf hT).mono fun M' q => ⟨q.1, less_dn hT hc q.2⟩
  refine vX9_laysCut ?_
  rw [h.1.1, h.2.1.1, h.2.2.1]
  refine ⟨by omega, by omega, fun c => less (fun q => by have := q.resolve_left (by omega) |>.resolve_left (by omega); omega), fun c => ⟨by omega, fun c2 => ?_, fun c2 => less (fun q => by have := q.resolve_left (by omega) |>.resolve_left (by omega); omega)⟩⟩
  have q1 := gB_in g (k := tT f B A) (by omega)
  have q2 := gA_in g (f := f) (k := tT f B A) (by omega)
  have q3 := gB_in g (k := tT f B A - 1) (by omega)
  have q4 := gA_in g (f := f) (k := tT f B A - 1) (by omega)
  rw [(h.1.2 _ (show 0 ≤ tT f B A ∧ tT f B A < (B.length : Int) by omega)).1, (h.2.1.2 _ (show 0 ≤ tT f B A ∧ tT f B A < (A.length : Int) by omega)).1, (h.1.2 _ (show 0 ≤ tT f B A - 1 ∧ tT f B A - 1 < (B.length : Int) by omega)).1, (h.2.1.2 _ (show 0 ≤ tT f B A - 1 ∧ tT f B A - 1 < (A.length : Int) by omega)).1]
  have em : (gB B (tT f B A) + gA f A (tT f B A)) / 2 = mid B A f (tT f B A) := rfl
  rw [em]
  have hm : 0 ≤ mid B A f (tT f B A) ∧ mid B A f (tT f B A) ≤ 20000 := by unfold mid; omega
  refine ⟨by omega, by omega, by omega, by omega, by omega, fun c3 => less (fun q => by have := q.resolve_left (by omega) |>.resolve_left (by omega); omega), fun c3 => ⟨by omega, fun c4 => less (fun q => by have := q.resolve_left (by omega) |>.resolve_left (by omega); omega), fun c4 => ?_⟩⟩
  have hc : full B A f 0 := .inr (.inr ⟨rfl, by omega, by omega, c3, c4⟩)
  exact (c_X9_all h hf).mono fun M' q => ⟨q.1, all_dn hT hc (by rw [dP, if_pos hc, if_pos rfl]) q.2⟩
theorem c_X9_laysBy {w : Int} (h : mLd M B A f) (g : gd B A) (hf : M 27 0 181 = f) (hf2 : 0 ≤ f ∧ f ≤ 500) (hw : 0 ≤ w ∧ w ≤ 3) : CV l m_X9_laysBy [zr 9 0, zi w] M (fun M' => mF3 M M' ∧ mDn M' B A f w) := by
  have hb := tT_b (f := f) (B := B) (A := A)
  have hl := g.1
  refine vX9_laysBy ?_
  intro M1 q1 M2 q2 M3 q3
  have f3 := ((mF3.fld q1 (by omega)).tr (mF3.fld q2 (by omega))).tr (mF3.fld q3 (by omega))
  have h3 := f3.ld h
  have hf3 : M3 27 0 181 = f := by rw [f3 27 0 181 (by decide), hf]
  have e16 := h3.2.2.1
  refine ⟨by omega, fun c => ⟨by omega, fun c2 => ⟨fun c3 => ?_, fun c3 => ?_⟩, fun c2 => ?_⟩, fun c => ⟨f3, ?_, fun q => absurd (e16 ▸ c) q, fun _ => ⟨?_, ?_⟩⟩⟩
  · rw [e16] at c ⊢
    have q3 := gB_in g (k := tT f B A - 1) (by omega)
    have q4 := gA_in g (f := f) (k := tT f B A - 1) (by omega)
    rw [(h3.1.2 _ (by omega)).1, (h3.2.1.2 _ (by omega)).1]
    refine ⟨by omega, by omega, ?_⟩
    have hc : full B A f w := by unfold full; omega
    exact (c_X9_all h3 hf3).mono fun M' q => ⟨f3.tr q.1, all_dn c hc (by rw [dP, if_pos hc, if_neg c2]; rfl) q.2⟩
  · rw [e16] at c
    exact (c_X9_laysLess h3 g hf3 c).mono fun M' q => ⟨f3.tr q.1, less_dn c (by unfold full; omega) q.2⟩
  · rw [e16] at c
    subst c2
    exact (c_X9_laysCut h3 g hf3 hf2 c).mono fun M' q => ⟨f3.tr q.1, q.2⟩
  · rw [e16] at c
    rw [q3, zu_at, if_neg (by decide), q2, zu_at, if_neg (by decide), q1, zu_at, if_pos rfl, dN, if_pos c]
  · rw [q3, zu_at, if_neg (by decide), q2, zu_at, if_pos rfl]
  · rw [q3, zu_at, if_pos rfl]
theorem c_X9_lays {g : Int} (rc : RC M) (hg : 0 ≤ g ∧ g < 4) : CV l m_X9_lays [zr 9 0, zi g] M (fun M' => mFs M M' ∧ mLd M' (rB M g) (rA M g) (qfee (rS M)) ∧ mDn M' (rB M g) (rA M g) (qfee (rS M)) (qlaw (rS M))) := by
  refine vX9_lays ((lays_g rc hg).mono ?_)
  rintro M1 ⟨f1, h1⟩
  have eS := f1.S
  have e1 : M1 27 0 182 = qlaw (rS M) := by rw [← eS]; rfl
  have e2 : M1 27 0 181 = qfee (rS M) := by rw [← eS]; rfl
  rw [e1]
  exact (c_X9_laysBy h1 (gd_m rc.ok) e2 rc.2.2.2.1 rc.2.2.2.2.1).mono fun M' q => ⟨f1.s.tr q.1.s, q.1.ld h1, q.2⟩
def LX9_doneOf_4 (l : Launch) (P : Int → zM → Prop) (v1 : Int) (v2 : Int) (v3 : Int) (M : zM) : Prop := AW l m_X9_doneOf (zTi m_X9_doneOf P) 4 [(0, zr 9 0), (1, zi v1), (2, zi v2), (3, zi v3)] [] M
theorem vX9_doneOf_4 {l : Launch} {P : Int → zM → Prop} {v1 : Int} {v2 : Int} {v3 : Int} {M : zM}
    (H0 : (zI v3 ∧ zI (M 9 0 18) ∧ ((M 9 0 18) ≤ v3 → P v2 M) ∧ (v3 < (M 9 0 18) → ((0 ≤ v3 ∧ v3 < 80) ∧ (zI (M 31 0 v3) ∧ zI v1 ∧ ((M 31 0 v3) = v1 → LX9_doneOf_4 l P v1 (v2 + 1) (v3 + 1) M) ∧ ((M 31 0 v3) ≠ v1 → (zI (M 34 0 v3) ∧ ((M 34 0 v3) ≠ v1 → LX9_doneOf_4 l P v1 (v2 + 0) (v3 + 1) M) ∧ ((M 34 0 v3) = v1 → LX9_doneOf_4 l P v1 (v2 + 1) (v3 + 1) M)))))))) :
    LX9_doneOf_4 l P v1 v2 v3 M :=
(aw_iload_n d_X9_doneOf_4 rfl rfl 3 rfl
(aw_aload_n d_X9_doneOf_5 rfl rfl 0 rfl (by decide)
(aw_getI (kc := 18) d_X9_doneOf_6 rfl fl9_146 rfl rfl
(have z1 := H0.1; have z2 := H0.2.1; have e3 := H0.2.2; aw_icmp_ge d_X9_doneOf_9 rfl rfl z1 z2 (fun c4 => have e6 := e3.1 c4; (aw_iload_n d_X9_doneOf_46 rfl rfl 2 rfl
(aw_ri d_X9_doneOf_47 rfl e6))) (fun c5 => have e7 := e3.2 c5; (aw_iload_n d_X9_doneOf_12 rfl rfl 2 rfl
(aw_aload_n d_X9_doneOf_13 rfl rfl 0 rfl (by decide)
(aw_getR (k' := 31) (a := 0) (b := 0) (j := 0) d_X9_doneOf_14 rfl fl9_23 rfl zj0 ⟨by decide, fun _ => by decide⟩
(aw_iload_n d_X9_doneOf_17 rfl rfl 3 rfl
(have z8 := e7.1; have e9 := e7.2; (aw_iald d_X9_doneOf_18 rfl za31 z8
(aw_iload_n d_X9_doneOf_19 rfl rfl 1 rfl
(have z10 := e9.1; have z11 := e9.2.1; have e12 := e9.2.2; aw_icmp_eq d_X9_doneOf_20 rfl rfl z10 z11 (fun c13 => have e15 := e12.1 c13; (aw_iconst d_X9_doneOf_33 rfl
(aw_goto d_X9_doneOf_34 rfl
(aw_iadd d_X9_doneOf_38 rfl
(aw_istore_n (lv' := [(2, zi (v2 + 1)), (0, zr 9 0), (1, zi v1), (3, zi v3)]) d_X9_doneOf_39 rfl rfl (by decide) rfl
(aw_iinc (lv' := [(3, zi (v3 + 1)), (2, zi (v2 + 1)), (0, zr 9 0), (1, zi v1)]) (y := (v3 + 1)) d_X9_doneOf_40 rfl 3 rfl (by decide) rfl rfl
(aw_goto d_X9_doneOf_43 rfl
(aw_sub [2, 3, 1, 0] rfl e15)))))))) (fun c14 => have e16 := e12.2 c14; (aw_aload_n d_X9_doneOf_23 rfl rfl 0 rfl (by decide)
(aw_getR (k' := 34) (a := 0) (b := 0) (j := 0) d_X9_doneOf_24 rfl fl9_32 rfl zj0 ⟨by decide, fun _ => by decide⟩
(aw_iload_n d_X9_doneOf_27 rfl rfl 3 rfl
(aw_iald d_X9_doneOf_28 rfl za34 z8
(aw_iload_n d_X9_doneOf_29 rfl rfl 1 rfl
(have z17 := e16.1; have e18 := e16.2; aw_icmp_ne d_X9_doneOf_30 rfl rfl z17 z11 (fun c19 => have e21 := e18.1 c19; (aw_iconst d_X9_doneOf_37 rfl
(aw_iadd d_X9_doneOf_38 rfl
(aw_istore_n (lv' := [(2, zi (v2 + 0)), (0, zr 9 0), (1, zi v1), (3, zi v3)]) d_X9_doneOf_39 rfl rfl (by decide) rfl
(aw_iinc (lv' := [(3, zi (v3 + 1)), (2, zi (v2 + 0)), (0, zr 9 0), (1, zi v1)]) (y := (v3 + 1)) d_X9_doneOf_40 rfl 3 rfl (by decide) rfl rfl
(aw_goto d_X9_doneOf_43 rfl
(aw_sub [2, 3, 1, 0] rfl e21))))))) (fun c20 => have e22 := e18.2 c20; (aw_iconst d_X9_doneOf_33 rfl
(aw_goto d_X9_doneOf_34 rfl
(aw_iadd d_X9_doneOf_38 rfl
(aw_istore_n (lv' := [(2, zi (v2 + 1)), (0, zr 9 0), (1, zi v1), (3, zi v3)]) d_X9_doneOf_39 rfl rfl (by decide) rfl
(aw_iinc (lv' := [(3, zi (v3 + 1)), (2, zi (v2 + 1)), (0, zr 9 0), (1, zi v1)]) (y := (v3 + 1)) d_X9_doneOf_40 rfl 3 rfl (by decide) rfl rfl
(aw_goto d_X9_doneOf_43 rfl
(aw_sub [2, 3, 1, 0] rfl e22))))))))))))))))))))))))))))
theorem vX9_doneOf {l : Launch} {P : Int → zM → Prop} {v1 : Int} {M : zM}
    (H0 : LX9_doneOf_4 l P v1 0 0 M) :
    CI l m_X9_doneOf [zr 9 0, zi v1] M P :=
(aw_iconst d_X9_doneOf_0 rfl
(aw_istore_n (lv' := [(2, zi 0), (0, zr 9 0), (1, zi v1)]) d_X9_doneOf_1 rfl rfl (by decide) rfl
(aw_iconst d_X9_doneOf_2 rfl
(aw_istore_n (lv' := [(3, zi 0), (2, zi 0), (0, zr 9 0), (1, zi v1)]) d_X9_doneOf_3 rfl rfl (by decide) rfl
(aw_sub [2, 3, 1, 0] rfl H0)))))
def LX9_sumOf_6 (l : Launch) (P : Int → zM → Prop) (v1 : Int) (v2 : Int) (v3 : Int) (v4 : Int) (v5 : Int) (M : zM) : Prop := AW l m_X9_sumOf (zTi m_X9_sumOf P) 6 [(0, zr 9 0), (1, zi v1), (2, zi v2), (3, zi v3), (4, zi v4), (5, zi v5)] [] M
theorem vX9_sumOf_6 {l : Launch} {P : Int → zM → Prop} {v1 : Int} {v2 : Int} {v3 : Int} {v4 : Int} {v5 : Int} {M : zM}
    (H0 : (zI v5 ∧ zI v2 ∧ (v2 ≤ v5 → P v4 M) ∧ (v5 < v2 → (zI v3 ∧ (v3 = 0 → (((0 ≤ v1 ∧ v1 < 20) ∧ (0 ≤ v5 ∧ v5 < 4) ∧ zI (M 27 0 (9 * v1 + (3 + v5)) + M 9 0 7)) ∧ LX9_sumOf_6 l P v1 v2 v3 (v4 + (msaid M v1 v5)) (v5 + 1) M)) ∧ (v3 ≠ 0 → ((0 ≤ 9 * v1 + (3 + v5) ∧ 9 * v1 + (3 + v5) < 187) ∧ LX9_sumOf_6 l P v1 v2 v3 (v4 + (M 27 0 (9 * v1 + (3 + v5)))) (v5 + 1) M)))))) :
    LX9_sumOf_6 l P v1 v2 v3 v4 v5 M :=
(aw_iload d_X9_sumOf_6 rfl 5 rfl
(aw_iload_n d_X9_sumOf_8 rfl rfl 2 rfl
(have z1 := H0.1; have z2 := H0.2.1; have e3 := H0.2.2; aw_icmp_ge d_X9_sumOf_9 rfl rfl z1 z2 (fun c4 => have e6 := e3.1 c4; (aw_iload d_X9_sumOf_46 rfl 4 rfl
(aw_ri d_X9_sumOf_48 rfl e6))) (fun c5 => have e7 := e3.2 c5; (aw_iload d_X9_sumOf_12 rfl 4 rfl
(aw_iload_n d_X9_sumOf_14 rfl rfl 3 rfl
(have z8 := e7.1; have e9 := e7.2; aw_if_eq d_X9_sumOf_15 rfl rfl z8 (fun c10 => have e12 := e9.1 c10; (aw_aload_n d_X9_sumOf_30 rfl rfl 0 rfl (by decide)
(aw_iload_n d_X9_sumOf_31 rfl rfl 1 rfl
(aw_iload d_X9_sumOf_32 rfl 5 rfl
(have z14 := e12.1; have e15 := e12.2; (aw_VI (As := [zi v1, zi v5]) (st := [zi v4]) d_X9_sumOf_34 rfl cv9_110 ⟨Nat.le_of_ble_eq_true rfl, Nat.le_of_ble_eq_true rfl⟩ rfl rfl (Nat.le_of_ble_eq_true rfl) (Nat.le_of_ble_eq_true rfl) (s_X9_said z14) (fun _ _ hq => aw_eqs hq
(aw_iadd d_X9_sumOf_37 rfl
(aw_istore (lv' := [(4, zi (v4 + (msaid M v1 v5))), (0, zr 9 0), (1, zi v1), (2, zi v2), (3, zi v3), (5, zi v5)]) d_X9_sumOf_38 rfl (by decide) rfl
(aw_iinc (lv' := [(5, zi (v5 + 1)), (4, zi (v4 + (msaid M v1 v5))), (0, zr 9 0), (1, zi v1), (2, zi v2), (3, zi v3)]) (y := (v5 + 1)) d_X9_sumOf_40 rfl 5 rfl (by decide) rfl rfl
(aw_goto d_X9_sumOf_43 rfl
(aw_sub [2, 3, 4, 5, 1, 0] rfl e15)))))))))))) (fun c11 => have e13 := e9.2 c11; (aw_aload_n d_X9_sumOf_18 rfl rfl 0 rfl (by decide)
(aw_iload_n d_X9_sumOf_19 rfl rfl 1 rfl
(aw_iconst d_X9_sumOf_20 rfl
(aw_iload d_X9_sumOf_21 rfl 5 rfl
(aw_iadd d_X9_sumOf_23 rfl
(have z16 := e13.1; have e17 := e13.2; (aw_VI (As := [zi v1, zi (3 + v5)]) (st := [zi v4]) d_X9_sumOf_24 rfl cv9_88 ⟨Nat.le_of_ble_eq_true rfl, Nat.le_of_ble_eq_true rfl⟩ rfl rfl (Nat.le_of_ble_eq_true rfl) (Nat.le_of_ble_eq_true rfl) (s_X9_of z16) (fun _ _ hq => aw_eqs hq
(aw_goto d_X9_sumOf_27 rfl
(aw_iadd d_X9_sumOf_37 rfl
(aw_istore (lv' := [(4, zi (v4 + (M 27 0 (9 * v1 + (3 + v5))))), (0, zr 9 0), (1, zi v1), (2, zi v2), (3, zi v3), (5, zi v5)]) d_X9_sumOf_38 rfl (by decide) rfl
(aw_iinc (lv' := [(5, zi (v5 + 1)), (4, zi (v4 + (M 27 0 (9 * v1 + (3 + v5))))), (0, zr 9 0), (1, zi v1), (2, zi v2), (3, zi v3)]) (y := (v5 + 1)) d_X9_sumOf_40 rfl 5 rfl (by decide) rfl rfl
(aw_goto d_X9_sumOf_43 rfl
(aw_sub [2, 3, 4, 5, 1, 0] rfl e17))))))))))))))))))))))
theorem vX9_sumOf {l : Launch} {P : Int → zM → Prop} {v1 : Int} {v2 : Int} {v3 : Int} {M : zM}
    (H0 : LX9_sumOf_6 l P v1 v2 v3 0 0 M) :
    CI l m_X9_sumOf [zr 9 0, zi v1, zi v2, zi v3] M P :=
(aw_iconst d_X9_sumOf_0 rfl
(aw_istore (lv' := [(4, zi 0), (0, zr 9 0), (1, zi v1), (2, zi v2), (3, zi v3)]) d_X9_sumOf_1 rfl (by decide) rfl
(aw_iconst d_X9_sumOf_3 rfl
(aw_istore (lv' := [(5, zi 0), (4, zi 0), (0, zr 9 0), (1, zi v1), (2, zi v2), (3, zi v3)]) d_X9_sumOf_4 rfl (by decide) rfl
(aw_sub [2, 3, 4, 5, 1, 0] rfl H0)))))
def LX9_doneWorth_4 (l : Launch) (P : Int → zM → Prop) (v1 : Int) (v2 : Int) (M : zM) : Prop := AW l m_X9_doneWorth (zTi m_X9_doneWorth P) 4 [(0, zr 9 0), (1, zi v1), (2, zi v2)] [] M
theorem vX9_doneWorth_4 {l : Launch} {P : Int → zM → Prop} {v1 : Int} {v2 : Int} {M : zM}
    (H0 : (zI v2 ∧ zI (M 9 0 18) ∧ ((M 9 0 18) ≤ v2 → P v1 M) ∧ (v2 < (M 9 0 18) → ((0 ≤ v2 ∧ v2 < 80) ∧ LX9_doneWorth_4 l P (v1 + ((M 33 0 v2) - (M 36 0 v2))) (v2 + 1) M)))) :
    LX9_doneWorth_4 l P v1 v2 M :=
(aw_iload_n d_X9_doneWorth_4 rfl rfl 2 rfl
(aw_aload_n d_X9_doneWorth_5 rfl rfl 0 rfl (by decide)
(aw_getI (kc := 18) d_X9_doneWorth_6 rfl fl9_146 rfl rfl
(have z1 := H0.1; have z2 := H0.2.1; have e3 := H0.2.2; aw_icmp_ge d_X9_doneWorth_9 rfl rfl z1 z2 (fun c4 => have e6 := e3.1 c4; (aw_iload_n d_X9_doneWorth_34 rfl rfl 1 rfl
(aw_ri d_X9_doneWorth_35 rfl e6))) (fun c5 => have e7 := e3.2 c5; (aw_iload_n d_X9_doneWorth_12 rfl rfl 1 rfl
(aw_aload_n d_X9_doneWorth_13 rfl rfl 0 rfl (by decide)
(aw_getR (k' := 33) (a := 0) (b := 0) (j := 0) d_X9_doneWorth_14 rfl fl9_29 rfl zj0 ⟨by decide, fun _ => by decide⟩
(aw_iload_n d_X9_doneWorth_17 rfl rfl 2 rfl
(have z8 := e7.1; have e9 := e7.2; (aw_iald d_X9_doneWorth_18 rfl za33 z8
(aw_aload_n d_X9_doneWorth_19 rfl rfl 0 rfl (by decide)
(aw_getR (k' := 36) (a := 0) (b := 0) (j := 0) d_X9_doneWorth_20 rfl fl9_38 rfl zj0 ⟨by decide, fun _ => by decide⟩
(aw_iload_n d_X9_doneWorth_23 rfl rfl 2 rfl
(aw_iald d_X9_doneWorth_24 rfl za36 z8
(aw_isub d_X9_doneWorth_25 rfl
(aw_iadd d_X9_doneWorth_26 rfl
(aw_istore_n (lv' := [(1, zi (v1 + ((M 33 0 v2) - (M 36 0 v2)))), (0, zr 9 0), (2, zi v2)]) d_X9_doneWorth_27 rfl rfl (by decide) rfl
(aw_iinc (lv' := [(2, zi (v2 + 1)), (1, zi (v1 + ((M 33 0 v2) - (M 36 0 v2)))), (0, zr 9 0)]) (y := (v2 + 1)) d_X9_doneWorth_28 rfl 2 rfl (by decide) rfl rfl
(aw_goto d_X9_doneWorth_31 rfl
(aw_sub [2, 1, 0] rfl e9)))))))))))))))))))))
theorem vX9_doneWorth {l : Launch} {P : Int → zM → Prop}  {M : zM}
    (H0 : LX9_doneWorth_4 l P 0 0 M) :
    CI l m_X9_doneWorth [zr 9 0] M P :=
(aw_iconst d_X9_doneWorth_0 rfl
(aw_istore_n (lv' := [(1, zi 0), (0, zr 9 0)]) d_X9_doneWorth_1 rfl rfl (by decide) rfl
(aw_iconst d_X9_doneWorth_2 rfl
(aw_istore_n (lv' := [(2, zi 0), (1, zi 0), (0, zr 9 0)]) d_X9_doneWorth_3 rfl rfl (by decide) rfl
(aw_sub [2, 1, 0] rfl H0)))))
theorem c_X9_doneOf {t w : Int} (h : mLd M B A f) (g : gd B A) (hd : mDn M B A f w) (zt : zI t) (hr : ∀ x ∈ B, zI (ktr x)) (hr2 : ∀ x ∈ A, zI (ktr x)) : CI l m_X9_doneOf [zr 9 0, zi t] M (fun x M' => x = cnt2 B A t (dN B A f w) ∧ M' = M) := by
  have h1 := dN_b (B := B) (A := A) (f := f) (w := w)
  have h2 := dN_l (B := B) (A := A) (f := f) (w := w)
  have hl := g.1
  have e18 := hd.1
  have loop : ∀ (n : Nat) (k : Int), (dN B A f w - k).toNat = n → 0 ≤ k ∧ k ≤ dN B A f w → LX9_doneOf_4 l (fun x M' => x = cnt2 B A t (dN B A f w) ∧ M' = M) t (cnt2 B A t k) k M := by
    intro n
    induction n with
    | zero =>
      intro k hn hk
      have : k = dN B A f w := by omega
      subst this
      exact vX9_doneOf_4 ⟨by omega, by omega, fun _ => ⟨rfl, rfl⟩, fun e => by omega⟩
    | succ n ih =>
      intro k hn hk
      have ih2 := ih (k + 1) (by omega) (by omega)
      have es : cnt2 B A t (k + 1) = cnt2 B A t k + (if ktr (B.getD k.toNat 0) = t ∨ ktr (A.getD k.toNat 0) = t then 1 else 0) := zsum_s hk.1
      rw [es] at ih2
      refine vX9_doneOf_4 ⟨by omega, by omega, fun e => by omega, fun _ => ⟨by omega, ?_⟩⟩
      rw [(h.1.2 k (by omega)).2.1, (h.2.1.2 k (by omega)).2.1]
      have z1 := hr _ (at_mem (L := B) (j := k) (by omega))
      have z2 := hr2 _ (at_mem (L := A) (j := k) (by omega))
      refine ⟨z1, zt, fun c => ?_, fun c => ⟨z2, fun c2 => ?_, fun c2 => ?_⟩⟩
      · rw [if_pos (.inl c)] at ih2; exact ih2
      · rw [if_neg (by rintro (q | q); exact c q; exact c2 q)] at ih2; exact ih2
      · rw [if_pos (.inr c2)] at ih2; exact ih2
  exact vX9_doneOf (loop _ 0 rfl (by omega))
theorem c_X9_sumOf {t m b : Int} (rc : RC M) (ht : 0 ≤ t ∧ t < qn (rS M)) (hm : 0 ≤ m ∧ m ≤ qun (rS M) t) (hb : b = 0 ∨ b = 1) : CI l m_X9_sumOf [zr 9 0, zi t, zi m, zi b] M (fun x M' => x = zsum (if b = 0 then rV M t else qsy (rS M) t) m ∧ M' = M) := by
  have hu := rc.2.1.2.1 t ht
  have loop : ∀ (n : Nat) (k : Int), (m - k).toNat = n → 0 ≤ k ∧ k ≤ m → LX9_sumOf_6 l (fun x M' => x = zsum (if b = 0 then rV M t else qsy (rS M) t) m ∧ M' = M) t m b (zsum (if b = 0 then rV M t else qsy (rS M) t) k) k M := by
    intro n
    induction n with
    | zero =>
      intro k hn hk
      have : k = m := by omega
      subst this
      exact vX9_sumOf_6 ⟨by omega, by omega, fun _ => ⟨rfl, rfl⟩, fun e => by omega⟩
    | succ n ih =>
      intro k hn hk
      have ih2 := ih (k + 1) (by omega) (by omega)
      rw [zsum_s hk.1] at ih2
      have hq : qU (rS M) t k := ⟨ht.1, ht.2, hk.1, by omega⟩
      have hs := rc.said hq
      refine vX9_sumOf_6 ⟨by omega, by omega, fun e => by omega, fun _ => ⟨by omega, fun c => ⟨⟨hs.2.2.1, hs.2.2.2, hs.2.1⟩, ?_⟩, fun c => ⟨by omega, ?_⟩⟩⟩
      · rw [hs.1]
        have e : (if b = 0 then rV M t else qsy (rS M) t) k = rV M t k := by rw [if_pos c]
        rw [e] at ih2
        exact ih2
      · rw [← rS_sy hq]
        have e : (if b = 0 then rV M t else qsy (rS M) t) k = qsy (rS M) t k := by rw [if_neg c]
        rw [e] at ih2
        exact ih2
  exact vX9_sumOf (loop _ 0 rfl (by omega))
theorem c_X9_doneWorth {w : Int} (h : mLd M B A f) (g : gd B A) (hd : mDn M B A f w) : CI l m_X9_doneWorth [zr 9 0] M (fun x M' => x = dW B A f w ∧ M' = M) := by
  have h1 := dN_b (B := B) (A := A) (f := f) (w := w)
  have h2 := dN_l (B := B) (A := A) (f := f) (w := w)
  have hl := g.1
  have e18 := hd.1
  have loop : ∀ (n : Nat) (k : Int), (dN B A f w - k).toNat = n → 0 ≤ k ∧ k ≤ dN B A f w → LX9_doneWorth_4 l (fun x M' => x = dW B A f w ∧ M' = M) (zsum (fun k => gB B k - gA f A k) k) k M := by
    intro n
    induction n with
    | zero =>
      intro k hn hk
      have : k = dN B A f w := by omega
      subst this
      exact vX9_doneWorth_4 ⟨by omega, by omega, fun _ => ⟨rfl, rfl⟩, fun e => by omega⟩
    | succ n ih =>
      intro k hn hk
      have ih2 := ih (k + 1) (by omega) (by omega)
      rw [zsum_s hk.1] at ih2
      refine vX9_doneWorth_4 ⟨by omega, by omega, fun e => by omega, fun _ => ⟨by omega, ?_⟩⟩
      rw [(h.1.2 k (by omega)).1, (h.2.1.2 k (by omega)).1]
      exact ih2
  exact vX9_doneWorth (loop _ 0 rfl (by omega))
end
