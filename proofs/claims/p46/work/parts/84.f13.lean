/-! ===== what grows ===== -/
/-- more was made, of the kinds K alone; nothing that was there has changed -/
def Gr (K : List Nat) (M M' : zM) : Prop := (∀ k i, ¬ (64 ≤ k ∧ k < 96) → k ≠ 97 → M' k i = M k i) ∧ (∀ (k i : Nat), (64 ≤ k ∧ k < 96) → (i : Int) < M 97 0 k → M' k i = M k i) ∧ (∀ q : Int, M 97 0 q ≤ M' 97 0 q) ∧ ∀ q : Nat, q ∉ K → M' 97 0 q = M 97 0 q
theorem Gr.rf {K : List Nat} {M : zM} : Gr K M M := ⟨fun _ _ _ _ => rfl, fun _ _ _ _ => rfl, fun _ => Int.le_refl _, fun _ _ => rfl⟩
theorem Gr.tr {K : List Nat} {M M1 M2 : zM} (a : Gr K M M1) (b : Gr K M1 M2) : Gr K M M2 :=
  ⟨fun k i h h' => (b.1 k i h h').trans (a.1 k i h h'), fun k i h h' => (b.2.1 k i h (Int.lt_of_lt_of_le h' (a.2.2.1 _))).trans (a.2.1 k i h h'), fun q => Int.le_trans (a.2.2.1 q) (b.2.2.1 q), fun q h => (b.2.2.2 q h).trans (a.2.2.2 q h)⟩
theorem Gr.mono {K K' : List Nat} {M M' : zM} (a : Gr K M M') (h : ∀ x ∈ K, x ∈ K') : Gr K' M M' := ⟨a.1, a.2.1, a.2.2.1, fun q hq => a.2.2.2 q (fun z => hq (h q z))⟩
theorem Gr.mg {K : List Nat} {M : zM} {k i : Nat} {f : Int → Int} (hk : 64 ≤ k ∧ k < 96) (hK : k ∈ K) (hi : (i : Int) = M 97 0 k) : Gr K M (zmg M k i f) :=
  ⟨fun k' i' h h' => zmg_o (by rintro ⟨rfl, -⟩; exact h hk) h', fun k' i' h h' => zmg_o (by rintro ⟨rfl, rfl⟩; omega) (by omega), fun q => zmg_ge (by omega) hi q, fun q hq => zmg_n (by omega) (fun e => hq ((show q = k by omega) ▸ hK))⟩
theorem Gr.mk {K : List Nat} {M : zM} {k i : Nat} {n : Int} (hk : 64 ≤ k ∧ k < 96) (hK : k ∈ K) (hi : (i : Int) = M 97 0 k) : Gr K M (zmk M k i n) := Gr.mg hk hK hi
/-- a cell that was not there at first is written -/
theorem Gr.st {K : List Nat} {M M1 M2 : zM} {k i : Nat} (h : Gr K M M1) (hk : 64 ≤ k ∧ k < 96) (hi : M 97 0 k ≤ (i : Int)) (e : ∀ k' i', ¬ (k' = k ∧ i' = i) → M2 k' i' = M1 k' i') : Gr K M M2 := by
  have e97 : M2 97 0 = M1 97 0 := e 97 0 (by omega)
  refine ⟨fun k' i' h1 h2 => (e k' i' (by rintro ⟨rfl, -⟩; exact h1 hk)).trans (h.1 k' i' h1 h2), fun k' i' h1 h2 => (e k' i' (by rintro ⟨rfl, rfl⟩; omega)).trans (h.2.1 k' i' h1 h2), fun q => by rw [e97]; exact h.2.2.1 q, fun q hq => by rw [e97]; exact h.2.2.2 q hq⟩
theorem Gr.zu {K : List Nat} {M M1 : zM} {k i : Nat} {j x : Int} (h : Gr K M M1) (hk : 64 ≤ k ∧ k < 96) (hi : M 97 0 k ≤ (i : Int)) : Gr K M (zu M1 k i j x) := h.st hk hi zu_o
theorem zmk_c {M : zM} {k i : Nat} {n : Int} : zmk M k i n 97 0 (k : Int) = (i : Int) + 1 := zmg_c
theorem zmk_n {M : zM} {k i : Nat} {n : Int} {q : Int} (hk : k ≠ 97) (h : q ≠ (k : Int)) : zmk M k i n 97 0 q = M 97 0 q := zmg_n hk h
theorem zmk_o {M : zM} {k i k' i' : Nat} {n : Int} (h : ¬ (k' = k ∧ i' = i)) (h97 : k' ≠ 97) : zmk M k i n k' i' = M k' i' := zmg_o h h97
theorem zmk_l {M : zM} {k i : Nat} {n : Int} (hk : k ≠ 97) : zmk M k i n k i (-1) = n := by
  unfold zmk
  rw [zmg_s hk, if_pos (by omega)]
theorem zmk_v {M : zM} {k i : Nat} {n j : Int} (hk : k ≠ 97) (hj : 0 ≤ j) : zmk M k i n k i j = zdf k j := by
  unfold zmk
  rw [zmg_s hk, if_neg (by omega)]
theorem zu_w {M : zM} {k i : Nat} {j x j' : Int} : zu M k i j x k i j' = if j' = j then x else M k i j' := by
  by_cases h : j' = j
  · rw [if_pos h, h, zu_s]
  · rw [if_neg h, zu_n (by omega)]
theorem zdf_0 {k : Nat} {j : Int} (h : ¬ zob k) (h5 : zety k ≠ 5) : zdf k j = 0 := by
  unfold zdf
  rw [zrp_na h h5]
  rfl
theorem zdf_r {k : Nat} {j : Int} (h5 : zety k = 5) : zdf k j = -1 := by
  unfold zdf zrp
  rw [if_pos h5]
  rfl
theorem rwI.app {M M' : zM} {k i : Nat} {L N : List Int} (h : rwI M k i L) (e : ∀ j : Int, 0 ≤ j ∧ j < (L.length : Int) → M' k i j = M k i j) (e2 : ∀ j : Int, 0 ≤ j ∧ j < (N.length : Int) → M' k i ((L.length : Int) + j) = N.getD j.toNat 0) : rwI M' k i (L ++ N) := by
  intro j hj
  rw [List.length_append] at hj
  rw [List.getD_eq_getElem?_getD, List.getElem?_append]
  by_cases c : j < (L.length : Int)
  · rw [if_pos (by omega), e j ⟨hj.1, c⟩, h j ⟨hj.1, c⟩, List.getD_eq_getElem?_getD]
  · rw [if_neg (by omega)]
    have := e2 (j - L.length) (by omega)
    rw [show (L.length : Int) + (j - L.length) = j by omega] at this
    rw [this, List.getD_eq_getElem?_getD, show (j - (L.length : Int)).toNat = j.toNat - L.length by omega]
theorem c_app {L N : List Int} (h : ∀ c ∈ L, 0 ≤ c ∧ c < 128) (h2 : ∀ c ∈ N, (0 : Int) ≤ c ∧ c < 128) : ∀ c ∈ L ++ N, 0 ≤ c ∧ c < 128 := fun c hc => (List.mem_append.mp hc).elim (h c) (h2 c)
section
variable {l : Launch} {M : zM}
theorem vJ0_getBytes_840e7 {l : Launch} {P : zM → Prop} {h : Nat} {s1 : Nat} {v2 : Int} {v3 : Int} {M : zM}
    (H0 : (zI v3 ∧ ((0 ≠ v3 → False) ∧ (0 = v3 → ((((zsLen.getD h 0 : Nat) : Int) = (zsLen.getD h 0 : Nat) ∧ 0 ≤ (zshl v2 v3) ∧ (zshl v2 v3) + ((zsLen.getD h 0 : Nat) : Int) ≤ (zln M 80 s1 : Nat)) ∧ zln M 80 s1 ≤ 1000000 ∧ ∀ M10 : zM, M10 = zcs M h 80 s1 (zshl v2 v3) ((zsLen.getD h 0 : Nat) : Int) → P M10))))) :
    CV l m_J0_getBytes_840e7 [zr 61 h, zr 80 s1, zi v2, zi v3] M P :=
(aw_aload_n d_J0_getBytes_840e7_0 rfl rfl 0 rfl (by decide)
(aw_TI (As := []) (st := []) d_J0_getBytes_840e7_1 rfl ctJ0_335 ⟨Nat.le_of_ble_eq_true rfl, Nat.le_of_ble_eq_true rfl⟩ rfl rfl (Nat.le_of_ble_eq_true rfl) (Nat.le_of_ble_eq_true rfl) (s_J0_coder_7d493) (fun _ _ hq => aw_eqs hq
(aw_iload_n d_J0_getBytes_840e7_4 rfl rfl 3 rfl
(have z1 := H0.1; have e2 := H0.2; aw_icmp_ne d_J0_getBytes_840e7_5 rfl rfl (by decide) z1 (fun c3 => have e5 := e2.1 c3; (aw_aload_n d_J0_getBytes_840e7_28 rfl rfl 0 rfl (by decide)
(aw_value d_J0_getBytes_840e7_29 rfl cf_9
(aw_iconst d_J0_getBytes_840e7_32 rfl
(aw_aload_n d_J0_getBytes_840e7_33 rfl rfl 1 rfl (by decide)
(aw_iload_n d_J0_getBytes_840e7_34 rfl rfl 2 rfl
(aw_aload_n d_J0_getBytes_840e7_35 rfl rfl 0 rfl (by decide)
(aw_value d_J0_getBytes_840e7_36 rfl cf_9
(aw_slen d_J0_getBytes_840e7_39 rfl
(e5).elim))))))))) (fun c4 => have e6 := e2.2 c4; (aw_aload_n d_J0_getBytes_840e7_8 rfl rfl 0 rfl (by decide)
(aw_value d_J0_getBytes_840e7_9 rfl cf_9
(aw_iconst d_J0_getBytes_840e7_12 rfl
(aw_aload_n d_J0_getBytes_840e7_13 rfl rfl 1 rfl (by decide)
(aw_iload_n d_J0_getBytes_840e7_14 rfl rfl 2 rfl
(aw_iload_n d_J0_getBytes_840e7_15 rfl rfl 3 rfl
(aw_ishl d_J0_getBytes_840e7_16 rfl zshl_h
(aw_aload_n d_J0_getBytes_840e7_17 rfl rfl 0 rfl (by decide)
(aw_value d_J0_getBytes_840e7_18 rfl cf_9
(aw_slen d_J0_getBytes_840e7_21 rfl
(have z7 := e6.1; have z8 := e6.2.1; aw_copyS d_J0_getBytes_840e7_22 rfl cmJ0_212 ⟨Nat.le_of_ble_eq_true rfl, Nat.le_of_ble_eq_true rfl⟩ zd80.G z7 z8
(have e9 := e6.2.2 _ rfl; (aw_goto d_J0_getBytes_840e7_25 rfl
(aw_rv d_J0_getBytes_840e7_43 rfl e9))))))))))))))))))))
theorem vJ5_putStringAt_47b60 {l : Launch} {P : zM → Prop} {h : Nat} {s2 : Nat} {v1 : Int} {M : zM}
    (H0 : (M 67 h 1 = 0 ∧ ((0 ≤ M 67 h 0 ∧ M 67 h 0 < M 97 0 80) ∧ ∀ r4 : Nat, (r4 : Int) = M 67 h 0 → (CV l m_J0_getBytes_840e7 [zr 61 s2, zr 80 r4, zi v1, zi (M 67 h 1)] M (fun M6 => P M6))))) :
    CV l m_J5_putStringAt_47b60 [zr 67 h, zi v1, zr 61 s2] M P :=
(aw_aload_n d_J5_putStringAt_47b60_0 rfl rfl 0 rfl (by decide)
(aw_aload_n d_J5_putStringAt_47b60_1 rfl rfl 2 rfl (by decide)
(have z1 := H0.1; aw_UV (As := [zr 61 s2]) (st := []) d_J5_putStringAt_47b60_2 rfl cuJ5_397 ⟨Nat.le_of_ble_eq_true rfl, Nat.le_of_ble_eq_true rfl⟩ rfl rfl (Nat.le_of_ble_eq_true rfl) (Nat.le_of_ble_eq_true rfl) (s_J5_inflateIfNeededFor_a7421 z1) (fun _ hq => aw_eqM hq
(have e2 := H0.2; (aw_aload_n d_J5_putStringAt_47b60_5 rfl rfl 2 rfl (by decide)
(aw_aload_n d_J5_putStringAt_47b60_6 rfl rfl 0 rfl (by decide)
(have z3 := e2.1; aw_getE (kc := 0) d_J5_putStringAt_47b60_7 rfl flJ5_15 rfl rfl (by decide) z3
(fun r4 hqr4 => (have e5 := e2.2 r4 hqr4; (aw_iload_n d_J5_putStringAt_47b60_10 rfl rfl 1 rfl
(aw_aload_n d_J5_putStringAt_47b60_11 rfl rfl 0 rfl (by decide)
(aw_getI (kc := 1) d_J5_putStringAt_47b60_12 rfl flJ5_22 rfl rfl
(aw_TV (As := [zr 80 r4, zi v1, zi (M 67 h 1)]) (st := []) d_J5_putStringAt_47b60_15 rfl ctJ5_399 ⟨Nat.le_of_ble_eq_true rfl, Nat.le_of_ble_eq_true rfl⟩ rfl rfl (Nat.le_of_ble_eq_true rfl) (Nat.le_of_ble_eq_true rfl) e5 (fun M6 e7 => (aw_rv d_J5_putStringAt_47b60_18 rfl e7))))))))))))))))
theorem vJ5_append_cf1ce {l : Launch} {P : Nat → zM → Prop} {h : Nat} {s1 : Nat} {M : zM}
    (H0 : ((bW M h ∧ 0 ≤ ((M 67 h 3) + ((zsLen.getD s1 0 : Nat) : Int)) ∧ ((M 67 h 3) + ((zsLen.getD s1 0 : Nat) : Int)) ≤ 400) ∧ (CV l m_J5_putStringAt_47b60 [zr 67 h, zi (M 67 h 3), zr 61 s1] M (fun M3 => (∀ M6 : zM, M6 = zu M3 67 h 3 ((M3 67 h 3) + ((zsLen.getD s1 0 : Nat) : Int)) → P h M6))))) :
    CR l m_J5_append_cf1ce 67 [zr 67 h, zr 61 s1] M P :=
(aw_aload_n d_J5_append_cf1ce_0 rfl rfl 1 rfl (by decide)
(aw_ifnonnull d_J5_append_cf1ce_1 rfl (by decide)
(aw_aload_n d_J5_append_cf1ce_9 rfl rfl 1 rfl (by decide)
(aw_TI (As := []) (st := []) d_J5_append_cf1ce_10 rfl ctJ5_32 ⟨Nat.le_of_ble_eq_true rfl, Nat.le_of_ble_eq_true rfl⟩ rfl rfl (Nat.le_of_ble_eq_true rfl) (Nat.le_of_ble_eq_true rfl) (s_J0_length_8abf5) (fun _ _ hq => aw_eqs hq
(aw_istore_n (lv' := [(2, zi ((zsLen.getD s1 0 : Nat) : Int)), (0, zr 67 h), (1, zr 61 s1)]) d_J5_append_cf1ce_13 rfl rfl (by decide) rfl
(aw_aload_n d_J5_append_cf1ce_14 rfl rfl 1 rfl (by decide)
(aw_aload_n d_J5_append_cf1ce_15 rfl rfl 1 rfl (by decide)
(aw_getI (kc := 3) d_J5_append_cf1ce_16 rfl flJ5_79 rfl rfl
(aw_iload_n d_J5_append_cf1ce_19 rfl rfl 0 rfl
(aw_iadd d_J5_append_cf1ce_20 rfl
(have z1 := H0.1; aw_UV (As := [zi ((M 67 h 3) + ((zsLen.getD s1 0 : Nat) : Int))]) (st := []) d_J5_append_cf1ce_21 rfl cuJ5_100 ⟨Nat.le_of_ble_eq_true rfl, Nat.le_of_ble_eq_true rfl⟩ rfl rfl (Nat.le_of_ble_eq_true rfl) (Nat.le_of_ble_eq_true rfl) (s_J5_ensureCapacityInternal_d00df z1) (fun _ hq => aw_eqM hq
(have e2 := H0.2; (aw_aload_n d_J5_append_cf1ce_24 rfl rfl 1 rfl (by decide)
(aw_aload_n d_J5_append_cf1ce_25 rfl rfl 1 rfl (by decide)
(aw_getI (kc := 3) d_J5_append_cf1ce_26 rfl flJ5_79 rfl rfl
(aw_aload_n d_J5_append_cf1ce_29 rfl rfl 2 rfl (by decide)
(aw_UV (As := [zi (M 67 h 3), zr 61 s1]) (st := []) d_J5_append_cf1ce_30 rfl cuJ5_208 ⟨Nat.le_of_ble_eq_true rfl, Nat.le_of_ble_eq_true rfl⟩ rfl rfl (Nat.le_of_ble_eq_true rfl) (Nat.le_of_ble_eq_true rfl) e2 (fun M3 e4 => (aw_aload_n d_J5_append_cf1ce_33 rfl rfl 1 rfl (by decide)
(aw_dup d_J5_append_cf1ce_34 rfl rfl
(aw_getI (kc := 3) d_J5_append_cf1ce_35 rfl flJ5_79 rfl rfl
(aw_iload_n d_J5_append_cf1ce_38 rfl rfl 0 rfl
(aw_iadd d_J5_append_cf1ce_39 rfl
(aw_put (kc := 3) d_J5_append_cf1ce_40 rfl fpJ5_79 rfl rfl rfl rfl
(have e5 := e4 _ rfl; (aw_aload_n d_J5_append_cf1ce_43 rfl rfl 1 rfl (by decide)
(aw_rrg d_J5_append_cf1ce_44 rfl (Or.inl ⟨_, rfl⟩) (by decide) e5)))))))))))))))))))))))))))))
theorem vJ4_append_15ec4 {l : Launch} {P : Nat → zM → Prop} {h : Nat} {s1 : Nat} {M : zM}
    (H0 : (CR l m_J5_append_cf1ce 67 [zr 67 h, zr 61 s1] M (fun (x3 : Nat) M1 => P h M1))) :
    CR l m_J4_append_15ec4 67 [zr 67 h, zr 61 s1] M P :=
(aw_aload_n d_J4_append_15ec4_0 rfl rfl 0 rfl (by decide)
(aw_aload_n d_J4_append_15ec4_1 rfl rfl 1 rfl (by decide)
(aw_PR (As := [zr 61 s1]) (st := []) d_J4_append_15ec4_2 rfl cpJ4_29 ⟨Nat.le_of_ble_eq_true rfl, Nat.le_of_ble_eq_true rfl⟩ rfl rfl (Nat.le_of_ble_eq_true rfl) (Nat.le_of_ble_eq_true rfl) H0 (fun x3 M1 e2 => (aw_pop d_J4_append_15ec4_5 rfl rfl
(aw_aload_n d_J4_append_15ec4_6 rfl rfl 0 rfl (by decide)
(aw_rrg d_J4_append_15ec4_7 rfl (Or.inl ⟨_, rfl⟩) (by decide) e2)))))))
theorem c_append {b v s : Nat} {L : List Int} (h : sbt M b v L) (hs : s < 16) (hl : L.length + (zw s).length ≤ 400) : CR l m_J4_append_15ec4 67 [zr 67 b, zr 61 s] M (fun r M' => r = b ∧ bX M M' b v ∧ sbt M' b v (L ++ zw s)) := by
  have hW := h.W
  obtain ⟨h1, h2, h3, h4, h5, h6, h7, h8⟩ := h
  have hz := zwl hs
  have hc := zwl_c hs
  have hln : zln M 80 v = 400 := by rw [zln_d rfl, h5]; rfl
  refine vJ4_append_15ec4 (vJ5_append_cf1ce ⟨⟨hW, by omega⟩, vJ5_putStringAt_47b60 ⟨h2, by rw [h1]; exact ⟨by omega, h4⟩, fun r hr => ?_⟩⟩)
  have er : r = v := by omega
  subst er
  rw [h2]
  refine vJ0_getBytes_840e7 ⟨by omega, fun e => absurd rfl e, fun _ => ?_⟩
  rw [h3, zshl_0 (by omega), hln]
  refine ⟨⟨rfl, by omega, by omega⟩, by omega, ?_⟩
  rintro M1 rfl M2 rfl
  have e67 : zcs M s 80 r (L.length : Int) ((zsLen.getD s 0 : Nat) : Int) 67 = M 67 := by
    funext i j
    exact if_neg (by omega)
  have e97 : zcs M s 80 r (L.length : Int) ((zsLen.getD s 0 : Nat) : Int) 97 = M 97 := by
    funext i j
    exact if_neg (by omega)
  refine ⟨rfl, fun k i a1 a2 => ?_, ?_⟩
  · rw [zu_o k i a1]
    funext j
    exact if_neg (by rintro ⟨z1, z2, -⟩; exact a2 ⟨z1, z2⟩)
  · have e80 : zu (zcs M s 80 r (L.length : Int) ((zsLen.getD s 0 : Nat) : Int)) 67 b 3 ((zcs M s 80 r (L.length : Int) ((zsLen.getD s 0 : Nat) : Int)) 67 b 3 + ((zsLen.getD s 0 : Nat) : Int)) 80 r = zcs M s 80 r (L.length : Int) ((zsLen.getD s 0 : Nat) : Int) 80 r := zu_o _ _ (by omega)
    refine ⟨?_, ?_, ?_, ?_, ?_, ?_, ?_, c_app h8 hc⟩
    · rw [zu_n (by omega), e67, h1]
    · rw [zu_n (by omega), e67, h2]
    · rw [zu_s, e67, h3, List.length_append]; omega
    · rw [zu_n (by omega), e97]; exact h4
    · rw [e80]
      exact (if_neg (by omega)).trans h5
    · rw [List.length_append]; exact hl
    · refine h7.app (fun j hj => ?_) (fun j hj => ?_)
      · rw [e80]
        exact if_neg (by omega)
      · rw [e80]
        refine (if_pos ⟨rfl, rfl, by omega, by omega⟩).trans ?_
        rw [show (L.length : Int) + j - L.length = j by omega, zw_at]
theorem vJ5_append_3fe6f {l : Launch} {P : Nat → zM → Prop} {h : Nat} {v1 : Int} {M : zM}
    (H0 : ((bW M h ∧ 0 ≤ ((M 67 h 3) + 1) ∧ ((M 67 h 3) + 1) ≤ 400) ∧ (M 67 h 1 = 0 ∧ ((0 ≤ v1 ∧ v1 < 128) ∧ ((0 ≤ M 67 h 0 ∧ M 67 h 0 < M 97 0 80) ∧ ∀ r10 : Nat, (r10 : Int) = M 67 h 0 → (∀ M13 : zM, M13 = zu M 67 h 3 ((M 67 h 3) + 1) → ((0 ≤ (M 67 h 3) ∧ (M 67 h 3) < M13 80 r10 (-1) ∧ M13 80 r10 (-1) ≤ 1000000) ∧ ∀ M16 : zM, M16 = zu M13 80 r10 (M 67 h 3) (zi2b v1) → P h M16))))))) :
    CR l m_J5_append_3fe6f 67 [zr 67 h, zi v1] M P :=
(aw_aload_n d_J5_append_3fe6f_0 rfl rfl 0 rfl (by decide)
(aw_aload_n d_J5_append_3fe6f_1 rfl rfl 0 rfl (by decide)
(aw_getI (kc := 3) d_J5_append_3fe6f_2 rfl flJ5_79 rfl rfl
(aw_iconst d_J5_append_3fe6f_5 rfl
(aw_iadd d_J5_append_3fe6f_6 rfl
(have z1 := H0.1; aw_UV (As := [zi ((M 67 h 3) + 1)]) (st := []) d_J5_append_3fe6f_7 rfl cuJ5_100 ⟨Nat.le_of_ble_eq_true rfl, Nat.le_of_ble_eq_true rfl⟩ rfl rfl (Nat.le_of_ble_eq_true rfl) (Nat.le_of_ble_eq_true rfl) (s_J5_ensureCapacityInternal_d00df z1) (fun _ hq => aw_eqM hq
(have e2 := H0.2; (aw_aload_n d_J5_append_3fe6f_10 rfl rfl 0 rfl (by decide)
(have z3 := e2.1; aw_UI (As := []) (st := []) d_J5_append_3fe6f_11 rfl cuJ5_83 ⟨Nat.le_of_ble_eq_true rfl, Nat.le_of_ble_eq_true rfl⟩ rfl rfl (Nat.le_of_ble_eq_true rfl) (Nat.le_of_ble_eq_true rfl) (s_J5_isLatin1_aae02 z3) (fun _ _ hq => aw_eqs hq
(have e4 := e2.2; (aw_if_eq d_J5_append_3fe6f_14 rfl rfl (by decide) (fun c5 => absurd c5 (by decide)) (fun _ => (aw_iload_n d_J5_append_3fe6f_17 rfl rfl 1 rfl
(have z6 := e4.1; aw_SI (As := [zi v1]) (st := []) d_J5_append_3fe6f_18 rfl csJ5_191 ⟨Nat.le_of_ble_eq_true rfl, Nat.le_of_ble_eq_true rfl⟩ rfl rfl (Nat.le_of_ble_eq_true rfl) (Nat.le_of_ble_eq_true rfl) (s_J1_canEncode_fc78d z6) (fun _ _ hq => aw_eqs hq
(have e7 := e4.2; (aw_if_eq d_J5_append_3fe6f_21 rfl rfl (by decide) (fun c8 => absurd c8 (by decide)) (fun _ => (aw_aload_n d_J5_append_3fe6f_24 rfl rfl 0 rfl (by decide)
(have z9 := e7.1; aw_getE (kc := 0) d_J5_append_3fe6f_25 rfl flJ5_15 rfl rfl (by decide) z9
(fun r10 hqr10 => (have e11 := e7.2 r10 hqr10; (aw_aload_n d_J5_append_3fe6f_28 rfl rfl 0 rfl (by decide)
(aw_dup d_J5_append_3fe6f_29 rfl rfl
(aw_getI (kc := 3) d_J5_append_3fe6f_30 rfl flJ5_79 rfl rfl
(aw_dup_x1 d_J5_append_3fe6f_33 rfl rfl rfl
(aw_iconst d_J5_append_3fe6f_34 rfl
(aw_iadd d_J5_append_3fe6f_35 rfl
(aw_put (kc := 3) d_J5_append_3fe6f_36 rfl fpJ5_79 rfl rfl rfl rfl
(have e12 := e11 _ rfl; (aw_iload_n d_J5_append_3fe6f_39 rfl rfl 1 rfl
(aw_i2b d_J5_append_3fe6f_40 rfl zi2b_h
(have z14 := e12.1; aw_bastG d_J5_append_3fe6f_41 rfl zd80.G (zix_d rfl z14) zi2b_r
(have e15 := e12.2 _ rfl; (aw_goto d_J5_append_3fe6f_42 rfl
(aw_aload_n d_J5_append_3fe6f_75 rfl rfl 0 rfl (by decide)
(aw_rrg d_J5_append_3fe6f_76 rfl (Or.inl ⟨_, rfl⟩) (by decide) e15)))))))))))))))))))))))))))))))))))))))
theorem vJ4_append_cf468 {l : Launch} {P : Nat → zM → Prop} {h : Nat} {v1 : Int} {M : zM}
    (H0 : (CR l m_J5_append_3fe6f 67 [zr 67 h, zi v1] M (fun (x3 : Nat) M1 => P h M1))) :
    CR l m_J4_append_cf468 67 [zr 67 h, zi v1] M P :=
(aw_aload_n d_J4_append_cf468_0 rfl rfl 0 rfl (by decide)
(aw_iload_n d_J4_append_cf468_1 rfl rfl 1 rfl
(aw_PR (As := [zi v1]) (st := []) d_J4_append_cf468_2 rfl cpJ4_50 ⟨Nat.le_of_ble_eq_true rfl, Nat.le_of_ble_eq_true rfl⟩ rfl rfl (Nat.le_of_ble_eq_true rfl) (Nat.le_of_ble_eq_true rfl) H0 (fun x3 M1 e2 => (aw_pop d_J4_append_cf468_5 rfl rfl
(aw_aload_n d_J4_append_cf468_6 rfl rfl 0 rfl (by decide)
(aw_rrg d_J4_append_cf468_7 rfl (Or.inl ⟨_, rfl⟩) (by decide) e2)))))))
theorem c_appendC {b v : Nat} {c : Int} {L : List Int} (h : sbt M b v L) (hc : 0 ≤ c ∧ c < 128) (hl : L.length + 1 ≤ 400) : CR l m_J4_append_cf468 67 [zr 67 b, zi c] M (fun r M' => r = b ∧ bX M M' b v ∧ sbt M' b v (L ++ [c])) := by
  have hW := h.W
  obtain ⟨h1, h2, h3, h4, h5, h6, h7, h8⟩ := h
  refine vJ4_append_cf468 (vJ5_append_3fe6f ⟨⟨hW, by omega⟩, h2, hc, by rw [h1]; exact ⟨by omega, h4⟩, fun r hr M1 hM1 => ?_⟩)
  have er : r = v := by omega
  subst er
  have e80 : M1 80 r = M 80 r := by rw [hM1]; exact zu_o _ _ (by omega)
  rw [e80, h5, h3]
  refine ⟨by omega, ?_⟩
  rintro M2 rfl
  rw [zi2b_by hc]
  refine ⟨rfl, fun k i a1 a2 => by rw [zu_o k i a2, hM1, zu_o k i a1], ?_⟩
  refine ⟨?_, ?_, ?_, ?_, ?_, ?_, ?_, c_app h8 (fun x hx => by rw [List.mem_singleton] at hx; rw [hx]; exact hc)⟩
  · rw [zu_n (by omega), hM1, zu_n (by omega), h1]
  · rw [zu_n (by omega), hM1, zu_n (by omega), h2]
  · rw [zu_n (by omega), hM1, zu_s, h3, List.length_append]; rfl
  · rw [zu_n (by omega), hM1, zu_n (by omega)]; exact h4
  · rw [zu_n (by omega), e80]; exact h5
  · rw [List.length_append]; exact hl
  · refine h7.app (fun j hj => ?_) (fun j hj => ?_)
    · rw [zu_n (by omega), e80]
    · simp only [List.length_singleton] at hj
      have : j = 0 := by omega
      subst this
      rw [Int.add_zero, zu_s]
      rfl
def LJ6_getChars_ba4f3_22 (l : Launch) (P : Int → zM → Prop) (s2 : Nat) (v0 : Int) (v5 : Int) (v6 : Int) (M : zM) : Prop := AW l m_J6_getChars_ba4f3 (zTi m_J6_getChars_ba4f3 P) 22 [(0, zi v0), (2, zr 80 s2), (5, zi v5), (6, zi v6)] [] M
theorem vJ6_getChars_ba4f3_22 {l : Launch} {P : Int → zM → Prop} {s2 : Nat} {v0 : Int} {v5 : Int} {v6 : Int} {M : zM}
    (H0 : (zI v0 ∧ (((-100) < v0 → ((0 ≤ (-v0) ∧ (-v0) < 100) ∧ ((0 ≤ (v5 - 1) ∧ (v5 - 1) < M 80 s2 (-1) ∧ M 80 s2 (-1) ≤ 1000000) ∧ (-128 ≤ (48 + (((-v0).toNat : Nat) : Int) % 10) ∧ (48 + (((-v0).toNat : Nat) : Int) % 10) < 128) ∧ ∀ M20 : zM, M20 = zu M 80 s2 (v5 - 1) (48 + (((-v0).toNat : Nat) : Int) % 10) → (((-9) ≤ v0 → (zI v6 ∧ ((v6 = 0 → P (v5 - 1) M20) ∧ (v6 ≠ 0 → ((0 ≤ ((v5 - 1) - 1) ∧ ((v5 - 1) - 1) < M20 80 s2 (-1) ∧ M20 80 s2 (-1) ≤ 1000000) ∧ ∀ M33 : zM, M33 = zu M20 80 s2 ((v5 - 1) - 1) 45 → P ((v5 - 1) - 1) M33))))) ∧ (v0 < (-9) → ((0 ≤ ((v5 - 1) - 1) ∧ ((v5 - 1) - 1) < M20 80 s2 (-1) ∧ M20 80 s2 (-1) ≤ 1000000) ∧ (-128 ≤ (48 + (((-v0).toNat : Nat) : Int) / 10) ∧ (48 + (((-v0).toNat : Nat) : Int) / 10) < 128) ∧ ∀ M37 : zM, M37 = zu M20 80 s2 ((v5 - 1) - 1) (48 + (((-v0).toNat : Nat) : Int) / 10) → (zI v6 ∧ ((v6 = 0 → P ((v5 - 1) - 1) M37) ∧ (v6 ≠ 0 → ((0 ≤ (((v5 - 1) - 1) - 1) ∧ (((v5 - 1) - 1) - 1) < M37 80 s2 (-1) ∧ M37 80 s2 (-1) ≤ 1000000) ∧ ∀ M46 : zM, M46 = zu M37 80 s2 (((v5 - 1) - 1) - 1) 45 → P (((v5 - 1) - 1) - 1) M46)))))))))) ∧ (v0 ≤ (-100) → ((0 ≤ (((Int.tdiv v0 100) * 100) - v0) ∧ (((Int.tdiv v0 100) * 100) - v0) < 100) ∧ ((0 ≤ (v5 - 1) ∧ (v5 - 1) < M 80 s2 (-1) ∧ M 80 s2 (-1) ≤ 1000000) ∧ (-128 ≤ (48 + (((((Int.tdiv v0 100) * 100) - v0).toNat : Nat) : Int) % 10) ∧ (48 + (((((Int.tdiv v0 100) * 100) - v0).toNat : Nat) : Int) % 10) < 128) ∧ ∀ M52 : zM, M52 = zu M 80 s2 (v5 - 1) (48 + (((((Int.tdiv v0 100) * 100) - v0).toNat : Nat) : Int) % 10) → ((0 ≤ ((v5 - 1) - 1) ∧ ((v5 - 1) - 1) < M52 80 s2 (-1) ∧ M52 80 s2 (-1) ≤ 1000000) ∧ (-128 ≤ (48 + (((((Int.tdiv v0 100) * 100) - v0).toNat : Nat) : Int) / 10) ∧ (48 + (((((Int.tdiv v0 100) * 100) - v0).toNat : Nat) : Int) / 10) < 128) ∧ ∀ M56 : zM, M56 = zu M52 80 s2 ((v5 - 1) - 1) (48 + (((((Int.tdiv v0 100) * 100) - v0).toNat : Nat) : Int) / 10) → LJ6_getChars_ba4f3_22 l P s2 (Int.tdiv v0 100) ((v5 - 1) - 1) v6 M56))))))) :
    LJ6_getChars_ba4f3_22 l P s2 v0 v5 v6 M :=
(aw_iload_n d_J6_getChars_ba4f3_22 rfl rfl 0 rfl
(aw_bipush d_J6_getChars_ba4f3_23 rfl (by decide)
(have z9 := H0.1; have e10 := H0.2; aw_icmp_gt d_J6_getChars_ba4f3_25 rfl rfl z9 (by decide) (fun c11 => have e13 := e10.1 c11; (aw_aload_n d_J6_getChars_ba4f3_72 rfl rfl 1 rfl (by decide)
(aw_iinc (lv' := [(5, zi (v5 - 1)), (0, zi v0), (2, zr 80 s2), (6, zi v6)]) (y := (v5 - 1)) d_J6_getChars_ba4f3_73 rfl 2 rfl (by decide) rfl rfl
(aw_iload d_J6_getChars_ba4f3_76 rfl 0 rfl
(aw_digs (q := ("DigitOnes", 3, fun j => 48 + (j : Int) % 10)) (by simp [zDigs]) d_J6_getChars_ba4f3_78 rfl cfJ6_83
(aw_iload_n d_J6_getChars_ba4f3_81 rfl rfl 1 rfl
(aw_ineg d_J6_getChars_ba4f3_82 rfl
(have z15 := e13.1; aw_digit (q := ("DigitOnes", 3, fun j => 48 + (j : Int) % 10)) (by simp [zDigs]) d_J6_getChars_ba4f3_83 rfl z15
(have e16 := e13.2; (have z17 := e16.1; have z18 := e16.2.1; aw_bastG d_J6_getChars_ba4f3_84 rfl zd80.G (zix_d rfl z17) z18
(have e19 := e16.2.2 _ rfl; (aw_iload_n d_J6_getChars_ba4f3_85 rfl rfl 1 rfl
(aw_bipush d_J6_getChars_ba4f3_86 rfl (by decide)
(aw_icmp_ge d_J6_getChars_ba4f3_88 rfl rfl z9 (by decide) (fun c21 => have e23 := e19.1 c21; (aw_iload d_J6_getChars_ba4f3_104 rfl 3 rfl
(have z25 := e23.1; have e26 := e23.2; aw_if_eq d_J6_getChars_ba4f3_106 rfl rfl z25 (fun c27 => have e29 := e26.1 c27; (aw_iload d_J6_getChars_ba4f3_118 rfl 0 rfl
(aw_ri d_J6_getChars_ba4f3_120 rfl e29))) (fun c28 => have e30 := e26.2 c28; (aw_aload_n d_J6_getChars_ba4f3_109 rfl rfl 2 rfl (by decide)
(aw_iinc (lv' := [(5, zi ((v5 - 1) - 1)), (0, zi v0), (2, zr 80 s2), (6, zi v6)]) (y := ((v5 - 1) - 1)) d_J6_getChars_ba4f3_110 rfl 0 rfl (by decide) rfl rfl
(aw_iload d_J6_getChars_ba4f3_113 rfl 0 rfl
(aw_bipush d_J6_getChars_ba4f3_115 rfl (by decide)
(have z31 := e30.1; aw_bastG d_J6_getChars_ba4f3_117 rfl zd80.G (zix_d rfl z31) (by decide)
(have e32 := e30.2 _ rfl; (aw_iload d_J6_getChars_ba4f3_118 rfl 0 rfl
(aw_ri d_J6_getChars_ba4f3_120 rfl e32)))))))))))) (fun c22 => have e24 := e19.2 c22; (aw_aload_n d_J6_getChars_ba4f3_91 rfl rfl 2 rfl (by decide)
(aw_iinc (lv' := [(5, zi ((v5 - 1) - 1)), (0, zi v0), (2, zr 80 s2), (6, zi v6)]) (y := ((v5 - 1) - 1)) d_J6_getChars_ba4f3_92 rfl 0 rfl (by decide) rfl rfl
(aw_iload d_J6_getChars_ba4f3_95 rfl 0 rfl
(aw_digs (q := ("DigitTens", 2, fun j => 48 + (j : Int) / 10)) (by simp [zDigs]) d_J6_getChars_ba4f3_97 rfl cfJ6_87
(aw_iload_n d_J6_getChars_ba4f3_100 rfl rfl 1 rfl
(aw_ineg d_J6_getChars_ba4f3_101 rfl
(aw_digit (q := ("DigitTens", 2, fun j => 48 + (j : Int) / 10)) (by simp [zDigs]) d_J6_getChars_ba4f3_102 rfl z15
(have z34 := e24.1; have z35 := e24.2.1; aw_bastG d_J6_getChars_ba4f3_103 rfl zd80.G (zix_d rfl z34) z35
(have e36 := e24.2.2 _ rfl; (aw_iload d_J6_getChars_ba4f3_104 rfl 3 rfl
(have z38 := e36.1; have e39 := e36.2; aw_if_eq d_J6_getChars_ba4f3_106 rfl rfl z38 (fun c40 => have e42 := e39.1 c40; (aw_iload d_J6_getChars_ba4f3_118 rfl 0 rfl
(aw_ri d_J6_getChars_ba4f3_120 rfl e42))) (fun c41 => have e43 := e39.2 c41; (aw_aload_n d_J6_getChars_ba4f3_109 rfl rfl 2 rfl (by decide)
(aw_iinc (lv' := [(5, zi (((v5 - 1) - 1) - 1)), (0, zi v0), (2, zr 80 s2), (6, zi v6)]) (y := (((v5 - 1) - 1) - 1)) d_J6_getChars_ba4f3_110 rfl 0 rfl (by decide) rfl rfl
(aw_iload d_J6_getChars_ba4f3_113 rfl 0 rfl
(aw_bipush d_J6_getChars_ba4f3_115 rfl (by decide)
(have z44 := e43.1; aw_bastG d_J6_getChars_ba4f3_117 rfl zd80.G (zix_d rfl z44) (by decide)
(have e45 := e43.2 _ rfl; (aw_iload d_J6_getChars_ba4f3_118 rfl 0 rfl
(aw_ri d_J6_getChars_ba4f3_120 rfl e45))))))))))))))))))))))))))))))))))) (fun c12 => have e14 := e10.2 c12; (aw_iload_n d_J6_getChars_ba4f3_28 rfl rfl 0 rfl
(aw_bipush d_J6_getChars_ba4f3_29 rfl (by decide)
(aw_idiv d_J6_getChars_ba4f3_31 rfl z9 (by decide) (by decide)
(aw_istore_n (lv' := [(3, zi (Int.tdiv v0 100)), (0, zi v0), (2, zr 80 s2), (5, zi v5), (6, zi v6)]) d_J6_getChars_ba4f3_32 rfl rfl (by decide) rfl
(aw_iload_n d_J6_getChars_ba4f3_33 rfl rfl 0 rfl
(aw_bipush d_J6_getChars_ba4f3_34 rfl (by decide)
(aw_imul d_J6_getChars_ba4f3_36 rfl
(aw_iload_n d_J6_getChars_ba4f3_37 rfl rfl 1 rfl
(aw_isub d_J6_getChars_ba4f3_38 rfl
(aw_istore (lv' := [(4, zi (((Int.tdiv v0 100) * 100) - v0)), (3, zi (Int.tdiv v0 100)), (0, zi v0), (2, zr 80 s2), (5, zi v5), (6, zi v6)]) d_J6_getChars_ba4f3_39 rfl (by decide) rfl
(aw_iload_n d_J6_getChars_ba4f3_41 rfl rfl 1 rfl
(aw_istore_n (lv' := [(0, zi (Int.tdiv v0 100)), (4, zi (((Int.tdiv v0 100) * 100) - v0)), (3, zi (Int.tdiv v0 100)), (2, zr 80 s2), (5, zi v5), (6, zi v6)]) d_J6_getChars_ba4f3_42 rfl rfl (by decide) rfl
(aw_aload_n d_J6_getChars_ba4f3_43 rfl rfl 3 rfl (by decide)
(aw_iinc (lv' := [(5, zi (v5 - 1)), (0, zi (Int.tdiv v0 100)), (4, zi (((Int.tdiv v0 100) * 100) - v0)), (3, zi (Int.tdiv v0 100)), (2, zr 80 s2), (6, zi v6)]) (y := (v5 - 1)) d_J6_getChars_ba4f3_44 rfl 4 rfl (by decide) rfl rfl
(aw_iload d_J6_getChars_ba4f3_47 rfl 0 rfl
(aw_digs (q := ("DigitOnes", 3, fun j => 48 + (j : Int) % 10)) (by simp [zDigs]) d_J6_getChars_ba4f3_49 rfl cfJ6_83
(aw_iload d_J6_getChars_ba4f3_52 rfl 2 rfl
(have z47 := e14.1; aw_digit (q := ("DigitOnes", 3, fun j => 48 + (j : Int) % 10)) (by simp [zDigs]) d_J6_getChars_ba4f3_54 rfl z47
(have e48 := e14.2; (have z49 := e48.1; have z50 := e48.2.1; aw_bastG d_J6_getChars_ba4f3_55 rfl zd80.G (zix_d rfl z49) z50
(have e51 := e48.2.2 _ rfl; (aw_aload_n d_J6_getChars_ba4f3_56 rfl rfl 4 rfl (by decide)
(aw_iinc (lv' := [(5, zi ((v5 - 1) - 1)), (0, zi (Int.tdiv v0 100)), (4, zi (((Int.tdiv v0 100) * 100) - v0)), (3, zi (Int.tdiv v0 100)), (2, zr 80 s2), (6, zi v6)]) (y := ((v5 - 1) - 1)) d_J6_getChars_ba4f3_57 rfl 0 rfl (by decide) rfl rfl
(aw_iload d_J6_getChars_ba4f3_60 rfl 0 rfl
(aw_digs (q := ("DigitTens", 2, fun j => 48 + (j : Int) / 10)) (by simp [zDigs]) d_J6_getChars_ba4f3_62 rfl cfJ6_87
(aw_iload d_J6_getChars_ba4f3_65 rfl 2 rfl
(aw_digit (q := ("DigitTens", 2, fun j => 48 + (j : Int) / 10)) (by simp [zDigs]) d_J6_getChars_ba4f3_67 rfl z47
(have z53 := e51.1; have z54 := e51.2.1; aw_bastG d_J6_getChars_ba4f3_68 rfl zd80.G (zix_d rfl z53) z54
(have e55 := e51.2.2 _ rfl; (aw_goto d_J6_getChars_ba4f3_69 rfl
(aw_sub [1, 4, 0, 5] rfl e55)))))))))))))))))))))))))))))))))))
theorem vJ6_getChars_ba4f3 {l : Launch} {P : Int → zM → Prop} {s2 : Nat} {v0 : Int} {v1 : Int} {M : zM}
    (H0 : (zI v0 ∧ ((0 ≤ v0 → LJ6_getChars_ba4f3_22 l P s2 (-v0) v1 0 M) ∧ (v0 < 0 → LJ6_getChars_ba4f3_22 l P s2 v0 v1 1 M)))) :
    CI l m_J6_getChars_ba4f3 [zi v0, zi v1, zr 80 s2] M P :=
(aw_iload_n d_J6_getChars_ba4f3_0 rfl rfl 1 rfl
(aw_istore (lv' := [(5, zi v1), (0, zi v0), (1, zi v1), (2, zr 80 s2)]) d_J6_getChars_ba4f3_1 rfl (by decide) rfl
(aw_iload_n d_J6_getChars_ba4f3_3 rfl rfl 1 rfl
(have z1 := H0.1; have e2 := H0.2; aw_if_ge d_J6_getChars_ba4f3_4 rfl rfl z1 (fun c3 => have e5 := e2.1 c3; (aw_iconst d_J6_getChars_ba4f3_11 rfl
(aw_istore (lv' := [(6, zi 0), (5, zi v1), (0, zi v0), (1, zi v1), (2, zr 80 s2)]) d_J6_getChars_ba4f3_12 rfl (by decide) rfl
(aw_iload d_J6_getChars_ba4f3_14 rfl 0 rfl
(aw_if_ne d_J6_getChars_ba4f3_16 rfl rfl (by decide) (fun c7 => absurd c7 (by decide)) (fun _ => (aw_iload_n d_J6_getChars_ba4f3_19 rfl rfl 2 rfl
(aw_ineg d_J6_getChars_ba4f3_20 rfl
(aw_istore_n (lv' := [(0, zi (-v0)), (6, zi 0), (5, zi v1), (1, zi v1), (2, zr 80 s2)]) d_J6_getChars_ba4f3_21 rfl rfl (by decide) rfl
(aw_sub [0, 4, 2, 1] rfl e5)))))))))) (fun c4 => have e6 := e2.2 c4; (aw_iconst d_J6_getChars_ba4f3_7 rfl
(aw_goto d_J6_getChars_ba4f3_8 rfl
(aw_istore (lv' := [(6, zi 1), (5, zi v1), (0, zi v0), (1, zi v1), (2, zr 80 s2)]) d_J6_getChars_ba4f3_12 rfl (by decide) rfl
(aw_iload d_J6_getChars_ba4f3_14 rfl 0 rfl
(aw_if_ne d_J6_getChars_ba4f3_16 rfl rfl (by decide) (fun _ => (aw_sub [2, 4, 1, 0] rfl e6)) (fun c8 => absurd c8 (by decide))))))))))))
theorem c_getChars {v : Nat} {x n : Int} (hx : 0 ≤ x ∧ x < 100) (hl : M 80 v (-1) = 400) (hn : 0 ≤ n ∧ n + (if x < 10 then (1 : Int) else 2) ≤ 400) : CI l m_J6_getChars_ba4f3 [zi x, zi (n + (if x < 10 then (1 : Int) else 2)), zr 80 v] M (fun _ M' => M' = if x < 10 then zu M 80 v n (48 + x) else zu (zu M 80 v (n + 1) (48 + x % 10)) 80 v n (48 + x / 10)) := by
  refine vJ6_getChars_ba4f3 ⟨by omega, fun _ => vJ6_getChars_ba4f3_22 ⟨by omega, fun _ => ?_, fun e => by omega⟩, fun e => by omega⟩
  have ex : (((- -x).toNat : Nat) : Int) = x := by omega
  rw [hl, ex]
  refine ⟨by omega, ?_, by omega, fun M1 hM1 => ⟨fun e => ⟨by omega, fun _ => ?_, fun e => absurd rfl e⟩, fun e => ?_⟩⟩
  · split at hn
    · rw [if_pos (by assumption)]; omega
    · rw [if_neg (by assumption)]; omega
  · have h10 : x < 10 := by omega
    rw [if_pos h10] at hM1
    rw [if_pos h10, hM1]
    congr 1
    · omega
    · omega
  · have h10 : ¬ x < 10 := by omega
    rw [if_neg h10] at hM1 hn ⊢
    have e80 : M1 80 v (-1) = 400 := by rw [hM1, zu_n (by omega)]; exact hl
    rw [e80]
    refine ⟨by omega, by omega, fun M2 hM2 => ⟨by omega, fun _ => ?_, fun e => absurd rfl e⟩⟩
    rw [if_neg h10, hM2, hM1]
    congr 1
    · congr 1
      omega
    · omega
theorem vJ5_append_c97b9 {l : Launch} {P : Nat → zM → Prop} {h : Nat} {v1 : Int} {M : zM}
    (H0 : ((0 ≤ v1 ∧ v1 < 100) ∧ ((bW M h ∧ 0 ≤ ((M 67 h 3) + (if v1 < 10 then (1 : Int) else 2)) ∧ ((M 67 h 3) + (if v1 < 10 then (1 : Int) else 2)) ≤ 400) ∧ (M 67 h 1 = 0 ∧ ((0 ≤ M 67 h 0 ∧ M 67 h 0 < M 97 0 80) ∧ ∀ r9 : Nat, (r9 : Int) = M 67 h 0 → (CI l m_J6_getChars_ba4f3 [zi v1, zi ((M 67 h 3) + (if v1 < 10 then (1 : Int) else 2)), zr 80 r9] M (fun x13 M11 => (∀ M15 : zM, M15 = zu M11 67 h 3 ((M 67 h 3) + (if v1 < 10 then (1 : Int) else 2)) → P h M15)))))))) :
    CR l m_J5_append_c97b9 67 [zr 67 h, zi v1] M P :=
(aw_aload_n d_J5_append_c97b9_0 rfl rfl 0 rfl (by decide)
(aw_getI (kc := 3) d_J5_append_c97b9_1 rfl flJ5_79 rfl rfl
(aw_istore_n (lv' := [(2, zi (M 67 h 3)), (0, zr 67 h), (1, zi v1)]) d_J5_append_c97b9_4 rfl rfl (by decide) rfl
(aw_iload_n d_J5_append_c97b9_5 rfl rfl 0 rfl
(aw_iload_n d_J5_append_c97b9_6 rfl rfl 2 rfl
(have z1 := H0.1; aw_SI (As := [zi v1]) (st := [zi (M 67 h 3)]) d_J5_append_c97b9_7 rfl csJ5_245 ⟨Nat.le_of_ble_eq_true rfl, Nat.le_of_ble_eq_true rfl⟩ rfl rfl (Nat.le_of_ble_eq_true rfl) (Nat.le_of_ble_eq_true rfl) (s_J6_stringSize_0f7a4 z1) (fun _ _ hq => aw_eqs hq
(have e2 := H0.2; (aw_iadd d_J5_append_c97b9_10 rfl
(aw_istore_n (lv' := [(3, zi ((M 67 h 3) + (if v1 < 10 then (1 : Int) else 2))), (2, zi (M 67 h 3)), (0, zr 67 h), (1, zi v1)]) d_J5_append_c97b9_11 rfl rfl (by decide) rfl
(aw_aload_n d_J5_append_c97b9_12 rfl rfl 2 rfl (by decide)
(aw_iload_n d_J5_append_c97b9_13 rfl rfl 0 rfl
(have z3 := e2.1; aw_UV (As := [zi ((M 67 h 3) + (if v1 < 10 then (1 : Int) else 2))]) (st := []) d_J5_append_c97b9_14 rfl cuJ5_100 ⟨Nat.le_of_ble_eq_true rfl, Nat.le_of_ble_eq_true rfl⟩ rfl rfl (Nat.le_of_ble_eq_true rfl) (Nat.le_of_ble_eq_true rfl) (s_J5_ensureCapacityInternal_d00df z3) (fun _ hq => aw_eqM hq
(have e4 := e2.2; (aw_aload_n d_J5_append_c97b9_17 rfl rfl 2 rfl (by decide)
(have z5 := e4.1; aw_UI (As := []) (st := []) d_J5_append_c97b9_18 rfl cuJ5_83 ⟨Nat.le_of_ble_eq_true rfl, Nat.le_of_ble_eq_true rfl⟩ rfl rfl (Nat.le_of_ble_eq_true rfl) (Nat.le_of_ble_eq_true rfl) (s_J5_isLatin1_aae02 z5) (fun _ _ hq => aw_eqs hq
(have e6 := e4.2; (aw_if_eq d_J5_append_c97b9_21 rfl rfl (by decide) (fun c7 => absurd c7 (by decide)) (fun _ => (aw_iload_n d_J5_append_c97b9_24 rfl rfl 3 rfl
(aw_iload_n d_J5_append_c97b9_25 rfl rfl 0 rfl
(aw_aload_n d_J5_append_c97b9_26 rfl rfl 2 rfl (by decide)
(have z8 := e6.1; aw_getE (kc := 0) d_J5_append_c97b9_27 rfl flJ5_15 rfl rfl (by decide) z8
(fun r9 hqr9 => (have e10 := e6.2 r9 hqr9; (aw_SI (As := [zi v1, zi ((M 67 h 3) + (if v1 < 10 then (1 : Int) else 2)), zr 80 r9]) (st := []) d_J5_append_c97b9_30 rfl csJ5_248 ⟨Nat.le_of_ble_eq_true rfl, Nat.le_of_ble_eq_true rfl⟩ rfl rfl (Nat.le_of_ble_eq_true rfl) (Nat.le_of_ble_eq_true rfl) e10 (fun x13 M11 e12 => (aw_pop d_J5_append_c97b9_33 rfl rfl
(aw_goto d_J5_append_c97b9_34 rfl
(aw_aload_n d_J5_append_c97b9_48 rfl rfl 2 rfl (by decide)
(aw_iload_n d_J5_append_c97b9_49 rfl rfl 0 rfl
(aw_put (kc := 3) d_J5_append_c97b9_50 rfl fpJ5_79 rfl rfl rfl rfl
(have e14 := e12 _ rfl; (aw_aload_n d_J5_append_c97b9_53 rfl rfl 2 rfl (by decide)
(aw_rrg d_J5_append_c97b9_54 rfl (Or.inl ⟨_, rfl⟩) (by decide) e14)))))))))))))))))))))))))))))))))))))
theorem vJ4_append_bf812 {l : Launch} {P : Nat → zM → Prop} {h : Nat} {v1 : Int} {M : zM}
    (H0 : (CR l m_J5_append_c97b9 67 [zr 67 h, zi v1] M (fun (x3 : Nat) M1 => P h M1))) :
    CR l m_J4_append_bf812 67 [zr 67 h, zi v1] M P :=
(aw_aload_n d_J4_append_bf812_0 rfl rfl 0 rfl (by decide)
(aw_iload_n d_J4_append_bf812_1 rfl rfl 1 rfl
(aw_PR (As := [zi v1]) (st := []) d_J4_append_bf812_2 rfl cpJ4_53 ⟨Nat.le_of_ble_eq_true rfl, Nat.le_of_ble_eq_true rfl⟩ rfl rfl (Nat.le_of_ble_eq_true rfl) (Nat.le_of_ble_eq_true rfl) H0 (fun x3 M1 e2 => (aw_pop d_J4_append_bf812_5 rfl rfl
(aw_aload_n d_J4_append_bf812_6 rfl rfl 0 rfl (by decide)
(aw_rrg d_J4_append_bf812_7 rfl (Or.inl ⟨_, rfl⟩) (by decide) e2)))))))
theorem c_appendI {b v : Nat} {x : Int} {L : List Int} (h : sbt M b v L) (hx : 0 ≤ x ∧ x < 100) (hl : L.length + 2 ≤ 400) : CR l m_J4_append_bf812 67 [zr 67 b, zi x] M (fun r M' => r = b ∧ bX M M' b v ∧ sbt M' b v (L ++ dgF x (top x))) := by
  have hW := h.W
  obtain ⟨h1, h2, h3, h4, h5, h6, h7, h8⟩ := h
  have hsz : (1 : Int) ≤ (if x < 10 then (1 : Int) else 2) ∧ (if x < 10 then (1 : Int) else 2) ≤ 2 := by split <;> omega
  refine vJ4_append_bf812 (vJ5_append_c97b9 ⟨hx, ⟨hW, by omega⟩, h2, by rw [h1]; exact ⟨by omega, h4⟩, fun r hr => ?_⟩)
  have er : r = v := by omega
  subst er
  rw [h3]
  refine (c_getChars hx h5 (by omega)).mono ?_
  rintro _ M1 hM1 M2 rfl
  have eo : ∀ k i, ¬ (k = 80 ∧ i = r) → M1 k i = M k i := by
    intro k i a
    rw [hM1]
    split
    · exact zu_o k i a
    · rw [zu_o k i a, zu_o k i a]
  have ed : dgF x (top x) = if x < 10 then [48 + x] else [48 + x / 10, 48 + x % 10] := by
    unfold top
    split
    · show [48 + x / 1 % 10] = _
      rw [show x / 1 % 10 = x by omega]
    · rw [if_pos hx.2]
      show [48 + x / (1 * 10) % 10, 48 + x / 1 % 10] = _
      rw [show x / (1 * 10) % 10 = x / 10 by omega, show x / 1 % 10 = x % 10 by omega]
  have el : ((dgF x (top x)).length : Int) = if x < 10 then (1 : Int) else 2 := by rw [ed]; split <;> rfl
  refine ⟨rfl, fun k i a1 a2 => by rw [zu_o k i a1, eo k i a2], ?_⟩
  refine ⟨?_, ?_, ?_, ?_, ?_, ?_, ?_, c_app h8 (fun c hc => ?_)⟩
  · rw [zu_n (by omega), eo _ _ (by omega), h1]
  · rw [zu_n (by omega), eo _ _ (by omega), h2]
  · rw [zu_s, List.length_append]; omega
  · rw [zu_n (by omega), eo _ _ (by omega)]; exact h4
  · rw [zu_n (by omega), hM1]
    split
    · rw [zu_n (by omega)]; exact h5
    · rw [zu_n (by omega), zu_n (by omega)]; exact h5
  · rw [List.length_append]; omega
  · refine h7.app (fun j hj => ?_) (fun j hj => ?_)
    · rw [zu_n (by omega), hM1]
      split
      · rw [zu_n (by omega)]
      · rw [zu_n (by omega), zu_n (by omega)]
    · rw [el] at hj
      rw [zu_n (by omega), hM1, ed]
      split
      · next c =>
        rw [if_pos c] at hj
        have : j = 0 := by omega
        subst this
        rw [Int.add_zero, zu_s]
        rfl
      · next c =>
        rw [if_neg c] at hj
        by_cases hj0 : j = 0
        · subst hj0
          rw [Int.add_zero, zu_s]
          rfl
        · have : j = 1 := by omega
          subst this
          rw [zu_n (by omega), zu_s]
          rfl
  · rw [ed] at hc
    split at hc
    · simp only [List.mem_singleton] at hc
      omega
    · simp only [List.mem_cons, List.not_mem_nil, or_false] at hc
      omega
end
