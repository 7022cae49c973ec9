/-! ===== acts: what they do; the class's past and shelves ===== -/
def ySet (A : zY) (S : zS) : zY := (S, A.2)
def yPut (A : zY) (S : zS) : zY := (S, (min (yhc A + 1) 10, fun i => if i = 0 then yS A else yhf A (i - 1)), A.2.2)
def yTake (A : zY) : zY := (yhf A 0, (yhc A - 1, fun i => yhf A (i + 1)), A.2.2)
def yNo (A : zY) (S : zS) : zY := (S, (0, yhf A), A.2.2)
def yKeep (A : zY) (s : Int) : zY := (A.1, A.2.1, ((fun j => if j = s then 1 else ykf A j), (fun j => if j = s then yS A else ykh A j)), A.2.2.2)
def yTape (A : zY) (n : Int) (b : Int → Int) : zY := (A.1, A.2.1, A.2.2.1, (n, b))
def kRm (k i : Nat) : Prop := k = 2 ∨ ((k = 1 ∨ (12 ≤ k ∧ k ≤ 17)) ∧ 2 ≤ i ∧ i < 12)
theorem hall_k {M M' : zM} {h : Nat} (f : ∀ k, (k = 1 ∨ (12 ≤ k ∧ k ≤ 17)) → M' k h = M k h) : hS M' h = hS M h ∧ (hW M h → hW M' h) :=
  ⟨hS_congr (f 1 (by omega)) (f 12 (by omega)) (f 13 (by omega)) (f 14 (by omega)) (f 15 (by omega)) (f 16 (by omega)) (f 17 (by omega)), hW_congr (f 1 (by omega)) (f 12 (by omega)) (f 14 (by omega))⟩
theorem hix_b (nx i : Int) : 2 ≤ hix nx i ∧ hix nx i < 12 := by
  unfold hix
  omega
/-- the hall alone is another -/
theorem cSt.hall {M M' : zM} {A : zY} {S : zS} (h : cSt M A) (f : Fx (kH 0) M M') (w : hW M' 0) (e : hS M' 0 = S) : cSt M' (ySet A S) := by
  obtain ⟨-, b, ⟨c1, c2, c3⟩, ⟨d1, d2, d3⟩, e1, e2⟩ := h
  have g : ∀ i, i ≠ 0 → ∀ k, (k = 1 ∨ (12 ≤ k ∧ k ≤ 17)) → M' k i = M k i := fun i hi k _ => f k i (fun q => hi q.2)
  have n : ∀ k i, k ≠ 1 → ¬ (12 ≤ k ∧ k ≤ 17) → M' k i = M k i := fun k i h1 h2 => f k i (fun q => by have := q.1; omega)
  have e20 := n 2 0 (by omega) (by omega)
  refine ⟨⟨w, e⟩, (hall_k (g 1 (by omega))).2 b, ⟨by rw [e20]; exact c1, by rw [e20]; exact c2, fun i hi => ?_⟩, ⟨by rw [n 6 0 (by omega) (by omega)]; exact d1, fun q => ?_, fun q => ?_⟩, by rw [n 7 0 (by omega) (by omega)]; exact e1, fun i hi => by rw [n 24 0 (by omega) (by omega)]; exact e2 i hi⟩
  · rw [e20]
    have hb := hix_b (M 2 0 1) i
    have k := hall_k (g (hix (M 2 0 1) i) (by omega))
    exact ⟨k.2 (c3 i hi).1, k.1.trans (c3 i hi).2⟩
  · have k := hall_k (g 12 (by omega))
    exact ⟨k.2 (d2 q).1, k.1.trans (d2 q).2⟩
  · have k := hall_k (g 13 (by omega))
    exact ⟨k.2 (d3 q).1, k.1.trans (d3 q).2⟩
section
variable {l : Launch} {M : zM} {A : zY}
theorem vX2_at {l : Launch} {P : Nat → zM → Prop} {v1 : Int} {M : zM}
    (H0 : (zI v1 ∧ (v1 < 0 → False) ∧ (0 ≤ v1 → ((10 ≤ v1 → False) ∧ (v1 < 10 → ((0 ≤ v1 ∧ v1 < 10) ∧ P (v1.toNat + zoff 18) M)))))) :
    CR l m_X2_at 1 [zr 2 0, zi v1] M P :=
(aw_iload_n d_X2_at_0 rfl rfl 1 rfl
(have z1 := H0.1; have e2 := H0.2; aw_if_lt d_X2_at_1 rfl rfl z1 (fun c3 => have e5 := e2.1 c3; (e5).elim) (fun c4 => have e6 := e2.2 c4; (aw_iload_n d_X2_at_4 rfl rfl 1 rfl
(aw_bipush d_X2_at_5 rfl (by decide)
(aw_icmp_ge d_X2_at_7 rfl rfl z1 (by decide) (fun c7 => have e9 := e6.1 c7; (e9).elim) (fun c8 => have e10 := e6.2 c8; (aw_aload_n d_X2_at_10 rfl rfl 0 rfl (by decide)
(aw_getR (k' := 18) (a := 0) (b := 0) (j := 0) d_X2_at_11 rfl fl2_11 rfl zj0 ⟨by decide, fun _ => by decide⟩
(aw_iload_n d_X2_at_14 rfl rfl 1 rfl
(have z11 := e10.1; have e13 := e10.2; (aw_qald d_X2_at_15 rfl za18 z11 (by have := z11; have e : zoff 18 = 2 := rfl; omega)
(aw_goto d_X2_at_16 rfl
(aw_rr d_X2_at_20 rfl (by decide) e13))))))))))))))
theorem vX2_remember {l : Launch} {P : zM → Prop} {h1 : Nat} {M : zM}
    (H0 : (CR l m_X2_at 1 [zr 2 0, zi (M 2 0 1)] M (fun (x4 : Nat) M1 => (CV l m_X1_copyFrom [zr 1 x4, zr 1 h1] M1 (fun M5 => (zI ((M5 2 0 1) + 1) ∧ (∀ M10 : zM, M10 = zu M5 2 0 1 (Int.tmod ((M5 2 0 1) + 1) 10) → (zI ((M10 2 0 2) + 1) ∧ (∀ M14 : zM, M14 = zu M10 2 0 2 (min ((M10 2 0 2) + 1) 10) → P M14))))))))) :
    CV l m_X2_remember [zr 2 0, zr 1 h1] M P :=
(aw_aload_n d_X2_remember_0 rfl rfl 0 rfl (by decide)
(aw_aload_n d_X2_remember_1 rfl rfl 0 rfl (by decide)
(aw_getI (kc := 1) d_X2_remember_2 rfl fl2_22 rfl rfl
(aw_VR (As := [zi (M 2 0 1)]) (st := []) d_X2_remember_5 rfl cv2_25 ⟨Nat.le_of_ble_eq_true rfl, Nat.le_of_ble_eq_true rfl⟩ rfl rfl (Nat.le_of_ble_eq_true rfl) (Nat.le_of_ble_eq_true rfl) H0 (fun x4 M1 e2 => (aw_astore_n (lv' := [(2, zr 1 x4), (0, zr 2 0), (1, zr 1 h1)]) (by decide) d_X2_remember_8 rfl rfl (by decide) rfl
(aw_aload_n d_X2_remember_9 rfl rfl 0 rfl (by decide)
(aw_ifnull d_X2_remember_10 rfl (by decide)
(aw_aload_n d_X2_remember_13 rfl rfl 0 rfl (by decide)
(aw_aload_n d_X2_remember_14 rfl rfl 2 rfl (by decide)
(aw_VV (As := [zr 1 h1]) (st := []) d_X2_remember_15 rfl cv2_29 ⟨Nat.le_of_ble_eq_true rfl, Nat.le_of_ble_eq_true rfl⟩ rfl rfl (Nat.le_of_ble_eq_true rfl) (Nat.le_of_ble_eq_true rfl) e2 (fun M5 e6 => (aw_aload_n d_X2_remember_18 rfl rfl 1 rfl (by decide)
(aw_aload_n d_X2_remember_19 rfl rfl 1 rfl (by decide)
(aw_getI (kc := 1) d_X2_remember_20 rfl fl2_22 rfl rfl
(aw_iconst d_X2_remember_23 rfl
(aw_iadd d_X2_remember_24 rfl
(aw_bipush d_X2_remember_25 rfl (by decide)
(have z8 := e6.1; have e9 := e6.2; (aw_irem d_X2_remember_27 rfl z8 (by decide) (by decide)
(have e11 := e9 _ rfl; aw_put (kc := 1) d_X2_remember_28 rfl fp2_22 rfl rfl rfl rfl
(aw_aload_n d_X2_remember_31 rfl rfl 1 rfl (by decide)
(aw_aload_n d_X2_remember_32 rfl rfl 1 rfl (by decide)
(aw_getI (kc := 2) d_X2_remember_33 rfl fl2_18 rfl rfl
(aw_iconst d_X2_remember_36 rfl
(aw_iadd d_X2_remember_37 rfl
(aw_bipush d_X2_remember_38 rfl (by decide)
(have z12 := e11.1; have e13 := e11.2; (aw_min d_X2_remember_40 rfl cm2_33 ⟨Nat.le_of_ble_eq_true rfl, Nat.le_of_ble_eq_true rfl⟩ z12 (by decide)
(have e15 := e13 _ rfl; aw_put (kc := 2) d_X2_remember_43 rfl fp2_18 rfl rfl rfl rfl
(aw_rv d_X2_remember_46 rfl e15)))))))))))))))))))))))))))))))
theorem vX2_takeBack {l : Launch} {P : Int → zM → Prop} {h1 : Nat} {M : zM}
    (H0 : (zI (M 2 0 2) ∧ (0 < (M 2 0 2) → (zI (((M 2 0 1) + 10) - 1) ∧ (∀ M9 : zM, M9 = zu M 2 0 1 (Int.tmod (((M 2 0 1) + 10) - 1) 10) → (CR l m_X2_at 1 [zr 2 0, zi (M9 2 0 1)] M9 (fun (x14 : Nat) M11 => (CV l m_X1_copyFrom [zr 1 h1, zr 1 x14] M11 (fun M15 => (∀ M18 : zM, M18 = zu M15 2 0 2 ((M15 2 0 2) - 1) → P (M18 2 0 2) M18)))))))) ∧ ((M 2 0 2) ≤ 0 → P (-1) M))) :
    CI l m_X2_takeBack [zr 2 0, zr 1 h1] M P :=
(aw_aload_n d_X2_takeBack_0 rfl rfl 0 rfl (by decide)
(aw_getI (kc := 2) d_X2_takeBack_1 rfl fl2_18 rfl rfl
(have z1 := H0.1; have e2 := H0.2; aw_if_gt d_X2_takeBack_4 rfl rfl z1 (fun c3 => have e5 := e2.1 c3; (aw_aload_n d_X2_takeBack_9 rfl rfl 0 rfl (by decide)
(aw_aload_n d_X2_takeBack_10 rfl rfl 0 rfl (by decide)
(aw_getI (kc := 1) d_X2_takeBack_11 rfl fl2_22 rfl rfl
(aw_bipush d_X2_takeBack_14 rfl (by decide)
(aw_iadd d_X2_takeBack_16 rfl
(aw_iconst d_X2_takeBack_17 rfl
(aw_isub d_X2_takeBack_18 rfl
(aw_bipush d_X2_takeBack_19 rfl (by decide)
(have z7 := e5.1; have e8 := e5.2; (aw_irem d_X2_takeBack_21 rfl z7 (by decide) (by decide)
(aw_put (kc := 1) d_X2_takeBack_22 rfl fp2_22 rfl rfl rfl rfl
(aw_nm fun M9 hqM9 => have e10 := e8 M9 hqM9; (aw_aload_n d_X2_takeBack_25 rfl rfl 1 rfl (by decide)
(aw_aload_n d_X2_takeBack_26 rfl rfl 0 rfl (by decide)
(aw_aload_n d_X2_takeBack_27 rfl rfl 0 rfl (by decide)
(aw_getI (kc := 1) d_X2_takeBack_28 rfl fl2_22 rfl rfl
(aw_VR (As := [zi (M9 2 0 1)]) (st := [zr 1 h1]) d_X2_takeBack_31 rfl cv2_25 ⟨Nat.le_of_ble_eq_true rfl, Nat.le_of_ble_eq_true rfl⟩ rfl rfl (Nat.le_of_ble_eq_true rfl) (Nat.le_of_ble_eq_true rfl) e10 (fun x14 M11 e12 => (aw_VV (As := [zr 1 x14]) (st := []) d_X2_takeBack_34 rfl cv2_29 ⟨Nat.le_of_ble_eq_true rfl, Nat.le_of_ble_eq_true rfl⟩ rfl rfl (Nat.le_of_ble_eq_true rfl) (Nat.le_of_ble_eq_true rfl) e12 (fun M15 e16 => (aw_aload_n d_X2_takeBack_37 rfl rfl 0 rfl (by decide)
(aw_dup d_X2_takeBack_38 rfl rfl
(aw_getI (kc := 2) d_X2_takeBack_39 rfl fl2_18 rfl rfl
(aw_iconst d_X2_takeBack_42 rfl
(aw_isub d_X2_takeBack_43 rfl
(have e19 := e16 _ rfl; aw_put (kc := 2) d_X2_takeBack_44 rfl fp2_18 rfl rfl rfl rfl
(aw_aload_n d_X2_takeBack_47 rfl rfl 0 rfl (by decide)
(aw_getI (kc := 2) d_X2_takeBack_48 rfl fl2_18 rfl rfl
(aw_ri d_X2_takeBack_51 rfl e19)))))))))))))))))))))))))))))) (fun c4 => have e6 := e2.2 c4; (aw_iconst d_X2_takeBack_7 rfl
(aw_ri d_X2_takeBack_8 rfl e6))))))
theorem vX2_forget {l : Launch} {P : zM → Prop}  {M : zM}
    (H0 : (∀ M1 : zM, M1 = zu M 2 0 2 0 → P M1)) :
    CV l m_X2_forget [zr 2 0] M P :=
(aw_aload_n d_X2_forget_0 rfl rfl 0 rfl (by decide)
(aw_iconst d_X2_forget_1 rfl
(have e2 := H0 _ rfl; aw_put (kc := 2) d_X2_forget_2 rfl fp2_18 rfl rfl rfl rfl
(aw_rv d_X2_forget_5 rfl e2))))
theorem vX6_at {l : Launch} {P : Nat → zM → Prop} {v1 : Int} {M : zM}
    (H0 : (zI v1 ∧ ((¬ (0 ≤ v1 ∧ v1 < 2) → False) ∧ (0 ≤ v1 ∧ v1 < 2 → ((0 ≤ v1 ∧ v1 < 2) ∧ P (v1.toNat + zoff 23) M))))) :
    CR l m_X6_at 1 [zr 6 0, zi v1] M P :=
(aw_iload_n d_X6_at_0 rfl rfl 1 rfl
(have z1 := H0.1; have e2 := H0.2; (aw_SI (As := [zi v1]) (st := []) d_X6_at_1 rfl cs6_34 ⟨Nat.le_of_ble_eq_true rfl, Nat.le_of_ble_eq_true rfl⟩ rfl rfl (Nat.le_of_ble_eq_true rfl) (Nat.le_of_ble_eq_true rfl) (s_X8_isShelf z1) (fun _ _ hq => aw_eqs hq
(aw_if_eq d_X6_at_4 rfl rfl zb_I (fun c3 => have e5 := e2.1 (zb_0 c3); (e5).elim) (fun c4 => have e6 := e2.2 (zb_n0 c4); (aw_aload_n d_X6_at_7 rfl rfl 0 rfl (by decide)
(aw_getR (k' := 23) (a := 0) (b := 0) (j := 0) d_X6_at_8 rfl fl6_11 rfl zj0 ⟨by decide, fun _ => by decide⟩
(aw_iload_n d_X6_at_11 rfl rfl 1 rfl
(have z7 := e6.1; have e9 := e6.2; (aw_qald d_X6_at_12 rfl za23 z7 (by have := z7; have e : zoff 23 = 12 := rfl; omega)
(aw_goto d_X6_at_13 rfl
(aw_rr d_X6_at_17 rfl (by decide) e9)))))))))))))
theorem vX6_holds {l : Launch} {P : Int → zM → Prop} {v1 : Int} {M : zM}
    (H0 : (zI (zand (M 6 0 1) (zshl 1 v1)) ∧ ((zand (M 6 0 1) (zshl 1 v1)) = 0 → P 0 M) ∧ ((zand (M 6 0 1) (zshl 1 v1)) ≠ 0 → P 1 M))) :
    CI l m_X6_holds [zr 6 0, zi v1] M P :=
(aw_aload_n d_X6_holds_0 rfl rfl 0 rfl (by decide)
(aw_getI (kc := 1) d_X6_holds_1 rfl fl6_18 rfl rfl
(aw_iload_n d_X6_holds_4 rfl rfl 1 rfl
(aw_SI (As := [zi v1]) (st := [zi (M 6 0 1)]) d_X6_holds_5 rfl cs6_22 ⟨Nat.le_of_ble_eq_true rfl, Nat.le_of_ble_eq_true rfl⟩ rfl rfl (Nat.le_of_ble_eq_true rfl) (Nat.le_of_ble_eq_true rfl) (s_X8_bit) (fun _ _ hq => aw_eqs hq
(aw_iand d_X6_holds_8 rfl zand_h
(have z1 := H0.1; have e2 := H0.2; aw_if_eq d_X6_holds_9 rfl rfl z1 (fun c3 => have e5 := e2.1 c3; (aw_iconst d_X6_holds_16 rfl
(aw_rz d_X6_holds_17 rfl (by decide) e5))) (fun c4 => have e6 := e2.2 c4; (aw_iconst d_X6_holds_12 rfl
(aw_goto d_X6_holds_13 rfl
(aw_rz d_X6_holds_17 rfl (by decide) e6)))))))))))
theorem vX6_put {l : Launch} {P : zM → Prop} {h2 : Nat} {v1 : Int} {M : zM}
    (H0 : (CR l m_X6_at 1 [zr 6 0, zi v1] M (fun (x4 : Nat) M1 => (CV l m_X1_copyFrom [zr 1 x4, zr 1 h2] M1 (fun M5 => (∀ M8 : zM, M8 = zu M5 6 0 1 (zor (M5 6 0 1) (zshl 1 v1)) → P M8)))))) :
    CV l m_X6_put [zr 6 0, zi v1, zr 1 h2] M P :=
(aw_aload_n d_X6_put_0 rfl rfl 0 rfl (by decide)
(aw_iload_n d_X6_put_1 rfl rfl 1 rfl
(aw_VR (As := [zi v1]) (st := []) d_X6_put_2 rfl cv6_26 ⟨Nat.le_of_ble_eq_true rfl, Nat.le_of_ble_eq_true rfl⟩ rfl rfl (Nat.le_of_ble_eq_true rfl) (Nat.le_of_ble_eq_true rfl) H0 (fun x4 M1 e2 => (aw_astore_n (lv' := [(3, zr 1 x4), (0, zr 6 0), (1, zi v1), (2, zr 1 h2)]) (by decide) d_X6_put_5 rfl rfl (by decide) rfl
(aw_aload_n d_X6_put_6 rfl rfl 0 rfl (by decide)
(aw_ifnull d_X6_put_7 rfl (by decide)
(aw_aload_n d_X6_put_10 rfl rfl 0 rfl (by decide)
(aw_aload_n d_X6_put_11 rfl rfl 3 rfl (by decide)
(aw_VV (As := [zr 1 h2]) (st := []) d_X6_put_12 rfl cv6_30 ⟨Nat.le_of_ble_eq_true rfl, Nat.le_of_ble_eq_true rfl⟩ rfl rfl (Nat.le_of_ble_eq_true rfl) (Nat.le_of_ble_eq_true rfl) e2 (fun M5 e6 => (aw_aload_n d_X6_put_15 rfl rfl 1 rfl (by decide)
(aw_dup d_X6_put_16 rfl rfl
(aw_getI (kc := 1) d_X6_put_17 rfl fl6_18 rfl rfl
(aw_iload_n d_X6_put_20 rfl rfl 2 rfl
(aw_SI (As := [zi v1]) (st := [zi (M5 6 0 1), zr 6 0]) d_X6_put_21 rfl cs6_22 ⟨Nat.le_of_ble_eq_true rfl, Nat.le_of_ble_eq_true rfl⟩ rfl rfl (Nat.le_of_ble_eq_true rfl) (Nat.le_of_ble_eq_true rfl) (s_X8_bit) (fun _ _ hq => aw_eqs hq
(aw_ior d_X6_put_24 rfl zor_h
(have e9 := e6 _ rfl; aw_put (kc := 1) d_X6_put_25 rfl fp6_18 rfl rfl rfl rfl
(aw_rv d_X6_put_28 rfl e9))))))))))))))))))))
theorem vX6_fetch {l : Launch} {P : zM → Prop} {h2 : Nat} {v1 : Int} {M : zM}
    (H0 : (CR l m_X6_at 1 [zr 6 0, zi v1] M (fun (x4 : Nat) M1 => (CV l m_X1_copyFrom [zr 1 h2, zr 1 x4] M1 (fun M5 => P M5))))) :
    CV l m_X6_fetch [zr 6 0, zi v1, zr 1 h2] M P :=
(aw_aload_n d_X6_fetch_0 rfl rfl 2 rfl (by decide)
(aw_aload_n d_X6_fetch_1 rfl rfl 0 rfl (by decide)
(aw_iload_n d_X6_fetch_2 rfl rfl 1 rfl
(aw_VR (As := [zi v1]) (st := [zr 1 h2]) d_X6_fetch_3 rfl cv6_26 ⟨Nat.le_of_ble_eq_true rfl, Nat.le_of_ble_eq_true rfl⟩ rfl rfl (Nat.le_of_ble_eq_true rfl) (Nat.le_of_ble_eq_true rfl) H0 (fun x4 M1 e2 => (aw_VV (As := [zr 1 x4]) (st := []) d_X6_fetch_6 rfl cv6_30 ⟨Nat.le_of_ble_eq_true rfl, Nat.le_of_ble_eq_true rfl⟩ rfl rfl (Nat.le_of_ble_eq_true rfl) (Nat.le_of_ble_eq_true rfl) e2 (fun M5 e6 => (aw_rv d_X6_fetch_9 rfl e6))))))))
theorem zoff18 : zoff 18 = 2 := by decide
theorem zoff23 : zoff 23 = 12 := by decide
theorem c_X2_at {v : Int} (h : 0 ≤ v ∧ v < 10) {P : Nat → zM → Prop} (k : P (v.toNat + 2) M) : CR l m_X2_at 1 [zr 2 0, zi v] M P :=
  vX2_at ⟨by omega, fun e => by omega, fun _ => ⟨fun e => by omega, fun _ => ⟨h, by rw [zoff18]; exact k⟩⟩⟩
theorem c_X6_at {v : Int} (h : 0 ≤ v ∧ v < 2) {P : Nat → zM → Prop} (k : P (v.toNat + 12) M) : CR l m_X6_at 1 [zr 6 0, zi v] M P :=
  vX6_at ⟨by omega, fun e => e h, fun _ => ⟨h, by rw [zoff23]; exact k⟩⟩
theorem c_X2_remember (h : cSt M A) (hc : 0 ≤ yhc A ∧ yhc A ≤ 10) : CV l m_X2_remember [zr 2 0, zr 1 0] M (fun M' => cSt M' (yPut A (yS A)) ∧ Fx kRm M M') := by
  obtain ⟨⟨a1, a2⟩, b, ⟨c1, c2, c3⟩, ⟨d1, d2, d3⟩, e1, e2⟩ := h
  refine vX2_remember (c_X2_at c1 ?_)
  refine (c_X1_copyFrom (h := (M 2 0 1).toNat + 2) a1 (by omega)).mono ?_
  rintro M1 ⟨f1, w1, s1⟩
  have n1 : ∀ k, k ≠ 1 → ¬ (12 ≤ k ∧ k ≤ 17) → M1 k = M k := fun k h1 h2 => by
    funext i
    exact f1 k i (fun q => by have := q.1; omega)
  rw [n1 2 (by omega) (by omega)]
  refine ⟨by omega, ?_⟩
  intro M2 q2
  have m2 : M2 2 0 2 = M 2 0 2 := by rw [q2, zu_at, if_neg (by decide), n1 2 (by omega) (by omega)]
  rw [m2, c2]
  refine ⟨by omega, ?_⟩
  intro M3 q3
  have o : ∀ k i, k ≠ 2 → M3 k i = M1 k i := fun k i hk => by rw [q3, zu_k hk, q2, zu_k hk]
  have e21 : M3 2 0 1 = (M 2 0 1 + 1) % 10 := by
    rw [q3, zu_at, if_neg (by decide), q2, zu_at, if_pos rfl, tmod_n (by omega)]
  have e22 : M3 2 0 2 = min (yhc A + 1) 10 := by rw [q3, zu_at, if_pos rfl]
  have g : ∀ i, i ≠ (M 2 0 1).toNat + 2 → ∀ k, (k = 1 ∨ (12 ≤ k ∧ k ≤ 17)) → M3 k i = M k i := fun i hi k hk => by
    rw [o k i (by omega)]
    exact f1 k i (fun q => hi q.2)
  have n : ∀ k i, k ≠ 2 → k ≠ 1 → ¬ (12 ≤ k ∧ k ≤ 17) → M3 k i = M k i := fun k i h0 h1 h2 => by rw [o k i h0, n1 k h1 h2]
  have H0 := hall_k (g 0 (by omega))
  refine ⟨⟨⟨H0.2 a1, H0.1.trans a2⟩, (hall_k (g 1 (by omega))).2 b, ⟨by rw [e21]; omega, e22, fun i hi => ?_⟩, ⟨by rw [n 6 0 (by omega) (by omega) (by omega)]; exact d1, fun q => ?_, fun q => ?_⟩, by rw [n 7 0 (by omega) (by omega) (by omega)]; exact e1, fun i hi => by rw [n 24 0 (by omega) (by omega) (by omega)]; exact e2 i hi⟩, fun k i hk => ?_⟩
  · have hi' : 0 ≤ i ∧ i < min (yhc A + 1) 10 := hi
    rw [e21]
    by_cases z : i = 0
    · subst z
      have ex : hix ((M 2 0 1 + 1) % 10) 0 = (M 2 0 1).toNat + 2 := by unfold hix; omega
      rw [ex]
      have k := hall_k (M := M1) (M' := M3) (h := (M 2 0 1).toNat + 2) (fun k hk => o k _ (by omega))
      refine ⟨k.2 w1, ?_⟩
      rw [k.1, s1, a2]
      rfl
    · have ex : hix ((M 2 0 1 + 1) % 10) i = hix (M 2 0 1) (i - 1) := by unfold hix; omega
      have ne : hix (M 2 0 1) (i - 1) ≠ (M 2 0 1).toNat + 2 := by unfold hix; omega
      rw [ex]
      have k := hall_k (g _ ne)
      have c := c3 (i - 1) (by omega)
      refine ⟨k.2 c.1, ?_⟩
      rw [k.1, c.2]
      show yhf A (i - 1) = if i = 0 then yS A else yhf A (i - 1)
      rw [if_neg z]
  · have k := hall_k (g 12 (by omega))
    exact ⟨k.2 (d2 q).1, k.1.trans (d2 q).2⟩
  · have k := hall_k (g 13 (by omega))
    exact ⟨k.2 (d3 q).1, k.1.trans (d3 q).2⟩
  · unfold kRm at hk
    rw [o k i (by omega)]
    exact f1 k i (fun q => hk (by have := q.1; have := q.2; omega))
theorem c_X2_takeBack (h : cSt M A) (hc : 0 ≤ yhc A ∧ yhc A ≤ 10) : CI l m_X2_takeBack [zr 2 0, zr 1 0] M (fun x M' => (x = if 0 < yhc A then yhc A - 1 else -1) ∧ cSt M' (if 0 < yhc A then yTake A else A) ∧ ∀ k i, isMd k → M' k i = M k i) := by
  have h' := h
  obtain ⟨⟨a1, a2⟩, b, ⟨c1, c2, c3⟩, ⟨d1, d2, d3⟩, e1, e2⟩ := h
  refine vX2_takeBack ?_
  rw [c2]
  refine ⟨by omega, fun p => ⟨by omega, ?_⟩, fun p => ⟨by rw [if_neg (by omega)], by rw [if_neg (by omega)]; exact h', fun _ _ _ => rfl⟩⟩
  intro M1 q1
  have e21 : M1 2 0 1 = (M 2 0 1 + 9) % 10 := by rw [q1, zu_at, if_pos rfl, tmod_n (by omega)]; omega
  have o1 : ∀ k i, k ≠ 2 → M1 k i = M k i := fun k i hk => by rw [q1, zu_k hk]
  rw [e21]
  refine c_X2_at (by omega) ?_
  have ex : hix (M 2 0 1) 0 = ((M 2 0 1 + 9) % 10).toNat + 2 := by unfold hix; omega
  rw [← ex]
  have hb := hix_b (M 2 0 1) 0
  have c0 := c3 0 (by omega)
  have k0 := hall_k (M := M) (M' := M1) (h := hix (M 2 0 1) 0) (fun k hk => o1 k _ (by omega))
  refine (c_X1_copyFrom (h := 0) (k0.2 c0.1) (by omega)).mono ?_
  rintro M2 ⟨f2, w2, s2⟩
  have n2 : ∀ k, k ≠ 1 → ¬ (12 ≤ k ∧ k ≤ 17) → M2 k = M1 k := fun k h1 h2 => by
    funext i
    exact f2 k i (fun q => by have := q.1; omega)
  have e22 : M2 2 0 2 = yhc A := by rw [n2 2 (by omega) (by omega), q1, zu_at, if_neg (by decide)]; exact c2
  rw [e22]
  intro M3 q3
  have o3 : ∀ k i, k ≠ 2 → M3 k i = M2 k i := fun k i hk => by rw [q3, zu_k hk]
  have e31 : M3 2 0 1 = (M 2 0 1 + 9) % 10 := by rw [q3, zu_at, if_neg (by decide), n2 2 (by omega) (by omega), e21]
  have e32 : M3 2 0 2 = yhc A - 1 := by rw [q3, zu_at, if_pos rfl]
  have g : ∀ i, i ≠ 0 → ∀ k, (k = 1 ∨ (12 ≤ k ∧ k ≤ 17)) → M3 k i = M k i := fun i hi k hk => by
    rw [o3 k i (by omega), f2 k i (fun q => hi q.2), o1 k i (by omega)]
  have n : ∀ k i, k ≠ 2 → k ≠ 1 → ¬ (12 ≤ k ∧ k ≤ 17) → M3 k i = M k i := fun k i h0 h1 h2 => by rw [o3 k i h0, n2 k h1 h2, o1 k i h0]
  rw [if_pos p, if_pos p]
  have K0 := hall_k (M := M2) (M' := M3) (h := 0) (fun k hk => o3 k _ (by omega))
  refine ⟨e32, ⟨⟨K0.2 w2, ?_⟩, (hall_k (g 1 (by omega))).2 b, ⟨by rw [e31]; omega, e32, fun i hi => ?_⟩, ⟨by rw [n 6 0 (by omega) (by omega) (by omega)]; exact d1, fun q => ?_, fun q => ?_⟩, by rw [n 7 0 (by omega) (by omega) (by omega)]; exact e1, fun i hi => by rw [n 24 0 (by omega) (by omega) (by omega)]; exact e2 i hi⟩, fun k i hk => ?_⟩
  · rw [K0.1, s2, k0.1, c0.2]
    rfl
  · have hi' : 0 ≤ i ∧ i < yhc A - 1 := hi
    rw [e31]
    have ex : hix ((M 2 0 1 + 9) % 10) i = hix (M 2 0 1) (i + 1) := by unfold hix; omega
    rw [ex]
    have hb := hix_b (M 2 0 1) (i + 1)
    have k := hall_k (g (hix (M 2 0 1) (i + 1)) (by omega))
    have c := c3 (i + 1) (by omega)
    exact ⟨k.2 c.1, k.1.trans c.2⟩
  · have k := hall_k (g 12 (by omega))
    exact ⟨k.2 (d2 q).1, k.1.trans (d2 q).2⟩
  · have k := hall_k (g 13 (by omega))
    exact ⟨k.2 (d3 q).1, k.1.trans (d3 q).2⟩
  · unfold isMd at hk
    exact n k i (by omega) (by omega) (by omega)
end

