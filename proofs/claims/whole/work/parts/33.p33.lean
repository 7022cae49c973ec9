/-! ===== the class: the ranking of a grade ===== -/
section
variable {l : Launch} {M : zM} {S : zS}
theorem vX4_has {l : Launch} {P : Int → zM → Prop} {v1 : Int} {M : zM}
    (H0 : (zI v1 ∧ (v1 < 0 → P 0 M) ∧ (0 ≤ v1 → (zI (M 4 0 2) ∧ ((M 4 0 2) ≤ v1 → P 0 M) ∧ (v1 < (M 4 0 2) → ((20 ≤ v1 → P 0 M) ∧ (v1 < 20 → P 1 M))))))) :
    CI l m_X4_has [zr 4 0, zi v1] M P :=
(aw_iload_n d_X4_has_0 rfl rfl 1 rfl
(have z1 := H0.1; have e2 := H0.2; aw_if_lt d_X4_has_1 rfl rfl z1 (fun c3 => have e5 := e2.1 c3; (aw_iconst d_X4_has_22 rfl
(aw_rz d_X4_has_23 rfl (by decide) e5))) (fun c4 => have e6 := e2.2 c4; (aw_iload_n d_X4_has_4 rfl rfl 1 rfl
(aw_aload_n d_X4_has_5 rfl rfl 0 rfl (by decide)
(aw_getI (kc := 2) d_X4_has_6 rfl fl4_18 rfl rfl
(have z7 := e6.1; have e8 := e6.2; aw_icmp_ge d_X4_has_9 rfl rfl z1 z7 (fun c9 => have e11 := e8.1 c9; (aw_iconst d_X4_has_22 rfl
(aw_rz d_X4_has_23 rfl (by decide) e11))) (fun c10 => have e12 := e8.2 c10; (aw_iload_n d_X4_has_12 rfl rfl 1 rfl
(aw_bipush d_X4_has_13 rfl (by decide)
(aw_icmp_ge d_X4_has_15 rfl rfl z1 (by decide) (fun c13 => have e15 := e12.1 c13; (aw_iconst d_X4_has_22 rfl
(aw_rz d_X4_has_23 rfl (by decide) e15))) (fun c14 => have e16 := e12.2 c14; (aw_iconst d_X4_has_18 rfl
(aw_goto d_X4_has_19 rfl
(aw_rz d_X4_has_23 rfl (by decide) e16)))))))))))))))
theorem s_X4_has {k : Int} (h : zI k ∧ (0 ≤ M 4 0 2 ∧ M 4 0 2 ≤ 20)) : CI l m_X4_has [zr 4 0, zi k] M (fun x M' => x = zb (0 ≤ k ∧ k < M 4 0 2) ∧ M' = M) :=
  vX4_has ⟨h.1, fun e => ⟨(zb_f (by omega)).symm, rfl⟩, fun e => ⟨by omega, fun e2 => ⟨(zb_f (by omega)).symm, rfl⟩, fun e2 => ⟨fun e3 => by omega, fun e3 => ⟨(zb_1 ⟨e, e2⟩).symm, rfl⟩⟩⟩⟩
theorem vX4_traderAt {l : Launch} {P : Int → zM → Prop} {v1 : Int} {M : zM}
    (H0 : ((zI v1 ∧ (0 ≤ M 4 0 2 ∧ M 4 0 2 ≤ 20)) ∧ ((¬ (0 ≤ v1 ∧ v1 < M 4 0 2) → P (-1) M) ∧ (0 ≤ v1 ∧ v1 < M 4 0 2 → ((0 ≤ v1 ∧ v1 < 20) ∧ P (M 20 0 v1) M))))) :
    CI l m_X4_traderAt [zr 4 0, zi v1] M P :=
(aw_aload_n d_X4_traderAt_0 rfl rfl 0 rfl (by decide)
(aw_iload_n d_X4_traderAt_1 rfl rfl 1 rfl
(have z1 := H0.1; have e2 := H0.2; (aw_VI (As := [zi v1]) (st := []) d_X4_traderAt_2 rfl cv4_22 ⟨Nat.le_of_ble_eq_true rfl, Nat.le_of_ble_eq_true rfl⟩ rfl rfl (Nat.le_of_ble_eq_true rfl) (Nat.le_of_ble_eq_true rfl) (s_X4_has z1) (fun _ _ hq => aw_eqs hq
(aw_if_eq d_X4_traderAt_5 rfl rfl zb_I (fun c3 => have e5 := e2.1 (zb_0 c3); (aw_iconst d_X4_traderAt_17 rfl
(aw_ri d_X4_traderAt_18 rfl e5))) (fun c4 => have e6 := e2.2 (zb_n0 c4); (aw_aload_n d_X4_traderAt_8 rfl rfl 0 rfl (by decide)
(aw_getR (k' := 20) (a := 0) (b := 0) (j := 0) d_X4_traderAt_9 rfl fl4_9 rfl zj0 ⟨by decide, fun _ => by decide⟩
(aw_iload_n d_X4_traderAt_12 rfl rfl 1 rfl
(have z7 := e6.1; have e8 := e6.2; (aw_iald d_X4_traderAt_13 rfl za20 z7
(aw_goto d_X4_traderAt_14 rfl
(aw_ri d_X4_traderAt_18 rfl e8))))))))))))))
theorem vX4_gainAt {l : Launch} {P : Int → zM → Prop} {v1 : Int} {M : zM}
    (H0 : ((zI v1 ∧ (0 ≤ M 4 0 2 ∧ M 4 0 2 ≤ 20)) ∧ ((¬ (0 ≤ v1 ∧ v1 < M 4 0 2) → P 0 M) ∧ (0 ≤ v1 ∧ v1 < M 4 0 2 → ((0 ≤ v1 ∧ v1 < 20) ∧ P (M 21 0 v1) M))))) :
    CI l m_X4_gainAt [zr 4 0, zi v1] M P :=
(aw_aload_n d_X4_gainAt_0 rfl rfl 0 rfl (by decide)
(aw_iload_n d_X4_gainAt_1 rfl rfl 1 rfl
(have z1 := H0.1; have e2 := H0.2; (aw_VI (As := [zi v1]) (st := []) d_X4_gainAt_2 rfl cv4_22 ⟨Nat.le_of_ble_eq_true rfl, Nat.le_of_ble_eq_true rfl⟩ rfl rfl (Nat.le_of_ble_eq_true rfl) (Nat.le_of_ble_eq_true rfl) (s_X4_has z1) (fun _ _ hq => aw_eqs hq
(aw_if_eq d_X4_gainAt_5 rfl rfl zb_I (fun c3 => have e5 := e2.1 (zb_0 c3); (aw_iconst d_X4_gainAt_17 rfl
(aw_ri d_X4_gainAt_18 rfl e5))) (fun c4 => have e6 := e2.2 (zb_n0 c4); (aw_aload_n d_X4_gainAt_8 rfl rfl 0 rfl (by decide)
(aw_getR (k' := 21) (a := 0) (b := 0) (j := 0) d_X4_gainAt_9 rfl fl4_15 rfl zj0 ⟨by decide, fun _ => by decide⟩
(aw_iload_n d_X4_gainAt_12 rfl rfl 1 rfl
(have z7 := e6.1; have e8 := e6.2; (aw_iald d_X4_gainAt_13 rfl za21 z7
(aw_goto d_X4_gainAt_14 rfl
(aw_ri d_X4_gainAt_18 rfl e8))))))))))))))
theorem s_X4_traderAt {k : Int} (h : zI k ∧ (0 ≤ M 4 0 2 ∧ M 4 0 2 ≤ 20)) : CI l m_X4_traderAt [zr 4 0, zi k] M (fun x M' => x = (if 0 ≤ k ∧ k < M 4 0 2 then M 20 0 k else -1) ∧ M' = M) :=
  vX4_traderAt ⟨h, fun e => ⟨by rw [if_neg e], rfl⟩, fun e => ⟨by omega, by rw [if_pos e], rfl⟩⟩
theorem s_X4_gainAt {k : Int} (h : zI k ∧ (0 ≤ M 4 0 2 ∧ M 4 0 2 ≤ 20)) : CI l m_X4_gainAt [zr 4 0, zi k] M (fun x M' => x = (if 0 ≤ k ∧ k < M 4 0 2 then M 21 0 k else 0) ∧ M' = M) :=
  vX4_gainAt ⟨h, fun e => ⟨by rw [if_neg e], rfl⟩, fun e => ⟨by omega, by rw [if_pos e], rfl⟩⟩
def LX4_winners_2 (l : Launch) (P : Int → zM → Prop) (v1 : Int) (M : zM) : Prop := AW l m_X4_winners (zTi m_X4_winners P) 2 [(0, zr 4 0), (1, zi v1)] [] M
theorem vX4_winners_2 {l : Launch} {P : Int → zM → Prop} {v1 : Int} {M : zM}
    (H0 : (zI v1 ∧ zI (M 4 0 2) ∧ ((M 4 0 2) ≤ v1 → P v1 M) ∧ (v1 < (M 4 0 2) → ((zI v1 ∧ (0 ≤ M 4 0 2 ∧ M 4 0 2 ≤ 20)) ∧ (zI (if 0 ≤ (v1 : Int) ∧ v1 < M 4 0 2 then M 21 0 v1 else 0) ∧ ((if 0 ≤ (v1 : Int) ∧ v1 < M 4 0 2 then M 21 0 v1 else 0) ≤ 0 → P v1 M) ∧ (0 < (if 0 ≤ (v1 : Int) ∧ v1 < M 4 0 2 then M 21 0 v1 else 0) → LX4_winners_2 l P (v1 + 1) M)))))) :
    LX4_winners_2 l P v1 M :=
(aw_iload_n d_X4_winners_2 rfl rfl 1 rfl
(aw_aload_n d_X4_winners_3 rfl rfl 0 rfl (by decide)
(aw_getI (kc := 2) d_X4_winners_4 rfl fl4_18 rfl rfl
(have z1 := H0.1; have z2 := H0.2.1; have e3 := H0.2.2; aw_icmp_ge d_X4_winners_7 rfl rfl z1 z2 (fun c4 => have e6 := e3.1 c4; (aw_iload_n d_X4_winners_24 rfl rfl 1 rfl
(aw_ri d_X4_winners_25 rfl e6))) (fun c5 => have e7 := e3.2 c5; (aw_aload_n d_X4_winners_10 rfl rfl 0 rfl (by decide)
(aw_iload_n d_X4_winners_11 rfl rfl 1 rfl
(have z8 := e7.1; have e9 := e7.2; (aw_VI (As := [zi v1]) (st := []) d_X4_winners_12 rfl cv4_26 ⟨Nat.le_of_ble_eq_true rfl, Nat.le_of_ble_eq_true rfl⟩ rfl rfl (Nat.le_of_ble_eq_true rfl) (Nat.le_of_ble_eq_true rfl) (s_X4_gainAt z8) (fun _ _ hq => aw_eqs hq
(have z10 := e9.1; have e11 := e9.2; aw_if_le d_X4_winners_15 rfl rfl z10 (fun c12 => have e14 := e11.1 c12; (aw_iload_n d_X4_winners_24 rfl rfl 1 rfl
(aw_ri d_X4_winners_25 rfl e14))) (fun c13 => have e15 := e11.2 c13; (aw_iinc (lv' := [(1, zi (v1 + 1)), (0, zr 4 0)]) (y := (v1 + 1)) d_X4_winners_18 rfl 1 rfl (by decide) rfl rfl
(aw_goto d_X4_winners_21 rfl
(aw_sub [1, 0] rfl e15)))))))))))))))
theorem vX4_winners {l : Launch} {P : Int → zM → Prop}  {M : zM}
    (H0 : LX4_winners_2 l P 0 M) :
    CI l m_X4_winners [zr 4 0] M P :=
(aw_iconst d_X4_winners_0 rfl
(aw_istore_n (lv' := [(1, zi 0), (0, zr 4 0)]) d_X4_winners_1 rfl rfl (by decide) rfl
(aw_sub [1, 0] rfl H0)))
def LX4_firstAsBits_4 (l : Launch) (P : Int → zM → Prop) (v1 : Int) (v2 : Int) (v3 : Int) (M : zM) : Prop := AW l m_X4_firstAsBits (zTi m_X4_firstAsBits P) 4 [(0, zr 4 0), (1, zi v1), (2, zi v2), (3, zi v3)] [] M
theorem vX4_firstAsBits_4 {l : Launch} {P : Int → zM → Prop} {v1 : Int} {v2 : Int} {v3 : Int} {M : zM}
    (H0 : (zI v3 ∧ zI v1 ∧ (v1 ≤ v3 → P v2 M) ∧ (v3 < v1 → (zI (M 4 0 2) ∧ ((M 4 0 2) ≤ v3 → P v2 M) ∧ (v3 < (M 4 0 2) → ((zI v3 ∧ (0 ≤ M 4 0 2 ∧ M 4 0 2 ≤ 20)) ∧ LX4_firstAsBits_4 l P v1 (zor v2 (zshl 1 (if 0 ≤ (v3 : Int) ∧ v3 < M 4 0 2 then M 20 0 v3 else -1))) (v3 + 1) M)))))) :
    LX4_firstAsBits_4 l P v1 v2 v3 M :=
(aw_iload_n d_X4_firstAsBits_4 rfl rfl 3 rfl
(aw_iload_n d_X4_firstAsBits_5 rfl rfl 1 rfl
(have z1 := H0.1; have z2 := H0.2.1; have e3 := H0.2.2; aw_icmp_ge d_X4_firstAsBits_6 rfl rfl z1 z2 (fun c4 => have e6 := e3.1 c4; (aw_iload_n d_X4_firstAsBits_34 rfl rfl 2 rfl
(aw_ri d_X4_firstAsBits_35 rfl e6))) (fun c5 => have e7 := e3.2 c5; (aw_iload_n d_X4_firstAsBits_9 rfl rfl 3 rfl
(aw_aload_n d_X4_firstAsBits_10 rfl rfl 0 rfl (by decide)
(aw_getI (kc := 2) d_X4_firstAsBits_11 rfl fl4_18 rfl rfl
(have z8 := e7.1; have e9 := e7.2; aw_icmp_ge d_X4_firstAsBits_14 rfl rfl z1 z8 (fun c10 => have e12 := e9.1 c10; (aw_iload_n d_X4_firstAsBits_34 rfl rfl 2 rfl
(aw_ri d_X4_firstAsBits_35 rfl e12))) (fun c11 => have e13 := e9.2 c11; (aw_iload_n d_X4_firstAsBits_17 rfl rfl 2 rfl
(aw_aload_n d_X4_firstAsBits_18 rfl rfl 0 rfl (by decide)
(aw_iload_n d_X4_firstAsBits_19 rfl rfl 3 rfl
(have z14 := e13.1; have e15 := e13.2; (aw_VI (As := [zi v3]) (st := [zi v2]) d_X4_firstAsBits_20 rfl cv4_30 ⟨Nat.le_of_ble_eq_true rfl, Nat.le_of_ble_eq_true rfl⟩ rfl rfl (Nat.le_of_ble_eq_true rfl) (Nat.le_of_ble_eq_true rfl) (s_X4_traderAt z14) (fun _ _ hq => aw_eqs hq
(aw_SI (As := [zi (if 0 ≤ (v3 : Int) ∧ v3 < M 4 0 2 then M 20 0 v3 else -1)]) (st := [zi v2]) d_X4_firstAsBits_23 rfl cs4_33 ⟨Nat.le_of_ble_eq_true rfl, Nat.le_of_ble_eq_true rfl⟩ rfl rfl (Nat.le_of_ble_eq_true rfl) (Nat.le_of_ble_eq_true rfl) (s_X8_bit) (fun _ _ hq => aw_eqs hq
(aw_ior d_X4_firstAsBits_26 rfl zor_h
(aw_istore_n (lv' := [(2, zi (zor v2 (zshl 1 (if 0 ≤ (v3 : Int) ∧ v3 < M 4 0 2 then M 20 0 v3 else -1)))), (0, zr 4 0), (1, zi v1), (3, zi v3)]) d_X4_firstAsBits_27 rfl rfl (by decide) rfl
(aw_iinc (lv' := [(3, zi (v3 + 1)), (2, zi (zor v2 (zshl 1 (if 0 ≤ (v3 : Int) ∧ v3 < M 4 0 2 then M 20 0 v3 else -1)))), (0, zr 4 0), (1, zi v1)]) (y := (v3 + 1)) d_X4_firstAsBits_28 rfl 3 rfl (by decide) rfl rfl
(aw_goto d_X4_firstAsBits_31 rfl
(aw_sub [2, 3, 1, 0] rfl e15))))))))))))))))))))))
theorem vX4_firstAsBits {l : Launch} {P : Int → zM → Prop} {v1 : Int} {M : zM}
    (H0 : LX4_firstAsBits_4 l P v1 0 0 M) :
    CI l m_X4_firstAsBits [zr 4 0, zi v1] M P :=
(aw_iconst d_X4_firstAsBits_0 rfl
(aw_istore_n (lv' := [(2, zi 0), (0, zr 4 0), (1, zi v1)]) d_X4_firstAsBits_1 rfl rfl (by decide) rfl
(aw_iconst d_X4_firstAsBits_2 rfl
(aw_istore_n (lv' := [(3, zi 0), (2, zi 0), (0, zr 4 0), (1, zi v1)]) d_X4_firstAsBits_3 rfl rfl (by decide) rfl
(aw_sub [2, 3, 1, 0] rfl H0)))))
def LX8_rankGrade_15 (l : Launch) (P : zM → Prop) (v1 : Int) (v2 : Int) (M : zM) : Prop := AW l m_X8_rankGrade (zTv m_X8_rankGrade P) 15 [(0, zr 8 0), (1, zi v1), (2, zi v2)] [] M
theorem vX8_rankGrade_15 {l : Launch} {P : zM → Prop} {v1 : Int} {v2 : Int} {M : zM}
    (H0 : (zI v2 ∧ zI (M 1 0 6) ∧ ((M 1 0 6) ≤ v2 → P M) ∧ (v2 < (M 1 0 6) → ((hW M 0 ∧ 0 ≤ v2 ∧ v2 < M 1 0 6) ∧ (zI (qgr (hS M 0) v2) ∧ zI v1 ∧ ((qgr (hS M 0) v2) ≠ v1 → LX8_rankGrade_15 l P v1 (v2 + 1) M) ∧ ((qgr (hS M 0) v2) = v1 → (CI l m_X0_gainOf [zr 0 0, zr 1 0, zi v2] M (fun x25 M22 => (CV l m_X4_place [zr 4 0, zi v2, zi x25] M22 (fun M26 => LX8_rankGrade_15 l P v1 (v2 + 1) M26)))))))))) :
    LX8_rankGrade_15 l P v1 v2 M :=
(aw_iload_n d_X8_rankGrade_15 rfl rfl 2 rfl
(aw_aload_n d_X8_rankGrade_16 rfl rfl 0 rfl (by decide)
(aw_getR (k' := 1) (a := 0) (b := 0) (j := 0) d_X8_rankGrade_17 rfl fl8_12 rfl zj0 ⟨by decide, fun _ => by decide⟩
(aw_getI (kc := 6) d_X8_rankGrade_20 rfl fl8_98 rfl rfl
(have z6 := H0.1; have z7 := H0.2.1; have e8 := H0.2.2; aw_icmp_ge d_X8_rankGrade_23 rfl rfl z6 z7 (fun c9 => have e11 := e8.1 c9; (aw_rv d_X8_rankGrade_64 rfl e11)) (fun c10 => have e12 := e8.2 c10; (aw_aload_n d_X8_rankGrade_26 rfl rfl 0 rfl (by decide)
(aw_getR (k' := 1) (a := 0) (b := 0) (j := 0) d_X8_rankGrade_27 rfl fl8_12 rfl zj0 ⟨by decide, fun _ => by decide⟩
(aw_iload_n d_X8_rankGrade_30 rfl rfl 2 rfl
(have z13 := e12.1; have e14 := e12.2; (aw_VI (As := [zi v2]) (st := []) d_X8_rankGrade_31 rfl cv8_196 ⟨Nat.le_of_ble_eq_true rfl, Nat.le_of_ble_eq_true rfl⟩ rfl rfl (Nat.le_of_ble_eq_true rfl) (Nat.le_of_ble_eq_true rfl) (s_X1_gradeOf z13) (fun _ _ hq => aw_eqs hq
(aw_iload_n d_X8_rankGrade_34 rfl rfl 1 rfl
(have z15 := e14.1; have z16 := e14.2.1; have e17 := e14.2.2; aw_icmp_ne d_X8_rankGrade_35 rfl rfl z15 z16 (fun c18 => have e20 := e17.1 c18; (aw_iinc (lv' := [(2, zi (v2 + 1)), (0, zr 8 0), (1, zi v1)]) (y := (v2 + 1)) d_X8_rankGrade_58 rfl 2 rfl (by decide) rfl rfl
(aw_goto d_X8_rankGrade_61 rfl
(aw_sub [1, 2, 0] rfl e20)))) (fun c19 => have e21 := e17.2 c19; (aw_aload_n d_X8_rankGrade_38 rfl rfl 0 rfl (by decide)
(aw_getR (k' := 4) (a := 0) (b := 0) (j := 0) d_X8_rankGrade_39 rfl fl8_57 rfl zj0 ⟨by decide, fun _ => by decide⟩
(aw_iload_n d_X8_rankGrade_42 rfl rfl 2 rfl
(aw_aload_n d_X8_rankGrade_43 rfl rfl 0 rfl (by decide)
(aw_getR (k' := 0) (a := 0) (b := 0) (j := 0) d_X8_rankGrade_44 rfl fl8_47 rfl zj0 ⟨by decide, fun _ => by decide⟩
(aw_aload_n d_X8_rankGrade_47 rfl rfl 0 rfl (by decide)
(aw_getR (k' := 1) (a := 0) (b := 0) (j := 0) d_X8_rankGrade_48 rfl fl8_12 rfl zj0 ⟨by decide, fun _ => by decide⟩
(aw_iload_n d_X8_rankGrade_51 rfl rfl 2 rfl
(aw_VI (As := [zr 1 0, zi v2]) (st := [zi v2, zr 4 0]) d_X8_rankGrade_52 rfl cv8_251 ⟨Nat.le_of_ble_eq_true rfl, Nat.le_of_ble_eq_true rfl⟩ rfl rfl (Nat.le_of_ble_eq_true rfl) (Nat.le_of_ble_eq_true rfl) e21 (fun x25 M22 e23 => (aw_VV (As := [zi v2, zi x25]) (st := []) d_X8_rankGrade_55 rfl cv8_417 ⟨Nat.le_of_ble_eq_true rfl, Nat.le_of_ble_eq_true rfl⟩ rfl rfl (Nat.le_of_ble_eq_true rfl) (Nat.le_of_ble_eq_true rfl) e23 (fun M26 e27 => (aw_iinc (lv' := [(2, zi (v2 + 1)), (0, zr 8 0), (1, zi v1)]) (y := (v2 + 1)) d_X8_rankGrade_58 rfl 2 rfl (by decide) rfl rfl
(aw_goto d_X8_rankGrade_61 rfl
(aw_sub [1, 2, 0] rfl e27))))))))))))))))))))))))))))))
theorem vX8_rankGrade {l : Launch} {P : zM → Prop} {v1 : Int} {M : zM}
    (H0 : (CV l m_X8_settleGrade [zr 8 0, zi v1] M (fun M1 => (∀ M4 : zM, M4 = zu M1 4 0 2 0 → LX8_rankGrade_15 l P v1 0 M4)))) :
    CV l m_X8_rankGrade [zr 8 0, zi v1] M P :=
(aw_aload_n d_X8_rankGrade_0 rfl rfl 0 rfl (by decide)
(aw_iload_n d_X8_rankGrade_1 rfl rfl 1 rfl
(aw_VV (As := [zi v1]) (st := []) d_X8_rankGrade_2 rfl cv8_154 ⟨Nat.le_of_ble_eq_true rfl, Nat.le_of_ble_eq_true rfl⟩ rfl rfl (Nat.le_of_ble_eq_true rfl) (Nat.le_of_ble_eq_true rfl) H0 (fun M1 e2 => (aw_aload_n d_X8_rankGrade_5 rfl rfl 0 rfl (by decide)
(aw_getR (k' := 4) (a := 0) (b := 0) (j := 0) d_X8_rankGrade_6 rfl fl8_57 rfl zj0 ⟨by decide, fun _ => by decide⟩
(aw_iconst d_X8_rankGrade_9 rfl
(have e5 := e2 _ rfl; aw_put (kc := 2) d_X8_rankGrade_10 rfl fp8_366 rfl rfl rfl rfl
(aw_iconst d_X8_rankGrade_13 rfl
(aw_istore_n (lv' := [(2, zi 0), (0, zr 8 0), (1, zi v1)]) d_X8_rankGrade_14 rfl rfl (by decide) rfl
(aw_sub [1, 2, 0] rfl e5)))))))))))
theorem rk_len {S : zS} {g : Int} {G : Int → Int} {R : List Int} {n : Nat} (hn : qn S ≤ 20) (hR : R.Pairwise (· < ·)) (h : ∀ x ∈ R, ∃ t, ((0 ≤ t ∧ t < (n : Int)) ∧ t < qn S ∧ qgr S t = g) ∧ x = rkK G t) : R.length ≤ n := by
  refine len_slots (fun x => x % 32) n R (hR.imp_of_mem ?_) (fun x hx => ?_)
  · intro a b ha hb hab e
    obtain ⟨t, c, rfl⟩ := h a ha
    obtain ⟨t', c', rfl⟩ := h b hb
    have k1 : rkK G t % 32 = t := (rkK_d (G := G) (by omega)).1
    have k2 : rkK G t' % 32 = t' := (rkK_d (G := G) (by omega)).1
    have : t = t' := by omega
    subst this
    omega
  · obtain ⟨t, c, rfl⟩ := h x hx
    have k1 : rkK G t % 32 = t := (rkK_d (G := G) (by omega)).1
    omega
theorem kRk_scr {M M' : zM} (f : Fx kRk M M') : Fr kScr M M' := fun k i hk => f k i (fun q => hk (by unfold kScr; unfold kRk at q; omega))
theorem c_X8_rankGrade {g : Int} (c : CX M S) (hg : 0 ≤ g ∧ g < 4) : CV l m_X8_rankGrade [zr 8 0, zi g] M (fun M' => Fr kScr M M' ∧ bkS M' 0 (qB S g) (qA S g) (qfee S) (qlaw S) ∧ mRk M' (rkL S g (sGn S g)) ∧ isRow (rkL S g (sGn S g)) (rkP S g (sGn S g))) := by
  have hn := c.2.1.1
  have loop : ∀ (n : Nat) (t : Nat) (M' : zM), (qn S - t).toNat = n → (t : Int) ≤ qn S → Fr kScr M M' → bkS M' 0 (qB S g) (qA S g) (qfee S) (qlaw S) → (∃ R, mRk M' R ∧ isRow R (fun x => ∃ t', ((0 ≤ t' ∧ t' < (t : Int)) ∧ t' < qn S ∧ qgr S t' = g) ∧ x = rkK (sGn S g) t')) →
      LX8_rankGrade_15 l (fun M' => Fr kScr M M' ∧ bkS M' 0 (qB S g) (qA S g) (qfee S) (qlaw S) ∧ mRk M' (rkL S g (sGn S g)) ∧ isRow (rkL S g (sGn S g)) (rkP S g (sGn S g))) g (t : Int) M' := by
    intro n
    induction n with
    | zero =>
      intro t M' hn' ht f s hR
      have c1 := c.scr f
      obtain ⟨R, r, hR⟩ := hR
      refine vX8_rankGrade_15 ⟨by omega, by rw [c1.n]; omega, fun _ => ?_, fun e => by rw [c1.n] at e; omega⟩
      have hr : isRow R (rkP S g (sGn S g)) := hR.to fun x => ⟨fun ⟨t', q, e⟩ => ⟨t', ⟨⟨q.1.1, q.2.1⟩, q.2.2⟩, e⟩, fun ⟨t', q, e⟩ => ⟨t', ⟨⟨q.1.1, by omega⟩, q.1.2, q.2⟩, e⟩⟩
      have e : rkL S g (sGn S g) = R := rowOf_is hr
      rw [e]
      exact ⟨f, s, r, hr⟩
    | succ n ih =>
      intro t M' hn' ht f s hR
      have c1 := c.scr f
      obtain ⟨R, r, hR⟩ := hR
      have ht' : 0 ≤ (t : Int) ∧ (t : Int) < qn S := by omega
      have hgr := c.2.2.1 t ht'
      refine vX8_rankGrade_15 ⟨by omega, by rw [c1.n]; omega, fun e => by rw [c1.n] at e; omega, fun _ => ⟨⟨c1.1.1, by rw [c1.n]; omega⟩, ?_⟩⟩
      rw [c1.1.2]
      refine ⟨by omega, by omega, fun e => ?_, fun e => ?_⟩
      · refine ih (t + 1) M' (by omega) (by omega) f s ⟨R, r, hR.to fun x => ⟨?_, ?_⟩⟩
        · rintro ⟨t', q, e2⟩; exact ⟨t', ⟨⟨q.1.1, by omega⟩, q.2⟩, e2⟩
        · rintro ⟨t', q, e2⟩
          refine ⟨t', ⟨⟨q.1.1, ?_⟩, q.2⟩, e2⟩
          by_cases c3 : t' = (t : Int)
          · subst c3; exact absurd q.2.2 e
          · omega
      · refine (c_gainOf c1 c.2.1 (by omega) s).eq ?_
        have hb := sGn_b c.2 g t
        have hk := rkK_d (G := sGn S g) (t := (t : Int)) (by omega)
        have hl := rk_len (n := t) hn.2 hR.1 (fun x hx => (hR.2 x).mp hx)
        refine (c_X4_place (x := rkK (sGn S g) t) hR r (fun y hy => ?_) (by omega) hk.1 hk.2 (by omega) (fun y hy => ?_)).mono ?_
        · obtain ⟨t', q, rfl⟩ := (hR.2 y).mp hy
          have k1 : rkK (sGn S g) t' % 32 = t' := (rkK_d (by omega)).1
          have k2 : rkK (sGn S g) t % 32 = t := hk.1
          omega
        · obtain ⟨t', q, rfl⟩ := (hR.2 y).mp hy
          rw [(rkK_d (G := sGn S g) (t := t') (by omega)).2]
          have := sGn_b c.2 g t'
          omega
        · rintro M2 ⟨f2, R', hR', hl', r'⟩
          refine ih (t + 1) M2 (by omega) (by omega) (f.tr (kRk_scr f2)) ?_ ⟨R', r', hR'.to fun x => ⟨?_, ?_⟩⟩
          · exact s.of (f2 _ _ (by unfold kRk; omega)) (f2 _ _ (by unfold kRk; omega)) (f2 _ _ (by unfold kRk; omega))
          · rintro (⟨t', q, e2⟩ | e2)
            · exact ⟨t', ⟨⟨q.1.1, by omega⟩, q.2⟩, e2⟩
            · exact ⟨t, ⟨⟨by omega, by omega⟩, ht'.2, e⟩, e2⟩
          · rintro ⟨t', q, e2⟩
            by_cases c3 : t' = (t : Int)
            · subst c3; exact .inr e2
            · exact .inl ⟨t', ⟨⟨q.1.1, by omega⟩, q.2⟩, e2⟩
  refine vX8_rankGrade ((c_settleGrade c hg).mono ?_)
  rintro M1 ⟨f1, s1⟩
  intro M2 q2
  refine loop _ 0 M2 rfl (by omega) (f1.scr.tr ?_) ?_ ⟨[], ⟨by rw [q2, zu_at, if_pos rfl]; rfl, fun j hj => by simp at hj; omega⟩, List.Pairwise.nil, fun x => ⟨fun q => absurd q List.not_mem_nil, ?_⟩⟩
  · rw [q2]; exact Fr.zu (by unfold kScr; omega)
  · exact s1.of (by rw [q2, zu_k (by decide)]) (by rw [q2, zu_k (by decide)]) (by rw [q2, zu_k (by decide)])
  · rintro ⟨t', q, -⟩
    omega
theorem rk_at {g : Int} {G : Int → Int} {R : List Int} {k : Int} (hn : qn S ≤ 20) (h : isRow R (rkP S g G)) (hk : 0 ≤ k ∧ k < (R.length : Int)) : ∃ t, ((0 ≤ t ∧ t < qn S) ∧ qgr S t = g) ∧ R.getD k.toNat 0 = rkK G t ∧ rkt (R.getD k.toNat 0) = t ∧ rkg (R.getD k.toNat 0) = G t := by
  obtain ⟨t, q, e⟩ := (h.2 _).mp (at_mem hk)
  have := rkK_d (G := G) (t := t) (by omega)
  exact ⟨t, q, e, by rw [e]; exact this.1, by rw [e]; exact this.2⟩
theorem rk_l20 {g : Int} {G : Int → Int} {R : List Int} (hn : 0 ≤ qn S ∧ qn S ≤ 20) (h : isRow R (rkP S g G)) : R.length ≤ 20 := by
  have := rk_len (S := S) (g := g) (G := G) (n := (qn S).toNat) hn.2 h.1 (fun x hx => by
    obtain ⟨t, q, e⟩ := (h.2 x).mp hx
    exact ⟨t, ⟨⟨q.1.1, by omega⟩, q.1.2, q.2⟩, e⟩)
  omega
theorem c_X4_winners {g : Int} {R : List Int} (hS : okS S) (r : mRk M R) (h : isRow R (rkP S g (sGn S g))) : CI l m_X4_winners [zr 4 0] M (fun x M' => x = lead (fun k => decide (0 < rkg (R.getD k.toNat 0))) R.length ∧ M' = M) := by
  have hn := hS.1.1
  have hl := rk_l20 hn h
  have e2 := r.1
  have loop : ∀ (n : Nat) (k : Int), ((R.length : Int) - k).toNat = n → 0 ≤ k ∧ k ≤ (R.length : Int) → (∀ j, 0 ≤ j ∧ j < k → 0 < rkg (R.getD j.toNat 0)) → LX4_winners_2 l (fun x M' => x = lead (fun k => decide (0 < rkg (R.getD k.toNat 0))) R.length ∧ M' = M) k M := by
    intro n
    induction n with
    | zero =>
      intro k hn' hk hj
      refine vX4_winners_2 ⟨by omega, by omega, fun _ => ⟨?_, rfl⟩, fun e => by omega⟩
      exact (lead_eq hk (fun j q => by simpa using hj j q) (fun e => by omega)).symm
    | succ n ih =>
      intro k hn' hk hj
      refine vX4_winners_2 ⟨by omega, by omega, fun e => by omega, fun _ => ⟨⟨by omega, by omega⟩, ?_⟩⟩
      obtain ⟨t, q, e, e3, e4⟩ := rk_at hn.2 h (k := k) (by omega)
      have hb := sGn_b hS g t
      rw [if_pos (by omega), (r.2 k (by omega)).2]
      refine ⟨by rw [e4]; omega, fun c => ⟨?_, rfl⟩, fun c => ih (k + 1) (by omega) (by omega) fun j q => ?_⟩
      · exact (lead_eq hk (fun j q => by simpa using hj j q) (fun e => by show ¬ decide (0 < rkg (R.getD k.toNat 0)) = true; rw [decide_eq_true_eq]; omega)).symm
      · by_cases e : j = k
        · rw [e]; exact c
        · exact hj j (by omega)
  exact vX4_winners (loop _ 0 rfl (by omega) (fun j q => by omega))
/-- the first n of a ranking as bits -/
def rkBits (R : List Int) : Nat → Int
  | 0 => 0
  | k + 1 => if k < R.length then zor (rkBits R k) (zshl 1 (rkt (R.getD k 0))) else rkBits R k
theorem rkBits_ge {R : List Int} {k : Nat} (h : R.length ≤ k) : rkBits R k = rkBits R R.length := by
  induction k with
  | zero => rw [show R.length = 0 by omega]
  | succ k ih =>
    by_cases c : R.length = k + 1
    · rw [c]
    · rw [rkBits, if_neg (by omega), ih (by omega)]
theorem c_X4_firstAsBits {g n : Int} {G : Int → Int} {R : List Int} (hS : okS S) (r : mRk M R) (h : isRow R (rkP S g G)) (hn0 : 0 ≤ n ∧ n ≤ 20) : CI l m_X4_firstAsBits [zr 4 0, zi n] M (fun x M' => x = rkBits R n.toNat ∧ M' = M) := by
  have hn := hS.1.1
  have hl := rk_l20 hn h
  have e2 := r.1
  have loop : ∀ (m k : Nat), n.toNat - k = m → (k : Int) ≤ n → k ≤ R.length → LX4_firstAsBits_4 l (fun x M' => x = rkBits R n.toNat ∧ M' = M) n (rkBits R k) (k : Int) M := by
    intro m
    induction m with
    | zero =>
      intro k hm hk hk2
      refine vX4_firstAsBits_4 ⟨by omega, by omega, fun _ => ⟨?_, rfl⟩, fun e => by omega⟩
      rw [show n.toNat = k by omega]
    | succ m ih =>
      intro k hm hk hk2
      refine vX4_firstAsBits_4 ⟨by omega, by omega, fun e => by omega, fun _ => ⟨by omega, fun e => ⟨?_, rfl⟩, fun e => ⟨⟨by omega, by omega⟩, ?_⟩⟩⟩
      · rw [rkBits_ge (k := n.toNat) (by omega), show k = R.length by omega]
      · rw [if_pos (by omega), (r.2 k (by omega)).1]
        have := ih (k + 1) (by omega) (by omega) (by omega)
        rw [rkBits, if_pos (by omega)] at this
        exact this
  exact vX4_firstAsBits (loop _ 0 rfl (by omega) (by omega))
end
