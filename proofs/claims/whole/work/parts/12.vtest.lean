theorem vX1_has {l : Launch} {P : Int → zM → Prop} {h : Nat} {v1 : Int} {M : zM}
    (H0 : (zI v1 ∧ (v1 < 0 → P 0 M) ∧ (0 ≤ v1 → (zI (M 1 h 6) ∧ ((M 1 h 6) ≤ v1 → P 0 M) ∧ (v1 < (M 1 h 6) → ((20 ≤ v1 → P 0 M) ∧ (v1 < 20 → P 1 M))))))) :
    CI l m_X1_has [zr 1 h, zi v1] M P :=
(aw_iload_n d_X1_has_0 rfl rfl 1 rfl
(have z1 := H0.1; have e2 := H0.2; aw_if_lt d_X1_has_1 rfl rfl z1 (fun c3 => have e5 := e2.1 c3; (aw_iconst d_X1_has_22 rfl
(aw_rz d_X1_has_23 rfl (by decide) e5))) (fun c4 => have e6 := e2.2 c4; (aw_iload_n d_X1_has_4 rfl rfl 1 rfl
(aw_aload_n d_X1_has_5 rfl rfl 0 rfl (by decide)
(aw_getI (kc := 6) d_X1_has_6 rfl fl1_31 rfl rfl
(have z7 := e6.1; have e8 := e6.2; aw_icmp_ge d_X1_has_9 rfl rfl z1 z7 (fun c9 => have e11 := e8.1 c9; (aw_iconst d_X1_has_22 rfl
(aw_rz d_X1_has_23 rfl (by decide) e11))) (fun c10 => have e12 := e8.2 c10; (aw_iload_n d_X1_has_12 rfl rfl 1 rfl
(aw_bipush d_X1_has_13 rfl (by decide)
(aw_icmp_ge d_X1_has_15 rfl rfl z1 (by decide) (fun c13 => have e15 := e12.1 c13; (aw_iconst d_X1_has_22 rfl
(aw_rz d_X1_has_23 rfl (by decide) e15))) (fun c14 => have e16 := e12.2 c14; (aw_iconst d_X1_has_18 rfl
(aw_goto d_X1_has_19 rfl
(aw_rz d_X1_has_23 rfl (by decide) e16)))))))))))))))
theorem vX1_hasUnit {l : Launch} {P : Int → zM → Prop} {h : Nat} {v1 : Int} {v2 : Int} {M : zM}
    (H0 : (zI v1 ∧ (v1 < 0 → P 0 M) ∧ (0 ≤ v1 → (zI (M 1 h 6) ∧ ((M 1 h 6) ≤ v1 → P 0 M) ∧ (v1 < (M 1 h 6) → ((20 ≤ v1 → P 0 M) ∧ (v1 < 20 → (zI v2 ∧ (v2 < 0 → P 0 M) ∧ (0 ≤ v2 → ((0 ≤ v1 ∧ v1 < 20) ∧ (zI (M 14 h v1) ∧ ((M 14 h v1) ≤ v2 → P 0 M) ∧ (v2 < (M 14 h v1) → ((4 ≤ v2 → P 0 M) ∧ (v2 < 4 → P 1 M)))))))))))))) :
    CI l m_X1_hasUnit [zr 1 h, zi v1, zi v2] M P :=
(aw_iload_n d_X1_hasUnit_0 rfl rfl 1 rfl
(have z1 := H0.1; have e2 := H0.2; aw_if_lt d_X1_hasUnit_1 rfl rfl z1 (fun c3 => have e5 := e2.1 c3; (aw_iconst d_X1_hasUnit_26 rfl
(aw_istore_n (lv' := [(3, zi 0), (0, zr 1 h), (1, zi v1), (2, zi v2)]) d_X1_hasUnit_27 rfl rfl (by decide) rfl
(aw_iload_n d_X1_hasUnit_28 rfl rfl 0 rfl
(aw_if_eq d_X1_hasUnit_29 rfl rfl (by decide) (fun _ => (aw_iconst d_X1_hasUnit_51 rfl
(aw_rz d_X1_hasUnit_52 rfl (by decide) e5))) (fun c7 => absurd c7 (by decide))))))) (fun c4 => have e6 := e2.2 c4; (aw_iload_n d_X1_hasUnit_4 rfl rfl 1 rfl
(aw_aload_n d_X1_hasUnit_5 rfl rfl 0 rfl (by decide)
(aw_getI (kc := 6) d_X1_hasUnit_6 rfl fl1_31 rfl rfl
(have z8 := e6.1; have e9 := e6.2; aw_icmp_ge d_X1_hasUnit_9 rfl rfl z1 z8 (fun c10 => have e12 := e9.1 c10; (aw_iconst d_X1_hasUnit_26 rfl
(aw_istore_n (lv' := [(3, zi 0), (0, zr 1 h), (1, zi v1), (2, zi v2)]) d_X1_hasUnit_27 rfl rfl (by decide) rfl
(aw_iload_n d_X1_hasUnit_28 rfl rfl 0 rfl
(aw_if_eq d_X1_hasUnit_29 rfl rfl (by decide) (fun _ => (aw_iconst d_X1_hasUnit_51 rfl
(aw_rz d_X1_hasUnit_52 rfl (by decide) e12))) (fun c14 => absurd c14 (by decide))))))) (fun c11 => have e13 := e9.2 c11; (aw_iload_n d_X1_hasUnit_12 rfl rfl 1 rfl
(aw_bipush d_X1_hasUnit_13 rfl (by decide)
(aw_icmp_ge d_X1_hasUnit_15 rfl rfl z1 (by decide) (fun c15 => have e17 := e13.1 c15; (aw_iconst d_X1_hasUnit_26 rfl
(aw_istore_n (lv' := [(3, zi 0), (0, zr 1 h), (1, zi v1), (2, zi v2)]) d_X1_hasUnit_27 rfl rfl (by decide) rfl
(aw_iload_n d_X1_hasUnit_28 rfl rfl 0 rfl
(aw_if_eq d_X1_hasUnit_29 rfl rfl (by decide) (fun _ => (aw_iconst d_X1_hasUnit_51 rfl
(aw_rz d_X1_hasUnit_52 rfl (by decide) e17))) (fun c19 => absurd c19 (by decide))))))) (fun c16 => have e18 := e13.2 c16; (aw_iload_n d_X1_hasUnit_18 rfl rfl 2 rfl
(have z20 := e18.1; have e21 := e18.2; aw_if_lt d_X1_hasUnit_19 rfl rfl z20 (fun c22 => have e24 := e21.1 c22; (aw_iconst d_X1_hasUnit_26 rfl
(aw_istore_n (lv' := [(3, zi 0), (0, zr 1 h), (1, zi v1), (2, zi v2)]) d_X1_hasUnit_27 rfl rfl (by decide) rfl
(aw_iload_n d_X1_hasUnit_28 rfl rfl 0 rfl
(aw_if_eq d_X1_hasUnit_29 rfl rfl (by decide) (fun _ => (aw_iconst d_X1_hasUnit_51 rfl
(aw_rz d_X1_hasUnit_52 rfl (by decide) e24))) (fun c26 => absurd c26 (by decide))))))) (fun c23 => have e25 := e21.2 c23; (aw_iconst d_X1_hasUnit_22 rfl
(aw_goto d_X1_hasUnit_23 rfl
(aw_istore_n (lv' := [(3, zi 1), (0, zr 1 h), (1, zi v1), (2, zi v2)]) d_X1_hasUnit_27 rfl rfl (by decide) rfl
(aw_iload_n d_X1_hasUnit_28 rfl rfl 0 rfl
(aw_if_eq d_X1_hasUnit_29 rfl rfl (by decide) (fun c27 => absurd c27 (by decide)) (fun _ => (aw_iload_n d_X1_hasUnit_32 rfl rfl 3 rfl
(aw_aload_n d_X1_hasUnit_33 rfl rfl 1 rfl (by decide)
(aw_getR (k' := 14) (a := 1) (b := 0) (j := h) d_X1_hasUnit_34 rfl fl1_19 rfl zj1 ⟨by decide, fun h => h⟩
(aw_iload_n d_X1_hasUnit_37 rfl rfl 2 rfl
(have z28 := e25.1; have e29 := e25.2; (aw_iald d_X1_hasUnit_38 rfl za14 z28
(have z30 := e29.1; have e31 := e29.2; aw_icmp_ge d_X1_hasUnit_39 rfl rfl z20 z30 (fun c32 => have e34 := e31.1 c32; (aw_iconst d_X1_hasUnit_51 rfl
(aw_rz d_X1_hasUnit_52 rfl (by decide) e34))) (fun c33 => have e35 := e31.2 c33; (aw_iload_n d_X1_hasUnit_42 rfl rfl 3 rfl
(aw_iconst d_X1_hasUnit_43 rfl
(aw_icmp_ge d_X1_hasUnit_44 rfl rfl z20 (by decide) (fun c36 => have e38 := e35.1 c36; (aw_iconst d_X1_hasUnit_51 rfl
(aw_rz d_X1_hasUnit_52 rfl (by decide) e38))) (fun c37 => have e39 := e35.2 c37; (aw_iconst d_X1_hasUnit_47 rfl
(aw_goto d_X1_hasUnit_48 rfl
(aw_rz d_X1_hasUnit_52 rfl (by decide) e39))))))))))))))))))))))))))))))))))))
theorem vX1_isSeller {l : Launch} {P : Int → zM → Prop} {h : Nat} {v1 : Int} {M : zM}
    (H0 : (CI l m_X1_has [zr 1 h, zi v1] M (fun x4 M1 => (zI x4 ∧ (x4 = 0 → P 0 M1) ∧ (x4 ≠ 0 → ((0 ≤ v1 ∧ v1 < 20) ∧ (zI (M1 12 h v1) ∧ ((M1 12 h v1) = 0 → P 0 M1) ∧ ((M1 12 h v1) ≠ 0 → P 1 M1)))))))) :
    CI l m_X1_isSeller [zr 1 h, zi v1] M P :=
(aw_aload_n d_X1_isSeller_0 rfl rfl 0 rfl (by decide)
(aw_iload_n d_X1_isSeller_1 rfl rfl 1 rfl
(aw_VI (As := [zi v1]) (st := []) d_X1_isSeller_2 rfl cv1_59 ⟨Nat.le_of_ble_eq_true rfl, Nat.le_of_ble_eq_true rfl⟩ rfl rfl (Nat.le_of_ble_eq_true rfl) (Nat.le_of_ble_eq_true rfl) H0 (fun x4 M1 e2 => (have z5 := e2.1; have e6 := e2.2; aw_if_eq d_X1_isSeller_5 rfl rfl z5 (fun c7 => have e9 := e6.1 c7; (aw_iconst d_X1_isSeller_21 rfl
(aw_rz d_X1_isSeller_22 rfl (by decide) e9))) (fun c8 => have e10 := e6.2 c8; (aw_aload_n d_X1_isSeller_8 rfl rfl 0 rfl (by decide)
(aw_getR (k' := 12) (a := 1) (b := 0) (j := h) d_X1_isSeller_9 rfl fl1_9 rfl zj1 ⟨by decide, fun h => h⟩
(aw_iload_n d_X1_isSeller_12 rfl rfl 1 rfl
(have z11 := e10.1; have e12 := e10.2; (aw_zald d_X1_isSeller_13 rfl za12 z11
(have z13 := e12.1; have e14 := e12.2; aw_if_eq d_X1_isSeller_14 rfl rfl z13 (fun c15 => have e17 := e14.1 c15; (aw_iconst d_X1_isSeller_21 rfl
(aw_rz d_X1_isSeller_22 rfl (by decide) e17))) (fun c16 => have e18 := e14.2 c16; (aw_iconst d_X1_isSeller_17 rfl
(aw_goto d_X1_isSeller_18 rfl
(aw_rz d_X1_isSeller_22 rfl (by decide) e18))))))))))))))))
theorem vX1_gradeOf {l : Launch} {P : Int → zM → Prop} {h : Nat} {v1 : Int} {M : zM}
    (H0 : (CI l m_X1_has [zr 1 h, zi v1] M (fun x4 M1 => (zI x4 ∧ (x4 = 0 → P (-1) M1) ∧ (x4 ≠ 0 → ((0 ≤ v1 ∧ v1 < 20) ∧ P (M1 13 h v1) M1)))))) :
    CI l m_X1_gradeOf [zr 1 h, zi v1] M P :=
(aw_aload_n d_X1_gradeOf_0 rfl rfl 0 rfl (by decide)
(aw_iload_n d_X1_gradeOf_1 rfl rfl 1 rfl
(aw_VI (As := [zi v1]) (st := []) d_X1_gradeOf_2 rfl cv1_59 ⟨Nat.le_of_ble_eq_true rfl, Nat.le_of_ble_eq_true rfl⟩ rfl rfl (Nat.le_of_ble_eq_true rfl) (Nat.le_of_ble_eq_true rfl) H0 (fun x4 M1 e2 => (have z5 := e2.1; have e6 := e2.2; aw_if_eq d_X1_gradeOf_5 rfl rfl z5 (fun c7 => have e9 := e6.1 c7; (aw_iconst d_X1_gradeOf_17 rfl
(aw_ri d_X1_gradeOf_18 rfl e9))) (fun c8 => have e10 := e6.2 c8; (aw_aload_n d_X1_gradeOf_8 rfl rfl 0 rfl (by decide)
(aw_getR (k' := 13) (a := 1) (b := 0) (j := h) d_X1_gradeOf_9 rfl fl1_15 rfl zj1 ⟨by decide, fun h => h⟩
(aw_iload_n d_X1_gradeOf_12 rfl rfl 1 rfl
(have z11 := e10.1; have e12 := e10.2; (aw_iald d_X1_gradeOf_13 rfl za13 z11
(aw_goto d_X1_gradeOf_14 rfl
(aw_ri d_X1_gradeOf_18 rfl e12)))))))))))))
theorem vX1_unitsOf {l : Launch} {P : Int → zM → Prop} {h : Nat} {v1 : Int} {M : zM}
    (H0 : (CI l m_X1_has [zr 1 h, zi v1] M (fun x4 M1 => (zI x4 ∧ (x4 = 0 → P 0 M1) ∧ (x4 ≠ 0 → ((0 ≤ v1 ∧ v1 < 20) ∧ P (M1 14 h v1) M1)))))) :
    CI l m_X1_unitsOf [zr 1 h, zi v1] M P :=
(aw_aload_n d_X1_unitsOf_0 rfl rfl 0 rfl (by decide)
(aw_iload_n d_X1_unitsOf_1 rfl rfl 1 rfl
(aw_VI (As := [zi v1]) (st := []) d_X1_unitsOf_2 rfl cv1_59 ⟨Nat.le_of_ble_eq_true rfl, Nat.le_of_ble_eq_true rfl⟩ rfl rfl (Nat.le_of_ble_eq_true rfl) (Nat.le_of_ble_eq_true rfl) H0 (fun x4 M1 e2 => (have z5 := e2.1; have e6 := e2.2; aw_if_eq d_X1_unitsOf_5 rfl rfl z5 (fun c7 => have e9 := e6.1 c7; (aw_iconst d_X1_unitsOf_17 rfl
(aw_ri d_X1_unitsOf_18 rfl e9))) (fun c8 => have e10 := e6.2 c8; (aw_aload_n d_X1_unitsOf_8 rfl rfl 0 rfl (by decide)
(aw_getR (k' := 14) (a := 1) (b := 0) (j := h) d_X1_unitsOf_9 rfl fl1_19 rfl zj1 ⟨by decide, fun h => h⟩
(aw_iload_n d_X1_unitsOf_12 rfl rfl 1 rfl
(have z11 := e10.1; have e12 := e10.2; (aw_iald d_X1_unitsOf_13 rfl za14 z11
(aw_goto d_X1_unitsOf_14 rfl
(aw_ri d_X1_unitsOf_18 rfl e12)))))))))))))
theorem vX1_said {l : Launch} {P : Int → zM → Prop} {h : Nat} {v1 : Int} {v2 : Int} {M : zM}
    (H0 : (CI l m_X1_hasUnit [zr 1 h, zi v1, zi v2] M (fun x4 M1 => (zI x4 ∧ (x4 = 0 → P 0 M1) ∧ (x4 ≠ 0 → ((0 ≤ ((v1 * 4) + v2) ∧ ((v1 * 4) + v2) < 80) ∧ P (M1 15 h ((v1 * 4) + v2)) M1)))))) :
    CI l m_X1_said [zr 1 h, zi v1, zi v2] M P :=
(aw_aload_n d_X1_said_0 rfl rfl 0 rfl (by decide)
(aw_iload_n d_X1_said_1 rfl rfl 1 rfl
(aw_iload_n d_X1_said_2 rfl rfl 2 rfl
(aw_VI (As := [zi v1, zi v2]) (st := []) d_X1_said_3 rfl cv1_63 ⟨Nat.le_of_ble_eq_true rfl, Nat.le_of_ble_eq_true rfl⟩ rfl rfl (Nat.le_of_ble_eq_true rfl) (Nat.le_of_ble_eq_true rfl) H0 (fun x4 M1 e2 => (have z5 := e2.1; have e6 := e2.2; aw_if_eq d_X1_said_6 rfl rfl z5 (fun c7 => have e9 := e6.1 c7; (aw_iconst d_X1_said_22 rfl
(aw_ri d_X1_said_23 rfl e9))) (fun c8 => have e10 := e6.2 c8; (aw_aload_n d_X1_said_9 rfl rfl 0 rfl (by decide)
(aw_getR (k' := 15) (a := 1) (b := 0) (j := h) d_X1_said_10 rfl fl1_22 rfl zj1 ⟨by decide, fun h => h⟩
(aw_iload_n d_X1_said_13 rfl rfl 1 rfl
(aw_iconst d_X1_said_14 rfl
(aw_imul d_X1_said_15 rfl
(aw_iload_n d_X1_said_16 rfl rfl 2 rfl
(aw_iadd d_X1_said_17 rfl
(have z11 := e10.1; have e12 := e10.2; (aw_iald d_X1_said_18 rfl za15 z11
(aw_goto d_X1_said_19 rfl
(aw_ri d_X1_said_23 rfl e12))))))))))))))))))
def LX0_insert_14 (l : Launch) (P : Int → zM → Prop) (k0 : Nat) (i0 : Nat) (v1 : Int) (v2 : Int) (v3 : Int) (M : zM) : Prop := AW l m_X0_insert (zTi m_X0_insert P) 14 [(0, zr k0 i0), (1, zi v1), (2, zi v2), (3, zi v3)] [] M
theorem vX0_insert_14 {l : Launch} {P : Int → zM → Prop} {k0 : Nat} {i0 : Nat} {v1 : Int} {v2 : Int} {v3 : Int} {M : zM} (hz_k0 : zar k0 0) (hl_k0 : zlen k0 = 80)
    (H0 : (zI v3 ∧ (v3 ≤ 0 → ((0 ≤ v3 ∧ v3 < 80) ∧ ∀ M18 : zM, M18 = zu M k0 i0 v3 v2 → P (v1 + 1) M18)) ∧ (0 < v3 → ((0 ≤ (v3 - 1) ∧ (v3 - 1) < 80) ∧ (zI (M k0 i0 (v3 - 1)) ∧ zI v2 ∧ ((M k0 i0 (v3 - 1)) ≤ v2 → ((0 ≤ v3 ∧ v3 < 80) ∧ ∀ M30 : zM, M30 = zu M k0 i0 v3 v2 → P (v1 + 1) M30)) ∧ (v2 < (M k0 i0 (v3 - 1)) → ((0 ≤ v3 ∧ v3 < 80) ∧ ∀ M33 : zM, M33 = zu M k0 i0 v3 (M k0 i0 (v3 - 1)) → LX0_insert_14 l P k0 i0 v1 v2 (v3 - 1) M33))))))) :
    LX0_insert_14 l P k0 i0 v1 v2 v3 M :=
(aw_iload_n d_X0_insert_14 rfl rfl 3 rfl
(have z11 := H0.1; have e12 := H0.2; aw_if_le d_X0_insert_15 rfl rfl z11 (fun c13 => have e15 := e12.1 c13; (aw_aload_n d_X0_insert_41 rfl rfl 0 rfl (zk_ne hz_k0.1)
(aw_iload_n d_X0_insert_42 rfl rfl 3 rfl
(aw_iload_n d_X0_insert_43 rfl rfl 2 rfl
(have z17 := e15.1; have e19 := e15.2 _ rfl; aw_iast d_X0_insert_44 rfl hz_k0 ⟨z17.1, by rw [hl_k0]; exact z17.2⟩
(aw_iload_n d_X0_insert_45 rfl rfl 1 rfl
(aw_iconst d_X0_insert_46 rfl
(aw_iadd d_X0_insert_47 rfl
(aw_ri d_X0_insert_48 rfl e19))))))))) (fun c14 => have e16 := e12.2 c14; (aw_aload_n d_X0_insert_18 rfl rfl 0 rfl (zk_ne hz_k0.1)
(aw_iload_n d_X0_insert_19 rfl rfl 3 rfl
(aw_iconst d_X0_insert_20 rfl
(aw_isub d_X0_insert_21 rfl
(have z20 := e16.1; have e21 := e16.2; (aw_iald d_X0_insert_22 rfl hz_k0 ⟨z20.1, by rw [hl_k0]; exact z20.2⟩
(aw_iload_n d_X0_insert_23 rfl rfl 2 rfl
(have z22 := e21.1; have z23 := e21.2.1; have e24 := e21.2.2; aw_icmp_le d_X0_insert_24 rfl rfl z22 z23 (fun c25 => have e27 := e24.1 c25; (aw_aload_n d_X0_insert_41 rfl rfl 0 rfl (zk_ne hz_k0.1)
(aw_iload_n d_X0_insert_42 rfl rfl 3 rfl
(aw_iload_n d_X0_insert_43 rfl rfl 2 rfl
(have z29 := e27.1; have e31 := e27.2 _ rfl; aw_iast d_X0_insert_44 rfl hz_k0 ⟨z29.1, by rw [hl_k0]; exact z29.2⟩
(aw_iload_n d_X0_insert_45 rfl rfl 1 rfl
(aw_iconst d_X0_insert_46 rfl
(aw_iadd d_X0_insert_47 rfl
(aw_ri d_X0_insert_48 rfl e31))))))))) (fun c26 => have e28 := e24.2 c26; (aw_aload_n d_X0_insert_27 rfl rfl 0 rfl (zk_ne hz_k0.1)
(aw_iload_n d_X0_insert_28 rfl rfl 3 rfl
(aw_aload_n d_X0_insert_29 rfl rfl 0 rfl (zk_ne hz_k0.1)
(aw_iload_n d_X0_insert_30 rfl rfl 3 rfl
(aw_iconst d_X0_insert_31 rfl
(aw_isub d_X0_insert_32 rfl
(aw_iald d_X0_insert_33 rfl hz_k0 ⟨z20.1, by rw [hl_k0]; exact z20.2⟩
(have z32 := e28.1; have e34 := e28.2 _ rfl; aw_iast d_X0_insert_34 rfl hz_k0 ⟨z32.1, by rw [hl_k0]; exact z32.2⟩
(aw_iinc (lv' := [(3, zi (v3 - 1)), (0, zr k0 i0), (1, zi v1), (2, zi v2)]) (y := (v3 - 1)) d_X0_insert_35 rfl 3 rfl (by decide) rfl rfl
(aw_goto d_X0_insert_38 rfl
(aw_sub [1, 2, 3, 0] rfl e34)))))))))))))))))))))))
theorem vX0_insert {l : Launch} {P : Int → zM → Prop} {k0 : Nat} {i0 : Nat} {v1 : Int} {v2 : Int} {M : zM} (hz_k0 : zar k0 0) (hl_k0 : zlen k0 = 80)
    (H0 : (zI v1 ∧ (v1 < 0 → P v1 M) ∧ (0 ≤ v1 → ((v1 < 80 → LX0_insert_14 l P k0 i0 v1 v2 v1 M) ∧ (80 ≤ v1 → P v1 M))))) :
    CI l m_X0_insert [zr k0 i0, zi v1, zi v2] M P :=
(aw_iload_n d_X0_insert_0 rfl rfl 1 rfl
(have z1 := H0.1; have e2 := H0.2; aw_if_lt d_X0_insert_1 rfl rfl z1 (fun c3 => have e5 := e2.1 c3; (aw_iload_n d_X0_insert_10 rfl rfl 1 rfl
(aw_ri d_X0_insert_11 rfl e5))) (fun c4 => have e6 := e2.2 c4; (aw_iload_n d_X0_insert_4 rfl rfl 1 rfl
(aw_aload_n d_X0_insert_5 rfl rfl 0 rfl (zk_ne hz_k0.1)
(aw_alen (x := 80) d_X0_insert_6 rfl ⟨hz_k0.1, hz_k0.2.1, by rw [hz_k0.2.2]; decide⟩ (by rw [hl_k0]; rfl)
(aw_icmp_lt d_X0_insert_7 rfl rfl z1 (by decide) (fun c7 => have e9 := e6.1 c7; (aw_iload_n d_X0_insert_12 rfl rfl 1 rfl
(aw_istore_n (lv' := [(3, zi v1), (0, zr k0 i0), (1, zi v1), (2, zi v2)]) d_X0_insert_13 rfl rfl (by decide) rfl
(aw_sub [1, 2, 3, 0] rfl e9)))) (fun c8 => have e10 := e6.2 c8; (aw_iload_n d_X0_insert_10 rfl rfl 1 rfl
(aw_ri d_X0_insert_11 rfl e10))))))))))
theorem vX0_slotAt {l : Launch} {P : Int → zM → Prop} {b : Nat} {v1 : Int} {v2 : Int} {M : zM}
    (H0 : (zI v2 ∧ (v2 < 0 → P 80 M) ∧ (0 ≤ v2 → ((80 ≤ v2 → P 80 M) ∧ (v2 < 80 → (zI v1 ∧ (v1 = 0 → (zI (M 0 b 2) ∧ (v2 < (M 0 b 2) → ((0 ≤ v2 ∧ v2 < 80) ∧ (zI (M 10 b v2) ∧ P (Int.tmod (M 10 b v2) 80) M))) ∧ ((M 0 b 2) ≤ v2 → P 80 M))) ∧ (v1 ≠ 0 → (zI (M 0 b 3) ∧ (v2 < (M 0 b 3) → ((0 ≤ v2 ∧ v2 < 80) ∧ (zI (M 11 b v2) ∧ P (Int.tmod (M 11 b v2) 80) M))) ∧ ((M 0 b 3) ≤ v2 → P 80 M))))))))) :
    CI l m_X0_slotAt [zr 0 b, zi v1, zi v2] M P :=
(aw_iload_n d_X0_slotAt_0 rfl rfl 2 rfl
(have z1 := H0.1; have e2 := H0.2; aw_if_lt d_X0_slotAt_1 rfl rfl z1 (fun c3 => have e5 := e2.1 c3; (aw_bipush d_X0_slotAt_29 rfl (by decide)
(aw_ri d_X0_slotAt_31 rfl e5))) (fun c4 => have e6 := e2.2 c4; (aw_iload_n d_X0_slotAt_4 rfl rfl 2 rfl
(aw_bipush d_X0_slotAt_5 rfl (by decide)
(aw_icmp_ge d_X0_slotAt_7 rfl rfl z1 (by decide) (fun c7 => have e9 := e6.1 c7; (aw_bipush d_X0_slotAt_29 rfl (by decide)
(aw_ri d_X0_slotAt_31 rfl e9))) (fun c8 => have e10 := e6.2 c8; (aw_iload_n d_X0_slotAt_10 rfl rfl 2 rfl
(aw_iload_n d_X0_slotAt_11 rfl rfl 1 rfl
(have z11 := e10.1; have e12 := e10.2; aw_if_eq d_X0_slotAt_12 rfl rfl z11 (fun c13 => have e15 := e12.1 c13; (aw_aload_n d_X0_slotAt_22 rfl rfl 0 rfl (by decide)
(aw_getI (kc := 2) d_X0_slotAt_23 rfl fl0_18 rfl rfl
(have z17 := e15.1; have e18 := e15.2; aw_icmp_lt d_X0_slotAt_26 rfl rfl z1 z17 (fun c19 => have e21 := e18.1 c19; (aw_iload_n d_X0_slotAt_32 rfl rfl 1 rfl
(aw_if_eq d_X0_slotAt_33 rfl rfl z11 (fun _ => (aw_aload_n d_X0_slotAt_45 rfl rfl 0 rfl (by decide)
(aw_getR (k' := 10) (a := 1) (b := 0) (j := b) d_X0_slotAt_46 rfl fl0_9 rfl zj1 ⟨by decide, fun h => h⟩
(aw_iload_n d_X0_slotAt_49 rfl rfl 2 rfl
(have z24 := e21.1; have e25 := e21.2; (aw_iald d_X0_slotAt_50 rfl za10 z24
(aw_bipush d_X0_slotAt_51 rfl (by decide)
(have z26 := e25.1; have e27 := e25.2; (aw_irem d_X0_slotAt_53 rfl z26 (by decide) (by decide)
(aw_ri d_X0_slotAt_54 rfl e27)))))))))) (fun c23 => absurd c13 (by omega))))) (fun c20 => have e22 := e18.2 c20; (aw_bipush d_X0_slotAt_29 rfl (by decide)
(aw_ri d_X0_slotAt_31 rfl e22))))))) (fun c14 => have e16 := e12.2 c14; (aw_aload_n d_X0_slotAt_15 rfl rfl 0 rfl (by decide)
(aw_getI (kc := 3) d_X0_slotAt_16 rfl fl0_22 rfl rfl
(aw_goto d_X0_slotAt_19 rfl
(have z28 := e16.1; have e29 := e16.2; aw_icmp_lt d_X0_slotAt_26 rfl rfl z1 z28 (fun c30 => have e32 := e29.1 c30; (aw_iload_n d_X0_slotAt_32 rfl rfl 1 rfl
(aw_if_eq d_X0_slotAt_33 rfl rfl z11 (fun c34 => absurd c14 (by omega)) (fun _ => (aw_aload_n d_X0_slotAt_36 rfl rfl 0 rfl (by decide)
(aw_getR (k' := 11) (a := 1) (b := 0) (j := b) d_X0_slotAt_37 rfl fl0_15 rfl zj1 ⟨by decide, fun h => h⟩
(aw_iload_n d_X0_slotAt_40 rfl rfl 2 rfl
(have z35 := e32.1; have e36 := e32.2; (aw_iald d_X0_slotAt_41 rfl za11 z35
(aw_goto d_X0_slotAt_42 rfl
(aw_bipush d_X0_slotAt_51 rfl (by decide)
(have z37 := e36.1; have e38 := e36.2; (aw_irem d_X0_slotAt_53 rfl z37 (by decide) (by decide)
(aw_ri d_X0_slotAt_54 rfl e38)))))))))))))) (fun c31 => have e33 := e29.2 c31; (aw_bipush d_X0_slotAt_29 rfl (by decide)
(aw_ri d_X0_slotAt_31 rfl e33))))))))))))))))))
