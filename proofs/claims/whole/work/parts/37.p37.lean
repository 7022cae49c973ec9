/-! ===== questions, both sides: prices, demand, merged ===== -/
section
variable {l : Launch} {M : zM} {S : zS}
noncomputable def aPrices (S : zS) (g w : Int) : Int := if ¬ (0 ≤ g ∧ g < 4) ∨ w < 0 ∨ 2 < w then -1 else if tT (qfee S) (qB S g) (qA S g) = 0 then -2 else if w = 0 then prL (qB S g) (qA S g) (qfee S) else if w = 1 then prH (qB S g) (qA S g) (qfee S) else prH (qB S g) (qA S g) (qfee S) - prL (qB S g) (qA S g) (qfee S) + 1
theorem aPrices_n {g w : Int} (h : ¬ (0 ≤ g ∧ g < 4) ∨ w < 0 ∨ 2 < w) : aPrices S g w = -1 := by rw [aPrices, if_pos h]
theorem aPrices_i {g w : Int} (h : 0 ≤ g ∧ g < 4) (hw : 0 ≤ w ∧ w ≤ 2) (hT : tT (qfee S) (qB S g) (qA S g) ≠ 0) : aPrices S g w = if w = 0 then prL (qB S g) (qA S g) (qfee S) else if w = 1 then prH (qB S g) (qA S g) (qfee S) else prH (qB S g) (qA S g) (qfee S) - prL (qB S g) (qA S g) (qfee S) + 1 := by
  rw [aPrices, if_neg (by omega), if_neg hT]
theorem vX8_prices {l : Launch} {P : Int → zM → Prop} {v1 : Int} {v2 : Int} {M : zM}
    (H0 : (zI v1 ∧ ((¬ (0 ≤ v1 ∧ v1 < 4) → P (-1) M) ∧ (0 ≤ v1 ∧ v1 < 4 → (zI v2 ∧ (v2 < 0 → P (-1) M) ∧ (0 ≤ v2 → ((v2 ≤ 2 → (CV l m_X8_settleGrade [zr 8 0, zi v1] M (fun M17 => (zI (M17 0 0 6) ∧ ((M17 0 0 6) ≠ 0 → ((v2 = 0 → (CI l m_X0_leastPrice [zr 0 0] M17 (fun x31 M28 => P x31 M28))) ∧ (v2 = 1 → (CI l m_X0_greatestPrice [zr 0 0] M17 (fun x37 M34 => P x37 M34))) ∧ ((v2 ≠ 0 ∧ v2 ≠ 1) → (CI l m_X0_greatestPrice [zr 0 0] M17 (fun x43 M40 => (CI l m_X0_leastPrice [zr 0 0] M40 (fun x47 M44 => P ((x43 - x47) + 1) M44))))))) ∧ ((M17 0 0 6) = 0 → P (-2) M17))))) ∧ (2 < v2 → P (-1) M)))))))) :
    CI l m_X8_prices [zr 8 0, zi v1, zi v2] M P :=
(aw_iload_n d_X8_prices_0 rfl rfl 1 rfl
(have z1 := H0.1; have e2 := H0.2; (aw_SI (As := [zi v1]) (st := []) d_X8_prices_1 rfl cs8_99 ⟨Nat.le_of_ble_eq_true rfl, Nat.le_of_ble_eq_true rfl⟩ rfl rfl (Nat.le_of_ble_eq_true rfl) (Nat.le_of_ble_eq_true rfl) (s_X8_isGrade z1) (fun _ _ hq => aw_eqs hq
(aw_if_eq d_X8_prices_4 rfl rfl zb_I (fun c3 => have e5 := e2.1 (zb_0 c3); (aw_iconst d_X8_prices_16 rfl
(aw_ri d_X8_prices_17 rfl e5))) (fun c4 => have e6 := e2.2 (zb_n0 c4); (aw_iload_n d_X8_prices_7 rfl rfl 2 rfl
(have z7 := e6.1; have e8 := e6.2; aw_if_lt d_X8_prices_8 rfl rfl z7 (fun c9 => have e11 := e8.1 c9; (aw_iconst d_X8_prices_16 rfl
(aw_ri d_X8_prices_17 rfl e11))) (fun c10 => have e12 := e8.2 c10; (aw_iload_n d_X8_prices_11 rfl rfl 2 rfl
(aw_iconst d_X8_prices_12 rfl
(aw_icmp_le d_X8_prices_13 rfl rfl z7 (by decide) (fun c13 => have e15 := e12.1 c13; (aw_aload_n d_X8_prices_18 rfl rfl 0 rfl (by decide)
(aw_iload_n d_X8_prices_19 rfl rfl 1 rfl
(aw_VV (As := [zi v1]) (st := []) d_X8_prices_20 rfl cv8_154 ⟨Nat.le_of_ble_eq_true rfl, Nat.le_of_ble_eq_true rfl⟩ rfl rfl (Nat.le_of_ble_eq_true rfl) (Nat.le_of_ble_eq_true rfl) e15 (fun M17 e18 => (aw_aload_n d_X8_prices_23 rfl rfl 0 rfl (by decide)
(aw_getR (k' := 0) (a := 0) (b := 0) (j := 0) d_X8_prices_24 rfl fl8_47 rfl zj0 ⟨by decide, fun _ => by decide⟩
(aw_getI (kc := 6) d_X8_prices_27 rfl fl8_223 rfl rfl
(have z20 := e18.1; have e21 := e18.2; aw_if_ne d_X8_prices_30 rfl rfl z20 (fun c22 => have e24 := e21.1 c22; (aw_iload_n d_X8_prices_36 rfl rfl 2 rfl
(aw_lookup2 d_X8_prices_37 z7 rfl rfl rfl (fun c26 => have e27 := e24.1 c26; (aw_aload_n d_X8_prices_64 rfl rfl 0 rfl (by decide)
(aw_getR (k' := 0) (a := 0) (b := 0) (j := 0) d_X8_prices_65 rfl fl8_47 rfl zj0 ⟨by decide, fun _ => by decide⟩
(aw_VI (As := []) (st := []) d_X8_prices_68 rfl cv8_351 ⟨Nat.le_of_ble_eq_true rfl, Nat.le_of_ble_eq_true rfl⟩ rfl rfl (Nat.le_of_ble_eq_true rfl) (Nat.le_of_ble_eq_true rfl) e27 (fun x31 M28 e29 => (aw_ri d_X8_prices_71 rfl e29)))))) (fun c32 => have e33 := e24.2.1 c32; (aw_aload_n d_X8_prices_72 rfl rfl 0 rfl (by decide)
(aw_getR (k' := 0) (a := 0) (b := 0) (j := 0) d_X8_prices_73 rfl fl8_47 rfl zj0 ⟨by decide, fun _ => by decide⟩
(aw_VI (As := []) (st := []) d_X8_prices_76 rfl cv8_354 ⟨Nat.le_of_ble_eq_true rfl, Nat.le_of_ble_eq_true rfl⟩ rfl rfl (Nat.le_of_ble_eq_true rfl) (Nat.le_of_ble_eq_true rfl) e33 (fun x37 M34 e35 => (aw_ri d_X8_prices_79 rfl e35)))))) (fun c38 => have e39 := e24.2.2 c38; (aw_aload_n d_X8_prices_80 rfl rfl 0 rfl (by decide)
(aw_getR (k' := 0) (a := 0) (b := 0) (j := 0) d_X8_prices_81 rfl fl8_47 rfl zj0 ⟨by decide, fun _ => by decide⟩
(aw_VI (As := []) (st := []) d_X8_prices_84 rfl cv8_354 ⟨Nat.le_of_ble_eq_true rfl, Nat.le_of_ble_eq_true rfl⟩ rfl rfl (Nat.le_of_ble_eq_true rfl) (Nat.le_of_ble_eq_true rfl) e39 (fun x43 M40 e41 => (aw_aload_n d_X8_prices_87 rfl rfl 0 rfl (by decide)
(aw_getR (k' := 0) (a := 0) (b := 0) (j := 0) d_X8_prices_88 rfl fl8_47 rfl zj0 ⟨by decide, fun _ => by decide⟩
(aw_VI (As := []) (st := [zi x43]) d_X8_prices_91 rfl cv8_351 ⟨Nat.le_of_ble_eq_true rfl, Nat.le_of_ble_eq_true rfl⟩ rfl rfl (Nat.le_of_ble_eq_true rfl) (Nat.le_of_ble_eq_true rfl) e41 (fun x47 M44 e45 => (aw_isub d_X8_prices_94 rfl
(aw_iconst d_X8_prices_95 rfl
(aw_iadd d_X8_prices_96 rfl
(aw_ri d_X8_prices_97 rfl e45)))))))))))))))) (fun c23 => have e25 := e21.2 c23; (aw_bipush d_X8_prices_33 rfl (by decide)
(aw_ri d_X8_prices_35 rfl e25)))))))))))) (fun c14 => have e16 := e12.2 c14; (aw_iconst d_X8_prices_16 rfl
(aw_ri d_X8_prices_17 rfl e16)))))))))))))))
theorem vX9_prices {l : Launch} {P : Int → zM → Prop} {v1 : Int} {v2 : Int} {M : zM}
    (H0 : (zI v1 ∧ ((¬ (0 ≤ v1 ∧ v1 < 4) → P (-1) M) ∧ (0 ≤ v1 ∧ v1 < 4 → (zI v2 ∧ ((zJ v2 ∧ zJ 0 ∧ zJ 2) ∧ ((0 ≤ v2 ∧ v2 ≤ 2 → (CV l m_X9_laysOf [zr 9 0, zi (zshl 1 v1)] M (fun M15 => (zI (M15 9 0 16) ∧ ((M15 9 0 16) ≠ 0 → ((0 ≤ ((M15 9 0 16) - 1) ∧ ((M15 9 0 16) - 1) < 80) ∧ (zI (M15 9 0 11) ∧ ((M15 9 0 11) ≤ (M15 9 0 16) → (zI (M15 9 0 15) ∧ ((M15 9 0 15) ≤ (M15 9 0 16) → ((v2 ≠ 0 → ((v2 ≠ 1 → P (((M15 33 0 ((M15 9 0 16) - 1)) - (M15 36 0 ((M15 9 0 16) - 1))) + 1) M15) ∧ (v2 = 1 → P (M15 33 0 ((M15 9 0 16) - 1)) M15))) ∧ (v2 = 0 → P (M15 36 0 ((M15 9 0 16) - 1)) M15))) ∧ ((M15 9 0 16) < (M15 9 0 15) → ((0 ≤ (M15 9 0 16) ∧ (M15 9 0 16) < 80) ∧ (zI (M15 36 0 (M15 9 0 16)) ∧ zI (M15 33 0 ((M15 9 0 16) - 1)) ∧ ((M15 33 0 ((M15 9 0 16) - 1)) ≤ (M15 36 0 (M15 9 0 16)) → ((v2 ≠ 0 → ((v2 ≠ 1 → P (((M15 33 0 ((M15 9 0 16) - 1)) - (M15 36 0 ((M15 9 0 16) - 1))) + 1) M15) ∧ (v2 = 1 → P (M15 33 0 ((M15 9 0 16) - 1)) M15))) ∧ (v2 = 0 → P (M15 36 0 ((M15 9 0 16) - 1)) M15))) ∧ ((M15 36 0 (M15 9 0 16)) < (M15 33 0 ((M15 9 0 16) - 1)) → ((v2 ≠ 0 → ((v2 ≠ 1 → P (((M15 36 0 (M15 9 0 16)) - (M15 36 0 ((M15 9 0 16) - 1))) + 1) M15) ∧ (v2 = 1 → P (M15 36 0 (M15 9 0 16)) M15))) ∧ (v2 = 0 → P (M15 36 0 ((M15 9 0 16) - 1)) M15)))))))) ∧ ((M15 9 0 16) < (M15 9 0 11) → ((0 ≤ (M15 9 0 16) ∧ (M15 9 0 16) < 80) ∧ (zI (M15 33 0 (M15 9 0 16)) ∧ zI (M15 36 0 ((M15 9 0 16) - 1)) ∧ ((M15 33 0 (M15 9 0 16)) ≤ (M15 36 0 ((M15 9 0 16) - 1)) → (zI (M15 9 0 15) ∧ ((M15 9 0 15) ≤ (M15 9 0 16) → ((v2 ≠ 0 → ((v2 ≠ 1 → P (((M15 33 0 ((M15 9 0 16) - 1)) - (M15 36 0 ((M15 9 0 16) - 1))) + 1) M15) ∧ (v2 = 1 → P (M15 33 0 ((M15 9 0 16) - 1)) M15))) ∧ (v2 = 0 → P (M15 36 0 ((M15 9 0 16) - 1)) M15))) ∧ ((M15 9 0 16) < (M15 9 0 15) → (zI (M15 36 0 (M15 9 0 16)) ∧ zI (M15 33 0 ((M15 9 0 16) - 1)) ∧ ((M15 33 0 ((M15 9 0 16) - 1)) ≤ (M15 36 0 (M15 9 0 16)) → ((v2 ≠ 0 → ((v2 ≠ 1 → P (((M15 33 0 ((M15 9 0 16) - 1)) - (M15 36 0 ((M15 9 0 16) - 1))) + 1) M15) ∧ (v2 = 1 → P (M15 33 0 ((M15 9 0 16) - 1)) M15))) ∧ (v2 = 0 → P (M15 36 0 ((M15 9 0 16) - 1)) M15))) ∧ ((M15 36 0 (M15 9 0 16)) < (M15 33 0 ((M15 9 0 16) - 1)) → ((v2 ≠ 0 → ((v2 ≠ 1 → P (((M15 36 0 (M15 9 0 16)) - (M15 36 0 ((M15 9 0 16) - 1))) + 1) M15) ∧ (v2 = 1 → P (M15 36 0 (M15 9 0 16)) M15))) ∧ (v2 = 0 → P (M15 36 0 ((M15 9 0 16) - 1)) M15))))))) ∧ ((M15 36 0 ((M15 9 0 16) - 1)) < (M15 33 0 (M15 9 0 16)) → (zI (M15 9 0 15) ∧ ((M15 9 0 15) ≤ (M15 9 0 16) → ((v2 ≠ 0 → ((v2 ≠ 1 → P (((M15 33 0 ((M15 9 0 16) - 1)) - (M15 33 0 (M15 9 0 16))) + 1) M15) ∧ (v2 = 1 → P (M15 33 0 ((M15 9 0 16) - 1)) M15))) ∧ (v2 = 0 → P (M15 33 0 (M15 9 0 16)) M15))) ∧ ((M15 9 0 16) < (M15 9 0 15) → (zI (M15 36 0 (M15 9 0 16)) ∧ zI (M15 33 0 ((M15 9 0 16) - 1)) ∧ ((M15 33 0 ((M15 9 0 16) - 1)) ≤ (M15 36 0 (M15 9 0 16)) → ((v2 ≠ 0 → ((v2 ≠ 1 → P (((M15 33 0 ((M15 9 0 16) - 1)) - (M15 33 0 (M15 9 0 16))) + 1) M15) ∧ (v2 = 1 → P (M15 33 0 ((M15 9 0 16) - 1)) M15))) ∧ (v2 = 0 → P (M15 33 0 (M15 9 0 16)) M15))) ∧ ((M15 36 0 (M15 9 0 16)) < (M15 33 0 ((M15 9 0 16) - 1)) → ((v2 ≠ 0 → ((v2 ≠ 1 → P (((M15 36 0 (M15 9 0 16)) - (M15 33 0 (M15 9 0 16))) + 1) M15) ∧ (v2 = 1 → P (M15 36 0 (M15 9 0 16)) M15))) ∧ (v2 = 0 → P (M15 33 0 (M15 9 0 16)) M15))))))))))))) ∧ ((M15 9 0 16) = 0 → P (-2) M15))))) ∧ (¬ (0 ≤ v2 ∧ v2 ≤ 2) → P (-1) M)))))))) :
    CI l m_X9_prices [zr 9 0, zi v1, zi v2] M P :=
(aw_iload_n d_X9_prices_0 rfl rfl 1 rfl
(have z1 := H0.1; have e2 := H0.2; (aw_SI (As := [zi v1]) (st := []) d_X9_prices_1 rfl cs9_195 ⟨Nat.le_of_ble_eq_true rfl, Nat.le_of_ble_eq_true rfl⟩ rfl rfl (Nat.le_of_ble_eq_true rfl) (Nat.le_of_ble_eq_true rfl) (s_X9_isGrade z1) (fun _ _ hq => aw_eqs hq
(aw_if_eq d_X9_prices_4 rfl rfl zb_I (fun c3 => have e5 := e2.1 (zb_0 c3); (aw_iconst d_X9_prices_19 rfl
(aw_ri d_X9_prices_20 rfl e5))) (fun c4 => have e6 := e2.2 (zb_n0 c4); (aw_iload_n d_X9_prices_7 rfl rfl 2 rfl
(have z7 := e6.1; have e8 := e6.2; (aw_i2l d_X9_prices_8 rfl z7
(aw_lconst (x := 0) d_X9_prices_9 rfl (by decide)
(aw_ldc2 d_X9_prices_10 rfl cl9_217
(have z9 := e8.1; have e10 := e8.2; (aw_SI (As := [zl v2, zl 0, zl 2]) (st := []) d_X9_prices_13 rfl cs9_82 ⟨Nat.le_of_ble_eq_true rfl, Nat.le_of_ble_eq_true rfl⟩ rfl rfl (Nat.le_of_ble_eq_true rfl) (Nat.le_of_ble_eq_true rfl) (s_X9_in z9) (fun _ _ hq => aw_eqs hq
(aw_if_ne d_X9_prices_16 rfl rfl zb_I (fun c11 => have e13 := e10.1 (zb_n0 c11); (aw_aload_n d_X9_prices_21 rfl rfl 0 rfl (by decide)
(aw_iconst d_X9_prices_22 rfl
(aw_iload_n d_X9_prices_23 rfl rfl 1 rfl
(aw_ishl d_X9_prices_24 rfl zshl_h
(aw_VV (As := [zi (zshl 1 v1)]) (st := []) d_X9_prices_25 rfl cv9_139 ⟨Nat.le_of_ble_eq_true rfl, Nat.le_of_ble_eq_true rfl⟩ rfl rfl (Nat.le_of_ble_eq_true rfl) (Nat.le_of_ble_eq_true rfl) e13 (fun M15 e16 => (aw_aload_n d_X9_prices_28 rfl rfl 0 rfl (by decide)
(aw_getI (kc := 16) d_X9_prices_29 rfl fl9_133 rfl rfl
(have z18 := e16.1; have e19 := e16.2; aw_if_ne d_X9_prices_32 rfl rfl z18 (fun c20 => have e22 := e19.1 c20; (aw_aload_n d_X9_prices_38 rfl rfl 0 rfl (by decide)
(aw_getR (k' := 36) (a := 0) (b := 0) (j := 0) d_X9_prices_39 rfl fl9_38 rfl zj0 ⟨by decide, fun _ => by decide⟩
(aw_aload_n d_X9_prices_42 rfl rfl 0 rfl (by decide)
(aw_getI (kc := 16) d_X9_prices_43 rfl fl9_133 rfl rfl
(aw_iconst d_X9_prices_46 rfl
(aw_isub d_X9_prices_47 rfl
(have z24 := e22.1; have e25 := e22.2; (aw_iald d_X9_prices_48 rfl za36 z24
(aw_istore_n (lv' := [(3, zi (M15 36 0 ((M15 9 0 16) - 1))), (0, zr 9 0), (1, zi v1), (2, zi v2)]) d_X9_prices_49 rfl rfl (by decide) rfl
(aw_aload_n d_X9_prices_50 rfl rfl 1 rfl (by decide)
(aw_getR (k' := 33) (a := 0) (b := 0) (j := 0) d_X9_prices_51 rfl fl9_29 rfl zj0 ⟨by decide, fun _ => by decide⟩
(aw_aload_n d_X9_prices_54 rfl rfl 1 rfl (by decide)
(aw_getI (kc := 16) d_X9_prices_55 rfl fl9_133 rfl rfl
(aw_iconst d_X9_prices_58 rfl
(aw_isub d_X9_prices_59 rfl
(aw_iald d_X9_prices_60 rfl za33 z24
(aw_istore (lv' := [(4, zi (M15 33 0 ((M15 9 0 16) - 1))), (3, zi (M15 36 0 ((M15 9 0 16) - 1))), (0, zr 9 0), (1, zi v1), (2, zi v2)]) d_X9_prices_61 rfl (by decide) rfl
(aw_aload_n d_X9_prices_63 rfl rfl 2 rfl (by decide)
(aw_getI (kc := 16) d_X9_prices_64 rfl fl9_133 rfl rfl
(aw_aload_n d_X9_prices_67 rfl rfl 2 rfl (by decide)
(aw_getI (kc := 11) d_X9_prices_68 rfl fl9_113 rfl rfl
(have z26 := e25.1; have e27 := e25.2; aw_icmp_ge d_X9_prices_71 rfl rfl z18 z26 (fun c28 => have e30 := e27.1 c28; (aw_aload_n d_X9_prices_97 rfl rfl 2 rfl (by decide)
(aw_getI (kc := 16) d_X9_prices_98 rfl fl9_133 rfl rfl
(aw_aload_n d_X9_prices_101 rfl rfl 2 rfl (by decide)
(aw_getI (kc := 15) d_X9_prices_102 rfl fl9_116 rfl rfl
(have z32 := e30.1; have e33 := e30.2; aw_icmp_ge d_X9_prices_105 rfl rfl z18 z32 (fun c34 => have e36 := e33.1 c34; (aw_iload_n d_X9_prices_133 rfl rfl 4 rfl
(aw_if_ne d_X9_prices_134 rfl rfl z7 (fun c38 => have e40 := e36.1 c38; (aw_iload_n d_X9_prices_141 rfl rfl 4 rfl
(aw_iconst d_X9_prices_142 rfl
(aw_icmp_ne d_X9_prices_143 rfl rfl z7 (by decide) (fun c42 => have e44 := e40.1 c42; (aw_iload d_X9_prices_151 rfl 0 rfl
(aw_iload_n d_X9_prices_153 rfl rfl 1 rfl
(aw_isub d_X9_prices_154 rfl
(aw_iconst d_X9_prices_155 rfl
(aw_iadd d_X9_prices_156 rfl
(aw_ri d_X9_prices_157 rfl e44))))))) (fun c43 => have e45 := e40.2 c43; (aw_iload d_X9_prices_146 rfl 0 rfl
(aw_goto d_X9_prices_148 rfl
(aw_ri d_X9_prices_157 rfl e45)))))))) (fun c39 => have e41 := e36.2 c39; (aw_iload_n d_X9_prices_137 rfl rfl 1 rfl
(aw_goto d_X9_prices_138 rfl
(aw_ri d_X9_prices_157 rfl e41))))))) (fun c35 => have e37 := e33.2 c35; (aw_aload_n d_X9_prices_108 rfl rfl 2 rfl (by decide)
(aw_getR (k' := 36) (a := 0) (b := 0) (j := 0) d_X9_prices_109 rfl fl9_38 rfl zj0 ⟨by decide, fun _ => by decide⟩
(aw_aload_n d_X9_prices_112 rfl rfl 2 rfl (by decide)
(aw_getI (kc := 16) d_X9_prices_113 rfl fl9_133 rfl rfl
(have z46 := e37.1; have e47 := e37.2; (aw_iald d_X9_prices_116 rfl za36 z46
(aw_iload d_X9_prices_117 rfl 0 rfl
(have z48 := e47.1; have z49 := e47.2.1; have e50 := e47.2.2; aw_icmp_ge d_X9_prices_119 rfl rfl z48 z49 (fun c51 => have e53 := e50.1 c51; (aw_iload_n d_X9_prices_133 rfl rfl 4 rfl
(aw_if_ne d_X9_prices_134 rfl rfl z7 (fun c55 => have e57 := e53.1 c55; (aw_iload_n d_X9_prices_141 rfl rfl 4 rfl
(aw_iconst d_X9_prices_142 rfl
(aw_icmp_ne d_X9_prices_143 rfl rfl z7 (by decide) (fun c59 => have e61 := e57.1 c59; (aw_iload d_X9_prices_151 rfl 0 rfl
(aw_iload_n d_X9_prices_153 rfl rfl 1 rfl
(aw_isub d_X9_prices_154 rfl
(aw_iconst d_X9_prices_155 rfl
(aw_iadd d_X9_prices_156 rfl
(aw_ri d_X9_prices_157 rfl e61))))))) (fun c60 => have e62 := e57.2 c60; (aw_iload d_X9_prices_146 rfl 0 rfl
(aw_goto d_X9_prices_148 rfl
(aw_ri d_X9_prices_157 rfl e62)))))))) (fun c56 => have e58 := e53.2 c56; (aw_iload_n d_X9_prices_137 rfl rfl 1 rfl
(aw_goto d_X9_prices_138 rfl
(aw_ri d_X9_prices_157 rfl e58))))))) (fun c52 => have e54 := e50.2 c52; (aw_aload_n d_X9_prices_122 rfl rfl 2 rfl (by decide)
(aw_getR (k' := 36) (a := 0) (b := 0) (j := 0) d_X9_prices_123 rfl fl9_38 rfl zj0 ⟨by decide, fun _ => by decide⟩
(aw_aload_n d_X9_prices_126 rfl rfl 2 rfl (by decide)
(aw_getI (kc := 16) d_X9_prices_127 rfl fl9_133 rfl rfl
(aw_iald d_X9_prices_130 rfl za36 z46
(aw_istore (lv' := [(4, zi (M15 36 0 (M15 9 0 16))), (3, zi (M15 36 0 ((M15 9 0 16) - 1))), (0, zr 9 0), (1, zi v1), (2, zi v2)]) d_X9_prices_131 rfl (by decide) rfl
(aw_iload_n d_X9_prices_133 rfl rfl 4 rfl
(aw_if_ne d_X9_prices_134 rfl rfl z7 (fun c63 => have e65 := e54.1 c63; (aw_iload_n d_X9_prices_141 rfl rfl 4 rfl
(aw_iconst d_X9_prices_142 rfl
(aw_icmp_ne d_X9_prices_143 rfl rfl z7 (by decide) (fun c67 => have e69 := e65.1 c67; (aw_iload d_X9_prices_151 rfl 0 rfl
(aw_iload_n d_X9_prices_153 rfl rfl 1 rfl
(aw_isub d_X9_prices_154 rfl
(aw_iconst d_X9_prices_155 rfl
(aw_iadd d_X9_prices_156 rfl
(aw_ri d_X9_prices_157 rfl e69))))))) (fun c68 => have e70 := e65.2 c68; (aw_iload d_X9_prices_146 rfl 0 rfl
(aw_goto d_X9_prices_148 rfl
(aw_ri d_X9_prices_157 rfl e70)))))))) (fun c64 => have e66 := e54.2 c64; (aw_iload_n d_X9_prices_137 rfl rfl 1 rfl
(aw_goto d_X9_prices_138 rfl
(aw_ri d_X9_prices_157 rfl e66)))))))))))))))))))))))))))) (fun c29 => have e31 := e27.2 c29; (aw_aload_n d_X9_prices_74 rfl rfl 2 rfl (by decide)
(aw_getR (k' := 33) (a := 0) (b := 0) (j := 0) d_X9_prices_75 rfl fl9_29 rfl zj0 ⟨by decide, fun _ => by decide⟩
(aw_aload_n d_X9_prices_78 rfl rfl 2 rfl (by decide)
(aw_getI (kc := 16) d_X9_prices_79 rfl fl9_133 rfl rfl
(have z71 := e31.1; have e72 := e31.2; (aw_iald d_X9_prices_82 rfl za33 z71
(aw_iload_n d_X9_prices_83 rfl rfl 1 rfl
(have z73 := e72.1; have z74 := e72.2.1; have e75 := e72.2.2; aw_icmp_le d_X9_prices_84 rfl rfl z73 z74 (fun c76 => have e78 := e75.1 c76; (aw_aload_n d_X9_prices_97 rfl rfl 2 rfl (by decide)
(aw_getI (kc := 16) d_X9_prices_98 rfl fl9_133 rfl rfl
(aw_aload_n d_X9_prices_101 rfl rfl 2 rfl (by decide)
(aw_getI (kc := 15) d_X9_prices_102 rfl fl9_116 rfl rfl
(have z80 := e78.1; have e81 := e78.2; aw_icmp_ge d_X9_prices_105 rfl rfl z18 z80 (fun c82 => have e84 := e81.1 c82; (aw_iload_n d_X9_prices_133 rfl rfl 4 rfl
(aw_if_ne d_X9_prices_134 rfl rfl z7 (fun c86 => have e88 := e84.1 c86; (aw_iload_n d_X9_prices_141 rfl rfl 4 rfl
(aw_iconst d_X9_prices_142 rfl
(aw_icmp_ne d_X9_prices_143 rfl rfl z7 (by decide) (fun c90 => have e92 := e88.1 c90; (aw_iload d_X9_prices_151 rfl 0 rfl
(aw_iload_n d_X9_prices_153 rfl rfl 1 rfl
(aw_isub d_X9_prices_154 rfl
(aw_iconst d_X9_prices_155 rfl
(aw_iadd d_X9_prices_156 rfl
(aw_ri d_X9_prices_157 rfl e92))))))) (fun c91 => have e93 := e88.2 c91; (aw_iload d_X9_prices_146 rfl 0 rfl
(aw_goto d_X9_prices_148 rfl
(aw_ri d_X9_prices_157 rfl e93)))))))) (fun c87 => have e89 := e84.2 c87; (aw_iload_n d_X9_prices_137 rfl rfl 1 rfl
(aw_goto d_X9_prices_138 rfl
(aw_ri d_X9_prices_157 rfl e89))))))) (fun c83 => have e85 := e81.2 c83; (aw_aload_n d_X9_prices_108 rfl rfl 2 rfl (by decide)
(aw_getR (k' := 36) (a := 0) (b := 0) (j := 0) d_X9_prices_109 rfl fl9_38 rfl zj0 ⟨by decide, fun _ => by decide⟩
(aw_aload_n d_X9_prices_112 rfl rfl 2 rfl (by decide)
(aw_getI (kc := 16) d_X9_prices_113 rfl fl9_133 rfl rfl
(aw_iald d_X9_prices_116 rfl za36 z71
(aw_iload d_X9_prices_117 rfl 0 rfl
(have z94 := e85.1; have z95 := e85.2.1; have e96 := e85.2.2; aw_icmp_ge d_X9_prices_119 rfl rfl z94 z95 (fun c97 => have e99 := e96.1 c97; (aw_iload_n d_X9_prices_133 rfl rfl 4 rfl
(aw_if_ne d_X9_prices_134 rfl rfl z7 (fun c101 => have e103 := e99.1 c101; (aw_iload_n d_X9_prices_141 rfl rfl 4 rfl
(aw_iconst d_X9_prices_142 rfl
(aw_icmp_ne d_X9_prices_143 rfl rfl z7 (by decide) (fun c105 => have e107 := e103.1 c105; (aw_iload d_X9_prices_151 rfl 0 rfl
(aw_iload_n d_X9_prices_153 rfl rfl 1 rfl
(aw_isub d_X9_prices_154 rfl
(aw_iconst d_X9_prices_155 rfl
(aw_iadd d_X9_prices_156 rfl
(aw_ri d_X9_prices_157 rfl e107))))))) (fun c106 => have e108 := e103.2 c106; (aw_iload d_X9_prices_146 rfl 0 rfl
(aw_goto d_X9_prices_148 rfl
(aw_ri d_X9_prices_157 rfl e108)))))))) (fun c102 => have e104 := e99.2 c102; (aw_iload_n d_X9_prices_137 rfl rfl 1 rfl
(aw_goto d_X9_prices_138 rfl
(aw_ri d_X9_prices_157 rfl e104))))))) (fun c98 => have e100 := e96.2 c98; (aw_aload_n d_X9_prices_122 rfl rfl 2 rfl (by decide)
(aw_getR (k' := 36) (a := 0) (b := 0) (j := 0) d_X9_prices_123 rfl fl9_38 rfl zj0 ⟨by decide, fun _ => by decide⟩
(aw_aload_n d_X9_prices_126 rfl rfl 2 rfl (by decide)
(aw_getI (kc := 16) d_X9_prices_127 rfl fl9_133 rfl rfl
(aw_iald d_X9_prices_130 rfl za36 z71
(aw_istore (lv' := [(4, zi (M15 36 0 (M15 9 0 16))), (3, zi (M15 36 0 ((M15 9 0 16) - 1))), (0, zr 9 0), (1, zi v1), (2, zi v2)]) d_X9_prices_131 rfl (by decide) rfl
(aw_iload_n d_X9_prices_133 rfl rfl 4 rfl
(aw_if_ne d_X9_prices_134 rfl rfl z7 (fun c109 => have e111 := e100.1 c109; (aw_iload_n d_X9_prices_141 rfl rfl 4 rfl
(aw_iconst d_X9_prices_142 rfl
(aw_icmp_ne d_X9_prices_143 rfl rfl z7 (by decide) (fun c113 => have e115 := e111.1 c113; (aw_iload d_X9_prices_151 rfl 0 rfl
(aw_iload_n d_X9_prices_153 rfl rfl 1 rfl
(aw_isub d_X9_prices_154 rfl
(aw_iconst d_X9_prices_155 rfl
(aw_iadd d_X9_prices_156 rfl
(aw_ri d_X9_prices_157 rfl e115))))))) (fun c114 => have e116 := e111.2 c114; (aw_iload d_X9_prices_146 rfl 0 rfl
(aw_goto d_X9_prices_148 rfl
(aw_ri d_X9_prices_157 rfl e116)))))))) (fun c110 => have e112 := e100.2 c110; (aw_iload_n d_X9_prices_137 rfl rfl 1 rfl
(aw_goto d_X9_prices_138 rfl
(aw_ri d_X9_prices_157 rfl e112))))))))))))))))))))))))))) (fun c77 => have e79 := e75.2 c77; (aw_aload_n d_X9_prices_87 rfl rfl 2 rfl (by decide)
(aw_getR (k' := 33) (a := 0) (b := 0) (j := 0) d_X9_prices_88 rfl fl9_29 rfl zj0 ⟨by decide, fun _ => by decide⟩
(aw_aload_n d_X9_prices_91 rfl rfl 2 rfl (by decide)
(aw_getI (kc := 16) d_X9_prices_92 rfl fl9_133 rfl rfl
(aw_iald d_X9_prices_95 rfl za33 z71
(aw_istore_n (lv' := [(3, zi (M15 33 0 (M15 9 0 16))), (4, zi (M15 33 0 ((M15 9 0 16) - 1))), (0, zr 9 0), (1, zi v1), (2, zi v2)]) d_X9_prices_96 rfl rfl (by decide) rfl
(aw_aload_n d_X9_prices_97 rfl rfl 2 rfl (by decide)
(aw_getI (kc := 16) d_X9_prices_98 rfl fl9_133 rfl rfl
(aw_aload_n d_X9_prices_101 rfl rfl 2 rfl (by decide)
(aw_getI (kc := 15) d_X9_prices_102 rfl fl9_116 rfl rfl
(have z117 := e79.1; have e118 := e79.2; aw_icmp_ge d_X9_prices_105 rfl rfl z18 z117 (fun c119 => have e121 := e118.1 c119; (aw_iload_n d_X9_prices_133 rfl rfl 4 rfl
(aw_if_ne d_X9_prices_134 rfl rfl z7 (fun c123 => have e125 := e121.1 c123; (aw_iload_n d_X9_prices_141 rfl rfl 4 rfl
(aw_iconst d_X9_prices_142 rfl
(aw_icmp_ne d_X9_prices_143 rfl rfl z7 (by decide) (fun c127 => have e129 := e125.1 c127; (aw_iload d_X9_prices_151 rfl 1 rfl
(aw_iload_n d_X9_prices_153 rfl rfl 0 rfl
(aw_isub d_X9_prices_154 rfl
(aw_iconst d_X9_prices_155 rfl
(aw_iadd d_X9_prices_156 rfl
(aw_ri d_X9_prices_157 rfl e129))))))) (fun c128 => have e130 := e125.2 c128; (aw_iload d_X9_prices_146 rfl 1 rfl
(aw_goto d_X9_prices_148 rfl
(aw_ri d_X9_prices_157 rfl e130)))))))) (fun c124 => have e126 := e121.2 c124; (aw_iload_n d_X9_prices_137 rfl rfl 0 rfl
(aw_goto d_X9_prices_138 rfl
(aw_ri d_X9_prices_157 rfl e126))))))) (fun c120 => have e122 := e118.2 c120; (aw_aload_n d_X9_prices_108 rfl rfl 2 rfl (by decide)
(aw_getR (k' := 36) (a := 0) (b := 0) (j := 0) d_X9_prices_109 rfl fl9_38 rfl zj0 ⟨by decide, fun _ => by decide⟩
(aw_aload_n d_X9_prices_112 rfl rfl 2 rfl (by decide)
(aw_getI (kc := 16) d_X9_prices_113 rfl fl9_133 rfl rfl
(aw_iald d_X9_prices_116 rfl za36 z71
(aw_iload d_X9_prices_117 rfl 1 rfl
(have z131 := e122.1; have z132 := e122.2.1; have e133 := e122.2.2; aw_icmp_ge d_X9_prices_119 rfl rfl z131 z132 (fun c134 => have e136 := e133.1 c134; (aw_iload_n d_X9_prices_133 rfl rfl 4 rfl
(aw_if_ne d_X9_prices_134 rfl rfl z7 (fun c138 => have e140 := e136.1 c138; (aw_iload_n d_X9_prices_141 rfl rfl 4 rfl
(aw_iconst d_X9_prices_142 rfl
(aw_icmp_ne d_X9_prices_143 rfl rfl z7 (by decide) (fun c142 => have e144 := e140.1 c142; (aw_iload d_X9_prices_151 rfl 1 rfl
(aw_iload_n d_X9_prices_153 rfl rfl 0 rfl
(aw_isub d_X9_prices_154 rfl
(aw_iconst d_X9_prices_155 rfl
(aw_iadd d_X9_prices_156 rfl
(aw_ri d_X9_prices_157 rfl e144))))))) (fun c143 => have e145 := e140.2 c143; (aw_iload d_X9_prices_146 rfl 1 rfl
(aw_goto d_X9_prices_148 rfl
(aw_ri d_X9_prices_157 rfl e145)))))))) (fun c139 => have e141 := e136.2 c139; (aw_iload_n d_X9_prices_137 rfl rfl 0 rfl
(aw_goto d_X9_prices_138 rfl
(aw_ri d_X9_prices_157 rfl e141))))))) (fun c135 => have e137 := e133.2 c135; (aw_aload_n d_X9_prices_122 rfl rfl 2 rfl (by decide)
(aw_getR (k' := 36) (a := 0) (b := 0) (j := 0) d_X9_prices_123 rfl fl9_38 rfl zj0 ⟨by decide, fun _ => by decide⟩
(aw_aload_n d_X9_prices_126 rfl rfl 2 rfl (by decide)
(aw_getI (kc := 16) d_X9_prices_127 rfl fl9_133 rfl rfl
(aw_iald d_X9_prices_130 rfl za36 z71
(aw_istore (lv' := [(4, zi (M15 36 0 (M15 9 0 16))), (3, zi (M15 33 0 (M15 9 0 16))), (0, zr 9 0), (1, zi v1), (2, zi v2)]) d_X9_prices_131 rfl (by decide) rfl
(aw_iload_n d_X9_prices_133 rfl rfl 4 rfl
(aw_if_ne d_X9_prices_134 rfl rfl z7 (fun c146 => have e148 := e137.1 c146; (aw_iload_n d_X9_prices_141 rfl rfl 4 rfl
(aw_iconst d_X9_prices_142 rfl
(aw_icmp_ne d_X9_prices_143 rfl rfl z7 (by decide) (fun c150 => have e152 := e148.1 c150; (aw_iload d_X9_prices_151 rfl 0 rfl
(aw_iload_n d_X9_prices_153 rfl rfl 1 rfl
(aw_isub d_X9_prices_154 rfl
(aw_iconst d_X9_prices_155 rfl
(aw_iadd d_X9_prices_156 rfl
(aw_ri d_X9_prices_157 rfl e152))))))) (fun c151 => have e153 := e148.2 c151; (aw_iload d_X9_prices_146 rfl 0 rfl
(aw_goto d_X9_prices_148 rfl
(aw_ri d_X9_prices_157 rfl e153)))))))) (fun c147 => have e149 := e137.2 c147; (aw_iload_n d_X9_prices_137 rfl rfl 1 rfl
(aw_goto d_X9_prices_138 rfl
(aw_ri d_X9_prices_157 rfl e149))))))))))))))))))))))))))))))))))))))))))))))))))))))))))))))))) (fun c21 => have e23 := e19.2 c21; (aw_bipush d_X9_prices_35 rfl (by decide)
(aw_ri d_X9_prices_37 rfl e23))))))))))))) (fun c12 => have e14 := e10.2 (zb_0 c12); (aw_iconst d_X9_prices_19 rfl
(aw_ri d_X9_prices_20 rfl e14))))))))))))))))))
theorem q8_prices {g w : Int} (c : CX M S) (zg : zI g) (zw : zI w) : CI l m_X8_prices [zr 8 0, zi g, zi w] M (fun x M' => x = aPrices S g w ∧ Fr kScr M M') := by
  have gg := gdS c.2 g
  have hl := gg.1
  have hf := c.2.2.2.1
  have hb := tT_b (f := qfee S) (B := qB S g) (A := qA S g)
  refine vX8_prices ⟨zg, fun a => ⟨(aPrices_n (.inl a)).symm, Fr.rf⟩, fun a => ⟨zw, fun b => ⟨(aPrices_n (by omega)).symm, Fr.rf⟩, fun b => ⟨fun b2 => ?_, fun b2 => ⟨(aPrices_n (by omega)).symm, Fr.rf⟩⟩⟩⟩
  refine (c_settleGrade c a).mono ?_
  rintro M1 ⟨f1, s1⟩
  have F := f1.scr
  rw [s1.2.1.2.2.1]
  refine ⟨by omega, fun hT => ?_, fun hT => ⟨by rw [aPrices, if_neg (by omega), if_pos hT], F⟩⟩
  rw [aPrices_i a ⟨b, b2⟩ hT]
  refine ⟨fun e => ?_, fun e => ?_, fun e => ?_⟩
  · rw [if_pos e]; exact (c_X0_leastPrice gg hf s1 hT).eq ⟨rfl, F⟩
  · rw [if_neg (by omega), if_pos e]; exact (c_X0_greatestPrice gg hf s1 hT).eq ⟨rfl, F⟩
  · rw [if_neg e.1, if_neg e.2]; exact (c_X0_greatestPrice gg hf s1 hT).eq ((c_X0_leastPrice gg hf s1 hT).eq ⟨rfl, F⟩)
theorem q9_prices {g w : Int} (h : MX M S) (zg : zI g) (zw : zI w) : CI l m_X9_prices [zr 9 0, zi g, zi w] M (fun x M' => x = aPrices S g w ∧ mQ M M') := by
  have ok := h.ok
  have gg := gdS ok g
  have hl := gg.1
  have hf := ok.2.2.1
  have hb := tT_b (f := qfee S) (B := qB S g) (A := qA S g)
  refine vX9_prices ⟨zg, fun a => ⟨(aPrices_n (.inl a)).symm, mQ.rf h⟩, fun a => ⟨zw, by omega, fun b => ?_, fun b => ⟨(aPrices_n (by omega)).symm, mQ.rf h⟩⟩⟩
  refine (m_laysOf h a).mono ?_
  rintro M1 ⟨F, h1⟩
  rw [h1.2.2.1, h1.1.1, h1.2.1.1]
  refine ⟨by omega, fun hT => ?_, fun hT => ⟨by rw [aPrices, if_neg (by omega), if_pos hT], F⟩⟩
  rw [(h1.1.2 _ (show 0 ≤ tT (qfee S) (qB S g) (qA S g) - 1 ∧ tT (qfee S) (qB S g) (qA S g) - 1 < ((qB S g).length : Int) by omega)).1, (h1.2.1.2 _ (show 0 ≤ tT (qfee S) (qB S g) (qA S g) - 1 ∧ tT (qfee S) (qB S g) (qA S g) - 1 < ((qA S g).length : Int) by omega)).1]
  have q1 := gB_in gg (k := tT (qfee S) (qB S g) (qA S g) - 1) (by omega)
  have q2 := gA_in gg (f := qfee S) (k := tT (qfee S) (qB S g) (qA S g) - 1) (by omega)
  have ai := aPrices_i a b hT
  rw [ai]
  have q3 : tT (qfee S) (qB S g) (qA S g) < ((qB S g).length : Int) → M1 33 0 (tT (qfee S) (qB S g) (qA S g)) = gB (qB S g) (tT (qfee S) (qB S g) (qA S g)) ∧ 0 ≤ gB (qB S g) (tT (qfee S) (qB S g) (qA S g)) ∧ gB (qB S g) (tT (qfee S) (qB S g) (qA S g)) ≤ 9999 := fun q => ⟨(h1.1.2 _ (by omega)).1, gB_in gg (by omega)⟩
  have q4 : tT (qfee S) (qB S g) (qA S g) < ((qA S g).length : Int) → M1 36 0 (tT (qfee S) (qB S g) (qA S g)) = gA (qfee S) (qA S g) (tT (qfee S) (qB S g) (qA S g)) ∧ qfee S ≤ gA (qfee S) (qA S g) (tT (qfee S) (qB S g) (qA S g)) ∧ gA (qfee S) (qA S g) (tT (qfee S) (qB S g) (qA S g)) ≤ 9999 + qfee S := fun q => ⟨(h1.2.1.2 _ (by omega)).1, gA_in gg (by omega)⟩
  clear ai
  unfold prL prH
  generalize gB (qB S g) (tT (qfee S) (qB S g) (qA S g) - 1) = b1 at *
  generalize gA (qfee S) (qA S g) (tT (qfee S) (qB S g) (qA S g) - 1) = a1 at *
  generalize gB (qB S g) (tT (qfee S) (qB S g) (qA S g)) = b2 at *
  generalize gA (qfee S) (qA S g) (tT (qfee S) (qB S g) (qA S g)) = a2 at *
  refine ⟨by omega, by omega, fun c1 => ⟨by omega, fun c2 => ?_, fun c2 => ?_⟩, fun c1 => ?_⟩
  · rw [if_neg (show ¬ tT (qfee S) (qB S g) (qA S g) < ((qB S g).length : Int) by omega), if_neg (show ¬ tT (qfee S) (qB S g) (qA S g) < ((qA S g).length : Int) by omega)]
    exact ⟨fun e => ⟨fun e2 => ⟨by rw [if_neg e, if_neg e2], F⟩, fun e2 => ⟨by rw [if_neg e, if_pos e2], F⟩⟩, fun e => ⟨by rw [if_pos e], F⟩⟩
  · obtain ⟨m4, r4⟩ := q4 c2
    rw [m4, if_neg (show ¬ tT (qfee S) (qB S g) (qA S g) < ((qB S g).length : Int) by omega), if_pos c2]
    refine ⟨by omega, by omega, by omega, fun c3 => ?_, fun c3 => ?_⟩
    · rw [show min b1 a2 = b1 by omega]
      exact ⟨fun e => ⟨fun e2 => ⟨by rw [if_neg e, if_neg e2], F⟩, fun e2 => ⟨by rw [if_neg e, if_pos e2], F⟩⟩, fun e => ⟨by rw [if_pos e], F⟩⟩
    · rw [show min b1 a2 = a2 by omega]
      exact ⟨fun e => ⟨fun e2 => ⟨by rw [if_neg e, if_neg e2], F⟩, fun e2 => ⟨by rw [if_neg e, if_pos e2], F⟩⟩, fun e => ⟨by rw [if_pos e], F⟩⟩
  · obtain ⟨m3, r3⟩ := q3 c1
    rw [m3, if_pos c1]
    refine ⟨by omega, by omega, by omega, fun c0 => ⟨by omega, fun c2 => ?_, fun c2 => ?_⟩, fun c0 => ⟨by omega, fun c2 => ?_, fun c2 => ?_⟩⟩
    · rw [show max a1 b2 = a1 by omega, if_neg (show ¬ tT (qfee S) (qB S g) (qA S g) < ((qA S g).length : Int) by omega)]
      exact ⟨fun e => ⟨fun e2 => ⟨by rw [if_neg e, if_neg e2], F⟩, fun e2 => ⟨by rw [if_neg e, if_pos e2], F⟩⟩, fun e => ⟨by rw [if_pos e], F⟩⟩
    · obtain ⟨m4, r4⟩ := q4 c2
      rw [m4, show max a1 b2 = a1 by omega, if_pos c2]
      refine ⟨by omega, by omega, fun c3 => ?_, fun c3 => ?_⟩
      · rw [show min b1 a2 = b1 by omega]
        exact ⟨fun e => ⟨fun e2 => ⟨by rw [if_neg e, if_neg e2], F⟩, fun e2 => ⟨by rw [if_neg e, if_pos e2], F⟩⟩, fun e => ⟨by rw [if_pos e], F⟩⟩
      · rw [show min b1 a2 = a2 by omega]
        exact ⟨fun e => ⟨fun e2 => ⟨by rw [if_neg e, if_neg e2], F⟩, fun e2 => ⟨by rw [if_neg e, if_pos e2], F⟩⟩, fun e => ⟨by rw [if_pos e], F⟩⟩
    · rw [show max a1 b2 = b2 by omega, if_neg (show ¬ tT (qfee S) (qB S g) (qA S g) < ((qA S g).length : Int) by omega)]
      exact ⟨fun e => ⟨fun e2 => ⟨by rw [if_neg e, if_neg e2], F⟩, fun e2 => ⟨by rw [if_neg e, if_pos e2], F⟩⟩, fun e => ⟨by rw [if_pos e], F⟩⟩
    · obtain ⟨m4, r4⟩ := q4 c2
      rw [m4, show max a1 b2 = b2 by omega, if_pos c2]
      refine ⟨by omega, by omega, fun c3 => ?_, fun c3 => ?_⟩
      · rw [show min b1 a2 = b1 by omega]
        exact ⟨fun e => ⟨fun e2 => ⟨by rw [if_neg e, if_neg e2], F⟩, fun e2 => ⟨by rw [if_neg e, if_pos e2], F⟩⟩, fun e => ⟨by rw [if_pos e], F⟩⟩
      · rw [show min b1 a2 = a2 by omega]
        exact ⟨fun e => ⟨fun e2 => ⟨by rw [if_neg e, if_neg e2], F⟩, fun e2 => ⟨by rw [if_neg e, if_pos e2], F⟩⟩, fun e => ⟨by rw [if_pos e], F⟩⟩
def ldB (B : List Int) (p : Int) : Int := lead (fun k => decide (p ≤ gB B k)) B.length
def ldA (f : Int) (A : List Int) (p : Int) : Int := lead (fun k => decide (gA f A k ≤ p)) A.length
noncomputable def aDemand (S : zS) (g p w : Int) : Int := if ¬ (0 ≤ g ∧ g < 4) ∨ p < 0 ∨ 10499 < p ∨ w < 0 ∨ 2 < w then -1 else if w = 0 then ldB (qB S g) p else if w = 1 then ldA (qfee S) (qA S g) p else min (ldB (qB S g) p) (ldA (qfee S) (qA S g) p)
theorem aDemand_n {g p w : Int} (h : ¬ (0 ≤ g ∧ g < 4) ∨ p < 0 ∨ 10499 < p ∨ w < 0 ∨ 2 < w) : aDemand S g p w = -1 := by rw [aDemand, if_pos h]
theorem aDemand_i {g p w : Int} (h : 0 ≤ g ∧ g < 4) (hp : 0 ≤ p ∧ p ≤ 10499) (hw : 0 ≤ w ∧ w ≤ 2) : aDemand S g p w = if w = 0 then ldB (qB S g) p else if w = 1 then ldA (qfee S) (qA S g) p else min (ldB (qB S g) p) (ldA (qfee S) (qA S g) p) := by rw [aDemand, if_neg (by omega)]
theorem vX8_demand {l : Launch} {P : Int → zM → Prop} {v1 : Int} {v2 : Int} {v3 : Int} {M : zM}
    (H0 : (zI v1 ∧ ((¬ (0 ≤ v1 ∧ v1 < 4) → P (-1) M) ∧ (0 ≤ v1 ∧ v1 < 4 → (zI v2 ∧ (v2 < 0 → P (-1) M) ∧ (0 ≤ v2 → ((10499 < v2 → P (-1) M) ∧ (v2 ≤ 10499 → (zI v3 ∧ (v3 < 0 → P (-1) M) ∧ (0 ≤ v3 → ((v3 ≤ 2 → (CV l m_X8_settleGrade [zr 8 0, zi v1] M (fun M27 => (CI l m_X0_bidsNotBelow [zr 0 0, zi v2] M27 (fun x33 M30 => (CI l m_X0_asksNotAbove [zr 0 0, zi v2] M30 (fun x37 M34 => ((v3 ≠ 2 → ((v3 ≠ 0 → P x37 M34) ∧ (v3 = 0 → P x33 M34))) ∧ (v3 = 2 → (zI x33 ∧ zI x37 ∧ P (min x33 x37) M34)))))))))) ∧ (2 < v3 → P (-1) M)))))))))))) :
    CI l m_X8_demand [zr 8 0, zi v1, zi v2, zi v3] M P :=
(aw_iload_n d_X8_demand_0 rfl rfl 1 rfl
(have z1 := H0.1; have e2 := H0.2; (aw_SI (As := [zi v1]) (st := []) d_X8_demand_1 rfl cs8_99 ⟨Nat.le_of_ble_eq_true rfl, Nat.le_of_ble_eq_true rfl⟩ rfl rfl (Nat.le_of_ble_eq_true rfl) (Nat.le_of_ble_eq_true rfl) (s_X8_isGrade z1) (fun _ _ hq => aw_eqs hq
(aw_if_eq d_X8_demand_4 rfl rfl zb_I (fun c3 => have e5 := e2.1 (zb_0 c3); (aw_iconst d_X8_demand_27 rfl
(aw_ri d_X8_demand_28 rfl e5))) (fun c4 => have e6 := e2.2 (zb_n0 c4); (aw_iload_n d_X8_demand_7 rfl rfl 2 rfl
(have z7 := e6.1; have e8 := e6.2; aw_if_lt d_X8_demand_8 rfl rfl z7 (fun c9 => have e11 := e8.1 c9; (aw_iconst d_X8_demand_27 rfl
(aw_ri d_X8_demand_28 rfl e11))) (fun c10 => have e12 := e8.2 c10; (aw_iload_n d_X8_demand_11 rfl rfl 2 rfl
(aw_sipush d_X8_demand_12 rfl (by decide)
(aw_icmp_gt d_X8_demand_15 rfl rfl z7 (by decide) (fun c13 => have e15 := e12.1 c13; (aw_iconst d_X8_demand_27 rfl
(aw_ri d_X8_demand_28 rfl e15))) (fun c14 => have e16 := e12.2 c14; (aw_iload_n d_X8_demand_18 rfl rfl 3 rfl
(have z17 := e16.1; have e18 := e16.2; aw_if_lt d_X8_demand_19 rfl rfl z17 (fun c19 => have e21 := e18.1 c19; (aw_iconst d_X8_demand_27 rfl
(aw_ri d_X8_demand_28 rfl e21))) (fun c20 => have e22 := e18.2 c20; (aw_iload_n d_X8_demand_22 rfl rfl 3 rfl
(aw_iconst d_X8_demand_23 rfl
(aw_icmp_le d_X8_demand_24 rfl rfl z17 (by decide) (fun c23 => have e25 := e22.1 c23; (aw_aload_n d_X8_demand_29 rfl rfl 0 rfl (by decide)
(aw_iload_n d_X8_demand_30 rfl rfl 1 rfl
(aw_VV (As := [zi v1]) (st := []) d_X8_demand_31 rfl cv8_154 ⟨Nat.le_of_ble_eq_true rfl, Nat.le_of_ble_eq_true rfl⟩ rfl rfl (Nat.le_of_ble_eq_true rfl) (Nat.le_of_ble_eq_true rfl) e25 (fun M27 e28 => (aw_aload_n d_X8_demand_34 rfl rfl 0 rfl (by decide)
(aw_getR (k' := 0) (a := 0) (b := 0) (j := 0) d_X8_demand_35 rfl fl8_47 rfl zj0 ⟨by decide, fun _ => by decide⟩
(aw_iload_n d_X8_demand_38 rfl rfl 2 rfl
(aw_VI (As := [zi v2]) (st := []) d_X8_demand_39 rfl cv8_375 ⟨Nat.le_of_ble_eq_true rfl, Nat.le_of_ble_eq_true rfl⟩ rfl rfl (Nat.le_of_ble_eq_true rfl) (Nat.le_of_ble_eq_true rfl) e28 (fun x33 M30 e31 => (aw_istore (lv' := [(4, zi x33), (0, zr 8 0), (1, zi v1), (2, zi v2), (3, zi v3)]) d_X8_demand_42 rfl (by decide) rfl
(aw_aload_n d_X8_demand_44 rfl rfl 1 rfl (by decide)
(aw_getR (k' := 0) (a := 0) (b := 0) (j := 0) d_X8_demand_45 rfl fl8_47 rfl zj0 ⟨by decide, fun _ => by decide⟩
(aw_iload_n d_X8_demand_48 rfl rfl 3 rfl
(aw_VI (As := [zi v2]) (st := []) d_X8_demand_49 rfl cv8_378 ⟨Nat.le_of_ble_eq_true rfl, Nat.le_of_ble_eq_true rfl⟩ rfl rfl (Nat.le_of_ble_eq_true rfl) (Nat.le_of_ble_eq_true rfl) e31 (fun x37 M34 e35 => (aw_istore (lv' := [(5, zi x37), (4, zi x33), (0, zr 8 0), (1, zi v1), (2, zi v2), (3, zi v3)]) d_X8_demand_52 rfl (by decide) rfl
(aw_iload_n d_X8_demand_54 rfl rfl 5 rfl
(aw_iconst d_X8_demand_55 rfl
(aw_icmp_ne d_X8_demand_56 rfl rfl z17 (by decide) (fun c38 => have e40 := e35.1 c38; (aw_iload_n d_X8_demand_67 rfl rfl 5 rfl
(aw_if_ne d_X8_demand_68 rfl rfl z17 (fun c42 => have e44 := e40.1 c42; (aw_iload d_X8_demand_76 rfl 0 rfl
(aw_ri d_X8_demand_78 rfl e44))) (fun c43 => have e45 := e40.2 c43; (aw_iload d_X8_demand_71 rfl 1 rfl
(aw_goto d_X8_demand_73 rfl
(aw_ri d_X8_demand_78 rfl e45))))))) (fun c39 => have e41 := e35.2 c39; (aw_iload d_X8_demand_59 rfl 1 rfl
(aw_iload d_X8_demand_61 rfl 0 rfl
(have z46 := e41.1; have z47 := e41.2.1; have e48 := e41.2.2; (aw_min d_X8_demand_63 rfl cm8_381 ⟨Nat.le_of_ble_eq_true rfl, Nat.le_of_ble_eq_true rfl⟩ z46 z47
(aw_ri d_X8_demand_66 rfl e48)))))))))))))))))))))))))) (fun c24 => have e26 := e22.2 c24; (aw_iconst d_X8_demand_27 rfl
(aw_ri d_X8_demand_28 rfl e26))))))))))))))))))))))
def LX9_wantedAt_2 (l : Launch) (P : Int → zM → Prop) (v1 : Int) (v2 : Int) (M : zM) : Prop := AW l m_X9_wantedAt (zTi m_X9_wantedAt P) 2 [(0, zr 9 0), (1, zi v1), (2, zi v2)] [] M
theorem vX9_wantedAt_2 {l : Launch} {P : Int → zM → Prop} {v1 : Int} {v2 : Int} {M : zM}
    (H0 : (zI v2 ∧ zI (M 9 0 11) ∧ ((M 9 0 11) ≤ v2 → P v2 M) ∧ (v2 < (M 9 0 11) → ((0 ≤ v2 ∧ v2 < 80) ∧ (zI (M 33 0 v2) ∧ zI v1 ∧ ((M 33 0 v2) < v1 → P v2 M) ∧ (v1 ≤ (M 33 0 v2) → LX9_wantedAt_2 l P v1 (v2 + 1) M)))))) :
    LX9_wantedAt_2 l P v1 v2 M :=
(aw_iload_n d_X9_wantedAt_2 rfl rfl 2 rfl
(aw_aload_n d_X9_wantedAt_3 rfl rfl 0 rfl (by decide)
(aw_getI (kc := 11) d_X9_wantedAt_4 rfl fl9_113 rfl rfl
(have z1 := H0.1; have z2 := H0.2.1; have e3 := H0.2.2; aw_icmp_ge d_X9_wantedAt_7 rfl rfl z1 z2 (fun c4 => have e6 := e3.1 c4; (aw_iload_n d_X9_wantedAt_26 rfl rfl 2 rfl
(aw_ri d_X9_wantedAt_27 rfl e6))) (fun c5 => have e7 := e3.2 c5; (aw_aload_n d_X9_wantedAt_10 rfl rfl 0 rfl (by decide)
(aw_getR (k' := 33) (a := 0) (b := 0) (j := 0) d_X9_wantedAt_11 rfl fl9_29 rfl zj0 ⟨by decide, fun _ => by decide⟩
(aw_iload_n d_X9_wantedAt_14 rfl rfl 2 rfl
(have z8 := e7.1; have e9 := e7.2; (aw_iald d_X9_wantedAt_15 rfl za33 z8
(aw_iload_n d_X9_wantedAt_16 rfl rfl 1 rfl
(have z10 := e9.1; have z11 := e9.2.1; have e12 := e9.2.2; aw_icmp_lt d_X9_wantedAt_17 rfl rfl z10 z11 (fun c13 => have e15 := e12.1 c13; (aw_iload_n d_X9_wantedAt_26 rfl rfl 2 rfl
(aw_ri d_X9_wantedAt_27 rfl e15))) (fun c14 => have e16 := e12.2 c14; (aw_iinc (lv' := [(2, zi (v2 + 1)), (0, zr 9 0), (1, zi v1)]) (y := (v2 + 1)) d_X9_wantedAt_20 rfl 2 rfl (by decide) rfl rfl
(aw_goto d_X9_wantedAt_23 rfl
(aw_sub [1, 2, 0] rfl e16))))))))))))))))
theorem vX9_wantedAt {l : Launch} {P : Int → zM → Prop} {v1 : Int} {M : zM}
    (H0 : LX9_wantedAt_2 l P v1 0 M) :
    CI l m_X9_wantedAt [zr 9 0, zi v1] M P :=
(aw_iconst d_X9_wantedAt_0 rfl
(aw_istore_n (lv' := [(2, zi 0), (0, zr 9 0), (1, zi v1)]) d_X9_wantedAt_1 rfl rfl (by decide) rfl
(aw_sub [1, 2, 0] rfl H0)))
def LX9_hadAt_2 (l : Launch) (P : Int → zM → Prop) (v1 : Int) (v2 : Int) (M : zM) : Prop := AW l m_X9_hadAt (zTi m_X9_hadAt P) 2 [(0, zr 9 0), (1, zi v1), (2, zi v2)] [] M
theorem vX9_hadAt_2 {l : Launch} {P : Int → zM → Prop} {v1 : Int} {v2 : Int} {M : zM}
    (H0 : (zI v2 ∧ zI (M 9 0 15) ∧ ((M 9 0 15) ≤ v2 → P v2 M) ∧ (v2 < (M 9 0 15) → ((0 ≤ v2 ∧ v2 < 80) ∧ (zI (M 36 0 v2) ∧ zI v1 ∧ (v1 < (M 36 0 v2) → P v2 M) ∧ ((M 36 0 v2) ≤ v1 → LX9_hadAt_2 l P v1 (v2 + 1) M)))))) :
    LX9_hadAt_2 l P v1 v2 M :=
(aw_iload_n d_X9_hadAt_2 rfl rfl 2 rfl
(aw_aload_n d_X9_hadAt_3 rfl rfl 0 rfl (by decide)
(aw_getI (kc := 15) d_X9_hadAt_4 rfl fl9_116 rfl rfl
(have z1 := H0.1; have z2 := H0.2.1; have e3 := H0.2.2; aw_icmp_ge d_X9_hadAt_7 rfl rfl z1 z2 (fun c4 => have e6 := e3.1 c4; (aw_iload_n d_X9_hadAt_26 rfl rfl 2 rfl
(aw_ri d_X9_hadAt_27 rfl e6))) (fun c5 => have e7 := e3.2 c5; (aw_aload_n d_X9_hadAt_10 rfl rfl 0 rfl (by decide)
(aw_getR (k' := 36) (a := 0) (b := 0) (j := 0) d_X9_hadAt_11 rfl fl9_38 rfl zj0 ⟨by decide, fun _ => by decide⟩
(aw_iload_n d_X9_hadAt_14 rfl rfl 2 rfl
(have z8 := e7.1; have e9 := e7.2; (aw_iald d_X9_hadAt_15 rfl za36 z8
(aw_iload_n d_X9_hadAt_16 rfl rfl 1 rfl
(have z10 := e9.1; have z11 := e9.2.1; have e12 := e9.2.2; aw_icmp_gt d_X9_hadAt_17 rfl rfl z10 z11 (fun c13 => have e15 := e12.1 c13; (aw_iload_n d_X9_hadAt_26 rfl rfl 2 rfl
(aw_ri d_X9_hadAt_27 rfl e15))) (fun c14 => have e16 := e12.2 c14; (aw_iinc (lv' := [(2, zi (v2 + 1)), (0, zr 9 0), (1, zi v1)]) (y := (v2 + 1)) d_X9_hadAt_20 rfl 2 rfl (by decide) rfl rfl
(aw_goto d_X9_hadAt_23 rfl
(aw_sub [1, 2, 0] rfl e16))))))))))))))))
theorem vX9_hadAt {l : Launch} {P : Int → zM → Prop} {v1 : Int} {M : zM}
    (H0 : LX9_hadAt_2 l P v1 0 M) :
    CI l m_X9_hadAt [zr 9 0, zi v1] M P :=
(aw_iconst d_X9_hadAt_0 rfl
(aw_istore_n (lv' := [(2, zi 0), (0, zr 9 0), (1, zi v1)]) d_X9_hadAt_1 rfl rfl (by decide) rfl
(aw_sub [1, 2, 0] rfl H0)))
theorem vX9_livelyAt {l : Launch} {P : Int → zM → Prop} {v1 : Int} {M : zM}
    (H0 : (CI l m_X9_wantedAt [zr 9 0, zi v1] M (fun x4 M1 => (CI l m_X9_hadAt [zr 9 0, zi v1] M1 (fun x8 M5 => (zI x4 ∧ zI x8 ∧ (x8 ≤ x4 → P x8 M5) ∧ (x4 < x8 → P x4 M5))))))) :
    CI l m_X9_livelyAt [zr 9 0, zi v1] M P :=
(aw_aload_n d_X9_livelyAt_0 rfl rfl 0 rfl (by decide)
(aw_iload_n d_X9_livelyAt_1 rfl rfl 1 rfl
(aw_VI (As := [zi v1]) (st := []) d_X9_livelyAt_2 rfl cv9_231 ⟨Nat.le_of_ble_eq_true rfl, Nat.le_of_ble_eq_true rfl⟩ rfl rfl (Nat.le_of_ble_eq_true rfl) (Nat.le_of_ble_eq_true rfl) H0 (fun x4 M1 e2 => (aw_istore_n (lv' := [(2, zi x4), (0, zr 9 0), (1, zi v1)]) d_X9_livelyAt_5 rfl rfl (by decide) rfl
(aw_aload_n d_X9_livelyAt_6 rfl rfl 1 rfl (by decide)
(aw_iload_n d_X9_livelyAt_7 rfl rfl 2 rfl
(aw_VI (As := [zi v1]) (st := []) d_X9_livelyAt_8 rfl cv9_234 ⟨Nat.le_of_ble_eq_true rfl, Nat.le_of_ble_eq_true rfl⟩ rfl rfl (Nat.le_of_ble_eq_true rfl) (Nat.le_of_ble_eq_true rfl) e2 (fun x8 M5 e6 => (aw_istore_n (lv' := [(3, zi x8), (2, zi x4), (0, zr 9 0), (1, zi v1)]) d_X9_livelyAt_11 rfl rfl (by decide) rfl
(aw_iload_n d_X9_livelyAt_12 rfl rfl 1 rfl
(aw_iload_n d_X9_livelyAt_13 rfl rfl 0 rfl
(have z9 := e6.1; have z10 := e6.2.1; have e11 := e6.2.2; aw_icmp_ge d_X9_livelyAt_14 rfl rfl z9 z10 (fun c12 => have e14 := e11.1 c12; (aw_iload_n d_X9_livelyAt_21 rfl rfl 0 rfl
(aw_ri d_X9_livelyAt_22 rfl e14))) (fun c13 => have e15 := e11.2 c13; (aw_iload_n d_X9_livelyAt_17 rfl rfl 1 rfl
(aw_goto d_X9_livelyAt_18 rfl
(aw_ri d_X9_livelyAt_22 rfl e15)))))))))))))))))
theorem vX9_demand {l : Launch} {P : Int → zM → Prop} {v1 : Int} {v2 : Int} {v3 : Int} {M : zM}
    (H0 : (zI v1 ∧ ((¬ (0 ≤ v1 ∧ v1 < 4) → P (-1) M) ∧ (0 ≤ v1 ∧ v1 < 4 → (zI v2 ∧ ((zJ v2 ∧ zJ 0 ∧ zJ 10499) ∧ ((¬ (0 ≤ v2 ∧ v2 ≤ 10499) → P (-1) M) ∧ (0 ≤ v2 ∧ v2 ≤ 10499 → (zI v3 ∧ ((zJ v3 ∧ zJ 0 ∧ zJ 2) ∧ ((0 ≤ v3 ∧ v3 ≤ 2 → (CV l m_X9_laysOf [zr 9 0, zi (zshl 1 v1)] M (fun M23 => ((v3 ≠ 0 → ((v3 ≠ 1 → (CI l m_X9_livelyAt [zr 9 0, zi v2] M23 (fun x37 M34 => P x37 M34))) ∧ (v3 = 1 → (CI l m_X9_hadAt [zr 9 0, zi v2] M23 (fun x41 M38 => P x41 M38))))) ∧ (v3 = 0 → (CI l m_X9_wantedAt [zr 9 0, zi v2] M23 (fun x45 M42 => P x45 M42))))))) ∧ (¬ (0 ≤ v3 ∧ v3 ≤ 2) → P (-1) M)))))))))))) :
    CI l m_X9_demand [zr 9 0, zi v1, zi v2, zi v3] M P :=
(aw_iload_n d_X9_demand_0 rfl rfl 1 rfl
(have z1 := H0.1; have e2 := H0.2; (aw_SI (As := [zi v1]) (st := []) d_X9_demand_1 rfl cs9_195 ⟨Nat.le_of_ble_eq_true rfl, Nat.le_of_ble_eq_true rfl⟩ rfl rfl (Nat.le_of_ble_eq_true rfl) (Nat.le_of_ble_eq_true rfl) (s_X9_isGrade z1) (fun _ _ hq => aw_eqs hq
(aw_if_eq d_X9_demand_4 rfl rfl zb_I (fun c3 => have e5 := e2.1 (zb_0 c3); (aw_iconst d_X9_demand_31 rfl
(aw_ri d_X9_demand_32 rfl e5))) (fun c4 => have e6 := e2.2 (zb_n0 c4); (aw_iload_n d_X9_demand_7 rfl rfl 2 rfl
(have z7 := e6.1; have e8 := e6.2; (aw_i2l d_X9_demand_8 rfl z7
(aw_lconst (x := 0) d_X9_demand_9 rfl (by decide)
(aw_ldc2 d_X9_demand_10 rfl cl9_237
(have z9 := e8.1; have e10 := e8.2; (aw_SI (As := [zl v2, zl 0, zl 10499]) (st := []) d_X9_demand_13 rfl cs9_82 ⟨Nat.le_of_ble_eq_true rfl, Nat.le_of_ble_eq_true rfl⟩ rfl rfl (Nat.le_of_ble_eq_true rfl) (Nat.le_of_ble_eq_true rfl) (s_X9_in z9) (fun _ _ hq => aw_eqs hq
(aw_if_eq d_X9_demand_16 rfl rfl zb_I (fun c11 => have e13 := e10.1 (zb_0 c11); (aw_iconst d_X9_demand_31 rfl
(aw_ri d_X9_demand_32 rfl e13))) (fun c12 => have e14 := e10.2 (zb_n0 c12); (aw_iload_n d_X9_demand_19 rfl rfl 3 rfl
(have z15 := e14.1; have e16 := e14.2; (aw_i2l d_X9_demand_20 rfl z15
(aw_lconst (x := 0) d_X9_demand_21 rfl (by decide)
(aw_ldc2 d_X9_demand_22 rfl cl9_217
(have z17 := e16.1; have e18 := e16.2; (aw_SI (As := [zl v3, zl 0, zl 2]) (st := []) d_X9_demand_25 rfl cs9_82 ⟨Nat.le_of_ble_eq_true rfl, Nat.le_of_ble_eq_true rfl⟩ rfl rfl (Nat.le_of_ble_eq_true rfl) (Nat.le_of_ble_eq_true rfl) (s_X9_in z17) (fun _ _ hq => aw_eqs hq
(aw_if_ne d_X9_demand_28 rfl rfl zb_I (fun c19 => have e21 := e18.1 (zb_n0 c19); (aw_aload_n d_X9_demand_33 rfl rfl 0 rfl (by decide)
(aw_iconst d_X9_demand_34 rfl
(aw_iload_n d_X9_demand_35 rfl rfl 1 rfl
(aw_ishl d_X9_demand_36 rfl zshl_h
(aw_VV (As := [zi (zshl 1 v1)]) (st := []) d_X9_demand_37 rfl cv9_139 ⟨Nat.le_of_ble_eq_true rfl, Nat.le_of_ble_eq_true rfl⟩ rfl rfl (Nat.le_of_ble_eq_true rfl) (Nat.le_of_ble_eq_true rfl) e21 (fun M23 e24 => (aw_iload_n d_X9_demand_40 rfl rfl 3 rfl
(aw_if_ne d_X9_demand_41 rfl rfl z15 (fun c26 => have e28 := e24.1 c26; (aw_iload_n d_X9_demand_52 rfl rfl 3 rfl
(aw_iconst d_X9_demand_53 rfl
(aw_icmp_ne d_X9_demand_54 rfl rfl z15 (by decide) (fun c30 => have e32 := e28.1 c30; (aw_aload_n d_X9_demand_65 rfl rfl 0 rfl (by decide)
(aw_iload_n d_X9_demand_66 rfl rfl 2 rfl
(aw_VI (As := [zi v2]) (st := []) d_X9_demand_67 rfl cv9_239 ⟨Nat.le_of_ble_eq_true rfl, Nat.le_of_ble_eq_true rfl⟩ rfl rfl (Nat.le_of_ble_eq_true rfl) (Nat.le_of_ble_eq_true rfl) e32 (fun x37 M34 e35 => (aw_ri d_X9_demand_70 rfl e35)))))) (fun c31 => have e33 := e28.2 c31; (aw_aload_n d_X9_demand_57 rfl rfl 0 rfl (by decide)
(aw_iload_n d_X9_demand_58 rfl rfl 2 rfl
(aw_VI (As := [zi v2]) (st := []) d_X9_demand_59 rfl cv9_234 ⟨Nat.le_of_ble_eq_true rfl, Nat.le_of_ble_eq_true rfl⟩ rfl rfl (Nat.le_of_ble_eq_true rfl) (Nat.le_of_ble_eq_true rfl) e33 (fun x41 M38 e39 => (aw_goto d_X9_demand_62 rfl
(aw_ri d_X9_demand_70 rfl e39))))))))))) (fun c27 => have e29 := e24.2 c27; (aw_aload_n d_X9_demand_44 rfl rfl 0 rfl (by decide)
(aw_iload_n d_X9_demand_45 rfl rfl 2 rfl
(aw_VI (As := [zi v2]) (st := []) d_X9_demand_46 rfl cv9_231 ⟨Nat.le_of_ble_eq_true rfl, Nat.le_of_ble_eq_true rfl⟩ rfl rfl (Nat.le_of_ble_eq_true rfl) (Nat.le_of_ble_eq_true rfl) e29 (fun x45 M42 e43 => (aw_goto d_X9_demand_49 rfl
(aw_ri d_X9_demand_70 rfl e43)))))))))))))))) (fun c20 => have e22 := e18.2 (zb_0 c20); (aw_iconst d_X9_demand_31 rfl
(aw_ri d_X9_demand_32 rfl e22))))))))))))))))))))))))))))
theorem q8_demand {g p w : Int} (c : CX M S) (zg : zI g) (zp : zI p) (zw : zI w) : CI l m_X8_demand [zr 8 0, zi g, zi p, zi w] M (fun x M' => x = aDemand S g p w ∧ Fr kScr M M') := by
  have gg := gdS c.2 g
  have hl := gg.1
  have hf := c.2.2.2.1
  refine vX8_demand ⟨zg, fun a => ⟨(aDemand_n (.inl a)).symm, Fr.rf⟩, fun a => ⟨zp, fun b => ⟨(aDemand_n (by omega)).symm, Fr.rf⟩, fun b => ⟨fun b2 => ⟨(aDemand_n (by omega)).symm, Fr.rf⟩, fun b2 => ⟨zw, fun d => ⟨(aDemand_n (by omega)).symm, Fr.rf⟩, fun d => ⟨fun d2 => ?_, fun d2 => ⟨(aDemand_n (by omega)).symm, Fr.rf⟩⟩⟩⟩⟩⟩
  rw [aDemand_i a ⟨b, b2⟩ ⟨d, d2⟩]
  refine (c_settleGrade c a).mono ?_
  rintro M1 ⟨f1, s1⟩
  have F := f1.scr
  have l1 := lead_b (q := fun k => decide (p ≤ gB (qB S g) k)) (qB S g).length
  have l2 := lead_b (q := fun k => decide (gA (qfee S) (qA S g) k ≤ p)) (qA S g).length
  refine (c_X0_bidsNotBelow gg hf s1 zp).eq ((c_X0_asksNotAbove gg hf s1 zp).eq ⟨fun e => ⟨fun e2 => ⟨by rw [if_neg e2, if_pos (by omega)]; rfl, F⟩, fun e2 => ⟨by rw [if_pos e2]; rfl, F⟩⟩, fun e => ⟨by omega, by omega, by rw [if_neg (by omega), if_neg (by omega)]; rfl, F⟩⟩)
theorem c_X9_wantedAt {B : List Int} {A : List Int} {p : Int} (h : mRB M B) (g : gd B A) (zp : zI p) : CI l m_X9_wantedAt [zr 9 0, zi p] M (fun x M' => x = ldB B p ∧ M' = M) := by
  have hl := g.1
  have e11 := h.1
  have loop : ∀ (n : Nat) (k : Int), ((B.length : Int) - k).toNat = n → 0 ≤ k ∧ k ≤ (B.length : Int) → (∀ j, 0 ≤ j ∧ j < k → p ≤ gB B j) → LX9_wantedAt_2 l (fun x M' => x = ldB B p ∧ M' = M) p k M := by
    intro n
    induction n with
    | zero =>
      intro k hn hk hj
      refine vX9_wantedAt_2 ⟨by omega, by omega, fun _ => ⟨?_, rfl⟩, fun e => by omega⟩
      exact (lead_eq hk (fun j q => by simpa using hj j q) (fun e => by omega)).symm
    | succ n ih =>
      intro k hn hk hj
      have q1 := gB_in g (k := k) (by omega)
      refine vX9_wantedAt_2 ?_
      rw [(h.2 k (by omega)).1]
      refine ⟨by omega, by omega, fun e => by omega, fun _ => ⟨by omega, by omega, zp, fun c => ⟨?_, rfl⟩, fun c => ih (k + 1) (by omega) (by omega) fun j q => ?_⟩⟩
      · exact (lead_eq hk (fun j q => by simpa using hj j q) (fun e => by simp; omega)).symm
      · by_cases e : j = k
        · rw [e]; exact c
        · exact hj j (by omega)
  exact vX9_wantedAt (loop _ 0 rfl (by omega) (fun j q => by omega))
theorem c_X9_hadAt {B : List Int} {A : List Int} {f p : Int} (h : mRA M f A) (hf : 0 ≤ f ∧ f ≤ 500) (g : gd B A) (zp : zI p) : CI l m_X9_hadAt [zr 9 0, zi p] M (fun x M' => x = ldA f A p ∧ M' = M) := by
  have hl := g.1
  have e15 := h.1
  have loop : ∀ (n : Nat) (k : Int), ((A.length : Int) - k).toNat = n → 0 ≤ k ∧ k ≤ (A.length : Int) → (∀ j, 0 ≤ j ∧ j < k → gA f A j ≤ p) → LX9_hadAt_2 l (fun x M' => x = ldA f A p ∧ M' = M) p k M := by
    intro n
    induction n with
    | zero =>
      intro k hn hk hj
      refine vX9_hadAt_2 ⟨by omega, by omega, fun _ => ⟨?_, rfl⟩, fun e => by omega⟩
      exact (lead_eq hk (fun j q => by simpa using hj j q) (fun e => by omega)).symm
    | succ n ih =>
      intro k hn hk hj
      have q1 := gA_in g (f := f) (k := k) (by omega)
      refine vX9_hadAt_2 ?_
      rw [(h.2 k (by omega)).1]
      refine ⟨by omega, by omega, fun e => by omega, fun _ => ⟨by omega, by omega, zp, fun c => ⟨?_, rfl⟩, fun c => ih (k + 1) (by omega) (by omega) fun j q => ?_⟩⟩
      · exact (lead_eq hk (fun j q => by simpa using hj j q) (fun e => by simp; omega)).symm
      · by_cases e : j = k
        · rw [e]; exact c
        · exact hj j (by omega)
  exact vX9_hadAt (loop _ 0 rfl (by omega) (fun j q => by omega))
theorem c_X9_livelyAt {B A : List Int} {f p : Int} (h : mLd M B A f) (hf : 0 ≤ f ∧ f ≤ 500) (g : gd B A) (zp : zI p) : CI l m_X9_livelyAt [zr 9 0, zi p] M (fun x M' => x = min (ldB B p) (ldA f A p) ∧ M' = M) := by
  have hl := g.1
  have l1 : 0 ≤ ldB B p ∧ ldB B p ≤ B.length := lead_b _
  have l2 : 0 ≤ ldA f A p ∧ ldA f A p ≤ A.length := lead_b _
  exact vX9_livelyAt ((c_X9_wantedAt h.1 g zp).eq ((c_X9_hadAt h.2.1 hf g zp).eq ⟨by omega, by omega, fun _ => ⟨by omega, rfl⟩, fun _ => ⟨by omega, rfl⟩⟩))
theorem q9_demand {g p w : Int} (h : MX M S) (zg : zI g) (zp : zI p) (zw : zI w) : CI l m_X9_demand [zr 9 0, zi g, zi p, zi w] M (fun x M' => x = aDemand S g p w ∧ mQ M M') := by
  have ok := h.ok
  have gg := gdS ok g
  have hf := ok.2.2.1
  refine vX9_demand ⟨zg, fun a => ⟨(aDemand_n (.inl a)).symm, mQ.rf h⟩, fun a => ⟨zp, by omega, fun b => ⟨(aDemand_n (by omega)).symm, mQ.rf h⟩, fun b => ⟨zw, by omega, fun d => ?_, fun d => ⟨(aDemand_n (by omega)).symm, mQ.rf h⟩⟩⟩⟩
  rw [aDemand_i a b d]
  refine (m_laysOf h a).mono ?_
  rintro M1 ⟨F, h1⟩
  exact ⟨fun e => ⟨fun e2 => (c_X9_livelyAt h1 hf gg zp).eq ⟨by rw [if_neg e, if_neg e2], F⟩, fun e2 => (c_X9_hadAt h1.2.1 hf gg zp).eq ⟨by rw [if_neg e, if_pos e2], F⟩⟩, fun e => (c_X9_wantedAt h1.1 gg zp).eq ⟨by rw [if_pos e], F⟩⟩
noncomputable def aMerged (S : zS) (g o w : Int) : Int := if ¬ (0 ≤ g ∧ g < 4) ∨ ¬ (0 ≤ o ∧ o < 4) ∨ g = o ∨ w < 0 ∨ 2 < w then -1 else if w = 0 then tT (qfee S) (mB S (fun t => qgr S t = g ∨ qgr S t = o) (qsy S)) (mA S (fun t => qgr S t = g ∨ qgr S t = o) (qsy S)) else if w = 1 then tW (qfee S) (mB S (fun t => qgr S t = g ∨ qgr S t = o) (qsy S)) (mA S (fun t => qgr S t = g ∨ qgr S t = o) (qsy S)) else
  tW (qfee S) (mB S (fun t => qgr S t = g ∨ qgr S t = o) (qsy S)) (mA S (fun t => qgr S t = g ∨ qgr S t = o) (qsy S)) - (tW (qfee S) (qB S g) (qA S g) + tW (qfee S) (qB S o) (qA S o))
theorem aMerged_n {g o w : Int} (h : ¬ (0 ≤ g ∧ g < 4) ∨ ¬ (0 ≤ o ∧ o < 4) ∨ g = o ∨ w < 0 ∨ 2 < w) : aMerged S g o w = -1 := by rw [aMerged, if_pos h]
theorem aMerged_i {g o w : Int} (h : 0 ≤ g ∧ g < 4) (ho : 0 ≤ o ∧ o < 4) (e : g ≠ o) (hw : 0 ≤ w ∧ w ≤ 2) : aMerged S g o w = if w = 0 then tT (qfee S) (mB S (fun t => qgr S t = g ∨ qgr S t = o) (qsy S)) (mA S (fun t => qgr S t = g ∨ qgr S t = o) (qsy S)) else if w = 1 then tW (qfee S) (mB S (fun t => qgr S t = g ∨ qgr S t = o) (qsy S)) (mA S (fun t => qgr S t = g ∨ qgr S t = o) (qsy S)) else
  tW (qfee S) (mB S (fun t => qgr S t = g ∨ qgr S t = o) (qsy S)) (mA S (fun t => qgr S t = g ∨ qgr S t = o) (qsy S)) - (tW (qfee S) (qB S g) (qA S g) + tW (qfee S) (qB S o) (qA S o)) := by rw [aMerged, if_neg (by omega)]
theorem vX8_merged {l : Launch} {P : Int → zM → Prop} {v1 : Int} {v2 : Int} {v3 : Int} {M : zM}
    (H0 : (zI v1 ∧ ((¬ (0 ≤ v1 ∧ v1 < 4) → P (-1) M) ∧ (0 ≤ v1 ∧ v1 < 4 → (zI v2 ∧ ((¬ (0 ≤ v2 ∧ v2 < 4) → P (-1) M) ∧ (0 ≤ v2 ∧ v2 < 4 → (zI v1 ∧ zI v2 ∧ (v1 = v2 → P (-1) M) ∧ (v1 ≠ v2 → (zI v3 ∧ (v3 < 0 → P (-1) M) ∧ (0 ≤ v3 → ((v3 ≤ 2 → (CI l m_X8_worthOf [zr 8 0, zi (zshl 1 v1), zi 0] M (fun x33 M30 => (CI l m_X8_worthOf [zr 8 0, zi (zshl 1 v2), zi 0] M30 (fun x37 M34 => (CI l m_X8_worthOf [zr 8 0, zi (zor (zshl 1 v1) (zshl 1 v2)), zi 0] M34 (fun x41 M38 => ((v3 = 0 → P (M38 0 0 6) M38) ∧ (v3 = 1 → P x41 M38) ∧ ((v3 ≠ 0 ∧ v3 ≠ 1) → P (x41 - (x33 + x37)) M38))))))))) ∧ (2 < v3 → P (-1) M))))))))))))) :
    CI l m_X8_merged [zr 8 0, zi v1, zi v2, zi v3] M P :=
(aw_iload_n d_X8_merged_0 rfl rfl 1 rfl
(have z1 := H0.1; have e2 := H0.2; (aw_SI (As := [zi v1]) (st := []) d_X8_merged_1 rfl cs8_99 ⟨Nat.le_of_ble_eq_true rfl, Nat.le_of_ble_eq_true rfl⟩ rfl rfl (Nat.le_of_ble_eq_true rfl) (Nat.le_of_ble_eq_true rfl) (s_X8_isGrade z1) (fun _ _ hq => aw_eqs hq
(aw_if_eq d_X8_merged_4 rfl rfl zb_I (fun c3 => have e5 := e2.1 (zb_0 c3); (aw_iconst d_X8_merged_28 rfl
(aw_ri d_X8_merged_29 rfl e5))) (fun c4 => have e6 := e2.2 (zb_n0 c4); (aw_iload_n d_X8_merged_7 rfl rfl 2 rfl
(have z7 := e6.1; have e8 := e6.2; (aw_SI (As := [zi v2]) (st := []) d_X8_merged_8 rfl cs8_99 ⟨Nat.le_of_ble_eq_true rfl, Nat.le_of_ble_eq_true rfl⟩ rfl rfl (Nat.le_of_ble_eq_true rfl) (Nat.le_of_ble_eq_true rfl) (s_X8_isGrade z7) (fun _ _ hq => aw_eqs hq
(aw_if_eq d_X8_merged_11 rfl rfl zb_I (fun c9 => have e11 := e8.1 (zb_0 c9); (aw_iconst d_X8_merged_28 rfl
(aw_ri d_X8_merged_29 rfl e11))) (fun c10 => have e12 := e8.2 (zb_n0 c10); (aw_iload_n d_X8_merged_14 rfl rfl 1 rfl
(aw_iload_n d_X8_merged_15 rfl rfl 2 rfl
(have z13 := e12.1; have z14 := e12.2.1; have e15 := e12.2.2; aw_icmp_eq d_X8_merged_16 rfl rfl z13 z14 (fun c16 => have e18 := e15.1 c16; (aw_iconst d_X8_merged_28 rfl
(aw_ri d_X8_merged_29 rfl e18))) (fun c17 => have e19 := e15.2 c17; (aw_iload_n d_X8_merged_19 rfl rfl 3 rfl
(have z20 := e19.1; have e21 := e19.2; aw_if_lt d_X8_merged_20 rfl rfl z20 (fun c22 => have e24 := e21.1 c22; (aw_iconst d_X8_merged_28 rfl
(aw_ri d_X8_merged_29 rfl e24))) (fun c23 => have e25 := e21.2 c23; (aw_iload_n d_X8_merged_23 rfl rfl 3 rfl
(aw_iconst d_X8_merged_24 rfl
(aw_icmp_le d_X8_merged_25 rfl rfl z20 (by decide) (fun c26 => have e28 := e25.1 c26; (aw_aload_n d_X8_merged_30 rfl rfl 0 rfl (by decide)
(aw_iload_n d_X8_merged_31 rfl rfl 1 rfl
(aw_SI (As := [zi v1]) (st := [zr 8 0]) d_X8_merged_32 rfl cs8_255 ⟨Nat.le_of_ble_eq_true rfl, Nat.le_of_ble_eq_true rfl⟩ rfl rfl (Nat.le_of_ble_eq_true rfl) (Nat.le_of_ble_eq_true rfl) (s_X8_bit) (fun _ _ hq => aw_eqs hq
(aw_iconst d_X8_merged_35 rfl
(aw_VI (As := [zi (zshl 1 v1), zi 0]) (st := []) d_X8_merged_36 rfl cv8_348 ⟨Nat.le_of_ble_eq_true rfl, Nat.le_of_ble_eq_true rfl⟩ rfl rfl (Nat.le_of_ble_eq_true rfl) (Nat.le_of_ble_eq_true rfl) e28 (fun x33 M30 e31 => (aw_aload_n d_X8_merged_39 rfl rfl 0 rfl (by decide)
(aw_iload_n d_X8_merged_40 rfl rfl 2 rfl
(aw_SI (As := [zi v2]) (st := [zr 8 0, zi x33]) d_X8_merged_41 rfl cs8_255 ⟨Nat.le_of_ble_eq_true rfl, Nat.le_of_ble_eq_true rfl⟩ rfl rfl (Nat.le_of_ble_eq_true rfl) (Nat.le_of_ble_eq_true rfl) (s_X8_bit) (fun _ _ hq => aw_eqs hq
(aw_iconst d_X8_merged_44 rfl
(aw_VI (As := [zi (zshl 1 v2), zi 0]) (st := [zi x33]) d_X8_merged_45 rfl cv8_348 ⟨Nat.le_of_ble_eq_true rfl, Nat.le_of_ble_eq_true rfl⟩ rfl rfl (Nat.le_of_ble_eq_true rfl) (Nat.le_of_ble_eq_true rfl) e31 (fun x37 M34 e35 => (aw_iadd d_X8_merged_48 rfl
(aw_istore (lv' := [(4, zi (x33 + x37)), (0, zr 8 0), (1, zi v1), (2, zi v2), (3, zi v3)]) d_X8_merged_49 rfl (by decide) rfl
(aw_aload_n d_X8_merged_51 rfl rfl 1 rfl (by decide)
(aw_iload_n d_X8_merged_52 rfl rfl 2 rfl
(aw_SI (As := [zi v1]) (st := [zr 8 0]) d_X8_merged_53 rfl cs8_255 ⟨Nat.le_of_ble_eq_true rfl, Nat.le_of_ble_eq_true rfl⟩ rfl rfl (Nat.le_of_ble_eq_true rfl) (Nat.le_of_ble_eq_true rfl) (s_X8_bit) (fun _ _ hq => aw_eqs hq
(aw_iload_n d_X8_merged_56 rfl rfl 3 rfl
(aw_SI (As := [zi v2]) (st := [zi (zshl 1 v1), zr 8 0]) d_X8_merged_57 rfl cs8_255 ⟨Nat.le_of_ble_eq_true rfl, Nat.le_of_ble_eq_true rfl⟩ rfl rfl (Nat.le_of_ble_eq_true rfl) (Nat.le_of_ble_eq_true rfl) (s_X8_bit) (fun _ _ hq => aw_eqs hq
(aw_ior d_X8_merged_60 rfl zor_h
(aw_iconst d_X8_merged_61 rfl
(aw_VI (As := [zi (zor (zshl 1 v1) (zshl 1 v2)), zi 0]) (st := []) d_X8_merged_62 rfl cv8_348 ⟨Nat.le_of_ble_eq_true rfl, Nat.le_of_ble_eq_true rfl⟩ rfl rfl (Nat.le_of_ble_eq_true rfl) (Nat.le_of_ble_eq_true rfl) e35 (fun x41 M38 e39 => (aw_istore (lv' := [(5, zi x41), (4, zi (x33 + x37)), (0, zr 8 0), (1, zi v1), (2, zi v2), (3, zi v3)]) d_X8_merged_65 rfl (by decide) rfl
(aw_iload_n d_X8_merged_67 rfl rfl 5 rfl
(aw_lookup2 d_X8_merged_68 z20 rfl rfl rfl (fun c42 => have e43 := e39.1 c42; (aw_aload_n d_X8_merged_96 rfl rfl 2 rfl (by decide)
(aw_getR (k' := 0) (a := 0) (b := 0) (j := 0) d_X8_merged_97 rfl fl8_47 rfl zj0 ⟨by decide, fun _ => by decide⟩
(aw_getI (kc := 6) d_X8_merged_100 rfl fl8_223 rfl rfl
(aw_ri d_X8_merged_103 rfl e43))))) (fun c44 => have e45 := e39.2.1 c44; (aw_iload d_X8_merged_104 rfl 0 rfl
(aw_ri d_X8_merged_106 rfl e45))) (fun c46 => have e47 := e39.2.2 c46; (aw_iload d_X8_merged_107 rfl 0 rfl
(aw_iload d_X8_merged_109 rfl 1 rfl
(aw_isub d_X8_merged_111 rfl
(aw_ri d_X8_merged_112 rfl e47)))))))))))))))))))))))))))))))))))) (fun c27 => have e29 := e25.2 c27; (aw_iconst d_X8_merged_28 rfl
(aw_ri d_X8_merged_29 rfl e29)))))))))))))))))))))))))
theorem vX9_merged {l : Launch} {P : Int → zM → Prop} {v1 : Int} {v2 : Int} {v3 : Int} {M : zM}
    (H0 : (zI v1 ∧ ((¬ (0 ≤ v1 ∧ v1 < 4) → P (-1) M) ∧ (0 ≤ v1 ∧ v1 < 4 → (zI v2 ∧ ((¬ (0 ≤ v2 ∧ v2 < 4) → P (-1) M) ∧ (0 ≤ v2 ∧ v2 < 4 → (zI v1 ∧ zI v2 ∧ (v1 = v2 → P (-1) M) ∧ (v1 ≠ v2 → (zI v3 ∧ ((zJ v3 ∧ zJ 0 ∧ zJ 2) ∧ ((0 ≤ v3 ∧ v3 ≤ 2 → (CI l m_X9_worthOf [zr 9 0, zi (zshl 1 v1)] M (fun x31 M28 => (CI l m_X9_worthOf [zr 9 0, zi (zshl 1 v2)] M28 (fun x35 M32 => (CV l m_X9_laysOf [zr 9 0, zi (zor (zshl 1 v1) (zshl 1 v2))] M32 (fun M36 => ((v3 ≠ 0 → ((v3 ≠ 1 → P ((M36 9 0 17) - (x31 + x35)) M36) ∧ (v3 = 1 → P (M36 9 0 17) M36))) ∧ (v3 = 0 → P (M36 9 0 16) M36))))))))) ∧ (¬ (0 ≤ v3 ∧ v3 ≤ 2) → P (-1) M))))))))))))) :
    CI l m_X9_merged [zr 9 0, zi v1, zi v2, zi v3] M P :=
(aw_iload_n d_X9_merged_0 rfl rfl 1 rfl
(have z1 := H0.1; have e2 := H0.2; (aw_SI (As := [zi v1]) (st := []) d_X9_merged_1 rfl cs9_195 ⟨Nat.le_of_ble_eq_true rfl, Nat.le_of_ble_eq_true rfl⟩ rfl rfl (Nat.le_of_ble_eq_true rfl) (Nat.le_of_ble_eq_true rfl) (s_X9_isGrade z1) (fun _ _ hq => aw_eqs hq
(aw_if_eq d_X9_merged_4 rfl rfl zb_I (fun c3 => have e5 := e2.1 (zb_0 c3); (aw_iconst d_X9_merged_31 rfl
(aw_ri d_X9_merged_32 rfl e5))) (fun c4 => have e6 := e2.2 (zb_n0 c4); (aw_iload_n d_X9_merged_7 rfl rfl 2 rfl
(have z7 := e6.1; have e8 := e6.2; (aw_SI (As := [zi v2]) (st := []) d_X9_merged_8 rfl cs9_195 ⟨Nat.le_of_ble_eq_true rfl, Nat.le_of_ble_eq_true rfl⟩ rfl rfl (Nat.le_of_ble_eq_true rfl) (Nat.le_of_ble_eq_true rfl) (s_X9_isGrade z7) (fun _ _ hq => aw_eqs hq
(aw_if_eq d_X9_merged_11 rfl rfl zb_I (fun c9 => have e11 := e8.1 (zb_0 c9); (aw_iconst d_X9_merged_31 rfl
(aw_ri d_X9_merged_32 rfl e11))) (fun c10 => have e12 := e8.2 (zb_n0 c10); (aw_iload_n d_X9_merged_14 rfl rfl 1 rfl
(aw_iload_n d_X9_merged_15 rfl rfl 2 rfl
(have z13 := e12.1; have z14 := e12.2.1; have e15 := e12.2.2; aw_icmp_eq d_X9_merged_16 rfl rfl z13 z14 (fun c16 => have e18 := e15.1 c16; (aw_iconst d_X9_merged_31 rfl
(aw_ri d_X9_merged_32 rfl e18))) (fun c17 => have e19 := e15.2 c17; (aw_iload_n d_X9_merged_19 rfl rfl 3 rfl
(have z20 := e19.1; have e21 := e19.2; (aw_i2l d_X9_merged_20 rfl z20
(aw_lconst (x := 0) d_X9_merged_21 rfl (by decide)
(aw_ldc2 d_X9_merged_22 rfl cl9_217
(have z22 := e21.1; have e23 := e21.2; (aw_SI (As := [zl v3, zl 0, zl 2]) (st := []) d_X9_merged_25 rfl cs9_82 ⟨Nat.le_of_ble_eq_true rfl, Nat.le_of_ble_eq_true rfl⟩ rfl rfl (Nat.le_of_ble_eq_true rfl) (Nat.le_of_ble_eq_true rfl) (s_X9_in z22) (fun _ _ hq => aw_eqs hq
(aw_if_ne d_X9_merged_28 rfl rfl zb_I (fun c24 => have e26 := e23.1 (zb_n0 c24); (aw_aload_n d_X9_merged_33 rfl rfl 0 rfl (by decide)
(aw_iconst d_X9_merged_34 rfl
(aw_iload_n d_X9_merged_35 rfl rfl 1 rfl
(aw_ishl d_X9_merged_36 rfl zshl_h
(aw_VI (As := [zi (zshl 1 v1)]) (st := []) d_X9_merged_37 rfl cv9_143 ⟨Nat.le_of_ble_eq_true rfl, Nat.le_of_ble_eq_true rfl⟩ rfl rfl (Nat.le_of_ble_eq_true rfl) (Nat.le_of_ble_eq_true rfl) e26 (fun x31 M28 e29 => (aw_aload_n d_X9_merged_40 rfl rfl 0 rfl (by decide)
(aw_iconst d_X9_merged_41 rfl
(aw_iload_n d_X9_merged_42 rfl rfl 2 rfl
(aw_ishl d_X9_merged_43 rfl zshl_h
(aw_VI (As := [zi (zshl 1 v2)]) (st := [zi x31]) d_X9_merged_44 rfl cv9_143 ⟨Nat.le_of_ble_eq_true rfl, Nat.le_of_ble_eq_true rfl⟩ rfl rfl (Nat.le_of_ble_eq_true rfl) (Nat.le_of_ble_eq_true rfl) e29 (fun x35 M32 e33 => (aw_iadd d_X9_merged_47 rfl
(aw_istore (lv' := [(4, zi (x31 + x35)), (0, zr 9 0), (1, zi v1), (2, zi v2), (3, zi v3)]) d_X9_merged_48 rfl (by decide) rfl
(aw_aload_n d_X9_merged_50 rfl rfl 1 rfl (by decide)
(aw_iconst d_X9_merged_51 rfl
(aw_iload_n d_X9_merged_52 rfl rfl 2 rfl
(aw_ishl d_X9_merged_53 rfl zshl_h
(aw_iconst d_X9_merged_54 rfl
(aw_iload_n d_X9_merged_55 rfl rfl 3 rfl
(aw_ishl d_X9_merged_56 rfl zshl_h
(aw_ior d_X9_merged_57 rfl zor_h
(aw_VV (As := [zi (zor (zshl 1 v1) (zshl 1 v2))]) (st := []) d_X9_merged_58 rfl cv9_139 ⟨Nat.le_of_ble_eq_true rfl, Nat.le_of_ble_eq_true rfl⟩ rfl rfl (Nat.le_of_ble_eq_true rfl) (Nat.le_of_ble_eq_true rfl) e33 (fun M36 e37 => (aw_iload_n d_X9_merged_61 rfl rfl 4 rfl
(aw_if_ne d_X9_merged_62 rfl rfl z20 (fun c39 => have e41 := e37.1 c39; (aw_iload_n d_X9_merged_72 rfl rfl 4 rfl
(aw_iconst d_X9_merged_73 rfl
(aw_icmp_ne d_X9_merged_74 rfl rfl z20 (by decide) (fun c43 => have e45 := e41.1 c43; (aw_aload_n d_X9_merged_84 rfl rfl 1 rfl (by decide)
(aw_getI (kc := 17) d_X9_merged_85 rfl fl9_136 rfl rfl
(aw_iload d_X9_merged_88 rfl 0 rfl
(aw_isub d_X9_merged_90 rfl
(aw_ri d_X9_merged_91 rfl e45)))))) (fun c44 => have e46 := e41.2 c44; (aw_aload_n d_X9_merged_77 rfl rfl 1 rfl (by decide)
(aw_getI (kc := 17) d_X9_merged_78 rfl fl9_136 rfl rfl
(aw_goto d_X9_merged_81 rfl
(aw_ri d_X9_merged_91 rfl e46))))))))) (fun c40 => have e42 := e37.2 c40; (aw_aload_n d_X9_merged_65 rfl rfl 1 rfl (by decide)
(aw_getI (kc := 16) d_X9_merged_66 rfl fl9_133 rfl rfl
(aw_goto d_X9_merged_69 rfl
(aw_ri d_X9_merged_91 rfl e42)))))))))))))))))))))))))))))))) (fun c25 => have e27 := e23.2 (zb_0 c25); (aw_iconst d_X9_merged_31 rfl
(aw_ri d_X9_merged_32 rfl e27))))))))))))))))))))))))))))
theorem q8_merged {g o w : Int} (c : CX M S) (zg : zI g) (zo : zI o) (zw : zI w) : CI l m_X8_merged [zr 8 0, zi g, zi o, zi w] M (fun x M' => x = aMerged S g o w ∧ Fr kScr M M') := by
  refine vX8_merged ⟨zg, fun a => ⟨(aMerged_n (.inl a)).symm, Fr.rf⟩, fun a => ⟨zo, fun b => ⟨(aMerged_n (.inr (.inl b))).symm, Fr.rf⟩, fun b => ⟨zg, zo, fun e => ⟨(aMerged_n (by omega)).symm, Fr.rf⟩, fun e => ⟨zw, fun d => ⟨(aMerged_n (by omega)).symm, Fr.rf⟩, fun d => ⟨fun d2 => ?_, fun d2 => ⟨(aMerged_n (by omega)).symm, Fr.rf⟩⟩⟩⟩⟩⟩
  rw [aMerged_i a b e ⟨d, d2⟩]
  refine c_settleE c (grE0 c.2 a) fun M1 f1 s1 => ?_
  have c1 := c.bk f1
  refine c_settleE c1 (grE0 c.2 b) fun M2 f2 s2 => ?_
  have c2 := c1.bk f2
  refine c_settleE (E := fun t => qgr S t = g ∨ qgr S t = o) c2 (fun t ht => ?_) fun M3 f3 s3 => ?_
  · have h1 := c.2.2.1 t ht
    have h2 := c.2.1.1
    have e1 := hb_and (s := zor (zshl 1 g) (zshl 1 o)) (k := qgr S t) (by omega)
    rw [hb_or, hb_bit (by omega) (by omega), hb_bit (by omega) (by omega)] at e1
    rw [hb_and (by omega), hb_0, Ne, e1]
    simp only [Bool.or_eq_false_iff, decide_eq_false_iff_not, and_true]
    omega
  · have F := ((f1.tr f2).tr f3).scr
    rw [s3.2.1.2.2.1]
    exact ⟨fun q => ⟨by rw [if_pos q], F⟩, fun q => ⟨by rw [if_neg (by omega), if_pos q], F⟩, fun q => ⟨by rw [if_neg q.1, if_neg q.2], F⟩⟩
theorem q9_merged {g o w : Int} (h : MX M S) (zg : zI g) (zo : zI o) (zw : zI w) : CI l m_X9_merged [zr 9 0, zi g, zi o, zi w] M (fun x M' => x = aMerged S g o w ∧ mQ M M') := by
  have ok := h.ok
  refine vX9_merged ⟨zg, fun a => ⟨(aMerged_n (.inl a)).symm, mQ.rf h⟩, fun a => ⟨zo, fun b => ⟨(aMerged_n (.inr (.inl b))).symm, mQ.rf h⟩, fun b => ⟨zg, zo, fun e => ⟨(aMerged_n (by omega)).symm, mQ.rf h⟩, fun e => ⟨zw, by omega, fun d => ?_, fun d => ⟨(aMerged_n (by omega)).symm, mQ.rf h⟩⟩⟩⟩⟩
  rw [aMerged_i a b e d]
  refine (c_X9_worthOf h.1.1 a).mono ?_
  rintro x M1 ⟨rfl, f1, -⟩
  have F1 := mFs.q h f1.s
  have hx1 := h.q F1
  refine (c_X9_worthOf hx1.1.1 b).mono ?_
  rintro x M2 ⟨rfl, f2, -⟩
  have F2 := F1.tr (mFs.q hx1 f2.s)
  have hx2 := h.q F2
  refine (c_X9_laysOf hx2.1.1).mono ?_
  rintro M3 ⟨f3, h3⟩
  have F3 := F2.tr (mFs.q hx2 f3.s)
  have eq := m_congrE (S := S) (E := rE M2 (zor (zshl 1 g) (zshl 1 o))) (E' := fun t => qgr S t = g ∨ qgr S t = o) (v := qsy S) (v' := qsy S) (fun t ht => by
    have h1 := ok.2.1 t ht
    unfold rE
    rw [hx2.1.2, hx2.2.1, hb_0, hb_or, hb_bit (by omega) (by omega), hb_bit (by omega) (by omega)]
    simp) (fun _ _ _ _ => rfl)
  rw [hx2.V, hx2.1.2, eq.1, eq.2] at h3
  rw [h3.2.2.1, h3.2.2.2, h.B, h.A, h.1.2, hx1.B, hx1.A, hx1.1.2]
  exact ⟨fun q => ⟨fun q2 => ⟨by rw [if_neg q, if_neg q2], F3⟩, fun q2 => ⟨by rw [if_neg q, if_pos q2], F3⟩⟩, fun q => ⟨by rw [if_pos q], F3⟩⟩
end
