/-! ===== acts: the reference, say, shelves and tape ===== -/
section
variable {l : Launch} {M : zM} {A : zY} {kk : Int}
theorem vX9_say {l : Launch} {P : Int → zM → Prop} {v1 : Int} {v2 : Int} {v3 : Int} {M : zM}
    (H0 : ((zI v1 ∧ (0 ≤ M 27 0 180 ∧ M 27 0 180 ≤ 20)) ∧ ((¬ (0 ≤ v1 ∧ v1 < M 27 0 180) → P (-1) M) ∧ (0 ≤ v1 ∧ v1 < M 27 0 180 → (zI v2 ∧ ((0 ≤ 9 * v1 + 2 ∧ 9 * v1 + 2 < 187) ∧ (zI ((M 27 0 (9 * v1 + 2)) - 1) ∧ ((zJ v2 ∧ zJ 0 ∧ zJ ((M 27 0 (9 * v1 + 2)) - 1)) ∧ ((¬ (0 ≤ v2 ∧ v2 ≤ ((M 27 0 (9 * v1 + 2)) - 1)) → P (-1) M) ∧ (0 ≤ v2 ∧ v2 ≤ ((M 27 0 (9 * v1 + 2)) - 1) → (zI v3 ∧ ((zJ v3 ∧ zJ 0 ∧ zJ 9999) ∧ ((0 ≤ v3 ∧ v3 ≤ 9999 → ((0 ≤ 9 * v1 + (3 + v2) ∧ 9 * v1 + (3 + v2) < 187) ∧ (zI (M 27 0 (9 * v1 + (3 + v2))) ∧ ((M 27 0 (9 * v1 + (3 + v2))) ≠ v3 → ((v2 ≤ 0 → (zI (v2 + 1) ∧ zI (M 27 0 (9 * v1 + 2)) ∧ ((M 27 0 (9 * v1 + 2)) ≤ (v2 + 1) → (CV l m_X9_keepsAct [zr 9 0] M (fun M46 => ((0 ≤ (((9 * v1) + 3) + v2) ∧ (((9 * v1) + 3) + v2) < 187) ∧ ∀ M50 : zM, M50 = zu M46 27 0 (((9 * v1) + 3) + v2) v3 → P (M 27 0 (9 * v1 + (3 + v2))) M50)))) ∧ ((v2 + 1) < (M 27 0 (9 * v1 + 2)) → (((0 ≤ v1 ∧ v1 < 20) ∧ (M 27 0 (9 * v1) = 0 ∨ M 27 0 (9 * v1) = 1)) ∧ ((0 ≤ 9 * v1 + ((3 + v2) + 1) ∧ 9 * v1 + ((3 + v2) + 1) < 187) ∧ ((zI (zb (M 27 0 (9 * v1) = 1)) ∧ zI v3 ∧ zI (M 27 0 (9 * v1 + ((3 + v2) + 1)))) ∧ ((((zb (M 27 0 (9 * v1) = 1)) ≠ 0 ∧ v3 ≤ (M 27 0 (9 * v1 + ((3 + v2) + 1)))) ∨ ((zb (M 27 0 (9 * v1) = 1)) = 0 ∧ (M 27 0 (9 * v1 + ((3 + v2) + 1))) ≤ v3) → (CV l m_X9_keepsAct [zr 9 0] M (fun M62 => ((0 ≤ (((9 * v1) + 3) + v2) ∧ (((9 * v1) + 3) + v2) < 187) ∧ ∀ M66 : zM, M66 = zu M62 27 0 (((9 * v1) + 3) + v2) v3 → P (M 27 0 (9 * v1 + (3 + v2))) M66)))) ∧ (¬ (((zb (M 27 0 (9 * v1) = 1)) ≠ 0 ∧ v3 ≤ (M 27 0 (9 * v1 + ((3 + v2) + 1)))) ∨ ((zb (M 27 0 (9 * v1) = 1)) = 0 ∧ (M 27 0 (9 * v1 + ((3 + v2) + 1))) ≤ v3)) → P (-3) M)))))))) ∧ (0 < v2 → (((0 ≤ v1 ∧ v1 < 20) ∧ (M 27 0 (9 * v1) = 0 ∨ M 27 0 (9 * v1) = 1)) ∧ ((0 ≤ 9 * v1 + ((3 + v2) - 1) ∧ 9 * v1 + ((3 + v2) - 1) < 187) ∧ ((zI (zb (M 27 0 (9 * v1) = 1)) ∧ zI (M 27 0 (9 * v1 + ((3 + v2) - 1))) ∧ zI v3) ∧ ((((zb (M 27 0 (9 * v1) = 1)) ≠ 0 ∧ (M 27 0 (9 * v1 + ((3 + v2) - 1))) ≤ v3) ∨ ((zb (M 27 0 (9 * v1) = 1)) = 0 ∧ v3 ≤ (M 27 0 (9 * v1 + ((3 + v2) - 1)))) → (zI (v2 + 1) ∧ zI (M 27 0 (9 * v1 + 2)) ∧ ((M 27 0 (9 * v1 + 2)) ≤ (v2 + 1) → (CV l m_X9_keepsAct [zr 9 0] M (fun M85 => ((0 ≤ (((9 * v1) + 3) + v2) ∧ (((9 * v1) + 3) + v2) < 187) ∧ ∀ M89 : zM, M89 = zu M85 27 0 (((9 * v1) + 3) + v2) v3 → P (M 27 0 (9 * v1 + (3 + v2))) M89)))) ∧ ((v2 + 1) < (M 27 0 (9 * v1 + 2)) → ((0 ≤ 9 * v1 + ((3 + v2) + 1) ∧ 9 * v1 + ((3 + v2) + 1) < 187) ∧ ((zI (zb (M 27 0 (9 * v1) = 1)) ∧ zI v3 ∧ zI (M 27 0 (9 * v1 + ((3 + v2) + 1)))) ∧ ((((zb (M 27 0 (9 * v1) = 1)) ≠ 0 ∧ v3 ≤ (M 27 0 (9 * v1 + ((3 + v2) + 1)))) ∨ ((zb (M 27 0 (9 * v1) = 1)) = 0 ∧ (M 27 0 (9 * v1 + ((3 + v2) + 1))) ≤ v3) → (CV l m_X9_keepsAct [zr 9 0] M (fun M99 => ((0 ≤ (((9 * v1) + 3) + v2) ∧ (((9 * v1) + 3) + v2) < 187) ∧ ∀ M103 : zM, M103 = zu M99 27 0 (((9 * v1) + 3) + v2) v3 → P (M 27 0 (9 * v1 + (3 + v2))) M103)))) ∧ (¬ (((zb (M 27 0 (9 * v1) = 1)) ≠ 0 ∧ v3 ≤ (M 27 0 (9 * v1 + ((3 + v2) + 1)))) ∨ ((zb (M 27 0 (9 * v1) = 1)) = 0 ∧ (M 27 0 (9 * v1 + ((3 + v2) + 1))) ≤ v3)) → P (-3) M))))))) ∧ (¬ (((zb (M 27 0 (9 * v1) = 1)) ≠ 0 ∧ (M 27 0 (9 * v1 + ((3 + v2) - 1))) ≤ v3) ∨ ((zb (M 27 0 (9 * v1) = 1)) = 0 ∧ v3 ≤ (M 27 0 (9 * v1 + ((3 + v2) - 1))))) → P (-3) M)))))))) ∧ ((M 27 0 (9 * v1 + (3 + v2))) = v3 → P (-2) M)))) ∧ (¬ (0 ≤ v3 ∧ v3 ≤ 9999) → P (-1) M)))))))))))))) :
    CI l m_X9_say [zr 9 0, zi v1, zi v2, zi v3] M P :=
(aw_aload_n d_X9_say_0 rfl rfl 0 rfl (by decide)
(aw_iload_n d_X9_say_1 rfl rfl 1 rfl
(have z1 := H0.1; have e2 := H0.2; (aw_VI (As := [zi v1]) (st := []) d_X9_say_2 rfl cv9_189 ⟨Nat.le_of_ble_eq_true rfl, Nat.le_of_ble_eq_true rfl⟩ rfl rfl (Nat.le_of_ble_eq_true rfl) (Nat.le_of_ble_eq_true rfl) (s_X9_isTrader z1) (fun _ _ hq => aw_eqs hq
(aw_if_eq d_X9_say_5 rfl rfl zb_I (fun c3 => have e5 := e2.1 (zb_0 c3); (aw_iconst d_X9_say_38 rfl
(aw_ri d_X9_say_39 rfl e5))) (fun c4 => have e6 := e2.2 (zb_n0 c4); (aw_iload_n d_X9_say_8 rfl rfl 2 rfl
(have z7 := e6.1; have e8 := e6.2; (aw_i2l d_X9_say_9 rfl z7
(aw_lconst (x := 0) d_X9_say_10 rfl (by decide)
(aw_aload_n d_X9_say_11 rfl rfl 0 rfl (by decide)
(aw_iload_n d_X9_say_12 rfl rfl 1 rfl
(aw_iconst d_X9_say_13 rfl
(have z9 := e8.1; have e10 := e8.2; (aw_VI (As := [zi v1, zi 2]) (st := [zl 0, zl v2]) d_X9_say_14 rfl cv9_88 ⟨Nat.le_of_ble_eq_true rfl, Nat.le_of_ble_eq_true rfl⟩ rfl rfl (Nat.le_of_ble_eq_true rfl) (Nat.le_of_ble_eq_true rfl) (s_X9_of z9) (fun _ _ hq => aw_eqs hq
(aw_iconst d_X9_say_17 rfl
(aw_isub d_X9_say_18 rfl
(have z11 := e10.1; have e12 := e10.2; (aw_i2l d_X9_say_19 rfl z11
(have z13 := e12.1; have e14 := e12.2; (aw_SI (As := [zl v2, zl 0, zl ((M 27 0 (9 * v1 + 2)) - 1)]) (st := []) d_X9_say_20 rfl cs9_82 ⟨Nat.le_of_ble_eq_true rfl, Nat.le_of_ble_eq_true rfl⟩ rfl rfl (Nat.le_of_ble_eq_true rfl) (Nat.le_of_ble_eq_true rfl) (s_X9_in z13) (fun _ _ hq => aw_eqs hq
(aw_if_eq d_X9_say_23 rfl rfl zb_I (fun c15 => have e17 := e14.1 (zb_0 c15); (aw_iconst d_X9_say_38 rfl
(aw_ri d_X9_say_39 rfl e17))) (fun c16 => have e18 := e14.2 (zb_n0 c16); (aw_iload_n d_X9_say_26 rfl rfl 3 rfl
(have z19 := e18.1; have e20 := e18.2; (aw_i2l d_X9_say_27 rfl z19
(aw_lconst (x := 0) d_X9_say_28 rfl (by decide)
(aw_ldc2 d_X9_say_29 rfl cl9_366
(have z21 := e20.1; have e22 := e20.2; (aw_SI (As := [zl v3, zl 0, zl 9999]) (st := []) d_X9_say_32 rfl cs9_82 ⟨Nat.le_of_ble_eq_true rfl, Nat.le_of_ble_eq_true rfl⟩ rfl rfl (Nat.le_of_ble_eq_true rfl) (Nat.le_of_ble_eq_true rfl) (s_X9_in z21) (fun _ _ hq => aw_eqs hq
(aw_if_ne d_X9_say_35 rfl rfl zb_I (fun c23 => have e25 := e22.1 (zb_n0 c23); (aw_aload_n d_X9_say_40 rfl rfl 0 rfl (by decide)
(aw_iload_n d_X9_say_41 rfl rfl 1 rfl
(aw_iconst d_X9_say_42 rfl
(aw_iload_n d_X9_say_43 rfl rfl 2 rfl
(aw_iadd d_X9_say_44 rfl
(have z27 := e25.1; have e28 := e25.2; (aw_VI (As := [zi v1, zi (3 + v2)]) (st := []) d_X9_say_45 rfl cv9_88 ⟨Nat.le_of_ble_eq_true rfl, Nat.le_of_ble_eq_true rfl⟩ rfl rfl (Nat.le_of_ble_eq_true rfl) (Nat.le_of_ble_eq_true rfl) (s_X9_of z27) (fun _ _ hq => aw_eqs hq
(aw_istore (lv' := [(4, zi (M 27 0 (9 * v1 + (3 + v2)))), (0, zr 9 0), (1, zi v1), (2, zi v2), (3, zi v3)]) d_X9_say_48 rfl (by decide) rfl
(aw_iload d_X9_say_50 rfl 0 rfl
(aw_iload_n d_X9_say_52 rfl rfl 4 rfl
(have z29 := e28.1; have e30 := e28.2; aw_icmp_ne d_X9_say_53 rfl rfl z29 z19 (fun c31 => have e33 := e30.1 c31; (aw_iload_n d_X9_say_59 rfl rfl 3 rfl
(aw_if_le d_X9_say_60 rfl rfl z7 (fun c35 => have e37 := e33.1 c35; (aw_iload_n d_X9_say_88 rfl rfl 3 rfl
(aw_iconst d_X9_say_89 rfl
(aw_iadd d_X9_say_90 rfl
(aw_aload_n d_X9_say_91 rfl rfl 1 rfl (by decide)
(aw_iload_n d_X9_say_92 rfl rfl 2 rfl
(aw_iconst d_X9_say_93 rfl
(aw_VI (As := [zi v1, zi 2]) (st := [zi (v2 + 1)]) d_X9_say_94 rfl cv9_88 ⟨Nat.le_of_ble_eq_true rfl, Nat.le_of_ble_eq_true rfl⟩ rfl rfl (Nat.le_of_ble_eq_true rfl) (Nat.le_of_ble_eq_true rfl) (s_X9_of z9) (fun _ _ hq => aw_eqs hq
(have z39 := e37.1; have z40 := e37.2.1; have e41 := e37.2.2; aw_icmp_ge d_X9_say_97 rfl rfl z39 z40 (fun c42 => have e44 := e41.1 c42; (aw_aload_n d_X9_say_125 rfl rfl 1 rfl (by decide)
(aw_VV (As := []) (st := []) d_X9_say_126 rfl cv9_363 ⟨Nat.le_of_ble_eq_true rfl, Nat.le_of_ble_eq_true rfl⟩ rfl rfl (Nat.le_of_ble_eq_true rfl) (Nat.le_of_ble_eq_true rfl) e44 (fun M46 e47 => (aw_aload_n d_X9_say_129 rfl rfl 1 rfl (by decide)
(aw_getR (k' := 27) (a := 0) (b := 0) (j := 0) d_X9_say_130 rfl fl9_7 rfl zj0 ⟨by decide, fun _ => by decide⟩
(aw_bipush d_X9_say_133 rfl (by decide)
(aw_iload_n d_X9_say_135 rfl rfl 2 rfl
(aw_imul d_X9_say_136 rfl
(aw_iconst d_X9_say_137 rfl
(aw_iadd d_X9_say_138 rfl
(aw_iload_n d_X9_say_139 rfl rfl 3 rfl
(aw_iadd d_X9_say_140 rfl
(aw_iload_n d_X9_say_141 rfl rfl 4 rfl
(have z49 := e47.1; have e51 := e47.2 _ rfl; aw_iast d_X9_say_142 rfl za27 z49
(aw_iload d_X9_say_143 rfl 0 rfl
(aw_ri d_X9_say_145 rfl e51))))))))))))))))) (fun c43 => have e45 := e41.2 c43; (aw_aload_n d_X9_say_100 rfl rfl 1 rfl (by decide)
(aw_iload_n d_X9_say_101 rfl rfl 2 rfl
(have z52 := e45.1; have e53 := e45.2; (aw_VI (As := [zi v1]) (st := []) d_X9_say_102 rfl cv9_122 ⟨Nat.le_of_ble_eq_true rfl, Nat.le_of_ble_eq_true rfl⟩ rfl rfl (Nat.le_of_ble_eq_true rfl) (Nat.le_of_ble_eq_true rfl) (s_X9_sells z52) (fun _ _ hq => aw_eqs hq
(aw_iload_n d_X9_say_105 rfl rfl 4 rfl
(aw_aload_n d_X9_say_106 rfl rfl 1 rfl (by decide)
(aw_iload_n d_X9_say_107 rfl rfl 2 rfl
(aw_iconst d_X9_say_108 rfl
(aw_iload_n d_X9_say_109 rfl rfl 3 rfl
(aw_iadd d_X9_say_110 rfl
(aw_iconst d_X9_say_111 rfl
(aw_iadd d_X9_say_112 rfl
(have z54 := e53.1; have e55 := e53.2; (aw_VI (As := [zi v1, zi ((3 + v2) + 1)]) (st := [zi v3, zi (zb (M 27 0 (9 * v1) = 1))]) d_X9_say_113 rfl cv9_88 ⟨Nat.le_of_ble_eq_true rfl, Nat.le_of_ble_eq_true rfl⟩ rfl rfl (Nat.le_of_ble_eq_true rfl) (Nat.le_of_ble_eq_true rfl) (s_X9_of z54) (fun _ _ hq => aw_eqs hq
(have z56 := e55.1; have e57 := e55.2; (aw_SI (As := [zi (zb (M 27 0 (9 * v1) = 1)), zi v3, zi (M 27 0 (9 * v1 + ((3 + v2) + 1)))]) (st := []) d_X9_say_116 rfl cs9_368 ⟨Nat.le_of_ble_eq_true rfl, Nat.le_of_ble_eq_true rfl⟩ rfl rfl (Nat.le_of_ble_eq_true rfl) (Nat.le_of_ble_eq_true rfl) (s_X9_mayFollow z56) (fun _ _ hq => aw_eqs hq
(aw_if_ne d_X9_say_119 rfl rfl zb_I (fun c58 => have e60 := e57.1 (zb_n0 c58); (aw_aload_n d_X9_say_125 rfl rfl 1 rfl (by decide)
(aw_VV (As := []) (st := []) d_X9_say_126 rfl cv9_363 ⟨Nat.le_of_ble_eq_true rfl, Nat.le_of_ble_eq_true rfl⟩ rfl rfl (Nat.le_of_ble_eq_true rfl) (Nat.le_of_ble_eq_true rfl) e60 (fun M62 e63 => (aw_aload_n d_X9_say_129 rfl rfl 1 rfl (by decide)
(aw_getR (k' := 27) (a := 0) (b := 0) (j := 0) d_X9_say_130 rfl fl9_7 rfl zj0 ⟨by decide, fun _ => by decide⟩
(aw_bipush d_X9_say_133 rfl (by decide)
(aw_iload_n d_X9_say_135 rfl rfl 2 rfl
(aw_imul d_X9_say_136 rfl
(aw_iconst d_X9_say_137 rfl
(aw_iadd d_X9_say_138 rfl
(aw_iload_n d_X9_say_139 rfl rfl 3 rfl
(aw_iadd d_X9_say_140 rfl
(aw_iload_n d_X9_say_141 rfl rfl 4 rfl
(have z65 := e63.1; have e67 := e63.2 _ rfl; aw_iast d_X9_say_142 rfl za27 z65
(aw_iload d_X9_say_143 rfl 0 rfl
(aw_ri d_X9_say_145 rfl e67))))))))))))))))) (fun c59 => have e61 := e57.2 (zb_0 c59); (aw_bipush d_X9_say_122 rfl (by decide)
(aw_ri d_X9_say_124 rfl e61)))))))))))))))))))))))))))))))))) (fun c36 => have e38 := e33.2 c36; (aw_aload_n d_X9_say_63 rfl rfl 1 rfl (by decide)
(aw_iload_n d_X9_say_64 rfl rfl 2 rfl
(have z68 := e38.1; have e69 := e38.2; (aw_VI (As := [zi v1]) (st := []) d_X9_say_65 rfl cv9_122 ⟨Nat.le_of_ble_eq_true rfl, Nat.le_of_ble_eq_true rfl⟩ rfl rfl (Nat.le_of_ble_eq_true rfl) (Nat.le_of_ble_eq_true rfl) (s_X9_sells z68) (fun _ _ hq => aw_eqs hq
(aw_aload_n d_X9_say_68 rfl rfl 1 rfl (by decide)
(aw_iload_n d_X9_say_69 rfl rfl 2 rfl
(aw_iconst d_X9_say_70 rfl
(aw_iload_n d_X9_say_71 rfl rfl 3 rfl
(aw_iadd d_X9_say_72 rfl
(aw_iconst d_X9_say_73 rfl
(aw_isub d_X9_say_74 rfl
(have z70 := e69.1; have e71 := e69.2; (aw_VI (As := [zi v1, zi ((3 + v2) - 1)]) (st := [zi (zb (M 27 0 (9 * v1) = 1))]) d_X9_say_75 rfl cv9_88 ⟨Nat.le_of_ble_eq_true rfl, Nat.le_of_ble_eq_true rfl⟩ rfl rfl (Nat.le_of_ble_eq_true rfl) (Nat.le_of_ble_eq_true rfl) (s_X9_of z70) (fun _ _ hq => aw_eqs hq
(aw_iload_n d_X9_say_78 rfl rfl 4 rfl
(have z72 := e71.1; have e73 := e71.2; (aw_SI (As := [zi (zb (M 27 0 (9 * v1) = 1)), zi (M 27 0 (9 * v1 + ((3 + v2) - 1))), zi v3]) (st := []) d_X9_say_79 rfl cs9_368 ⟨Nat.le_of_ble_eq_true rfl, Nat.le_of_ble_eq_true rfl⟩ rfl rfl (Nat.le_of_ble_eq_true rfl) (Nat.le_of_ble_eq_true rfl) (s_X9_mayFollow z72) (fun _ _ hq => aw_eqs hq
(aw_if_ne d_X9_say_82 rfl rfl zb_I (fun c74 => have e76 := e73.1 (zb_n0 c74); (aw_iload_n d_X9_say_88 rfl rfl 3 rfl
(aw_iconst d_X9_say_89 rfl
(aw_iadd d_X9_say_90 rfl
(aw_aload_n d_X9_say_91 rfl rfl 1 rfl (by decide)
(aw_iload_n d_X9_say_92 rfl rfl 2 rfl
(aw_iconst d_X9_say_93 rfl
(aw_VI (As := [zi v1, zi 2]) (st := [zi (v2 + 1)]) d_X9_say_94 rfl cv9_88 ⟨Nat.le_of_ble_eq_true rfl, Nat.le_of_ble_eq_true rfl⟩ rfl rfl (Nat.le_of_ble_eq_true rfl) (Nat.le_of_ble_eq_true rfl) (s_X9_of z9) (fun _ _ hq => aw_eqs hq
(have z78 := e76.1; have z79 := e76.2.1; have e80 := e76.2.2; aw_icmp_ge d_X9_say_97 rfl rfl z78 z79 (fun c81 => have e83 := e80.1 c81; (aw_aload_n d_X9_say_125 rfl rfl 1 rfl (by decide)
(aw_VV (As := []) (st := []) d_X9_say_126 rfl cv9_363 ⟨Nat.le_of_ble_eq_true rfl, Nat.le_of_ble_eq_true rfl⟩ rfl rfl (Nat.le_of_ble_eq_true rfl) (Nat.le_of_ble_eq_true rfl) e83 (fun M85 e86 => (aw_aload_n d_X9_say_129 rfl rfl 1 rfl (by decide)
(aw_getR (k' := 27) (a := 0) (b := 0) (j := 0) d_X9_say_130 rfl fl9_7 rfl zj0 ⟨by decide, fun _ => by decide⟩
(aw_bipush d_X9_say_133 rfl (by decide)
(aw_iload_n d_X9_say_135 rfl rfl 2 rfl
(aw_imul d_X9_say_136 rfl
(aw_iconst d_X9_say_137 rfl
(aw_iadd d_X9_say_138 rfl
(aw_iload_n d_X9_say_139 rfl rfl 3 rfl
(aw_iadd d_X9_say_140 rfl
(aw_iload_n d_X9_say_141 rfl rfl 4 rfl
(have z88 := e86.1; have e90 := e86.2 _ rfl; aw_iast d_X9_say_142 rfl za27 z88
(aw_iload d_X9_say_143 rfl 0 rfl
(aw_ri d_X9_say_145 rfl e90))))))))))))))))) (fun c82 => have e84 := e80.2 c82; (aw_aload_n d_X9_say_100 rfl rfl 1 rfl (by decide)
(aw_iload_n d_X9_say_101 rfl rfl 2 rfl
(aw_VI (As := [zi v1]) (st := []) d_X9_say_102 rfl cv9_122 ⟨Nat.le_of_ble_eq_true rfl, Nat.le_of_ble_eq_true rfl⟩ rfl rfl (Nat.le_of_ble_eq_true rfl) (Nat.le_of_ble_eq_true rfl) (s_X9_sells z68) (fun _ _ hq => aw_eqs hq
(aw_iload_n d_X9_say_105 rfl rfl 4 rfl
(aw_aload_n d_X9_say_106 rfl rfl 1 rfl (by decide)
(aw_iload_n d_X9_say_107 rfl rfl 2 rfl
(aw_iconst d_X9_say_108 rfl
(aw_iload_n d_X9_say_109 rfl rfl 3 rfl
(aw_iadd d_X9_say_110 rfl
(aw_iconst d_X9_say_111 rfl
(aw_iadd d_X9_say_112 rfl
(have z91 := e84.1; have e92 := e84.2; (aw_VI (As := [zi v1, zi ((3 + v2) + 1)]) (st := [zi v3, zi (zb (M 27 0 (9 * v1) = 1))]) d_X9_say_113 rfl cv9_88 ⟨Nat.le_of_ble_eq_true rfl, Nat.le_of_ble_eq_true rfl⟩ rfl rfl (Nat.le_of_ble_eq_true rfl) (Nat.le_of_ble_eq_true rfl) (s_X9_of z91) (fun _ _ hq => aw_eqs hq
(have z93 := e92.1; have e94 := e92.2; (aw_SI (As := [zi (zb (M 27 0 (9 * v1) = 1)), zi v3, zi (M 27 0 (9 * v1 + ((3 + v2) + 1)))]) (st := []) d_X9_say_116 rfl cs9_368 ⟨Nat.le_of_ble_eq_true rfl, Nat.le_of_ble_eq_true rfl⟩ rfl rfl (Nat.le_of_ble_eq_true rfl) (Nat.le_of_ble_eq_true rfl) (s_X9_mayFollow z93) (fun _ _ hq => aw_eqs hq
(aw_if_ne d_X9_say_119 rfl rfl zb_I (fun c95 => have e97 := e94.1 (zb_n0 c95); (aw_aload_n d_X9_say_125 rfl rfl 1 rfl (by decide)
(aw_VV (As := []) (st := []) d_X9_say_126 rfl cv9_363 ⟨Nat.le_of_ble_eq_true rfl, Nat.le_of_ble_eq_true rfl⟩ rfl rfl (Nat.le_of_ble_eq_true rfl) (Nat.le_of_ble_eq_true rfl) e97 (fun M99 e100 => (aw_aload_n d_X9_say_129 rfl rfl 1 rfl (by decide)
(aw_getR (k' := 27) (a := 0) (b := 0) (j := 0) d_X9_say_130 rfl fl9_7 rfl zj0 ⟨by decide, fun _ => by decide⟩
(aw_bipush d_X9_say_133 rfl (by decide)
(aw_iload_n d_X9_say_135 rfl rfl 2 rfl
(aw_imul d_X9_say_136 rfl
(aw_iconst d_X9_say_137 rfl
(aw_iadd d_X9_say_138 rfl
(aw_iload_n d_X9_say_139 rfl rfl 3 rfl
(aw_iadd d_X9_say_140 rfl
(aw_iload_n d_X9_say_141 rfl rfl 4 rfl
(have z102 := e100.1; have e104 := e100.2 _ rfl; aw_iast d_X9_say_142 rfl za27 z102
(aw_iload d_X9_say_143 rfl 0 rfl
(aw_ri d_X9_say_145 rfl e104))))))))))))))))) (fun c96 => have e98 := e94.2 (zb_0 c96); (aw_bipush d_X9_say_122 rfl (by decide)
(aw_ri d_X9_say_124 rfl e98))))))))))))))))))))))))))))))))) (fun c75 => have e77 := e73.2 (zb_0 c75); (aw_bipush d_X9_say_85 rfl (by decide)
(aw_ri d_X9_say_87 rfl e77))))))))))))))))))))))))))) (fun c32 => have e34 := e30.2 c32; (aw_bipush d_X9_say_56 rfl (by decide)
(aw_ri d_X9_say_58 rfl e34)))))))))))))))) (fun c24 => have e26 := e22.2 (zb_0 c24); (aw_iconst d_X9_say_38 rfl
(aw_ri d_X9_say_39 rfl e26))))))))))))))))))))))))))))))))))))))
theorem a9_say {t u v : Int} (h : mSy M A) (w : wfY kk A) (zt : zI t) (zu' : zI u) (zv : zI v) : CI l m_X9_say [zr 9 0, zi t, zi u, zi v] M (rR (aSay A t u v) M) := by
  have n0 := w.1.1
  obtain ⟨z, -, h0, h1, h3⟩ := mv_at h.1.1.1 h.1.1.2
  have e180 : M 27 0 180 = qn (yS A) := h0 0 (by omega)
  refine vX9_say ?_
  rw [e180]
  refine ⟨⟨zt, n0⟩, fun a => ?_, fun a => ⟨zu', by omega, ?_⟩⟩
  · unfold aSay
    rw [if_pos (fun q => a ⟨q.1, q.2.1⟩)]
    exact rR.st h
  have k := h1 t a
  have hsy := w.1.2.2.2.2.2.2.1 t
  rw [k.2.2.2.2.1, k.2.2.1]
  refine ⟨by omega, ⟨by omega, by omega, by omega⟩, fun b => ?_, fun b => ⟨zv, ⟨by omega, by omega, by omega⟩, fun c => ⟨by omega, ?_⟩, fun c => ?_⟩⟩
  · unfold aSay
    rw [if_pos (fun q => b ⟨q.2.2.1, by have := q.2.2.2; omega⟩)]
    exact rR.st h
  · have qu : qU (yS A) t u := ⟨a.1, a.2, by omega, by omega⟩
    have e3 : M 27 0 (9 * t + (3 + u)) = qsy (yS A) t u := h3 t u qu
    have s3 := hsy u a ⟨by omega, by omega⟩
    rw [e3]
    have kb : ∀ M1, mSy M1 (yPut A (yS A)) ∧ kAct M M1 → qsy (yS A) t u ≠ v → fitP (yS A) t u v → ((0 ≤ (((9 * t) + 3) + u) ∧ (((9 * t) + 3) + u) < 187) ∧ ∀ M2 : zM, M2 = zu M1 27 0 (((9 * t) + 3) + u) v → rR (aSay A t u v) M (qsy (yS A) t u) M2) := by
      rintro M1 ⟨h1', f1⟩ c1 d
      refine ⟨by omega, fun M2 q2 => ?_⟩
      unfold aSay
      rw [if_neg (fun q => q qu), if_neg (by omega), if_neg c1, if_neg (fun q => q d)]
      refine fin_h h1' f1 (fun k i hk => by rw [q2, zu_o k i hk]) (m_say (M1 := M1) (S := yS A) h1'.1.1.1 h1'.1.1.2 qu fun j => ?_)
      rw [q2, zu_at]
    have no : qsy (yS A) t u ≠ v → ¬ fitP (yS A) t u v → rR (aSay A t u v) M (-3) M := by
      intro c1 d
      unfold aSay
      rw [if_neg (fun q => q qu), if_neg (by omega), if_neg c1, if_pos d]
      exact rR.st h
    have pv : 0 < u → qU (yS A) t (u - 1) ∧ M 27 0 (9 * t + ((3 + u) - 1)) = qsy (yS A) t (u - 1) ∧ zI (qsy (yS A) t (u - 1)) := by
      intro p
      have q : qU (yS A) t (u - 1) := ⟨a.1, a.2, by omega, by omega⟩
      have := hsy (u - 1) a ⟨by omega, by omega⟩
      refine ⟨q, ?_, by omega⟩
      rw [show 9 * t + ((3 + u) - 1) = 9 * t + (3 + (u - 1)) by omega]
      exact h3 t _ q
    have nv : u + 1 < qun (yS A) t → qU (yS A) t (u + 1) ∧ M 27 0 (9 * t + ((3 + u) + 1)) = qsy (yS A) t (u + 1) ∧ zI (qsy (yS A) t (u + 1)) := by
      intro p
      have q : qU (yS A) t (u + 1) := ⟨a.1, a.2, by omega, by omega⟩
      have := hsy (u + 1) a ⟨by omega, by omega⟩
      refine ⟨q, ?_, by omega⟩
      rw [show 9 * t + ((3 + u) + 1) = 9 * t + (3 + (u + 1)) by omega]
      exact h3 t _ q
    have od : ∀ x y : Int, (((zb (qsl (yS A) t = 1)) ≠ 0 ∧ x ≤ y) ∨ ((zb (qsl (yS A) t = 1)) = 0 ∧ y ≤ x)) ↔ ((qsl (yS A) t = 1 → x ≤ y) ∧ (¬ qsl (yS A) t = 1 → y ≤ x)) := by
      intro x y
      by_cases s : qsl (yS A) t = 1
      · rw [zb_1 s]
        constructor
        · rintro (f | f)
          · exact ⟨fun _ => f.2, fun q => absurd s q⟩
          · exact absurd f.1 (by decide)
        · intro f
          exact .inl ⟨by decide, f.1 s⟩
      · rw [zb_f s]
        constructor
        · rintro (f | f)
          · exact absurd rfl f.1
          · exact ⟨fun q => absurd q s, fun _ => f.2⟩
        · intro f
          exact .inr ⟨rfl, f.2 s⟩
    refine ⟨by omega, fun c1 => ⟨fun p => ⟨by omega, by omega, fun q => ?_, fun q => ?_⟩, fun p => ⟨⟨by omega, k.1⟩, by omega, ?_⟩⟩, fun c1 => ?_⟩
    · exact (c_X9_keepsAct h w.2.1).mono fun M1 hh => kb M1 hh c1 ⟨fun r => by have := r.2.2.1; omega, fun r => by have := r.2.2.2; omega⟩
    · have n2 := nv q
      rw [n2.2.1]
      refine ⟨⟨by omega, k.1⟩, by omega, ⟨zb_I, zv, n2.2.2⟩, fun f => ?_, fun f => ?_⟩
      · have g := (od _ _).mp f
        exact (c_X9_keepsAct h w.2.1).mono fun M1 hh => kb M1 hh c1 ⟨fun r => by have := r.2.2.1; omega, fun _ => g⟩
      · exact no c1 fun g => f ((od _ _).mpr (g.2 n2.1))
    · have p2 := pv p
      rw [p2.2.1]
      refine ⟨⟨zb_I, p2.2.2, zv⟩, fun f => ⟨by omega, by omega, fun q => ?_, fun q => ?_⟩, fun f => ?_⟩
      · have g := (od _ _).mp f
        exact (c_X9_keepsAct h w.2.1).mono fun M1 hh => kb M1 hh c1 ⟨fun _ => g, fun r => by have := r.2.2.2; omega⟩
      · have g := (od _ _).mp f
        have n2 := nv q
        rw [n2.2.1]
        refine ⟨by omega, ⟨zb_I, zv, n2.2.2⟩, fun f2 => ?_, fun f2 => ?_⟩
        · have g2 := (od _ _).mp f2
          exact (c_X9_keepsAct h w.2.1).mono fun M1 hh => kb M1 hh c1 ⟨fun _ => g, fun _ => g2⟩
        · exact no c1 fun g => f2 ((od _ _).mpr (g.2 n2.1))
      · exact no c1 fun g => f ((od _ _).mpr (g.1 p2.1))
    · unfold aSay
      rw [if_neg (fun q => q qu), if_neg (by omega), if_pos c1]
      exact rR.st h
  · have qu : qU (yS A) t u := ⟨a.1, a.2, by omega, by omega⟩
    unfold aSay
    rw [if_neg (fun q => q qu), if_pos c]
    exact rR.st h
theorem a9_keep {s : Int} (h : mSy M A) (w : wfY kk A) (zs : zI s) : CI l m_X9_keep [zr 9 0, zi s] M (rR (aKeep A s) M) := by
  have h' := h
  have en : M 27 0 180 = qn (yS A) := (mv_at h.1.1.1 h.1.1.2).2.2.1 0 (by omega)
  obtain ⟨⟨⟨a1, a2⟩, ⟨b1, b2⟩, ⟨⟨c1, c1'⟩, c2, c3⟩, ⟨d1, d2⟩, e1, e2⟩, zz⟩ := h
  refine vX9_keep ⟨zs, ⟨by omega, by omega, by omega⟩, fun a => ?_, fun a => ?_⟩
  · unfold aKeep
    rw [if_neg (by omega)]
    have loop : ∀ (n : Nat) (v : Int) (M' : zM), (187 - v).toNat = n → 0 ≤ v ∧ v ≤ 187 → (∀ k i, ¬ (k = 29 ∧ i = 0) → M' k i = M k i) → (∀ j, M' 29 0 j = if 187 * s ≤ j ∧ j < 187 * s + v then M 27 0 (j - 187 * s) else M 29 0 j) → LX9_keep_14 l (rR (qn (yS A), yKeep A s) M) s v M' := by
      intro n
      induction n with
      | zero =>
        intro v M' hn hv f e
        have ev : v = 187 := by omega
        subst ev
        refine vX9_keep_14 ⟨by omega, fun _ => ⟨by omega, ?_⟩, fun q => by omega⟩
        intro M2 q2
        have o : ∀ k, k ≠ 29 → k ≠ 30 → M2 k 0 = M k 0 := fun k h1 h2 => by rw [q2, zu_k h2]; exact f k 0 (fun q => h1 q.1)
        have k29 : ∀ j, M2 29 0 j = if 187 * s ≤ j ∧ j < 187 * s + 187 then M 27 0 (j - 187 * s) else M 29 0 j := fun j => by rw [q2, zu_k (by decide)]; exact e j
        have k30 : ∀ j, M2 30 0 j = if j = s then 1 else M 30 0 j := fun j => by rw [q2, zu_at, f 30 0 (by decide)]
        have cp : ∀ k o', k ≠ 29 → k ≠ 30 → mW M k o' → mW M2 k o' ∧ mV M2 k o' = mV M k o' := fun k o' h1 h2 w => mV_copy (fun j _ => by rw [o k h1 h2]) w
        have nw := mV_copy (M := M) (M' := M2) (k := 27) (k' := 29) (o := 0) (o' := 187 * s) (fun j hj => by rw [k29, if_pos (by omega)]; congr 1; omega) a1
        refine ⟨by rw [o 27 (by decide) (by decide), en], ⟨⟨⟨(cp 27 0 (by decide) (by decide) a1).1, (cp 27 0 (by decide) (by decide) a1).2.trans a2⟩, ⟨by rw [o 9 (by decide) (by decide)]; exact b1, fun i hi => ?_⟩, ⟨⟨by rw [k30, c1]; rfl, by rw [k30, c1']; rfl⟩, fun q => ?_, fun q => ?_⟩, ⟨by rw [o 9 (by decide) (by decide)]; exact d1, fun i hi => by rw [o 47 (by decide) (by decide)]; exact d2 i hi⟩, by rw [o 9 (by decide) (by decide)]; exact e1, by rw [o 9 (by decide) (by decide)]; exact e2⟩, by rw [o 9 (by decide) (by decide)]; exact zz⟩, fun k i hk => ?_⟩
        · have b := b2 i hi
          have c := cp 28 _ (by decide) (by decide) b.1
          exact ⟨c.1, c.2.trans b.2⟩
        · show mW M2 29 0 ∧ mV M2 29 0 = if 0 = s then yS A else ykh A 0
          by_cases z : 0 = s
          · subst z
            rw [if_pos rfl]
            exact ⟨nw.1, nw.2.trans a2⟩
          · rw [if_neg z]
            have q' : (if 0 = s then 1 else ykf A 0) = 1 := q
            rw [if_neg z] at q'
            have b := c2 q'
            have c := mV_copy (M := M) (M' := M2) (k := 29) (k' := 29) (o := 0) (o' := 0) (fun j hj => by rw [k29, if_neg (by omega)]) b.1
            exact ⟨c.1, c.2.trans b.2⟩
        · show mW M2 29 187 ∧ mV M2 29 187 = if 1 = s then yS A else ykh A 1
          by_cases z : 1 = s
          · subst z
            rw [if_pos rfl]
            exact ⟨nw.1, nw.2.trans a2⟩
          · rw [if_neg z]
            have q' : (if 1 = s then 1 else ykf A 1) = 1 := q
            rw [if_neg z] at q'
            have b := c3 q'
            have c := mV_copy (M := M) (M' := M2) (k := 29) (k' := 29) (o := 187) (o' := 187) (fun j hj => by rw [k29, if_neg (by omega)]) b.1
            exact ⟨c.1, c.2.trans b.2⟩
        · rw [q2, zu_k (fun q => hk (by unfold isMd; omega))]
          exact f k i (fun q => hk (by unfold isMd; omega))
      | succ n ih =>
        intro v M' hn hv f e
        refine vX9_keep_14 ?_
        rw [f 27 0 (by decide)]
        refine ⟨by omega, fun q => by omega, fun _ => ⟨by omega, by omega, ?_⟩⟩
        rintro M2 rfl
        refine ih (v + 1) _ (by omega) (by omega) (fun k i hk => by rw [zu_o k i hk]; exact f k i hk) fun j => ?_
        rw [zu_at, e]
        by_cases z : j = 187 * s + v
        · rw [if_pos z, if_pos (by omega), show j - 187 * s = v by omega]
        · rw [if_neg z]
          by_cases y : 187 * s ≤ j ∧ j < 187 * s + v
          · rw [if_pos y, if_pos (by omega)]
          · rw [if_neg y, if_neg (by omega)]
    exact loop _ 0 M rfl (by omega) (fun _ _ _ => rfl) fun j => by rw [if_neg (by omega)]
  · unfold aKeep
    rw [if_pos (by omega)]
    exact rR.st h'
theorem a9_back {s : Int} (h : mSy M A) (w : wfY kk A) (zs : zI s) : CI l m_X9_back [zr 9 0, zi s] M (rR (aBack A s) M) := by
  have wk := w.2.2.2.1
  have h' := h
  obtain ⟨⟨⟨a1, a2⟩, ⟨b1, b2⟩, ⟨⟨c1, c1'⟩, c2, c3⟩, ⟨d1, d2⟩, e1, e2⟩, zz⟩ := h
  refine vX9_back ⟨zs, ⟨by omega, by omega, by omega⟩, fun a => ⟨by omega, ?_⟩, fun a => ?_⟩
  · have ks : M 30 0 s = ykf A s := by
      by_cases z : s = 0
      · rw [z]; exact c1
      · rw [show s = 1 by omega]; exact c1'
    have wks := wk s (by omega)
    have wkz : ykf A s = 0 ∨ ykf A s = 1 := wks.imp id (fun q => q.1)
    rw [ks]
    unfold aBack
    rw [if_neg (by omega)]
    refine ⟨by omega, fun p => ?_, fun p => ?_⟩
    · rw [if_neg p]
      have S1 : mW M 29 (187 * s) ∧ mV M 29 (187 * s) = ykh A s := by
        by_cases z : s = 0
        · subst z
          exact c2 (by omega)
        · have z1 : s = 1 := by omega
          subst z1
          exact c3 (by omega)
      have loop : ∀ (n : Nat) (v : Int) (M' : zM), (187 - v).toNat = n → 0 ≤ v ∧ v ≤ 187 → (∀ k i, ¬ (k = 27 ∧ i = 0) → M' k i = M k i) → (∀ j, 0 ≤ j ∧ j < v → M' 27 0 j = M 29 0 (187 * s + j)) → LX9_back_26 l (rR (qn (ykh A s), yNo A (ykh A s)) M) s v M' := by
        intro n
        induction n with
        | zero =>
          intro v M' hn hv f e
          have ev : v = 187 := by omega
          subst ev
          have nw := mV_copy (M := M) (M' := M') (k := 29) (k' := 27) (o := 187 * s) (o' := 0) (fun j hj => by rw [Int.zero_add]; exact e j (by omega)) S1.1
          have H := h'.1.hall f nw.1 (nw.2.trans S1.2)
          refine vX9_back_26 ⟨by omega, fun _ => ?_, fun q => by omega⟩
          intro M2 q2
          have o : ∀ k i, k ≠ 9 → M2 k i = M' k i := fun k i hk => by rw [q2, zu_k hk]
          have e9 : ∀ j, j ≠ 2 → M2 9 0 j = M' 9 0 j := fun j hj => by rw [q2, zu_at, if_neg hj]
          have cp : ∀ k o', k ≠ 9 → mW M' k o' → mW M2 k o' ∧ mV M2 k o' = mV M' k o' := fun k o' h1 w => mV_copy (fun j _ => by rw [o k 0 h1]) w
          obtain ⟨⟨a1, a2⟩, ⟨b1, b2⟩, ⟨⟨c1, c1'⟩, c2, c3⟩, ⟨d1, d2⟩, e1, e2⟩ := H
          have n27 := cp 27 0 (by decide) a1
          refine ⟨?_, ⟨⟨⟨n27.1, n27.2.trans a2⟩, ⟨by rw [q2, zu_at, if_pos rfl]; rfl, fun i hi => ?_⟩, ⟨⟨by rw [o 30 0 (by decide)]; exact c1, by rw [o 30 0 (by decide)]; exact c1'⟩, fun q => ?_, fun q => ?_⟩, ⟨by rw [e9 36 (by decide)]; exact d1, fun i hi => by rw [o 47 0 (by decide)]; exact d2 i hi⟩, by rw [e9 5 (by decide)]; exact e1, by rw [e9 6 (by decide)]; exact e2⟩, ?_⟩, fun k i hk => ?_⟩
          · exact (mv_at n27.1 (n27.2.trans a2)).2.2.1 0 (by omega)
          · have hi' : 0 ≤ i ∧ i < 0 := hi
            omega
          · have b := c2 q
            have c := cp 29 _ (by decide) b.1
            exact ⟨c.1, c.2.trans b.2⟩
          · have b := c3 q
            have c := cp 29 _ (by decide) b.1
            exact ⟨c.1, c.2.trans b.2⟩
          · rw [e9 7 (by decide), f 9 0 (by decide)]
            exact zz
          · rw [o k i (fun q => hk (by unfold isMd; omega))]
            exact f k i (fun q => hk (by unfold isMd; omega))
        | succ n ih =>
          intro v M' hn hv f e
          refine vX9_back_26 ?_
          rw [f 29 0 (by decide)]
          refine ⟨by omega, fun q => by omega, fun _ => ⟨by omega, by omega, ?_⟩⟩
          rintro M2 rfl
          refine ih (v + 1) _ (by omega) (by omega) (fun k i hk => by rw [zu_o k i hk]; exact f k i hk) fun j hj => ?_
          rw [zu_at]
          by_cases z : j = v
          · rw [if_pos z, z]
          · rw [if_neg z]
            exact e j (by omega)
      exact loop _ 0 M rfl (by omega) (fun _ _ _ => rfl) fun j hj => by omega
    · rw [if_pos p]
      exact rR.st h'
  · unfold aBack
    rw [if_pos (by omega)]
    exact rR.st h'
end
