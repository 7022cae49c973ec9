/-! ===== acts: the reference, more ===== -/
section
variable {l : Launch} {M : zM} {A : zY} {kk : Int}
theorem vX9_add {l : Launch} {P : Int → zM → Prop} {v1 : Int} {v2 : Int} {M : zM}
    (H0 : ((zI v1 ∧ (0 ≤ M 27 0 180 ∧ M 27 0 180 ≤ 20)) ∧ ((¬ (0 ≤ v1 ∧ v1 < M 27 0 180) → P (-1) M) ∧ (0 ≤ v1 ∧ v1 < M 27 0 180 → (zI v2 ∧ ((zJ v2 ∧ zJ 0 ∧ zJ 9999) ∧ ((0 ≤ v2 ∧ v2 ≤ 9999 → ((0 ≤ 9 * v1 + 2 ∧ 9 * v1 + 2 < 187) ∧ (zI (M 27 0 (9 * v1 + 2)) ∧ ((M 27 0 (9 * v1 + 2)) ≠ 4 → (((M 27 0 (9 * v1 + 2)) ≤ 0 → (CV l m_X9_keepsAct [zr 9 0] M (fun M27 => ((0 ≤ (((9 * v1) + 3) + (M 27 0 (9 * v1 + 2))) ∧ (((9 * v1) + 3) + (M 27 0 (9 * v1 + 2))) < 187) ∧ ∀ M31 : zM, M31 = zu M27 27 0 (((9 * v1) + 3) + (M 27 0 (9 * v1 + 2))) v2 → ((0 ≤ ((9 * v1) + 2) ∧ ((9 * v1) + 2) < 187) ∧ (∀ M35 : zM, M35 = zu M31 27 0 ((9 * v1) + 2) ((M31 27 0 ((9 * v1) + 2)) + 1) → P ((M 27 0 (9 * v1 + 2)) + 1) M35)))))) ∧ (0 < (M 27 0 (9 * v1 + 2)) → (((0 ≤ v1 ∧ v1 < 20) ∧ (M 27 0 (9 * v1) = 0 ∨ M 27 0 (9 * v1) = 1)) ∧ ((0 ≤ 9 * v1 + ((3 + (M 27 0 (9 * v1 + 2))) - 1) ∧ 9 * v1 + ((3 + (M 27 0 (9 * v1 + 2))) - 1) < 187) ∧ ((zI (zb (M 27 0 (9 * v1) = 1)) ∧ zI (M 27 0 (9 * v1 + ((3 + (M 27 0 (9 * v1 + 2))) - 1))) ∧ zI v2) ∧ ((((zb (M 27 0 (9 * v1) = 1)) ≠ 0 ∧ (M 27 0 (9 * v1 + ((3 + (M 27 0 (9 * v1 + 2))) - 1))) ≤ v2) ∨ ((zb (M 27 0 (9 * v1) = 1)) = 0 ∧ v2 ≤ (M 27 0 (9 * v1 + ((3 + (M 27 0 (9 * v1 + 2))) - 1)))) → (CV l m_X9_keepsAct [zr 9 0] M (fun M47 => ((0 ≤ (((9 * v1) + 3) + (M 27 0 (9 * v1 + 2))) ∧ (((9 * v1) + 3) + (M 27 0 (9 * v1 + 2))) < 187) ∧ ∀ M51 : zM, M51 = zu M47 27 0 (((9 * v1) + 3) + (M 27 0 (9 * v1 + 2))) v2 → ((0 ≤ ((9 * v1) + 2) ∧ ((9 * v1) + 2) < 187) ∧ (∀ M55 : zM, M55 = zu M51 27 0 ((9 * v1) + 2) ((M51 27 0 ((9 * v1) + 2)) + 1) → P ((M 27 0 (9 * v1 + 2)) + 1) M55)))))) ∧ (¬ (((zb (M 27 0 (9 * v1) = 1)) ≠ 0 ∧ (M 27 0 (9 * v1 + ((3 + (M 27 0 (9 * v1 + 2))) - 1))) ≤ v2) ∨ ((zb (M 27 0 (9 * v1) = 1)) = 0 ∧ v2 ≤ (M 27 0 (9 * v1 + ((3 + (M 27 0 (9 * v1 + 2))) - 1))))) → P (-3) M)))))))) ∧ ((M 27 0 (9 * v1 + 2)) = 4 → P (-2) M)))) ∧ (¬ (0 ≤ v2 ∧ v2 ≤ 9999) → P (-1) M)))))))) :
    CI l m_X9_add [zr 9 0, zi v1, zi v2] M P :=
(aw_aload_n d_X9_add_0 rfl rfl 0 rfl (by decide)
(aw_iload_n d_X9_add_1 rfl rfl 1 rfl
(have z1 := H0.1; have e2 := H0.2; (aw_VI (As := [zi v1]) (st := []) d_X9_add_2 rfl cv9_189 ⟨Nat.le_of_ble_eq_true rfl, Nat.le_of_ble_eq_true rfl⟩ rfl rfl (Nat.le_of_ble_eq_true rfl) (Nat.le_of_ble_eq_true rfl) (s_X9_isTrader z1) (fun _ _ hq => aw_eqs hq
(aw_if_eq d_X9_add_5 rfl rfl zb_I (fun c3 => have e5 := e2.1 (zb_0 c3); (aw_iconst d_X9_add_20 rfl
(aw_ri d_X9_add_21 rfl e5))) (fun c4 => have e6 := e2.2 (zb_n0 c4); (aw_iload_n d_X9_add_8 rfl rfl 2 rfl
(have z7 := e6.1; have e8 := e6.2; (aw_i2l d_X9_add_9 rfl z7
(aw_lconst (x := 0) d_X9_add_10 rfl (by decide)
(aw_ldc2 d_X9_add_11 rfl cl9_366
(have z9 := e8.1; have e10 := e8.2; (aw_SI (As := [zl v2, zl 0, zl 9999]) (st := []) d_X9_add_14 rfl cs9_82 ⟨Nat.le_of_ble_eq_true rfl, Nat.le_of_ble_eq_true rfl⟩ rfl rfl (Nat.le_of_ble_eq_true rfl) (Nat.le_of_ble_eq_true rfl) (s_X9_in z9) (fun _ _ hq => aw_eqs hq
(aw_if_ne d_X9_add_17 rfl rfl zb_I (fun c11 => have e13 := e10.1 (zb_n0 c11); (aw_aload_n d_X9_add_22 rfl rfl 0 rfl (by decide)
(aw_iload_n d_X9_add_23 rfl rfl 1 rfl
(aw_iconst d_X9_add_24 rfl
(have z15 := e13.1; have e16 := e13.2; (aw_VI (As := [zi v1, zi 2]) (st := []) d_X9_add_25 rfl cv9_88 ⟨Nat.le_of_ble_eq_true rfl, Nat.le_of_ble_eq_true rfl⟩ rfl rfl (Nat.le_of_ble_eq_true rfl) (Nat.le_of_ble_eq_true rfl) (s_X9_of z15) (fun _ _ hq => aw_eqs hq
(aw_istore_n (lv' := [(3, zi (M 27 0 (9 * v1 + 2))), (0, zr 9 0), (1, zi v1), (2, zi v2)]) d_X9_add_28 rfl rfl (by decide) rfl
(aw_iload_n d_X9_add_29 rfl rfl 0 rfl
(aw_iconst d_X9_add_30 rfl
(have z17 := e16.1; have e18 := e16.2; aw_icmp_ne d_X9_add_31 rfl rfl z17 (by decide) (fun c19 => have e21 := e18.1 c19; (aw_iload_n d_X9_add_37 rfl rfl 0 rfl
(aw_if_le d_X9_add_38 rfl rfl z17 (fun c23 => have e25 := e21.1 c23; (aw_aload_n d_X9_add_66 rfl rfl 1 rfl (by decide)
(aw_VV (As := []) (st := []) d_X9_add_67 rfl cv9_363 ⟨Nat.le_of_ble_eq_true rfl, Nat.le_of_ble_eq_true rfl⟩ rfl rfl (Nat.le_of_ble_eq_true rfl) (Nat.le_of_ble_eq_true rfl) e25 (fun M27 e28 => (aw_aload_n d_X9_add_70 rfl rfl 1 rfl (by decide)
(aw_getR (k' := 27) (a := 0) (b := 0) (j := 0) d_X9_add_71 rfl fl9_7 rfl zj0 ⟨by decide, fun _ => by decide⟩
(aw_bipush d_X9_add_74 rfl (by decide)
(aw_iload_n d_X9_add_76 rfl rfl 2 rfl
(aw_imul d_X9_add_77 rfl
(aw_iconst d_X9_add_78 rfl
(aw_iadd d_X9_add_79 rfl
(aw_iload_n d_X9_add_80 rfl rfl 0 rfl
(aw_iadd d_X9_add_81 rfl
(aw_iload_n d_X9_add_82 rfl rfl 3 rfl
(have z30 := e28.1; have e32 := e28.2 _ rfl; aw_iast d_X9_add_83 rfl za27 z30
(aw_aload_n d_X9_add_84 rfl rfl 1 rfl (by decide)
(aw_getR (k' := 27) (a := 0) (b := 0) (j := 0) d_X9_add_85 rfl fl9_7 rfl zj0 ⟨by decide, fun _ => by decide⟩
(aw_bipush d_X9_add_88 rfl (by decide)
(aw_iload_n d_X9_add_90 rfl rfl 2 rfl
(aw_imul d_X9_add_91 rfl
(aw_iconst d_X9_add_92 rfl
(aw_iadd d_X9_add_93 rfl
(aw_dup2 d_X9_add_94 rfl rfl rfl
(have z33 := e32.1; have e34 := e32.2; (aw_iald d_X9_add_95 rfl za27 z33
(aw_iconst d_X9_add_96 rfl
(aw_iadd d_X9_add_97 rfl
(have e36 := e34 _ rfl; aw_iast d_X9_add_98 rfl za27 z33
(aw_iload_n d_X9_add_99 rfl rfl 0 rfl
(aw_iconst d_X9_add_100 rfl
(aw_iadd d_X9_add_101 rfl
(aw_ri d_X9_add_102 rfl e36)))))))))))))))))))))))))))))))) (fun c24 => have e26 := e21.2 c24; (aw_aload_n d_X9_add_41 rfl rfl 1 rfl (by decide)
(aw_iload_n d_X9_add_42 rfl rfl 2 rfl
(have z37 := e26.1; have e38 := e26.2; (aw_VI (As := [zi v1]) (st := []) d_X9_add_43 rfl cv9_122 ⟨Nat.le_of_ble_eq_true rfl, Nat.le_of_ble_eq_true rfl⟩ rfl rfl (Nat.le_of_ble_eq_true rfl) (Nat.le_of_ble_eq_true rfl) (s_X9_sells z37) (fun _ _ hq => aw_eqs hq
(aw_aload_n d_X9_add_46 rfl rfl 1 rfl (by decide)
(aw_iload_n d_X9_add_47 rfl rfl 2 rfl
(aw_iconst d_X9_add_48 rfl
(aw_iload_n d_X9_add_49 rfl rfl 0 rfl
(aw_iadd d_X9_add_50 rfl
(aw_iconst d_X9_add_51 rfl
(aw_isub d_X9_add_52 rfl
(have z39 := e38.1; have e40 := e38.2; (aw_VI (As := [zi v1, zi ((3 + (M 27 0 (9 * v1 + 2))) - 1)]) (st := [zi (zb (M 27 0 (9 * v1) = 1))]) d_X9_add_53 rfl cv9_88 ⟨Nat.le_of_ble_eq_true rfl, Nat.le_of_ble_eq_true rfl⟩ rfl rfl (Nat.le_of_ble_eq_true rfl) (Nat.le_of_ble_eq_true rfl) (s_X9_of z39) (fun _ _ hq => aw_eqs hq
(aw_iload_n d_X9_add_56 rfl rfl 3 rfl
(have z41 := e40.1; have e42 := e40.2; (aw_SI (As := [zi (zb (M 27 0 (9 * v1) = 1)), zi (M 27 0 (9 * v1 + ((3 + (M 27 0 (9 * v1 + 2))) - 1))), zi v2]) (st := []) d_X9_add_57 rfl cs9_368 ⟨Nat.le_of_ble_eq_true rfl, Nat.le_of_ble_eq_true rfl⟩ rfl rfl (Nat.le_of_ble_eq_true rfl) (Nat.le_of_ble_eq_true rfl) (s_X9_mayFollow z41) (fun _ _ hq => aw_eqs hq
(aw_if_ne d_X9_add_60 rfl rfl zb_I (fun c43 => have e45 := e42.1 (zb_n0 c43); (aw_aload_n d_X9_add_66 rfl rfl 1 rfl (by decide)
(aw_VV (As := []) (st := []) d_X9_add_67 rfl cv9_363 ⟨Nat.le_of_ble_eq_true rfl, Nat.le_of_ble_eq_true rfl⟩ rfl rfl (Nat.le_of_ble_eq_true rfl) (Nat.le_of_ble_eq_true rfl) e45 (fun M47 e48 => (aw_aload_n d_X9_add_70 rfl rfl 1 rfl (by decide)
(aw_getR (k' := 27) (a := 0) (b := 0) (j := 0) d_X9_add_71 rfl fl9_7 rfl zj0 ⟨by decide, fun _ => by decide⟩
(aw_bipush d_X9_add_74 rfl (by decide)
(aw_iload_n d_X9_add_76 rfl rfl 2 rfl
(aw_imul d_X9_add_77 rfl
(aw_iconst d_X9_add_78 rfl
(aw_iadd d_X9_add_79 rfl
(aw_iload_n d_X9_add_80 rfl rfl 0 rfl
(aw_iadd d_X9_add_81 rfl
(aw_iload_n d_X9_add_82 rfl rfl 3 rfl
(have z50 := e48.1; have e52 := e48.2 _ rfl; aw_iast d_X9_add_83 rfl za27 z50
(aw_aload_n d_X9_add_84 rfl rfl 1 rfl (by decide)
(aw_getR (k' := 27) (a := 0) (b := 0) (j := 0) d_X9_add_85 rfl fl9_7 rfl zj0 ⟨by decide, fun _ => by decide⟩
(aw_bipush d_X9_add_88 rfl (by decide)
(aw_iload_n d_X9_add_90 rfl rfl 2 rfl
(aw_imul d_X9_add_91 rfl
(aw_iconst d_X9_add_92 rfl
(aw_iadd d_X9_add_93 rfl
(aw_dup2 d_X9_add_94 rfl rfl rfl
(have z53 := e52.1; have e54 := e52.2; (aw_iald d_X9_add_95 rfl za27 z53
(aw_iconst d_X9_add_96 rfl
(aw_iadd d_X9_add_97 rfl
(have e56 := e54 _ rfl; aw_iast d_X9_add_98 rfl za27 z53
(aw_iload_n d_X9_add_99 rfl rfl 0 rfl
(aw_iconst d_X9_add_100 rfl
(aw_iadd d_X9_add_101 rfl
(aw_ri d_X9_add_102 rfl e56)))))))))))))))))))))))))))))))) (fun c44 => have e46 := e42.2 (zb_0 c44); (aw_bipush d_X9_add_63 rfl (by decide)
(aw_ri d_X9_add_65 rfl e46))))))))))))))))))))))))))) (fun c20 => have e22 := e18.2 c20; (aw_bipush d_X9_add_34 rfl (by decide)
(aw_ri d_X9_add_36 rfl e22)))))))))))))) (fun c12 => have e14 := e10.2 (zb_0 c12); (aw_iconst d_X9_add_20 rfl
(aw_ri d_X9_add_21 rfl e14)))))))))))))))))))
def LX9_puts_3 (l : Launch) (P : zM → Prop) (v1 : Int) (v2 : Int) (M : zM) : Prop := AW l m_X9_puts (zTv m_X9_puts P) 3 [(0, zr 9 0), (1, zi v1), (2, zi v2)] [] M
theorem vX9_puts_3 {l : Launch} {P : zM → Prop} {v1 : Int} {v2 : Int} {M : zM}
    (H0 : (zI v2 ∧ (v2 < 0 → P M) ∧ (0 ≤ v2 → ((0 ≤ (M 9 0 36) ∧ (M 9 0 36) < 400) ∧ ∀ M8 : zM, M8 = zu M 47 0 (M 9 0 36) (zi2b (zshr v1 v2)) → (∀ M10 : zM, M10 = zu M8 9 0 36 ((M8 9 0 36) + 1) → LX9_puts_3 l P v1 (v2 - 8) M10))))) :
    LX9_puts_3 l P v1 v2 M :=
(aw_iload_n d_X9_puts_3 rfl rfl 2 rfl
(have z1 := H0.1; have e2 := H0.2; aw_if_lt d_X9_puts_4 rfl rfl z1 (fun c3 => have e5 := e2.1 c3; (aw_rv d_X9_puts_36 rfl e5)) (fun c4 => have e6 := e2.2 c4; (aw_aload_n d_X9_puts_7 rfl rfl 0 rfl (by decide)
(aw_getR (k' := 47) (a := 0) (b := 0) (j := 0) d_X9_puts_8 rfl fl9_71 rfl zj0 ⟨by decide, fun _ => by decide⟩
(aw_aload_n d_X9_puts_11 rfl rfl 0 rfl (by decide)
(aw_getI (kc := 36) d_X9_puts_12 rfl fl9_297 rfl rfl
(aw_iload_n d_X9_puts_15 rfl rfl 1 rfl
(aw_iload_n d_X9_puts_16 rfl rfl 2 rfl
(aw_ishr d_X9_puts_17 rfl zshr_h
(aw_i2b d_X9_puts_18 rfl zi2b_h
(have z7 := e6.1; have e9 := e6.2 _ rfl; aw_bast d_X9_puts_19 rfl za47 z7 zi2b_r
(aw_aload_n d_X9_puts_20 rfl rfl 0 rfl (by decide)
(aw_dup d_X9_puts_21 rfl rfl
(aw_getI (kc := 36) d_X9_puts_22 rfl fl9_297 rfl rfl
(aw_iconst d_X9_puts_25 rfl
(aw_iadd d_X9_puts_26 rfl
(have e11 := e9 _ rfl; aw_put (kc := 36) d_X9_puts_27 rfl fp9_297 rfl rfl rfl rfl
(aw_iinc (lv' := [(2, zi (v2 - 8)), (0, zr 9 0), (1, zi v1)]) (y := (v2 - 8)) d_X9_puts_30 rfl 2 rfl (by decide) rfl rfl
(aw_goto d_X9_puts_33 rfl
(aw_sub [1, 2, 0] rfl e11)))))))))))))))))))))
theorem vX9_puts {l : Launch} {P : zM → Prop} {v1 : Int} {M : zM}
    (H0 : LX9_puts_3 l P v1 24 M) :
    CV l m_X9_puts [zr 9 0, zi v1] M P :=
(aw_bipush d_X9_puts_0 rfl (by decide)
(aw_istore_n (lv' := [(2, zi 24), (0, zr 9 0), (1, zi v1)]) d_X9_puts_2 rfl rfl (by decide) rfl
(aw_sub [1, 2, 0] rfl H0)))
theorem vX9_feed {l : Launch} {P : Int → zM → Prop} {v1 : Int} {v2 : Int} {v3 : Int} {v4 : Int} {v5 : Int} {M : zM}
    (H0 : (zI (M 9 0 36) ∧ ((M 9 0 36) ≤ 380 → (CV l m_X9_puts [zr 9 0, zi v1] M (fun M7 => (CV l m_X9_puts [zr 9 0, zi v2] M7 (fun M10 => (CV l m_X9_puts [zr 9 0, zi v3] M10 (fun M13 => (CV l m_X9_puts [zr 9 0, zi v4] M13 (fun M16 => (CV l m_X9_puts [zr 9 0, zi v5] M16 (fun M19 => P (M19 9 0 36) M19))))))))))) ∧ (380 < (M 9 0 36) → P (-1) M))) :
    CI l m_X9_feed [zr 9 0, zi v1, zi v2, zi v3, zi v4, zi v5] M P :=
(aw_aload_n d_X9_feed_0 rfl rfl 0 rfl (by decide)
(aw_getI (kc := 36) d_X9_feed_1 rfl fl9_297 rfl rfl
(aw_sipush d_X9_feed_4 rfl (by decide)
(have z1 := H0.1; have e2 := H0.2; aw_icmp_le d_X9_feed_7 rfl rfl z1 (by decide) (fun c3 => have e5 := e2.1 c3; (aw_aload_n d_X9_feed_12 rfl rfl 0 rfl (by decide)
(aw_iload_n d_X9_feed_13 rfl rfl 1 rfl
(aw_VV (As := [zi v1]) (st := []) d_X9_feed_14 rfl cv9_378 ⟨Nat.le_of_ble_eq_true rfl, Nat.le_of_ble_eq_true rfl⟩ rfl rfl (Nat.le_of_ble_eq_true rfl) (Nat.le_of_ble_eq_true rfl) e5 (fun M7 e8 => (aw_aload_n d_X9_feed_17 rfl rfl 0 rfl (by decide)
(aw_iload_n d_X9_feed_18 rfl rfl 2 rfl
(aw_VV (As := [zi v2]) (st := []) d_X9_feed_19 rfl cv9_378 ⟨Nat.le_of_ble_eq_true rfl, Nat.le_of_ble_eq_true rfl⟩ rfl rfl (Nat.le_of_ble_eq_true rfl) (Nat.le_of_ble_eq_true rfl) e8 (fun M10 e11 => (aw_aload_n d_X9_feed_22 rfl rfl 0 rfl (by decide)
(aw_iload_n d_X9_feed_23 rfl rfl 3 rfl
(aw_VV (As := [zi v3]) (st := []) d_X9_feed_24 rfl cv9_378 ⟨Nat.le_of_ble_eq_true rfl, Nat.le_of_ble_eq_true rfl⟩ rfl rfl (Nat.le_of_ble_eq_true rfl) (Nat.le_of_ble_eq_true rfl) e11 (fun M13 e14 => (aw_aload_n d_X9_feed_27 rfl rfl 0 rfl (by decide)
(aw_iload d_X9_feed_28 rfl 4 rfl
(aw_VV (As := [zi v4]) (st := []) d_X9_feed_30 rfl cv9_378 ⟨Nat.le_of_ble_eq_true rfl, Nat.le_of_ble_eq_true rfl⟩ rfl rfl (Nat.le_of_ble_eq_true rfl) (Nat.le_of_ble_eq_true rfl) e14 (fun M16 e17 => (aw_aload_n d_X9_feed_33 rfl rfl 0 rfl (by decide)
(aw_iload d_X9_feed_34 rfl 5 rfl
(aw_VV (As := [zi v5]) (st := []) d_X9_feed_36 rfl cv9_378 ⟨Nat.le_of_ble_eq_true rfl, Nat.le_of_ble_eq_true rfl⟩ rfl rfl (Nat.le_of_ble_eq_true rfl) (Nat.le_of_ble_eq_true rfl) e17 (fun M19 e20 => (aw_aload_n d_X9_feed_39 rfl rfl 0 rfl (by decide)
(aw_getI (kc := 36) d_X9_feed_40 rfl fl9_297 rfl rfl
(aw_ri d_X9_feed_43 rfl e20)))))))))))))))))))))))) (fun c4 => have e6 := e2.2 c4; (aw_iconst d_X9_feed_10 rfl
(aw_ri d_X9_feed_11 rfl e6)))))))
theorem a9_add {t v : Int} (h : mSy M A) (w : wfY kk A) (zt : zI t) (zv : zI v) : CI l m_X9_add [zr 9 0, zi t, zi v] M (rR (aAdd A t v) M) := by
  have n0 := w.1.1
  obtain ⟨z, -, h0, h1, h3⟩ := mv_at h.1.1.1 h.1.1.2
  have e180 : M 27 0 180 = qn (yS A) := h0 0 (by omega)
  refine vX9_add ?_
  rw [e180]
  refine ⟨⟨zt, n0⟩, fun a => ?_, fun a => ⟨zv, ⟨by omega, by omega, by omega⟩, fun b => ⟨by omega, ?_⟩, fun b => ?_⟩⟩
  · unfold aAdd
    rw [if_pos a]
    exact rR.st h
  · have k := h1 t a
    have hsy := w.1.2.2.2.2.2.2.1 t
    rw [k.2.2.2.2.1, k.2.2.1]
    have kb : ∀ M1, mSy M1 (yPut A (yS A)) ∧ kAct M M1 → qun (yS A) t < 4 → fitP (yS A) t (qun (yS A) t) v → ((0 ≤ (((9 * t) + 3) + (qun (yS A) t)) ∧ (((9 * t) + 3) + (qun (yS A) t)) < 187) ∧ ∀ M31 : zM, M31 = zu M1 27 0 (((9 * t) + 3) + (qun (yS A) t)) v → ((0 ≤ ((9 * t) + 2) ∧ ((9 * t) + 2) < 187) ∧ (∀ M35 : zM, M35 = zu M31 27 0 ((9 * t) + 2) ((M31 27 0 ((9 * t) + 2)) + 1) → rR (aAdd A t v) M ((qun (yS A) t) + 1) M35))) := by
      rintro M1 ⟨h1', f1⟩ c d
      have k1 := (mv_at h1'.1.1.1 h1'.1.1.2).2.2.2.1 t a
      have e2 : M1 27 0 (9 * t + 2) = qun (yS A) t := k1.2.2.2.2.1
      refine ⟨by omega, fun M2 q2 => ⟨by omega, fun M3 q3 => ?_⟩⟩
      unfold aAdd
      rw [if_neg (by omega), if_neg (by omega), if_neg (by omega), if_neg (fun q => q d)]
      refine fin_h h1' f1 (fun k i hk => by rw [q3, zu_o k i hk, q2, zu_o k i hk]) (m_add (M1 := M1) (S := yS A) h1'.1.1.1 h1'.1.1.2 a c fun j => ?_)
      have e22 : M2 27 0 (9 * t + 2) = qun (yS A) t := by rw [q2, zu_at, if_neg (by omega), e2]
      rw [q3, zu_at, e22, q2, zu_at]
    refine ⟨by omega, fun c => ⟨fun d => ?_, fun d => ⟨⟨by omega, k.1⟩, by omega, ?_⟩⟩, fun c => ?_⟩
    · refine (c_X9_keepsAct h w.2.1).mono fun M1 hh => kb M1 hh (by omega) ⟨fun q => ?_, fun q => ?_⟩
      · have := q.2.2.1
        omega
      · have := q.2.2.2
        omega
    · have qu : qU (yS A) t (qun (yS A) t - 1) := ⟨a.1, a.2, by omega, by omega⟩
      have e3 : M 27 0 (9 * t + ((3 + qun (yS A) t) - 1)) = qsy (yS A) t (qun (yS A) t - 1) := by
        rw [show 9 * t + ((3 + qun (yS A) t) - 1) = 9 * t + (3 + (qun (yS A) t - 1)) by omega]
        exact h3 t _ qu
      have sb := hsy (qun (yS A) t - 1) a ⟨by omega, by omega⟩
      rw [e3]
      have fit : fitP (yS A) t (qun (yS A) t) v ↔ (((zb (qsl (yS A) t = 1)) ≠ 0 ∧ (qsy (yS A) t (qun (yS A) t - 1)) ≤ v) ∨ ((zb (qsl (yS A) t = 1)) = 0 ∧ v ≤ (qsy (yS A) t (qun (yS A) t - 1)))) := by
        constructor
        · intro f
          have g := f.1 qu
          by_cases s : qsl (yS A) t = 1
          · rw [zb_1 s]
            exact .inl ⟨by decide, g.1 s⟩
          · rw [zb_f s]
            exact .inr ⟨rfl, g.2 s⟩
        · intro f
          refine ⟨fun _ => ⟨fun s => ?_, fun s => ?_⟩, fun q => by have := q.2.2.2; omega⟩
          · rw [zb_1 s] at f
            rcases f with f | f
            · exact f.2
            · exact absurd f.1 (by decide)
          · rw [zb_f s] at f
            rcases f with f | f
            · exact absurd rfl f.1
            · exact f.2
      refine ⟨⟨zb_I, by omega, zv⟩, fun f => ?_, fun f => ?_⟩
      · exact (c_X9_keepsAct h w.2.1).mono fun M1 hh => kb M1 hh (by omega) (fit.mpr f)
      · unfold aAdd
        rw [if_neg (by omega), if_neg (by omega), if_neg (by omega), if_pos (fun q => f (fit.mp q))]
        exact rR.st h
    · unfold aAdd
      rw [if_neg (by omega), if_neg (by omega), if_pos (by omega)]
      exact rR.st h
  · unfold aAdd
    rw [if_neg (by omega), if_pos b]
    exact rR.st h
/-- a row copied to the hall, a row of the past or of the shelf -/
theorem a9_undo (h : mSy M A) (w : wfY kk A) : CI l m_X9_undo [zr 9 0] M (rR (aUndo A) M) := by
  have hc := w.2.1
  have h' := h
  obtain ⟨⟨⟨a1, a2⟩, ⟨b1, b2⟩, ⟨⟨c1, c1'⟩, c2, c3⟩, ⟨d1, d2⟩, e1, e2⟩, zz⟩ := h
  refine vX9_undo ?_
  rw [b1]
  refine ⟨by omega, fun p => ?_, fun p => ?_⟩
  · unfold aUndo
    rw [if_pos (by omega)]
    intro M1 q1
    have o1 : ∀ k, k ≠ 9 → M1 k 0 = M k 0 := fun k hk => by rw [q1, zu_k hk]
    have e9 : ∀ j, j ≠ 2 → M1 9 0 j = M 9 0 j := fun j hj => by rw [q1, zu_at, if_neg hj]
    have e92 : M1 9 0 2 = yhc A - 1 := by rw [q1, zu_at, if_pos rfl]
    have loop : ∀ (n : Nat) (v : Int) (M' : zM), (187 - v).toNat = n → 0 ≤ v ∧ v ≤ 187 → (∀ k i, ¬ (k = 27 ∧ i = 0) → M' k i = M1 k i) → (∀ j, 0 ≤ j ∧ j < v → M' 27 0 j = M 28 0 (187 * (yhc A - 1) + j)) → LX9_undo_21 l (rR (yhc A - 1, yTake A) M) v M' := by
      intro n
      induction n with
      | zero =>
        intro v M' hn hv f e
        have ev : v = 187 := by omega
        subst ev
        have g : ∀ k, k ≠ 27 → M' k 0 = M1 k 0 := fun k hk => f k 0 (fun q => hk q.1)
        refine vX9_undo_21 ⟨by omega, fun _ => ⟨by rw [g 9 (by decide), e92], ⟨⟨?_, ⟨by rw [g 9 (by decide)]; exact e92, fun i hi => ?_⟩, ⟨⟨by rw [g 30 (by decide), o1 30 (by decide)]; exact c1, by rw [g 30 (by decide), o1 30 (by decide)]; exact c1'⟩, fun q => ?_, fun q => ?_⟩, ⟨by rw [g 9 (by decide), e9 36 (by decide)]; exact d1, fun i hi => by rw [g 47 (by decide), o1 47 (by decide)]; exact d2 i hi⟩, by rw [g 9 (by decide), e9 5 (by decide)]; exact e1, by rw [g 9 (by decide), e9 6 (by decide)]; exact e2⟩, by rw [g 9 (by decide), e9 7 (by decide)]; exact zz⟩, fun k i hk => ?_⟩, fun q => by omega⟩
        · have b := b2 0 (by omega)
          have q := mV_copy (M := M) (M' := M') (k := 28) (k' := 27) (o := 187 * (yhc A - 1 - 0)) (o' := 0) (fun j hj => by rw [Int.zero_add, e j (by omega), Int.sub_zero]) b.1
          exact ⟨q.1, q.2.trans b.2⟩
        · have hi' : 0 ≤ i ∧ i < yhc A - 1 := hi
          show mW M' 28 (187 * (yhc A - 1 - 1 - i)) ∧ mV M' 28 (187 * (yhc A - 1 - 1 - i)) = yhf A (i + 1)
          have b := b2 (i + 1) (by omega)
          rw [show 187 * (yhc A - 1 - 1 - i) = 187 * (yhc A - 1 - (i + 1)) by omega]
          have q := mV_copy (M := M) (M' := M') (k := 28) (k' := 28) (o := 187 * (yhc A - 1 - (i + 1))) (o' := 187 * (yhc A - 1 - (i + 1))) (fun j hj => by rw [g 28 (by decide), o1 28 (by decide)]) b.1
          exact ⟨q.1, q.2.trans b.2⟩
        · have b := c2 q
          have q := mV_copy (M := M) (M' := M') (k := 29) (k' := 29) (o := 0) (o' := 0) (fun j hj => by rw [g 29 (by decide), o1 29 (by decide)]) b.1
          exact ⟨q.1, q.2.trans b.2⟩
        · have b := c3 q
          have q := mV_copy (M := M) (M' := M') (k := 29) (k' := 29) (o := 187) (o' := 187) (fun j hj => by rw [g 29 (by decide), o1 29 (by decide)]) b.1
          exact ⟨q.1, q.2.trans b.2⟩
        · rw [f k i (fun q => hk (by unfold isMd; omega)), q1, zu_k (fun q => hk (by unfold isMd; omega))]
      | succ n ih =>
        intro v M' hn hv f e
        refine vX9_undo_21 ?_
        rw [f 9 0 (by omega), e92, f 28 0 (by omega), o1 28 (by decide)]
        refine ⟨by omega, fun q => by omega, fun _ => ⟨by omega, by omega, ?_⟩⟩
        rintro M2 rfl
        refine ih (v + 1) _ (by omega) (by omega) (fun k i hk => by rw [zu_o k i hk]; exact f k i hk) fun j hj => ?_
        rw [zu_at]
        by_cases z : j = v
        · rw [if_pos z, z]
        · rw [if_neg z]
          exact e j (by omega)
    exact loop _ 0 M1 rfl (by omega) (fun _ _ _ => rfl) fun j hj => by omega
  · unfold aUndo
    rw [if_neg (by omega)]
    exact rR.st h'
theorem a9_end {p : Int} (h : mSy M A) (w : wfY kk A) (zp : zI p) : CI l m_X9_end [zr 9 0, zi p] M (rR (aEnd A p) M) := by
  have ht := w.2.2.2.2.1
  have h' := h
  obtain ⟨⟨⟨a1, a2⟩, ⟨b1, b2⟩, ⟨⟨c1, c1'⟩, c2, c3⟩, ⟨d1, d2⟩, e1, e2⟩, zz⟩ := h
  refine vX9_end ?_
  rw [d1]
  refine ⟨zp, by omega, ⟨by omega, by omega, by omega⟩, fun a => ?_, fun a => ?_⟩
  · intro M1 q1
    have o1 : ∀ k i, k ≠ 9 → M1 k i = M k i := fun k i hk => by rw [q1, zu_k hk]
    have e9 : ∀ j, j ≠ 36 → M1 9 0 j = M 9 0 j := fun j hj => by rw [q1, zu_at, if_neg hj]
    have cp : ∀ k o, k ≠ 9 → mW M k o → mW M1 k o ∧ mV M1 k o = mV M k o := fun k o hk w => mV_copy (fun j _ => by rw [o1 k 0 hk]) w
    unfold aEnd
    rw [if_neg (by omega)]
    refine ⟨rfl, ⟨⟨⟨(cp 27 0 (by decide) a1).1, (cp 27 0 (by decide) a1).2.trans a2⟩, ⟨by rw [e9 2 (by decide)]; exact b1, fun i hi => ?_⟩, ⟨⟨by rw [o1 30 0 (by decide)]; exact c1, by rw [o1 30 0 (by decide)]; exact c1'⟩, fun q => ?_, fun q => ?_⟩, ⟨by rw [q1, zu_at, if_pos rfl]; rfl, fun i hi => ?_⟩, by rw [e9 5 (by decide)]; exact e1, by rw [e9 6 (by decide)]; exact e2⟩, by rw [e9 7 (by decide)]; exact zz⟩, fun k i hk => o1 k i (fun q => hk (by unfold isMd; omega))⟩
    · have b := b2 i hi
      have c := cp 28 _ (by decide) b.1
      exact ⟨c.1, c.2.trans b.2⟩
    · have b := c2 q
      have c := cp 29 _ (by decide) b.1
      exact ⟨c.1, c.2.trans b.2⟩
    · have b := c3 q
      have c := cp 29 _ (by decide) b.1
      exact ⟨c.1, c.2.trans b.2⟩
    · have hi' : 0 ≤ i ∧ i < p := hi
      rw [o1 47 0 (by decide)]
      exact d2 i (by omega)
  · unfold aEnd
    rw [if_pos (by omega)]
    exact rR.st h'
end
