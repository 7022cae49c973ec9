/-! ===== letter, both sides ===== -/
section
variable {l : Launch} {M : zM} {S : zS}
theorem kLt_s {M M' : zM} (f : Fr kLt M M') : Fr kScr M M' := f.mono fun k q => by unfold kLt at q; unfold kScr; omega
theorem vX3_at {l : Launch} {P : Int → zM → Prop} {v1 : Int} {M : zM}
    (H0 : (zI v1 ∧ (v1 < 0 → P (-1) M) ∧ (0 ≤ v1 → (zI (M 3 0 1) ∧ ((M 3 0 1) ≤ v1 → P (-1) M) ∧ (v1 < (M 3 0 1) → ((640 ≤ v1 → P (-1) M) ∧ (v1 < 640 → ((0 ≤ v1 ∧ v1 < 640) ∧ P (M 19 0 v1) M)))))))) :
    CI l m_X3_at [zr 3 0, zi v1] M P :=
(aw_iload_n d_X3_at_0 rfl rfl 1 rfl
(have z1 := H0.1; have e2 := H0.2; aw_if_lt d_X3_at_1 rfl rfl z1 (fun c3 => have e5 := e2.1 c3; (aw_iconst d_X3_at_28 rfl
(aw_ri d_X3_at_29 rfl e5))) (fun c4 => have e6 := e2.2 c4; (aw_iload_n d_X3_at_4 rfl rfl 1 rfl
(aw_aload_n d_X3_at_5 rfl rfl 0 rfl (by decide)
(aw_getI (kc := 1) d_X3_at_6 rfl fl3_15 rfl rfl
(have z7 := e6.1; have e8 := e6.2; aw_icmp_ge d_X3_at_9 rfl rfl z1 z7 (fun c9 => have e11 := e8.1 c9; (aw_iconst d_X3_at_28 rfl
(aw_ri d_X3_at_29 rfl e11))) (fun c10 => have e12 := e8.2 c10; (aw_iload_n d_X3_at_12 rfl rfl 1 rfl
(aw_sipush d_X3_at_13 rfl (by decide)
(aw_icmp_ge d_X3_at_16 rfl rfl z1 (by decide) (fun c13 => have e15 := e12.1 c13; (aw_iconst d_X3_at_28 rfl
(aw_ri d_X3_at_29 rfl e15))) (fun c14 => have e16 := e12.2 c14; (aw_aload_n d_X3_at_19 rfl rfl 0 rfl (by decide)
(aw_getR (k' := 19) (a := 0) (b := 0) (j := 0) d_X3_at_20 rfl fl3_9 rfl zj0 ⟨by decide, fun _ => by decide⟩
(aw_iload_n d_X3_at_23 rfl rfl 1 rfl
(have z17 := e16.1; have e18 := e16.2; (aw_iald d_X3_at_24 rfl za19 z17
(aw_goto d_X3_at_25 rfl
(aw_ri d_X3_at_29 rfl e18)))))))))))))))))))
def LX3_write_7 (l : Launch) (P : zM → Prop) (h1 : Nat) (v2 : Int) (M : zM) : Prop := AW l m_X3_write (zTv m_X3_write P) 7 [(0, zr 3 0), (1, zr 1 h1), (2, zi v2)] [] M
def LX3_write_45 (l : Launch) (P : zM → Prop) (h1 : Nat) (v2 : Int) (v3 : Int) (M : zM) : Prop := AW l m_X3_write (zTv m_X3_write P) 45 [(0, zr 3 0), (1, zr 1 h1), (2, zi v2), (3, zi v3)] [] M
theorem vX3_write_7 {l : Launch} {P : zM → Prop} {h1 : Nat} {v2 : Int} {M : zM}
    (H0 : (zI v2 ∧ zI (M 1 h1 6) ∧ ((M 1 h1 6) ≤ v2 → (zI (M 1 h1 7) ∧ ((M 1 h1 7) = 0 → (zI (M 1 h1 8) ∧ ((M 1 h1 8) = 0 → P M) ∧ ((M 1 h1 8) ≠ 0 → (CV l m_X3_beginPart [zr 3 0, zr 61 3] M (fun M22 => (CV l m_X3_put [zr 3 0, zi 32] M22 (fun M25 => (zI (M25 1 h1 8) ∧ (CV l m_X3_putWord [zr 3 0, zr 61 (zlw (M25 1 h1 8))] M25 (fun M30 => P M30)))))))))) ∧ ((M 1 h1 7) ≠ 0 → (CV l m_X3_beginPart [zr 3 0, zr 61 2] M (fun M33 => (CV l m_X3_putNumber [zr 3 0, zi (M33 1 h1 7)] M33 (fun M36 => (zI (M36 1 h1 8) ∧ ((M36 1 h1 8) = 0 → P M36) ∧ ((M36 1 h1 8) ≠ 0 → (CV l m_X3_beginPart [zr 3 0, zr 61 3] M36 (fun M45 => (CV l m_X3_put [zr 3 0, zi 32] M45 (fun M48 => (zI (M48 1 h1 8) ∧ (CV l m_X3_putWord [zr 3 0, zr 61 (zlw (M48 1 h1 8))] M48 (fun M53 => P M53)))))))))))))))) ∧ (v2 < (M 1 h1 6) → ((hW M h1 ∧ zI v2) ∧ ((¬ (qsl (hS M h1) v2 = 1) → (CV l m_X3_beginPart [zr 3 0, zr 61 0] M (fun M62 => ((hW M62 h1 ∧ 0 ≤ v2 ∧ v2 < M62 1 h1 6) ∧ (CV l m_X3_putNumber [zr 3 0, zi (qgr (hS M62 h1) v2)] M62 (fun M67 => LX3_write_45 l P h1 v2 0 M67)))))) ∧ (qsl (hS M h1) v2 = 1 → (CV l m_X3_beginPart [zr 3 0, zr 61 1] M (fun M70 => ((hW M70 h1 ∧ 0 ≤ v2 ∧ v2 < M70 1 h1 6) ∧ (CV l m_X3_putNumber [zr 3 0, zi (qgr (hS M70 h1) v2)] M70 (fun M75 => LX3_write_45 l P h1 v2 0 M75))))))))))) :
    LX3_write_7 l P h1 v2 M :=
(aw_iload_n d_X3_write_7 rfl rfl 2 rfl
(aw_aload_n d_X3_write_8 rfl rfl 1 rfl (by decide)
(aw_getI (kc := 6) d_X3_write_9 rfl fl3_19 rfl rfl
(have z3 := H0.1; have z4 := H0.2.1; have e5 := H0.2.2; aw_icmp_ge d_X3_write_12 rfl rfl z3 z4 (fun c6 => have e8 := e5.1 c6; (aw_aload_n d_X3_write_76 rfl rfl 1 rfl (by decide)
(aw_getI (kc := 7) d_X3_write_77 rfl fl3_49 rfl rfl
(have z10 := e8.1; have e11 := e8.2; aw_if_eq d_X3_write_80 rfl rfl z10 (fun c12 => have e14 := e11.1 c12; (aw_aload_n d_X3_write_97 rfl rfl 1 rfl (by decide)
(aw_getI (kc := 8) d_X3_write_98 rfl fl3_53 rfl rfl
(have z16 := e14.1; have e17 := e14.2; aw_if_eq d_X3_write_101 rfl rfl z16 (fun c18 => have e20 := e17.1 c18; (aw_rv d_X3_write_127 rfl e20)) (fun c19 => have e21 := e17.2 c19; (aw_aload_n d_X3_write_104 rfl rfl 0 rfl (by decide)
(aw_ldcS (i := 3) (tx := "law") d_X3_write_105 rfl (by decide +kernel) (by decide)
(aw_VV (As := [zr 61 3]) (st := []) d_X3_write_107 rfl cv3_30 ⟨Nat.le_of_ble_eq_true rfl, Nat.le_of_ble_eq_true rfl⟩ rfl rfl (Nat.le_of_ble_eq_true rfl) (Nat.le_of_ble_eq_true rfl) e21 (fun M22 e23 => (aw_aload_n d_X3_write_110 rfl rfl 0 rfl (by decide)
(aw_bipush d_X3_write_111 rfl (by decide)
(aw_VV (As := [zi 32]) (st := []) d_X3_write_113 rfl cv3_57 ⟨Nat.le_of_ble_eq_true rfl, Nat.le_of_ble_eq_true rfl⟩ rfl rfl (Nat.le_of_ble_eq_true rfl) (Nat.le_of_ble_eq_true rfl) e23 (fun M25 e26 => (aw_aload_n d_X3_write_116 rfl rfl 0 rfl (by decide)
(aw_aload_n d_X3_write_117 rfl rfl 1 rfl (by decide)
(aw_getI (kc := 8) d_X3_write_118 rfl fl3_53 rfl rfl
(have z28 := e26.1; have e29 := e26.2; (aw_SR (As := [zi (M25 1 h1 8)]) (st := [zr 3 0]) d_X3_write_121 rfl cs3_60 ⟨Nat.le_of_ble_eq_true rfl, Nat.le_of_ble_eq_true rfl⟩ rfl rfl (Nat.le_of_ble_eq_true rfl) (Nat.le_of_ble_eq_true rfl) (s_X8_lawWord z28) (fun _ _ hq => aw_eqr hq
(aw_VV (As := [zr 61 (zlw (M25 1 h1 8))]) (st := []) d_X3_write_124 rfl cv3_64 ⟨Nat.le_of_ble_eq_true rfl, Nat.le_of_ble_eq_true rfl⟩ rfl rfl (Nat.le_of_ble_eq_true rfl) (Nat.le_of_ble_eq_true rfl) e29 (fun M30 e31 => (aw_rv d_X3_write_127 rfl e31)))))))))))))))))))))) (fun c13 => have e15 := e11.2 c13; (aw_aload_n d_X3_write_83 rfl rfl 0 rfl (by decide)
(aw_ldcS (i := 2) (tx := "fee") d_X3_write_84 rfl (by decide +kernel) (by decide)
(aw_VV (As := [zr 61 2]) (st := []) d_X3_write_86 rfl cv3_30 ⟨Nat.le_of_ble_eq_true rfl, Nat.le_of_ble_eq_true rfl⟩ rfl rfl (Nat.le_of_ble_eq_true rfl) (Nat.le_of_ble_eq_true rfl) e15 (fun M33 e34 => (aw_aload_n d_X3_write_89 rfl rfl 0 rfl (by decide)
(aw_aload_n d_X3_write_90 rfl rfl 1 rfl (by decide)
(aw_getI (kc := 7) d_X3_write_91 rfl fl3_49 rfl rfl
(aw_VV (As := [zi (M33 1 h1 7)]) (st := []) d_X3_write_94 rfl cv3_38 ⟨Nat.le_of_ble_eq_true rfl, Nat.le_of_ble_eq_true rfl⟩ rfl rfl (Nat.le_of_ble_eq_true rfl) (Nat.le_of_ble_eq_true rfl) e34 (fun M36 e37 => (aw_aload_n d_X3_write_97 rfl rfl 1 rfl (by decide)
(aw_getI (kc := 8) d_X3_write_98 rfl fl3_53 rfl rfl
(have z39 := e37.1; have e40 := e37.2; aw_if_eq d_X3_write_101 rfl rfl z39 (fun c41 => have e43 := e40.1 c41; (aw_rv d_X3_write_127 rfl e43)) (fun c42 => have e44 := e40.2 c42; (aw_aload_n d_X3_write_104 rfl rfl 0 rfl (by decide)
(aw_ldcS (i := 3) (tx := "law") d_X3_write_105 rfl (by decide +kernel) (by decide)
(aw_VV (As := [zr 61 3]) (st := []) d_X3_write_107 rfl cv3_30 ⟨Nat.le_of_ble_eq_true rfl, Nat.le_of_ble_eq_true rfl⟩ rfl rfl (Nat.le_of_ble_eq_true rfl) (Nat.le_of_ble_eq_true rfl) e44 (fun M45 e46 => (aw_aload_n d_X3_write_110 rfl rfl 0 rfl (by decide)
(aw_bipush d_X3_write_111 rfl (by decide)
(aw_VV (As := [zi 32]) (st := []) d_X3_write_113 rfl cv3_57 ⟨Nat.le_of_ble_eq_true rfl, Nat.le_of_ble_eq_true rfl⟩ rfl rfl (Nat.le_of_ble_eq_true rfl) (Nat.le_of_ble_eq_true rfl) e46 (fun M48 e49 => (aw_aload_n d_X3_write_116 rfl rfl 0 rfl (by decide)
(aw_aload_n d_X3_write_117 rfl rfl 1 rfl (by decide)
(aw_getI (kc := 8) d_X3_write_118 rfl fl3_53 rfl rfl
(have z51 := e49.1; have e52 := e49.2; (aw_SR (As := [zi (M48 1 h1 8)]) (st := [zr 3 0]) d_X3_write_121 rfl cs3_60 ⟨Nat.le_of_ble_eq_true rfl, Nat.le_of_ble_eq_true rfl⟩ rfl rfl (Nat.le_of_ble_eq_true rfl) (Nat.le_of_ble_eq_true rfl) (s_X8_lawWord z51) (fun _ _ hq => aw_eqr hq
(aw_VV (As := [zr 61 (zlw (M48 1 h1 8))]) (st := []) d_X3_write_124 rfl cv3_64 ⟨Nat.le_of_ble_eq_true rfl, Nat.le_of_ble_eq_true rfl⟩ rfl rfl (Nat.le_of_ble_eq_true rfl) (Nat.le_of_ble_eq_true rfl) e52 (fun M53 e54 => (aw_rv d_X3_write_127 rfl e54))))))))))))))))))))))))))))))))))) (fun c7 => have e9 := e5.2 c7; (aw_aload_n d_X3_write_15 rfl rfl 0 rfl (by decide)
(aw_aload_n d_X3_write_16 rfl rfl 1 rfl (by decide)
(aw_iload_n d_X3_write_17 rfl rfl 2 rfl
(have z56 := e9.1; have e57 := e9.2; (aw_VI (As := [zi v2]) (st := [zr 3 0]) d_X3_write_18 rfl cv3_22 ⟨Nat.le_of_ble_eq_true rfl, Nat.le_of_ble_eq_true rfl⟩ rfl rfl (Nat.le_of_ble_eq_true rfl) (Nat.le_of_ble_eq_true rfl) (s_X1_isSeller z56) (fun _ _ hq => aw_eqs hq
(aw_if_eq d_X3_write_21 rfl rfl zb_I (fun c58 => have e60 := e57.1 (zb_0 c58); (aw_ldcS (i := 0) (tx := "buyer") d_X3_write_29 rfl (by decide +kernel) (by decide)
(aw_VV (As := [zr 61 0]) (st := []) d_X3_write_31 rfl cv3_30 ⟨Nat.le_of_ble_eq_true rfl, Nat.le_of_ble_eq_true rfl⟩ rfl rfl (Nat.le_of_ble_eq_true rfl) (Nat.le_of_ble_eq_true rfl) e60 (fun M62 e63 => (aw_aload_n d_X3_write_34 rfl rfl 0 rfl (by decide)
(aw_aload_n d_X3_write_35 rfl rfl 1 rfl (by decide)
(aw_iload_n d_X3_write_36 rfl rfl 2 rfl
(have z65 := e63.1; have e66 := e63.2; (aw_VI (As := [zi v2]) (st := [zr 3 0]) d_X3_write_37 rfl cv3_34 ⟨Nat.le_of_ble_eq_true rfl, Nat.le_of_ble_eq_true rfl⟩ rfl rfl (Nat.le_of_ble_eq_true rfl) (Nat.le_of_ble_eq_true rfl) (s_X1_gradeOf z65) (fun _ _ hq => aw_eqs hq
(aw_VV (As := [zi (qgr (hS M62 h1) v2)]) (st := []) d_X3_write_40 rfl cv3_38 ⟨Nat.le_of_ble_eq_true rfl, Nat.le_of_ble_eq_true rfl⟩ rfl rfl (Nat.le_of_ble_eq_true rfl) (Nat.le_of_ble_eq_true rfl) e66 (fun M67 e68 => (aw_iconst d_X3_write_43 rfl
(aw_istore_n (lv' := [(3, zi 0), (0, zr 3 0), (1, zr 1 h1), (2, zi v2)]) d_X3_write_44 rfl rfl (by decide) rfl
(aw_sub [1, 2, 3, 0] rfl e68))))))))))))))) (fun c59 => have e61 := e57.2 (zb_n0 c59); (aw_ldcS (i := 1) (tx := "seller") d_X3_write_24 rfl (by decide +kernel) (by decide)
(aw_goto d_X3_write_26 rfl
(aw_VV (As := [zr 61 1]) (st := []) d_X3_write_31 rfl cv3_30 ⟨Nat.le_of_ble_eq_true rfl, Nat.le_of_ble_eq_true rfl⟩ rfl rfl (Nat.le_of_ble_eq_true rfl) (Nat.le_of_ble_eq_true rfl) e61 (fun M70 e71 => (aw_aload_n d_X3_write_34 rfl rfl 0 rfl (by decide)
(aw_aload_n d_X3_write_35 rfl rfl 1 rfl (by decide)
(aw_iload_n d_X3_write_36 rfl rfl 2 rfl
(have z73 := e71.1; have e74 := e71.2; (aw_VI (As := [zi v2]) (st := [zr 3 0]) d_X3_write_37 rfl cv3_34 ⟨Nat.le_of_ble_eq_true rfl, Nat.le_of_ble_eq_true rfl⟩ rfl rfl (Nat.le_of_ble_eq_true rfl) (Nat.le_of_ble_eq_true rfl) (s_X1_gradeOf z73) (fun _ _ hq => aw_eqs hq
(aw_VV (As := [zi (qgr (hS M70 h1) v2)]) (st := []) d_X3_write_40 rfl cv3_38 ⟨Nat.le_of_ble_eq_true rfl, Nat.le_of_ble_eq_true rfl⟩ rfl rfl (Nat.le_of_ble_eq_true rfl) (Nat.le_of_ble_eq_true rfl) e74 (fun M75 e76 => (aw_iconst d_X3_write_43 rfl
(aw_istore_n (lv' := [(3, zi 0), (0, zr 3 0), (1, zr 1 h1), (2, zi v2)]) d_X3_write_44 rfl rfl (by decide) rfl
(aw_sub [1, 2, 3, 0] rfl e76))))))))))))))))))))))))))))
theorem vX3_write_45 {l : Launch} {P : zM → Prop} {h1 : Nat} {v2 : Int} {v3 : Int} {M : zM}
    (H0 : ((hW M h1 ∧ zI v2) ∧ (zI v3 ∧ zI (qun (hS M h1) v2) ∧ ((qun (hS M h1) v2) ≤ v3 → LX3_write_7 l P h1 (v2 + 1) M) ∧ (v3 < (qun (hS M h1) v2) → ((hW M h1 ∧ zI v2 ∧ zI v3) ∧ (CV l m_X3_putNumber [zr 3 0, zi (qsy (hS M h1) v2 v3)] M (fun M89 => LX3_write_45 l P h1 v2 (v3 + 1) M89))))))) :
    LX3_write_45 l P h1 v2 v3 M :=
(aw_iload_n d_X3_write_45 rfl rfl 3 rfl
(aw_aload_n d_X3_write_46 rfl rfl 1 rfl (by decide)
(aw_iload_n d_X3_write_47 rfl rfl 2 rfl
(have z78 := H0.1; have e79 := H0.2; (aw_VI (As := [zi v2]) (st := [zi v3]) d_X3_write_48 rfl cv3_42 ⟨Nat.le_of_ble_eq_true rfl, Nat.le_of_ble_eq_true rfl⟩ rfl rfl (Nat.le_of_ble_eq_true rfl) (Nat.le_of_ble_eq_true rfl) (s_X1_unitsOf z78) (fun _ _ hq => aw_eqs hq
(have z80 := e79.1; have z81 := e79.2.1; have e82 := e79.2.2; aw_icmp_ge d_X3_write_51 rfl rfl z80 z81 (fun c83 => have e85 := e82.1 c83; (aw_iinc (lv' := [(2, zi (v2 + 1)), (0, zr 3 0), (1, zr 1 h1), (3, zi v3)]) (y := (v2 + 1)) d_X3_write_70 rfl 2 rfl (by decide) rfl rfl
(aw_goto d_X3_write_73 rfl
(aw_sub [1, 2, 0] rfl e85)))) (fun c84 => have e86 := e82.2 c84; (aw_aload_n d_X3_write_54 rfl rfl 0 rfl (by decide)
(aw_aload_n d_X3_write_55 rfl rfl 1 rfl (by decide)
(aw_iload_n d_X3_write_56 rfl rfl 2 rfl
(aw_iload_n d_X3_write_57 rfl rfl 3 rfl
(have z87 := e86.1; have e88 := e86.2; (aw_VI (As := [zi v2, zi v3]) (st := [zr 3 0]) d_X3_write_58 rfl cv3_45 ⟨Nat.le_of_ble_eq_true rfl, Nat.le_of_ble_eq_true rfl⟩ rfl rfl (Nat.le_of_ble_eq_true rfl) (Nat.le_of_ble_eq_true rfl) (s_X1_said z87) (fun _ _ hq => aw_eqs hq
(aw_VV (As := [zi (qsy (hS M h1) v2 v3)]) (st := []) d_X3_write_61 rfl cv3_38 ⟨Nat.le_of_ble_eq_true rfl, Nat.le_of_ble_eq_true rfl⟩ rfl rfl (Nat.le_of_ble_eq_true rfl) (Nat.le_of_ble_eq_true rfl) e88 (fun M89 e90 => (aw_iinc (lv' := [(3, zi (v3 + 1)), (0, zr 3 0), (1, zr 1 h1), (2, zi v2)]) (y := (v3 + 1)) d_X3_write_64 rfl 3 rfl (by decide) rfl rfl
(aw_goto d_X3_write_67 rfl
(aw_sub [1, 2, 3, 0] rfl e90))))))))))))))))))))
theorem vX3_write {l : Launch} {P : zM → Prop} {h1 : Nat} {M : zM}
    (H0 : (∀ M1 : zM, M1 = zu M 3 0 1 0 → LX3_write_7 l P h1 0 M1)) :
    CV l m_X3_write [zr 3 0, zr 1 h1] M P :=
(aw_aload_n d_X3_write_0 rfl rfl 0 rfl (by decide)
(aw_iconst d_X3_write_1 rfl
(have e2 := H0 _ rfl; aw_put (kc := 1) d_X3_write_2 rfl fp3_15 rfl rfl rfl rfl
(aw_iconst d_X3_write_5 rfl
(aw_istore_n (lv' := [(2, zi 0), (0, zr 3 0), (1, zr 1 h1)]) d_X3_write_6 rfl rfl (by decide) rfl
(aw_sub [1, 2, 0] rfl e2))))))
theorem vX8_letter {l : Launch} {P : Int → zM → Prop} {v1 : Int} {M : zM}
    (H0 : (zI v1 ∧ ((-1) ≤ v1 → (CV l m_X3_write [zr 3 0, zr 1 0] M (fun M7 => ((v1 ≠ (-1) → (zI (M7 3 0 1) ∧ ((M7 3 0 1) ≤ v1 → P (-2) M7) ∧ (v1 < (M7 3 0 1) → (CI l m_X3_at [zr 3 0, zi v1] M7 (fun x23 M20 => P x23 M20))))) ∧ (v1 = (-1) → P (M7 3 0 1) M7))))) ∧ (v1 < (-1) → P (-1) M))) :
    CI l m_X8_letter [zr 8 0, zi v1] M P :=
(aw_iload_n d_X8_letter_0 rfl rfl 1 rfl
(aw_iconst d_X8_letter_1 rfl
(have z1 := H0.1; have e2 := H0.2; aw_icmp_ge d_X8_letter_2 rfl rfl z1 (by decide) (fun c3 => have e5 := e2.1 c3; (aw_aload_n d_X8_letter_7 rfl rfl 0 rfl (by decide)
(aw_getR (k' := 3) (a := 0) (b := 0) (j := 0) d_X8_letter_8 rfl fl8_40 rfl zj0 ⟨by decide, fun _ => by decide⟩
(aw_aload_n d_X8_letter_11 rfl rfl 0 rfl (by decide)
(aw_getR (k' := 1) (a := 0) (b := 0) (j := 0) d_X8_letter_12 rfl fl8_12 rfl zj0 ⟨by decide, fun _ => by decide⟩
(aw_VV (As := [zr 1 0]) (st := []) d_X8_letter_15 rfl cv8_341 ⟨Nat.le_of_ble_eq_true rfl, Nat.le_of_ble_eq_true rfl⟩ rfl rfl (Nat.le_of_ble_eq_true rfl) (Nat.le_of_ble_eq_true rfl) e5 (fun M7 e8 => (aw_iload_n d_X8_letter_18 rfl rfl 1 rfl
(aw_iconst d_X8_letter_19 rfl
(aw_icmp_ne d_X8_letter_20 rfl rfl z1 (by decide) (fun c10 => have e12 := e8.1 c10; (aw_iload_n d_X8_letter_31 rfl rfl 1 rfl
(aw_aload_n d_X8_letter_32 rfl rfl 0 rfl (by decide)
(aw_getR (k' := 3) (a := 0) (b := 0) (j := 0) d_X8_letter_33 rfl fl8_40 rfl zj0 ⟨by decide, fun _ => by decide⟩
(aw_getI (kc := 1) d_X8_letter_36 rfl fl8_344 rfl rfl
(have z14 := e12.1; have e15 := e12.2; aw_icmp_ge d_X8_letter_39 rfl rfl z1 z14 (fun c16 => have e18 := e15.1 c16; (aw_bipush d_X8_letter_53 rfl (by decide)
(aw_ri d_X8_letter_55 rfl e18))) (fun c17 => have e19 := e15.2 c17; (aw_aload_n d_X8_letter_42 rfl rfl 0 rfl (by decide)
(aw_getR (k' := 3) (a := 0) (b := 0) (j := 0) d_X8_letter_43 rfl fl8_40 rfl zj0 ⟨by decide, fun _ => by decide⟩
(aw_iload_n d_X8_letter_46 rfl rfl 1 rfl
(aw_VI (As := [zi v1]) (st := []) d_X8_letter_47 rfl cv8_345 ⟨Nat.le_of_ble_eq_true rfl, Nat.le_of_ble_eq_true rfl⟩ rfl rfl (Nat.le_of_ble_eq_true rfl) (Nat.le_of_ble_eq_true rfl) e19 (fun x23 M20 e21 => (aw_goto d_X8_letter_50 rfl
(aw_ri d_X8_letter_55 rfl e21)))))))))))))) (fun c11 => have e13 := e8.2 c11; (aw_aload_n d_X8_letter_23 rfl rfl 0 rfl (by decide)
(aw_getR (k' := 3) (a := 0) (b := 0) (j := 0) d_X8_letter_24 rfl fl8_40 rfl zj0 ⟨by decide, fun _ => by decide⟩
(aw_getI (kc := 1) d_X8_letter_27 rfl fl8_344 rfl rfl
(aw_ri d_X8_letter_30 rfl e13))))))))))))))) (fun c4 => have e6 := e2.2 c4; (aw_iconst d_X8_letter_5 rfl
(aw_ri d_X8_letter_6 rfl e6))))))
noncomputable def aLetter (S : zS) (k : Int) : Int := if k < -1 then -1 else if k = -1 then (tAll S).length else if k < (tAll S).length then (tAll S).getD k.toNat 0 else -2
theorem tTs_mono {S : zS} (h : okS S) {t : Nat} (ht : (t : Int) < qn S) : ∀ u : Nat, (u : Int) ≤ qun S t → (tTs S t ++ sep (tTs S t) ++ zw (if qsl S t = 1 then 1 else 0) ++ tnum (qgr S t) ++ tUn S t u).length ≤ 609 := by
  intro u hu
  simp only [List.length_append]
  have hn := h.1.1
  have h1 := tTs_len h t (by omega)
  have h2 := sep_len (tTs S t)
  have h3 := zw_l6 (c := qsl S t = 1)
  have h4 := tnum_g (v := qgr S t) (by have := h.2.1 t (by omega); omega)
  have h5 := tUn_len (S := S) (t := (t : Int)) u
  have h6 := h.1.2.1 t (by omega)
  omega
theorem c_X3_write (c : CX M S) : CV l m_X3_write [zr 3 0, zr 1 0] M (fun M' => Fr kLt M M' ∧ txR M' (tAll S)) := by
  have ok := c.2
  have hn := ok.1.1
  -- the last words
  have lawp : ∀ M' : zM, Fr kLt M M' → txR M' (tFe S) → zI (M' 1 0 8) ∧ ((M' 1 0 8) = 0 → (Fr kLt M M' ∧ txR M' (tAll S))) ∧ ((M' 1 0 8) ≠ 0 → (CV l m_X3_beginPart [zr 3 0, zr 61 3] M' (fun M22 => (CV l m_X3_put [zr 3 0, zi 32] M22 (fun M25 => (zI (M25 1 0 8) ∧ (CV l m_X3_putWord [zr 3 0, zr 61 (zlw (M25 1 0 8))] M25 (fun M30 => Fr kLt M M30 ∧ txR M30 (tAll S))))))))) := by
    intro M' f r
    have c1 := c.scr (kLt_s f)
    rw [c1.law]
    have hw := ok.2.2.2
    have hl := tFe_len ok
    refine ⟨by omega, fun e => ⟨f, by unfold tAll; rw [if_pos e]; exact r⟩, fun e => ?_⟩
    refine (c_X3_beginPart (by omega) r (by have := (zw_le (s := 3) (by omega)).2; omega)).mono ?_
    rintro M2 ⟨f2, r2⟩
    refine (c_X3_put r2 (by simp only [List.length_append]; have := sep_len (tFe S); have := (zw_le (s := 3) (by omega)).2; omega)).mono ?_
    rintro M3 ⟨f3, r3⟩
    have c3 := (c1.scr (kLt_s f2)).scr (kLt_s f3)
    rw [c3.law]
    refine ⟨by omega, (c_X3_putWord zlw_12 r3 (by simp only [List.length_append, List.length_singleton]; have := sep_len (tFe S); have := (zw_le (s := 3) (by omega)).2; have := (zw_le (zlw_12 (w := qlaw S))).2; omega)).mono ?_⟩
    rintro M4 ⟨f4, r4⟩
    refine ⟨((f.tr f2).tr f3).tr f4, ?_⟩
    unfold tAll
    rw [if_neg e]
    exact r4
  have loop : ∀ (n t : Nat) (M' : zM), (qn S - t).toNat = n → (t : Int) ≤ qn S → Fr kLt M M' → txR M' (tTs S t) → LX3_write_7 l (fun M' => Fr kLt M M' ∧ txR M' (tAll S)) 0 (t : Int) M' := by
    intro n
    induction n with
    | zero =>
      intro t M' hn' ht f r
      have c1 := c.scr (kLt_s f)
      have et : (qn S).toNat = t := by omega
      refine vX3_write_7 ?_
      rw [c1.n, c1.fee]
      have hf := ok.2.2.1
      refine ⟨by omega, by omega, fun _ => ⟨by omega, fun e => lawp M' f (by unfold tFe; rw [if_pos e, et]; exact r), fun e => ?_⟩, fun e => by omega⟩
      have hl := tTs_len ok t ht
      refine (c_X3_beginPart (by omega) r (by have := (zw_le (s := 2) (by omega)).2; omega)).mono ?_
      rintro M2 ⟨f2, r2⟩
      have c2 := c1.scr (kLt_s f2)
      rw [c2.fee]
      refine (c_X3_putNumber (by omega) r2 (by simp only [List.length_append]; have := sep_len (tTs S t); have := (zw_le (s := 2) (by omega)).2; omega)).mono ?_
      rintro M3 ⟨f3, r3⟩
      exact lawp M3 ((f.tr f2).tr f3) (by unfold tFe; rw [if_neg e, et]; exact r3)
    | succ n ih =>
      intro t M' hn' ht f r
      have c1 := c.scr (kLt_s f)
      have ht' : 0 ≤ (t : Int) ∧ (t : Int) < qn S := by omega
      have hgr := ok.2.1 t ht'
      have hu := ok.1.2.1 t ht'
      have hl := tTs_len ok t (by omega)
      refine vX3_write_7 ?_
      rw [c1.n, c1.1.2]
      have units : ∀ (m u : Nat) (M' : zM), (qun S t - u).toNat = m → (u : Int) ≤ qun S t → Fr kLt M M' → txR M' (tTs S t ++ sep (tTs S t) ++ zw (if qsl S t = 1 then 1 else 0) ++ tnum (qgr S t) ++ tUn S t u) → LX3_write_45 l (fun M' => Fr kLt M M' ∧ txR M' (tAll S)) 0 (t : Int) (u : Int) M' := by
        intro m
        induction m with
        | zero =>
          intro u M' hm hu' f r
          have c1 := c.scr (kLt_s f)
          refine vX3_write_45 ?_
          rw [c1.1.2]
          refine ⟨⟨c1.1.1, by omega⟩, by omega, by omega, fun _ => ?_, fun e => by omega⟩
          have := ih (t + 1) M' (by omega) (by omega) f (by
            rw [tTs, show (qun S t).toNat = u by omega]
            exact r)
          rw [show ((t + 1 : Nat) : Int) = (t : Int) + 1 by omega] at this
          exact this
        | succ m ihm =>
          intro u M' hm hu' f r
          have c1 := c.scr (kLt_s f)
          have hv := ok.1.2.2.1 t u ⟨ht'.1, ht'.2, by omega, by omega⟩
          refine vX3_write_45 ?_
          rw [c1.1.2]
          refine ⟨⟨c1.1.1, by omega⟩, by omega, by omega, fun e => by omega, fun _ => ⟨⟨c1.1.1, by omega, by omega⟩, ?_⟩⟩
          refine (c_X3_putNumber hv r (by have := tTs_mono ok ht'.2 u (by omega); omega)).mono ?_
          rintro M2 ⟨f2, r2⟩
          have := ihm (u + 1) M2 (by omega) (by omega) (f.tr f2) (by
            rw [tUn, ← List.append_assoc]
            exact r2)
          rw [show ((u + 1 : Nat) : Int) = (u : Int) + 1 by omega] at this
          exact this
      have after : ∀ M2 : zM, Fr kLt M' M2 → txR M2 (tTs S t ++ sep (tTs S t) ++ zw (if qsl S t = 1 then 1 else 0)) → (hW M2 0 ∧ 0 ≤ (t : Int) ∧ (t : Int) < M2 1 0 6) ∧ (CV l m_X3_putNumber [zr 3 0, zi (qgr (hS M2 0) t)] M2 (fun M3 => LX3_write_45 l (fun M' => Fr kLt M M' ∧ txR M' (tAll S)) 0 (t : Int) 0 M3)) := by
        intro M2 f2 r2
        have c2 := c1.scr (kLt_s f2)
        rw [c2.n, c2.1.2]
        refine ⟨⟨c2.1.1, ht'⟩, (c_X3_putNumber (by omega) r2 (by simp only [List.length_append]; have := sep_len (tTs S t); have := zw_l6 (c := qsl S t = 1); omega)).mono ?_⟩
        rintro M3 ⟨f3, r3⟩
        exact units _ 0 M3 rfl (by omega) ((f.tr f2).tr f3) (by rw [tUn, List.append_nil]; exact r3)
      refine ⟨by omega, by omega, fun e => by omega, fun _ => ⟨⟨c1.1.1, by omega⟩, fun e => ?_, fun e => ?_⟩⟩
      · refine (c_X3_beginPart (by omega) r (by have := (zw_le (s := 0) (by omega)).2; omega)).mono ?_
        rintro M2 ⟨f2, r2⟩
        exact after M2 f2 (by rw [if_neg e]; exact r2)
      · refine (c_X3_beginPart (by omega) r (by have := (zw_le (s := 1) (by omega)).2; omega)).mono ?_
        rintro M2 ⟨f2, r2⟩
        exact after M2 f2 (by rw [if_pos e]; exact r2)
  refine vX3_write ?_
  intro M1 q1
  refine loop _ 0 M1 rfl (by omega) (by rw [q1]; exact Fr.zu (.inl rfl)) ⟨by rw [q1, zu_at, if_pos rfl]; rfl, rwI_nil⟩
theorem q8_letter {k : Int} (c : CX M S) (zk : zI k) : CI l m_X8_letter [zr 8 0, zi k] M (fun x M' => x = aLetter S k ∧ Fr kScr M M') := by
  have hl := tAll_len c.2
  refine vX8_letter ⟨zk, fun a => ?_, fun a => ⟨by rw [aLetter, if_pos a], Fr.rf⟩⟩
  refine (c_X3_write c).mono ?_
  rintro M1 ⟨f1, r1⟩
  have F := kLt_s f1
  rw [r1.1]
  refine ⟨fun e => ⟨by omega, fun q => ⟨by rw [aLetter, if_neg (by omega), if_neg e, if_neg (by omega)], F⟩, fun q => ?_⟩, fun e => ⟨by rw [aLetter, if_neg (by omega), if_pos e], F⟩⟩
  refine vX3_at ?_
  rw [r1.1, r1.2 k (by omega)]
  exact ⟨zk, fun e2 => by omega, fun _ => ⟨by omega, fun e2 => by omega, fun _ => ⟨fun e2 => by omega, fun _ => ⟨by omega, by rw [aLetter, if_neg (by omega), if_neg e, if_pos q], F⟩⟩⟩⟩
/-! the reference spells -/
def sFr (M M' : zM) : Prop := (∀ k i, k ≠ 9 → M' k i = M k i) ∧ (∀ j, j ≠ 30 → j ≠ 32 → M' 9 0 j = M 9 0 j)
theorem sFr.rf {M : zM} : sFr M M := ⟨fun _ _ _ => rfl, fun _ _ _ => rfl⟩
theorem sFr.tr {M M1 M2 : zM} (a : sFr M M1) (b : sFr M1 M2) : sFr M M2 := ⟨fun k i h => (b.1 k i h).trans (a.1 k i h), fun j h1 h2 => (b.2 j h1 h2).trans (a.2 j h1 h2)⟩
theorem sFr.q {M M' : zM} (h : MX M S) (f : sFr M M') : mQ M M' := ⟨fun k i h1 _ => f.1 k i h1, fun j hj => f.2 j (by omega) (by omega), by rw [f.2 7 (by omega) (by omega)]; exact h.1.1.2.2.2.2.2⟩
end

