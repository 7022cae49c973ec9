/-! ===== letter, both sides ===== -/
section
variable {l : Launch} {M : zM} {S : zS}
theorem kLt_s {M M' : zM} (f : Fr kLt M M') : Fr kScr M M' := f.mono fun k q => by unfold kLt at q; unfold kScr; omega
theorem vX3_at {l : Launch} {P : Int → zM → Prop} {v1 : Int} {M : zM}
    (H0 : (zI v1 ∧ (v1 < 0 → P (-1) M) ∧ (0 ≤ v1 → (zI (M 3 0 1) ∧ ((M 3 0 1) ≤ v1 → P (-1) M) ∧ (v1 < (M 3 0 1) → ((640 ≤ v1 → P (-1) M) ∧ (v1 < 640 → ((0 ≤ v1 ∧ v1 < 640) ∧ P (M 19 0 v1) M)))))))) :
    CI l m_X3_at [zr 3 0, zi v1] M P :=
(aw_iload_n d_X3_at_0 rfl rfl 1 rfl
(have z1 := H0.1; have e2 := H0.2; aw_if_lt d_X3_at_1 rfl rfl z1 (fun c3 => have e5 := e2.1 c3; (aw_iconst d_X3_at_28 rfl
(aw_ri d_X3_at_29 rfl e5))) (fun c4 => have e6 := e2.2 c4; (aw_iload_n d_X3_at_4 rfl rfl 1 rfl
(aw_aload_n d_X3_at_5 rfl rfl 0 rfl (by decide)
(aw_getI (kc := 1) d_X3_at_6 rfl fl3_15 rfl rfl
(have z7 := e6.1; have e8 := e6.2; aw_icmp_ge d_X3_at_9 rfl rfl z1 z7 (fun c9 => have e11 := e8.1 c9; (aw_iconst d_X3_at_28 rfl
(aw_ri d_X3_at_29 rfl e11))) (fun c10 => have e12 := e8.2 c10; (aw_iload_n d_X3_at_12 rfl rfl 1 rfl
(aw_sipush d_X3_at_13 rfl (by decide)
(aw_icmp_ge d_X3_at_16 rfl rfl z1 (by decide) (fun c13 => have e15 := e12.1 c13; (aw_iconst d_X3_at_28 rfl
(aw_ri d_X3_at_29 rfl e15))) (fun c14 => have e16 := e12.2 c14; (aw_aload_n d_X3_at_19 rfl rfl 0 rfl (by decide)
(aw_getR (k' := 19) (a := 0) (b := 0) (j := 0) d_X3_at_20 rfl fl3_9 rfl zj0 ⟨by decide, fun _ => by decide⟩
(aw_iload_n d_X3_at_23 rfl rfl 1 rfl
(have z17 := e16.1; have e18 := e16.2; (aw_iald d_X3_at_24 rfl za19 z17
(aw_goto d_X3_at_25 rfl
(aw_ri d_X3_at_29 rfl e18)))))))))))))))))))
def LX3_write_7 (l : Launch) (P : zM → Prop) (h1 : Nat) (v2 : Int) (M : zM) : Prop := AW l m_X3_write (zTv m_X3_write P) 7 [(0, zr 3 0), (1, zr 1 h1), (2, zi v2)] [] M
def LX3_write_45 (l : Launch) (P : zM → Prop) (h1 : Nat) (v2 : Int) (v3 : Int) (M : zM) : Prop := AW l m_X3_write (zTv m_X3_write P) 45 [(0, zr 3 0), (1, zr 1 h1), (2, zi v2), (3, zi v3)] [] M
theorem vX3_write_7 {l : Launch} {P : zM → Prop} {h1 : Nat} {v2 : Int} {M : zM}
    (H0 : (zI v2 ∧ zI (M 1 h1 6) ∧ ((M 1 h1 6) ≤ v2 → (zI (M 1 h1 7) ∧ ((M 1 h1 7) = 0 → (zI (M 1 h1 8) ∧ ((M 1 h1 8) = 0 → P M) ∧ ((M 1 h1 8) ≠ 0 → (CV l m_X3_beginPart [zr 3 0, zr 61 3] M (fun M22 => (CV l m_X3_put [zr 3 0, zi 32] M22 (fun M25 => (zI (M25 1 h1 8) ∧ (CV l m_X3_putWord [zr 3 0, zr 61 (zlw (M25 1 h1 8))] M25 (fun M30 => P M30)))))))))) ∧ ((M 1 h1 7) ≠ 0 → (CV l m_X3_beginPart [zr 3 0, zr 61 2] M (fun M33 => (CV l m_X3_putNumber [zr 3 0, zi (M33 1 h1 7)] M33 (fun M36 => (zI (M36 1 h1 8) ∧ ((M36 1 h1 8) = 0 → P M36) ∧ ((M36 1 h1 8) ≠ 0 → (CV l m_X3_beginPart [zr 3 0, zr 61 3] M36 (fun M45 => (CV l m_X3_put [zr 3 0, zi 32] M45 (fun M48 => (zI (M48 1 h1 8) ∧ (CV l m_X3_putWord [zr 3 0, zr 61 (zlw (M48 1 h1 8))] M48 (fun M53 => P M53)))))))))))))))) ∧ (v2 < (M 1 h1 6) → ((hW M h1 ∧ zI v2) ∧ ((¬ (qsl (hS M h1) v2 = 1) → (CV l m_X3_beginPart [zr 3 0, zr 61 0] M (fun M62 => ((hW M62 h1 ∧ 0 ≤ v2 ∧ v2 < M62 1 h1 6) ∧ (CV l m_X3_putNumber [zr 3 0, zi (qgr (hS M62 h1) v2)] M62 (fun M67 => LX3_write_45 l P h1 v2 0 M67)))))) ∧ (qsl (hS M h1) v2 = 1 → (CV l m_X3_beginPart [zr 3 0, zr 61 1] M (fun M70 => ((hW M70 h1 ∧ 0 ≤ v2 ∧ v2 < M70 1 h1 6) ∧ (CV l m_X3_putNumber [zr 3 0, zi (qgr (hS M70 h1) v2)] M70 (fun M75 => LX3_write_45 l P h1 v2 0 M75))))))))))) :
    LX3_write_7 l P h1 v2 M :=
(aw_iload_n d_X3_write_7 rfl rfl 2 rfl
(aw_aload_n d_X3_write_8 rfl rfl 1 rfl (by decide)
(aw_getI (kc := 6) d_X3_write_9 rfl fl3_19 rfl rfl
(have z3 := H0.1; have z4 := H0.2.1; have e5 := H0.2.2; aw_icmp_ge d_X3_write_12 rfl rfl z3 z4 (fun c6 => have e8 := e5.1 c6; (aw_aload_n d_X3_write_76 rfl rfl 1 rfl (by decide)
(aw_getI (kc := 7) d_X3_write_77 rfl fl3_49 rfl rfl
(have z10 := e8.1; have e11 := e8.2; aw_if_eq d_X3_write_80 rfl rfl z10 (fun c12 => have e14 := e11.1 c12; (aw_aload_n d_X3_write_97 rfl rfl 1 rfl (by decide)
(aw_getI (kc := 8) d_X3_write_98 rfl fl3_53 rfl rfl
(have z16 := e14.1; have e17 := e14.2; aw_if_eq d_X3_write_101 rfl rfl z16 (fun c18 => have e20 := e17.1 c18; (aw_rv d_X3_write_127 rfl e20)) (fun c19 => have e21 := e17.2 c19; (aw_aload_n d_X3_write_104 rfl rfl 0 rfl (by decide)
(aw_ldcS (i := 3) (tx := "law") d_X3_write_105 rfl (by decide +kernel) (by decide)
(aw_VV (As := [zr 61 3]) (st := []) d_X3_write_107 rfl cv3_30 ⟨Nat.le_of_ble_eq_true rfl, Nat.le_of_ble_eq_true rfl⟩ rfl rfl (Nat.le_of_ble_eq_true rfl) (Nat.le_of_ble_eq_true rfl) e21 (fun M22 e23 => (aw_aload_n d_X3_write_110 rfl rfl 0 rfl (by decide)
(aw_bipush d_X3_write_111 rfl (by decide)
(aw_VV (As := [zi 32]) (st := []) d_X3_write_113 rfl cv3_57 ⟨Nat.le_of_ble_eq_true rfl, Nat.le_of_ble_eq_true rfl⟩ rfl rfl (Nat.le_of_ble_eq_true rfl) (Nat.le_of_ble_eq_true rfl) e23 (fun M25 e26 => (aw_aload_n d_X3_write_116 rfl rfl 0 rfl (by decide)
(aw_aload_n d_X3_write_117 rfl rfl 1 rfl (by decide)
(aw_getI (kc := 8) d_X3_write_118 rfl fl3_53 rfl rfl
(have z28 := e26.1; have e29 := e26.2; (aw_SR (As := [zi (M25 1 h1 8)]) (st := [zr 3 0]) d_X3_write_121 rfl cs3_60 ⟨Nat.le_of_ble_eq_true rfl, Nat.le_of_ble_eq_true rfl⟩ rfl rfl (Nat.le_of_ble_eq_true rfl) (Nat.le_of_ble_eq_true rfl) (s_X8_lawWord z28) (fun _ _ hq => aw_eqr hq
(aw_VV (As := [zr 61 (zlw (M25 1 h1 8))]) (st := []) d_X3_write_124 rfl cv3_64 ⟨Nat.le_of_ble_eq_true rfl, Nat.le_of_ble_eq_true rfl⟩ rfl rfl (Nat.le_of_ble_eq_true rfl) (Nat.le_of_ble_eq_true rfl) e29 (fun M30 e31 => (aw_rv d_X3_write_127 rfl e31)))))))))))))))))))))) (fun c13 => have e15 := e11.2 c13; (aw_aload_n d_X3_write_83 rfl rfl 0 rfl (by decide)
(aw_ldcS (i := 2) (tx := "fee") d_X3_write_84 rfl (by decide +kernel) (by decide)
(aw_VV (As := [zr 61 2]) (st := []) d_X3_write_86 rfl cv3_30 ⟨Nat.le_of_ble_eq_true rfl, Nat.le_of_ble_eq_true rfl⟩ rfl rfl (Nat.le_of_ble_eq_true rfl) (Nat.le_of_ble_eq_true rfl) e15 (fun M33 e34 => (aw_aload_n d_X3_write_89 rfl rfl 0 rfl (by decide)
(aw_aload_n d_X3_write_90 rfl rfl 1 rfl (by decide)
(aw_getI (kc := 7) d_X3_write_91 rfl fl3_49 rfl rfl
(aw_VV (As := [zi (M33 1 h1 7)]) (st := []) d_X3_write_94 rfl cv3_38 ⟨Nat.le_of_ble_eq_true rfl, Nat.le_of_ble_eq_true rfl⟩ rfl rfl (Nat.le_of_ble_eq_true rfl) (Nat.le_of_ble_eq_true rfl) e34 (fun M36 e37 => (aw_aload_n d_X3_write_97 rfl rfl 1 rfl (by decide)
(aw_getI (kc := 8) d_X3_write_98 rfl fl3_53 rfl rfl
(have z39 := e37.1; have e40 := e37.2; aw_if_eq d_X3_write_101 rfl rfl z39 (fun c41 => have e43 := e40.1 c41; (aw_rv d_X3_write_127 rfl e43)) (fun c42 => have e44 := e40.2 c42; (aw_aload_n d_X3_write_104 rfl rfl 0 rfl (by decide)
(aw_ldcS (i := 3) (tx := "law") d_X3_write_105 rfl (by decide +kernel) (by decide)
(aw_VV (As := [zr 61 3]) (st := []) d_X3_write_107 rfl cv3_30 ⟨Nat.le_of_ble_eq_true rfl, Nat.le_of_ble_eq_true rfl⟩ rfl rfl (Nat.le_of_ble_eq_true rfl) (Nat.le_of_ble_eq_true rfl) e44 (fun M45 e46 => (aw_aload_n d_X3_write_110 rfl rfl 0 rfl (by decide)
(aw_bipush d_X3_write_111 rfl (by decide)
(aw_VV (As := [zi 32]) (st := []) d_X3_write_113 rfl cv3_57 ⟨Nat.le_of_ble_eq_true rfl, Nat.le_of_ble_eq_true rfl⟩ rfl rfl (Nat.le_of_ble_eq_true rfl) (Nat.le_of_ble_eq_true rfl) e46 (fun M48 e49 => (aw_aload_n d_X3_write_116 rfl rfl 0 rfl (by decide)
(aw_aload_n d_X3_write_117 rfl rfl 1 rfl (by decide)
(aw_getI (kc := 8) d_X3_write_118 rfl fl3_53 rfl rfl
(have z51 := e49.1; have e52 := e49.2; (aw_SR (As := [zi (M48 1 h1 8)]) (st := [zr 3 0]) d_X3_write_121 rfl cs3_60 ⟨Nat.le_of_ble_eq_true rfl, Nat.le_of_ble_eq_true rfl⟩ rfl rfl (Nat.le_of_ble_eq_true rfl) (Nat.le_of_ble_eq_true rfl) (s_X8_lawWord z51) (fun _ _ hq => aw_eqr hq
(aw_VV (As := [zr 61 (zlw (M48 1 h1 8))]) (st := []) d_X3_write_124 rfl cv3_64 ⟨Nat.le_of_ble_eq_true rfl, Nat.le_of_ble_eq_true rfl⟩ rfl rfl (Nat.le_of_ble_eq_true rfl) (Nat.le_of_ble_eq_true rfl) e52 (fun M53 e54 => (aw_rv d_X3_write_127 rfl e54))))))))))))))))))))))))))))))))))) (fun c7 => have e9 := e5.2 c7; (aw_aload_n d_X3_write_15 rfl rfl 0 rfl (by decide)
(aw_aload_n d_X3_write_16 rfl rfl 1 rfl (by decide)
(aw_iload_n d_X3_write_17 rfl rfl 2 rfl
(have z56 := e9.1; have e57 := e9.2; (aw_VI (As := [zi v2]) (st := [zr 3 0]) d_X3_write_18 rfl cv3_22 ⟨Nat.le_of_ble_eq_true rfl, Nat.le_of_ble_eq_true rfl⟩ rfl rfl (Nat.le_of_ble_eq_true rfl) (Nat.le_of_ble_eq_true rfl) (s_X1_isSeller z56) (fun _ _ hq => aw_eqs hq
(aw_if_eq d_X3_write_21 rfl rfl zb_I (fun c58 => have e60 := e57.1 (zb_0 c58); (aw_ldcS (i := 0) (tx := "buyer") d_X3_write_29 rfl (by decide +kernel) (by decide)
(aw_VV (As := [zr 61 0]) (st := []) d_X3_write_31 rfl cv3_30 ⟨Nat.le_of_ble_eq_true rfl, Nat.le_of_ble_eq_true rfl⟩ rfl rfl (Nat.le_of_ble_eq_true rfl) (Nat.le_of_ble_eq_true rfl) e60 (fun M62 e63 => (aw_aload_n d_X3_write_34 rfl rfl 0 rfl (by decide)
(aw_aload_n d_X3_write_35 rfl rfl 1 rfl (by decide)
(aw_iload_n d_X3_write_36 rfl rfl 2 rfl
(have z65 := e63.1; have e66 := e63.2; (aw_VI (As := [zi v2]) (st := [zr 3 0]) d_X3_write_37 rfl cv3_34 ⟨Nat.le_of_ble_eq_true rfl, Nat.le_of_ble_eq_true rfl⟩ rfl rfl (Nat.le_of_ble_eq_true rfl) (Nat.le_of_ble_eq_true rfl) (s_X1_gradeOf z65) (fun _ _ hq => aw_eqs hq
(aw_VV (As := [zi (qgr (hS M62 h1) v2)]) (st := []) d_X3_write_40 rfl cv3_38 ⟨Nat.le_of_ble_eq_true rfl, Nat.le_of_ble_eq_true rfl⟩ rfl rfl (Nat.le_of_ble_eq_true rfl) (Nat.le_of_ble_eq_true rfl) e66 (fun M67 e68 => (aw_iconst d_X3_write_43 rfl
(aw_istore_n (lv' := [(3, zi 0), (0, zr 3 0), (1, zr 1 h1), (2, zi v2)]) d_X3_write_44 rfl rfl (by decide) rfl
(aw_sub [1, 2, 3, 0] rfl e68))))))))))))))) (fun c59 => have e61 := e57.2 (zb_n0 c59); (aw_ldcS (i := 1) (tx := "seller") d_X3_write_24 rfl (by decide +kernel) (by decide)
(aw_goto d_X3_write_26 rfl
(aw_VV (As := [zr 61 1]) (st := []) d_X3_write_31 rfl cv3_30 ⟨Nat.le_of_ble_eq_true rfl, Nat.le_of_ble_eq_true rfl⟩ rfl rfl (Nat.le_of_ble_eq_true rfl) (Nat.le_of_ble_eq_true rfl) e61 (fun M70 e71 => (aw_aload_n d_X3_write_34 rfl rfl 0 rfl (by decide)
(aw_aload_n d_X3_write_35 rfl rfl 1 rfl (by decide)
(aw_iload_n d_X3_write_36 rfl rfl 2 rfl
(have z73 := e71.1; have e74 := e71.2; (aw_VI (As := [zi v2]) (st := [zr 3 0]) d_X3_write_37 rfl cv3_34 ⟨Nat.le_of_ble_eq_true rfl, Nat.le_of_ble_eq_true rfl⟩ rfl rfl (Nat.le_of_ble_eq_true rfl) (Nat.le_of_ble_eq_true rfl) (s_X1_gradeOf z73) (fun _ _ hq => aw_eqs hq
(aw_VV (As := [zi (qgr (hS M70 h1) v2)]) (st := []) d_X3_write_40 rfl cv3_38 ⟨Nat.le_of_ble_eq_true rfl, Nat.le_of_ble_eq_true rfl⟩ rfl rfl (Nat.le_of_ble_eq_true rfl) (Nat.le_of_ble_eq_true rfl) e74 (fun M75 e76 => (aw_iconst d_X3_write_43 rfl
(aw_istore_n (lv' := [(3, zi 0), (0, zr 3 0), (1, zr 1 h1), (2, zi v2)]) d_X3_write_44 rfl rfl (by decide) rfl
(aw_sub [1, 2, 3, 0] rfl e76))))))))))))))))))))))))))))
theorem vX3_write_45 {l : Launch} {P : zM → Prop} {h1 : Nat} {v2 : Int} {v3 : Int} {M : zM}
    (H0 : ((hW M h1 ∧ zI v2) ∧ (zI v3 ∧ zI (qun (hS M h1) v2) ∧ ((qun (hS M h1) v2) ≤ v3 → LX3_write_7 l P h1 (v2 + 1) M) ∧ (v3 < (qun (hS M h1) v2) → ((hW M h1 ∧ zI v2 ∧ zI v3) ∧ (CV l m_X3_putNumber [zr 3 0, zi (qsy (hS M h1) v2 v3)] M (fun M89 => LX3_write_45 l P h1 v2 (v3 + 1) M89))))))) :
    LX3_write_45 l P h1 v2 v3 M :=
(aw_iload_n d_X3_write_45 rfl rfl 3 rfl
(aw_aload_n d_X3_write_46 rfl rfl 1 rfl (by decide)
(aw_iload_n d_X3_write_47 rfl rfl 2 rfl
(have z78 := H0.1; have e79 := H0.2; (aw_VI (As := [zi v2]) (st := [zi v3]) d_X3_write_48 rfl cv3_42 ⟨Nat.le_of_ble_eq_true rfl, Nat.le_of_ble_eq_true rfl⟩ rfl rfl (Nat.le_of_ble_eq_true rfl) (Nat.le_of_ble_eq_true rfl) (s_X1_unitsOf z78) (fun _ _ hq => aw_eqs hq
(have z80 := e79.1; have z81 := e79.2.1; have e82 := e79.2.2; aw_icmp_ge d_X3_write_51 rfl rfl z80 z81 (fun c83 => have e85 := e82.1 c83; (aw_iinc (lv' := [(2, zi (v2 + 1)), (0, zr 3 0), (1, zr 1 h1), (3, zi v3)]) (y := (v2 + 1)) d_X3_write_70 rfl 2 rfl (by decide) rfl rfl
(aw_goto d_X3_write_73 rfl
(aw_sub [1, 2, 0] rfl e85)))) (fun c84 => have e86 := e82.2 c84; (aw_aload_n d_X3_write_54 rfl rfl 0 rfl (by decide)
(aw_aload_n d_X3_write_55 rfl rfl 1 rfl (by decide)
(aw_iload_n d_X3_write_56 rfl rfl 2 rfl
(aw_iload_n d_X3_write_57 rfl rfl 3 rfl
(have z87 := e86.1; have e88 := e86.2; (aw_VI (As := [zi v2, zi v3]) (st := [zr 3 0]) d_X3_write_58 rfl cv3_45 ⟨Nat.le_of_ble_eq_true rfl, Nat.le_of_ble_eq_true rfl⟩ rfl rfl (Nat.le_of_ble_eq_true rfl) (Nat.le_of_ble_eq_true rfl) (s_X1_said z87) (fun _ _ hq => aw_eqs hq
(aw_VV (As := [zi (qsy (hS M h1) v2 v3)]) (st := []) d_X3_write_61 rfl cv3_38 ⟨Nat.le_of_ble_eq_true rfl, Nat.le_of_ble_eq_true rfl⟩ rfl rfl (Nat.le_of_ble_eq_true rfl) (Nat.le_of_ble_eq_true rfl) e88 (fun M89 e90 => (aw_iinc (lv' := [(3, zi (v3 + 1)), (0, zr 3 0), (1, zr 1 h1), (2, zi v2)]) (y := (v3 + 1)) d_X3_write_64 rfl 3 rfl (by decide) rfl rfl
(aw_goto d_X3_write_67 rfl
(aw_sub [1, 2, 3, 0] rfl e90))))))))))))))))))))
theorem vX3_write {l : Launch} {P : zM → Prop} {h1 : Nat} {M : zM}
    (H0 : (∀ M1 : zM, M1 = zu M 3 0 1 0 → LX3_write_7 l P h1 0 M1)) :
    CV l m_X3_write [zr 3 0, zr 1 h1] M P :=
(aw_aload_n d_X3_write_0 rfl rfl 0 rfl (by decide)
(aw_iconst d_X3_write_1 rfl
(have e2 := H0 _ rfl; aw_put (kc := 1) d_X3_write_2 rfl fp3_15 rfl rfl rfl rfl
(aw_iconst d_X3_write_5 rfl
(aw_istore_n (lv' := [(2, zi 0), (0, zr 3 0), (1, zr 1 h1)]) d_X3_write_6 rfl rfl (by decide) rfl
(aw_sub [1, 2, 0] rfl e2))))))
theorem vX8_letter {l : Launch} {P : Int → zM → Prop} {v1 : Int} {M : zM}
    (H0 : (zI v1 ∧ ((-1) ≤ v1 → (CV l m_X3_write [zr 3 0, zr 1 0] M (fun M7 => ((v1 ≠ (-1) → (zI (M7 3 0 1) ∧ ((M7 3 0 1) ≤ v1 → P (-2) M7) ∧ (v1 < (M7 3 0 1) → (CI l m_X3_at [zr 3 0, zi v1] M7 (fun x23 M20 => P x23 M20))))) ∧ (v1 = (-1) → P (M7 3 0 1) M7))))) ∧ (v1 < (-1) → P (-1) M))) :
    CI l m_X8_letter [zr 8 0, zi v1] M P :=
(aw_iload_n d_X8_letter_0 rfl rfl 1 rfl
(aw_iconst d_X8_letter_1 rfl
(have z1 := H0.1; have e2 := H0.2; aw_icmp_ge d_X8_letter_2 rfl rfl z1 (by decide) (fun c3 => have e5 := e2.1 c3; (aw_aload_n d_X8_letter_7 rfl rfl 0 rfl (by decide)
(aw_getR (k' := 3) (a := 0) (b := 0) (j := 0) d_X8_letter_8 rfl fl8_40 rfl zj0 ⟨by decide, fun _ => by decide⟩
(aw_aload_n d_X8_letter_11 rfl rfl 0 rfl (by decide)
(aw_getR (k' := 1) (a := 0) (b := 0) (j := 0) d_X8_letter_12 rfl fl8_12 rfl zj0 ⟨by decide, fun _ => by decide⟩
(aw_VV (As := [zr 1 0]) (st := []) d_X8_letter_15 rfl cv8_341 ⟨Nat.le_of_ble_eq_true rfl, Nat.le_of_ble_eq_true rfl⟩ rfl rfl (Nat.le_of_ble_eq_true rfl) (Nat.le_of_ble_eq_true rfl) e5 (fun M7 e8 => (aw_iload_n d_X8_letter_18 rfl rfl 1 rfl
(aw_iconst d_X8_letter_19 rfl
(aw_icmp_ne d_X8_letter_20 rfl rfl z1 (by decide) (fun c10 => have e12 := e8.1 c10; (aw_iload_n d_X8_letter_31 rfl rfl 1 rfl
(aw_aload_n d_X8_letter_32 rfl rfl 0 rfl (by decide)
(aw_getR (k' := 3) (a := 0) (b := 0) (j := 0) d_X8_letter_33 rfl fl8_40 rfl zj0 ⟨by decide, fun _ => by decide⟩
(aw_getI (kc := 1) d_X8_letter_36 rfl fl8_344 rfl rfl
(have z14 := e12.1; have e15 := e12.2; aw_icmp_ge d_X8_letter_39 rfl rfl z1 z14 (fun c16 => have e18 := e15.1 c16; (aw_bipush d_X8_letter_53 rfl (by decide)
(aw_ri d_X8_letter_55 rfl e18))) (fun c17 => have e19 := e15.2 c17; (aw_aload_n d_X8_letter_42 rfl rfl 0 rfl (by decide)
(aw_getR (k' := 3) (a := 0) (b := 0) (j := 0) d_X8_letter_43 rfl fl8_40 rfl zj0 ⟨by decide, fun _ => by decide⟩
(aw_iload_n d_X8_letter_46 rfl rfl 1 rfl
(aw_VI (As := [zi v1]) (st := []) d_X8_letter_47 rfl cv8_345 ⟨Nat.le_of_ble_eq_true rfl, Nat.le_of_ble_eq_true rfl⟩ rfl rfl (Nat.le_of_ble_eq_true rfl) (Nat.le_of_ble_eq_true rfl) e19 (fun x23 M20 e21 => (aw_goto d_X8_letter_50 rfl
(aw_ri d_X8_letter_55 rfl e21)))))))))))))) (fun c11 => have e13 := e8.2 c11; (aw_aload_n d_X8_letter_23 rfl rfl 0 rfl (by decide)
(aw_getR (k' := 3) (a := 0) (b := 0) (j := 0) d_X8_letter_24 rfl fl8_40 rfl zj0 ⟨by decide, fun _ => by decide⟩
(aw_getI (kc := 1) d_X8_letter_27 rfl fl8_344 rfl rfl
(aw_ri d_X8_letter_30 rfl e13))))))))))))))) (fun c4 => have e6 := e2.2 c4; (aw_iconst d_X8_letter_5 rfl
(aw_ri d_X8_letter_6 rfl e6))))))
noncomputable def aLetter (S : zS) (k : Int) : Int := if k < -1 then -1 else if k = -1 then (tAll S).length else if k < (tAll S).length then (tAll S).getD k.toNat 0 else -2
theorem tTs_mono {S : zS} (h : okS S) {t : Nat} (ht : (t : Int) < qn S) : ∀ u : Nat, (u : Int) ≤ qun S t → (tTs S t ++ sep (tTs S t) ++ zw (if qsl S t = 1 then 1 else 0) ++ tnum (qgr S t) ++ tUn S t u).length ≤ 609 := by
  intro u hu
  simp only [List.length_append]
  have hn := h.1.1
  have h1 := tTs_len h t (by omega)
  have h2 := sep_len (tTs S t)
  have h3 := zw_l6 (c := qsl S t = 1)
  have h4 := tnum_g (v := qgr S t) (by have := h.2.1 t (by omega); omega)
  have h5 := tUn_len (S := S) (t := (t : Int)) u
  have h6 := h.1.2.1 t (by omega)
  omega
theorem c_X3_write (c : CX M S) : CV l m_X3_write [zr 3 0, zr 1 0] M (fun M' => Fr kLt M M' ∧ txR M' (tAll S)) := by
  have ok := c.2
  have hn := ok.1.1
  -- the last words
  have lawp : ∀ M' : zM, Fr kLt M M' → txR M' (tFe S) → zI (M' 1 0 8) ∧ ((M' 1 0 8) = 0 → (Fr kLt M M' ∧ txR M' (tAll S))) ∧ ((M' 1 0 8) ≠ 0 → (CV l m_X3_beginPart [zr 3 0, zr 61 3] M' (fun M22 => (CV l m_X3_put [zr 3 0, zi 32] M22 (fun M25 => (zI (M25 1 0 8) ∧ (CV l m_X3_putWord [zr 3 0, zr 61 (zlw (M25 1 0 8))] M25 (fun M30 => Fr kLt M M30 ∧ txR M30 (tAll S))))))))) := by
    intro M' f r
    have c1 := c.scr (kLt_s f)
    rw [c1.law]
    have hw := ok.2.2.2
    have hl := tFe_len ok
    refine ⟨by omega, fun e => ⟨f, by unfold tAll; rw [if_pos e]; exact r⟩, fun e => ?_⟩
    refine (c_X3_beginPart (by omega) r (by have := (zw_le (s := 3) (by omega)).2; omega)).mono ?_
    rintro M2 ⟨f2, r2⟩
    refine (c_X3_put r2 (by simp only [List.length_append]; have := sep_len (tFe S); have := (zw_le (s := 3) (by omega)).2; omega)).mono ?_
    rintro M3 ⟨f3, r3⟩
    have c3 := (c1.scr (kLt_s f2)).scr (kLt_s f3)
    rw [c3.law]
    refine ⟨by omega, (c_X3_putWord zlw_12 r3 (by simp only [List.length_append, List.length_singleton]; have := sep_len (tFe S); have := (zw_le (s := 3) (by omega)).2; have := (zw_le (zlw_12 (w := qlaw S))).2; omega)).mono ?_⟩
    rintro M4 ⟨f4, r4⟩
    refine ⟨((f.tr f2).tr f3).tr f4, ?_⟩
    unfold tAll
    rw [if_neg e]
    exact r4
  have loop : ∀ (n t : Nat) (M' : zM), (qn S - t).toNat = n → (t : Int) ≤ qn S → Fr kLt M M' → txR M' (tTs S t) → LX3_write_7 l (fun M' => Fr kLt M M' ∧ txR M' (tAll S)) 0 (t : Int) M' := by
    intro n
    induction n with
    | zero =>
      intro t M' hn' ht f r
      have c1 := c.scr (kLt_s f)
      have et : (qn S).toNat = t := by omega
      refine vX3_write_7 ?_
      rw [c1.n, c1.fee]
      have hf := ok.2.2.1
      refine ⟨by omega, by omega, fun _ => ⟨by omega, fun e => lawp M' f (by unfold tFe; rw [if_pos e, et]; exact r), fun e => ?_⟩, fun e => by omega⟩
      have hl := tTs_len ok t ht
      refine (c_X3_beginPart (by omega) r (by have := (zw_le (s := 2) (by omega)).2; omega)).mono ?_
      rintro M2 ⟨f2, r2⟩
      have c2 := c1.scr (kLt_s f2)
      rw [c2.fee]
      refine (c_X3_putNumber (by omega) r2 (by simp only [List.length_append]; have := sep_len (tTs S t); have := (zw_le (s := 2) (by omega)).2; omega)).mono ?_
      rintro M3 ⟨f3, r3⟩
      exact lawp M3 ((f.tr f2).tr f3) (by unfold tFe; rw [if_neg e, et]; exact r3)
    | succ n ih =>
      intro t M' hn' ht f r
      have c1 := c.scr (kLt_s f)
      have ht' : 0 ≤ (t : Int) ∧ (t : Int) < qn S := by omega
      have hgr := ok.2.1 t ht'
      have hu := ok.1.2.1 t ht'
      have hl := tTs_len ok t (by omega)
      refine vX3_write_7 ?_
      rw [c1.n, c1.1.2]
      have units : ∀ (m u : Nat) (M' : zM), (qun S t - u).toNat = m → (u : Int) ≤ qun S t → Fr kLt M M' → txR M' (tTs S t ++ sep (tTs S t) ++ zw (if qsl S t = 1 then 1 else 0) ++ tnum (qgr S t) ++ tUn S t u) → LX3_write_45 l (fun M' => Fr kLt M M' ∧ txR M' (tAll S)) 0 (t : Int) (u : Int) M' := by
        intro m
        induction m with
        | zero =>
          intro u M' hm hu' f r
          have c1 := c.scr (kLt_s f)
          refine vX3_write_45 ?_
          rw [c1.1.2]
          refine ⟨⟨c1.1.1, by omega⟩, by omega, by omega, fun _ => ?_, fun e => by omega⟩
          have := ih (t + 1) M' (by omega) (by omega) f (by
            rw [tTs, show (qun S t).toNat = u by omega]
            exact r)
          rw [show ((t + 1 : Nat) : Int) = (t : Int) + 1 by omega] at this
          exact this
        | succ m ihm =>
          intro u M' hm hu' f r
          have c1 := c.scr (kLt_s f)
          have hv := ok.1.2.2.1 t u ⟨ht'.1, ht'.2, by omega, by omega⟩
          refine vX3_write_45 ?_
          rw [c1.1.2]
          refine ⟨⟨c1.1.1, by omega⟩, by omega, by omega, fun e => by omega, fun _ => ⟨⟨c1.1.1, by omega, by omega⟩, ?_⟩⟩
          refine (c_X3_putNumber hv r (by have := tTs_mono ok ht'.2 u (by omega); omega)).mono ?_
          rintro M2 ⟨f2, r2⟩
          have := ihm (u + 1) M2 (by omega) (by omega) (f.tr f2) (by
            rw [tUn, ← List.append_assoc]
            exact r2)
          rw [show ((u + 1 : Nat) : Int) = (u : Int) + 1 by omega] at this
          exact this
      have after : ∀ M2 : zM, Fr kLt M' M2 → txR M2 (tTs S t ++ sep (tTs S t) ++ zw (if qsl S t = 1 then 1 else 0)) → (hW M2 0 ∧ 0 ≤ (t : Int) ∧ (t : Int) < M2 1 0 6) ∧ (CV l m_X3_putNumber [zr 3 0, zi (qgr (hS M2 0) t)] M2 (fun M3 => LX3_write_45 l (fun M' => Fr kLt M M' ∧ txR M' (tAll S)) 0 (t : Int) 0 M3)) := by
        intro M2 f2 r2
        have c2 := c1.scr (kLt_s f2)
        rw [c2.n, c2.1.2]
        refine ⟨⟨c2.1.1, ht'⟩, (c_X3_putNumber (by omega) r2 (by simp only [List.length_append]; have := sep_len (tTs S t); have := zw_l6 (c := qsl S t = 1); omega)).mono ?_⟩
        rintro M3 ⟨f3, r3⟩
        exact units _ 0 M3 rfl (by omega) ((f.tr f2).tr f3) (by rw [tUn, List.append_nil]; exact r3)
      refine ⟨by omega, by omega, fun e => by omega, fun _ => ⟨⟨c1.1.1, by omega⟩, fun e => ?_, fun e => ?_⟩⟩
      · refine (c_X3_beginPart (by omega) r (by have := (zw_le (s := 0) (by omega)).2; omega)).mono ?_
        rintro M2 ⟨f2, r2⟩
        exact after M2 f2 (by rw [if_neg e]; exact r2)
      · refine (c_X3_beginPart (by omega) r (by have := (zw_le (s := 1) (by omega)).2; omega)).mono ?_
        rintro M2 ⟨f2, r2⟩
        exact after M2 f2 (by rw [if_pos e]; exact r2)
  refine vX3_write ?_
  intro M1 q1
  refine loop _ 0 M1 rfl (by omega) (by rw [q1]; exact Fr.zu (.inl rfl)) ⟨by rw [q1, zu_at, if_pos rfl]; rfl, rwI_nil⟩
theorem q8_letter {k : Int} (c : CX M S) (zk : zI k) : CI l m_X8_letter [zr 8 0, zi k] M (fun x M' => x = aLetter S k ∧ Fr kScr M M') := by
  have hl := tAll_len c.2
  refine vX8_letter ⟨zk, fun a => ?_, fun a => ⟨by rw [aLetter, if_pos a], Fr.rf⟩⟩
  refine (c_X3_write c).mono ?_
  rintro M1 ⟨f1, r1⟩
  have F := kLt_s f1
  rw [r1.1]
  refine ⟨fun e => ⟨by omega, fun q => ⟨by rw [aLetter, if_neg (by omega), if_neg e, if_neg (by omega)], F⟩, fun q => ?_⟩, fun e => ⟨by rw [aLetter, if_neg (by omega), if_pos e], F⟩⟩
  refine vX3_at ?_
  rw [r1.1, r1.2 k (by omega)]
  exact ⟨zk, fun e2 => by omega, fun _ => ⟨by omega, fun e2 => by omega, fun _ => ⟨fun e2 => by omega, fun _ => ⟨by omega, by rw [aLetter, if_neg (by omega), if_neg e, if_pos q], F⟩⟩⟩⟩
/-! the reference spells -/
def fnd (w : Int) (L : List Int) : Int := if 0 ≤ w ∧ w < (L.length : Int) then L.getD w.toNat 0 else -2
def spR (M : zM) (w : Int) (L : List Int) : Prop := M 9 0 31 = w ∧ M 9 0 30 = L.length ∧ M 9 0 32 = fnd w L
def sFr (M M' : zM) : Prop := (∀ k i, k ≠ 9 → M' k i = M k i) ∧ (∀ j, j ≠ 30 → j ≠ 32 → M' 9 0 j = M 9 0 j)
theorem sFr.rf {M : zM} : sFr M M := ⟨fun _ _ _ => rfl, fun _ _ _ => rfl⟩
theorem sFr.tr {M M1 M2 : zM} (a : sFr M M1) (b : sFr M1 M2) : sFr M M2 := ⟨fun k i h => (b.1 k i h).trans (a.1 k i h), fun j h1 h2 => (b.2 j h1 h2).trans (a.2 j h1 h2)⟩
theorem sFr.q {M M' : zM} (h : MX M S) (f : sFr M M') : mQ M M' := ⟨fun k i h1 _ => f.1 k i h1, fun j hj => f.2 j (by omega) (by omega), by rw [f.2 7 (by omega) (by omega)]; exact h.1.1.2.2.2.2.2⟩
theorem vX9_spell {l : Launch} {P : zM → Prop} {v1 : Int} {M : zM}
    (H0 : (zI (M 9 0 30) ∧ zI (M 9 0 31) ∧ ((M 9 0 30) ≠ (M 9 0 31) → (∀ M8 : zM, M8 = zu M 9 0 30 ((M 9 0 30) + 1) → P M8)) ∧ ((M 9 0 30) = (M 9 0 31) → (∀ M10 : zM, M10 = zu M 9 0 32 v1 → (∀ M12 : zM, M12 = zu M10 9 0 30 ((M10 9 0 30) + 1) → P M12))))) :
    CV l m_X9_spell [zr 9 0, zi v1] M P :=
(aw_aload_n d_X9_spell_0 rfl rfl 0 rfl (by decide)
(aw_getI (kc := 30) d_X9_spell_1 rfl fl9_306 rfl rfl
(aw_aload_n d_X9_spell_4 rfl rfl 0 rfl (by decide)
(aw_getI (kc := 31) d_X9_spell_5 rfl fl9_309 rfl rfl
(have z1 := H0.1; have z2 := H0.2.1; have e3 := H0.2.2; aw_icmp_ne d_X9_spell_8 rfl rfl z1 z2 (fun c4 => have e6 := e3.1 c4; (aw_aload_n d_X9_spell_16 rfl rfl 0 rfl (by decide)
(aw_dup d_X9_spell_17 rfl rfl
(aw_getI (kc := 30) d_X9_spell_18 rfl fl9_306 rfl rfl
(aw_iconst d_X9_spell_21 rfl
(aw_iadd d_X9_spell_22 rfl
(have e9 := e6 _ rfl; aw_put (kc := 30) d_X9_spell_23 rfl fp9_306 rfl rfl rfl rfl
(aw_rv d_X9_spell_26 rfl e9)))))))) (fun c5 => have e7 := e3.2 c5; (aw_aload_n d_X9_spell_11 rfl rfl 0 rfl (by decide)
(aw_iload_n d_X9_spell_12 rfl rfl 1 rfl
(have e11 := e7 _ rfl; aw_put (kc := 32) d_X9_spell_13 rfl fp9_312 rfl rfl rfl rfl
(aw_aload_n d_X9_spell_16 rfl rfl 0 rfl (by decide)
(aw_dup d_X9_spell_17 rfl rfl
(aw_getI (kc := 30) d_X9_spell_18 rfl fl9_306 rfl rfl
(aw_iconst d_X9_spell_21 rfl
(aw_iadd d_X9_spell_22 rfl
(have e13 := e11 _ rfl; aw_put (kc := 30) d_X9_spell_23 rfl fp9_306 rfl rfl rfl rfl
(aw_rv d_X9_spell_26 rfl e13))))))))))))))))
def LX9_spellWord_2 (l : Launch) (P : zM → Prop) (s1 : Nat) (v2 : Int) (M : zM) : Prop := AW l m_X9_spellWord (zTv m_X9_spellWord P) 2 [(0, zr 9 0), (1, zr 61 s1), (2, zi v2)] [] M
theorem vX9_spellWord_2 {l : Launch} {P : zM → Prop} {s1 : Nat} {v2 : Int} {M : zM}
    (H0 : (zI v2 ∧ zI ((zsLen.getD s1 0 : Nat) : Int) ∧ (((zsLen.getD s1 0 : Nat) : Int) ≤ v2 → P M) ∧ (v2 < ((zsLen.getD s1 0 : Nat) : Int) → ((s1 < 12 ∧ 0 ≤ v2 ∧ v2 < (zsLen.getD s1 0 : Nat)) ∧ (CV l m_X9_spell [zr 9 0, zi (zsb s1 v2)] M (fun M10 => LX9_spellWord_2 l P s1 (v2 + 1) M10)))))) :
    LX9_spellWord_2 l P s1 v2 M :=
(aw_iload_n d_X9_spellWord_2 rfl rfl 2 rfl
(aw_aload_n d_X9_spellWord_3 rfl rfl 1 rfl (by decide)
(aw_TI (As := []) (st := [zi v2]) d_X9_spellWord_4 rfl ct9_315 ⟨Nat.le_of_ble_eq_true rfl, Nat.le_of_ble_eq_true rfl⟩ rfl rfl (Nat.le_of_ble_eq_true rfl) (Nat.le_of_ble_eq_true rfl) (s_J0_length_8abf5) (fun _ _ hq => aw_eqs hq
(have z1 := H0.1; have z2 := H0.2.1; have e3 := H0.2.2; aw_icmp_ge d_X9_spellWord_7 rfl rfl z1 z2 (fun c4 => have e6 := e3.1 c4; (aw_rv d_X9_spellWord_25 rfl e6)) (fun c5 => have e7 := e3.2 c5; (aw_aload_n d_X9_spellWord_10 rfl rfl 0 rfl (by decide)
(aw_aload_n d_X9_spellWord_11 rfl rfl 1 rfl (by decide)
(aw_iload_n d_X9_spellWord_12 rfl rfl 2 rfl
(have z8 := e7.1; have e9 := e7.2; (aw_TI (As := [zi v2]) (st := [zr 9 0]) d_X9_spellWord_13 rfl ct9_320 ⟨Nat.le_of_ble_eq_true rfl, Nat.le_of_ble_eq_true rfl⟩ rfl rfl (Nat.le_of_ble_eq_true rfl) (Nat.le_of_ble_eq_true rfl) (s_J0_charAt_5068e z8) (fun _ _ hq => aw_eqs hq
(aw_VV (As := [zi (zsb s1 v2)]) (st := []) d_X9_spellWord_16 rfl cv9_324 ⟨Nat.le_of_ble_eq_true rfl, Nat.le_of_ble_eq_true rfl⟩ rfl rfl (Nat.le_of_ble_eq_true rfl) (Nat.le_of_ble_eq_true rfl) e9 (fun M10 e11 => (aw_iinc (lv' := [(2, zi (v2 + 1)), (0, zr 9 0), (1, zr 61 s1)]) (y := (v2 + 1)) d_X9_spellWord_19 rfl 2 rfl (by decide) rfl rfl
(aw_goto d_X9_spellWord_22 rfl
(aw_sub [1, 2, 0] rfl e11)))))))))))))))))
theorem vX9_spellWord {l : Launch} {P : zM → Prop} {s1 : Nat} {M : zM}
    (H0 : LX9_spellWord_2 l P s1 0 M) :
    CV l m_X9_spellWord [zr 9 0, zr 61 s1] M P :=
(aw_iconst d_X9_spellWord_0 rfl
(aw_istore_n (lv' := [(2, zi 0), (0, zr 9 0), (1, zr 61 s1)]) d_X9_spellWord_1 rfl rfl (by decide) rfl
(aw_sub [1, 2, 0] rfl H0)))
def LX9_spellNumber_2 (l : Launch) (P : zM → Prop) (v1 : Int) (v2 : Int) (M : zM) : Prop := AW l m_X9_spellNumber (zTv m_X9_spellNumber P) 2 [(0, zr 9 0), (1, zi v1), (2, zi v2)] [] M
def LX9_spellNumber_18 (l : Launch) (P : zM → Prop) (v1 : Int) (v2 : Int) (M : zM) : Prop := AW l m_X9_spellNumber (zTv m_X9_spellNumber P) 18 [(0, zr 9 0), (1, zi v1), (2, zi v2)] [] M
theorem vX9_spellNumber_2 {l : Launch} {P : zM → Prop} {v1 : Int} {v2 : Int} {M : zM}
    (H0 : (zI v1 ∧ zI v2 ∧ v2 ≠ 0 ∧ (zI (Int.tdiv v1 v2) ∧ ((Int.tdiv v1 v2) < 10 → LX9_spellNumber_18 l P v1 v2 M) ∧ (10 ≤ (Int.tdiv v1 v2) → LX9_spellNumber_2 l P v1 (v2 * 10) M)))) :
    LX9_spellNumber_2 l P v1 v2 M :=
(aw_iload_n d_X9_spellNumber_2 rfl rfl 1 rfl
(aw_iload_n d_X9_spellNumber_3 rfl rfl 2 rfl
(have z1 := H0.1; have z2 := H0.2.1; have z3 := H0.2.2.1; have e4 := H0.2.2.2; (aw_idiv d_X9_spellNumber_4 rfl z1 z2 z3
(aw_bipush d_X9_spellNumber_5 rfl (by decide)
(have z5 := e4.1; have e6 := e4.2; aw_icmp_lt d_X9_spellNumber_7 rfl rfl z5 (by decide) (fun c7 => have e9 := e6.1 c7; e9) (fun c8 => have e10 := e6.2 c8; (aw_iload_n d_X9_spellNumber_10 rfl rfl 2 rfl
(aw_bipush d_X9_spellNumber_11 rfl (by decide)
(aw_imul d_X9_spellNumber_13 rfl
(aw_istore_n (lv' := [(2, zi (v2 * 10)), (0, zr 9 0), (1, zi v1)]) d_X9_spellNumber_14 rfl rfl (by decide) rfl
(aw_goto d_X9_spellNumber_15 rfl
(aw_sub [1, 2, 0] rfl e10)))))))))))))
theorem vX9_spellNumber_18 {l : Launch} {P : zM → Prop} {v1 : Int} {v2 : Int} {M : zM}
    (H0 : (zI v2 ∧ (v2 ≤ 0 → P M) ∧ (0 < v2 → (zI v1 ∧ v2 ≠ 0 ∧ (zI (Int.tdiv v1 v2) ∧ (CV l m_X9_spell [zr 9 0, zi (48 + (Int.tmod (Int.tdiv v1 v2) 10))] M (fun M22 => LX9_spellNumber_18 l P v1 (Int.tdiv v2 10) M22))))))) :
    LX9_spellNumber_18 l P v1 v2 M :=
(aw_iload_n d_X9_spellNumber_18 rfl rfl 2 rfl
(have z11 := H0.1; have e12 := H0.2; aw_if_le d_X9_spellNumber_19 rfl rfl z11 (fun c13 => have e15 := e12.1 c13; (aw_rv d_X9_spellNumber_43 rfl e15)) (fun c14 => have e16 := e12.2 c14; (aw_aload_n d_X9_spellNumber_22 rfl rfl 0 rfl (by decide)
(aw_bipush d_X9_spellNumber_23 rfl (by decide)
(aw_iload_n d_X9_spellNumber_25 rfl rfl 1 rfl
(aw_iload_n d_X9_spellNumber_26 rfl rfl 2 rfl
(have z17 := e16.1; have z18 := e16.2.1; have e19 := e16.2.2; (aw_idiv d_X9_spellNumber_27 rfl z17 z11 z18
(aw_bipush d_X9_spellNumber_28 rfl (by decide)
(have z20 := e19.1; have e21 := e19.2; (aw_irem d_X9_spellNumber_30 rfl z20 (by decide) (by decide)
(aw_iadd d_X9_spellNumber_31 rfl
(aw_VV (As := [zi (48 + (Int.tmod (Int.tdiv v1 v2) 10))]) (st := []) d_X9_spellNumber_32 rfl cv9_324 ⟨Nat.le_of_ble_eq_true rfl, Nat.le_of_ble_eq_true rfl⟩ rfl rfl (Nat.le_of_ble_eq_true rfl) (Nat.le_of_ble_eq_true rfl) e21 (fun M22 e23 => (aw_iload_n d_X9_spellNumber_35 rfl rfl 2 rfl
(aw_bipush d_X9_spellNumber_36 rfl (by decide)
(aw_idiv d_X9_spellNumber_38 rfl z11 (by decide) (by decide)
(aw_istore_n (lv' := [(2, zi (Int.tdiv v2 10)), (0, zr 9 0), (1, zi v1)]) d_X9_spellNumber_39 rfl rfl (by decide) rfl
(aw_goto d_X9_spellNumber_40 rfl
(aw_sub [1, 2, 0] rfl e23)))))))))))))))))))))
theorem vX9_spellNumber {l : Launch} {P : zM → Prop} {v1 : Int} {M : zM}
    (H0 : LX9_spellNumber_2 l P v1 1 M) :
    CV l m_X9_spellNumber [zr 9 0, zi v1] M P :=
(aw_iconst d_X9_spellNumber_0 rfl
(aw_istore_n (lv' := [(2, zi 1), (0, zr 9 0), (1, zi v1)]) d_X9_spellNumber_1 rfl rfl (by decide) rfl
(aw_sub [1, 2, 0] rfl H0)))
theorem vX9_parts {l : Launch} {P : zM → Prop}  {M : zM}
    (H0 : (zI (M 9 0 30) ∧ ((M 9 0 30) ≤ 0 → P M) ∧ (0 < (M 9 0 30) → (CV l m_X9_spell [zr 9 0, zi 59] M (fun M7 => P M7))))) :
    CV l m_X9_parts [zr 9 0] M P :=
(aw_aload_n d_X9_parts_0 rfl rfl 0 rfl (by decide)
(aw_getI (kc := 30) d_X9_parts_1 rfl fl9_306 rfl rfl
(have z1 := H0.1; have e2 := H0.2; aw_if_le d_X9_parts_4 rfl rfl z1 (fun c3 => have e5 := e2.1 c3; (aw_rv d_X9_parts_13 rfl e5)) (fun c4 => have e6 := e2.2 c4; (aw_aload_n d_X9_parts_7 rfl rfl 0 rfl (by decide)
(aw_bipush d_X9_parts_8 rfl (by decide)
(aw_VV (As := [zi 59]) (st := []) d_X9_parts_10 rfl cv9_324 ⟨Nat.le_of_ble_eq_true rfl, Nat.le_of_ble_eq_true rfl⟩ rfl rfl (Nat.le_of_ble_eq_true rfl) (Nat.le_of_ble_eq_true rfl) e6 (fun M7 e8 => (aw_rv d_X9_parts_13 rfl e8)))))))))
theorem vX9_lawWord {l : Launch} {P : Nat → zM → Prop} {v0 : Int} {M : zM}
    (H0 : (zI v0 ∧ (v0 = 0 → P 4 M) ∧ (v0 = 1 → P 5 M) ∧ (v0 = 2 → P 6 M) ∧ ((v0 < 0 ∨ 2 < v0) → P 7 M))) :
    CR l m_X9_lawWord 61 [zi v0] M P :=
(aw_iload_n d_X9_lawWord_0 rfl rfl 0 rfl
(have z1 := H0.1; have e2 := H0.2; aw_table (offs := [27, 31, 35]) d_X9_lawWord_1 rfl z1 rfl ⟨fun c3 => ⟨28, rfl, have e4 := e2.1 c3; (aw_ldcSw (i := 4) (tx := "cut") d_X9_lawWord_28 rfl (by decide +kernel) (by decide)
(aw_rr d_X9_lawWord_31 rfl (by decide) e4))⟩, ⟨fun c5 => ⟨32, rfl, have e6 := e2.2.1 c5; (aw_ldcSw (i := 5) (tx := "middle") d_X9_lawWord_32 rfl (by decide +kernel) (by decide)
(aw_rr d_X9_lawWord_35 rfl (by decide) e6))⟩, ⟨fun c7 => ⟨36, rfl, have e8 := e2.2.2.1 c7; (aw_ldcSw (i := 6) (tx := "less") d_X9_lawWord_36 rfl (by decide +kernel) (by decide)
(aw_rr d_X9_lawWord_39 rfl (by decide) e8))⟩, trivial⟩⟩⟩ (fun c9 => have e10 := e2.2.2.2 c9; (aw_ldcSw (i := 7) (tx := "apart") d_X9_lawWord_40 rfl (by decide +kernel) (by decide)
(aw_rr d_X9_lawWord_43 rfl (by decide) e10)))))
theorem c_X9_spell {L : List Int} {w c : Int} (r : spR M w L) (hl : L.length < 1000) (zw' : zI w) : CV l m_X9_spell [zr 9 0, zi c] M (fun M' => sFr M M' ∧ spR M' w (L ++ [c])) := by
  obtain ⟨r1, r2, r3⟩ := r
  refine vX9_spell ?_
  rw [r1, r2]
  refine ⟨by omega, zw', fun e M1 q1 => ?_, fun e M1 q1 M2 q2 => ?_⟩
  · refine ⟨⟨fun k i hk => by rw [q1, zu_k hk], fun j h1 _ => by rw [q1, zu_at, if_neg h1]⟩, by rw [q1, zu_at, if_neg (by decide), r1], by rw [q1, zu_at, if_pos rfl, List.length_append]; simp, ?_⟩
    rw [q1, zu_at, if_neg (by decide), r3]
    unfold fnd
    rw [List.length_append, List.length_singleton, app_at]
    by_cases h : 0 ≤ w ∧ w < (L.length : Int)
    · rw [if_pos h, if_pos (by omega), if_pos (by omega)]
    · rw [if_neg h, if_neg (by omega)]
  · have e30 : M1 9 0 30 = L.length := by rw [q1, zu_at, if_neg (by decide), r2]
    rw [e30] at q2
    refine ⟨⟨fun k i hk => by rw [q2, zu_k hk, q1, zu_k hk], fun j h1 h2 => by rw [q2, zu_at, if_neg h1, q1, zu_at, if_neg h2]⟩, by rw [q2, zu_at, if_neg (by decide), q1, zu_at, if_neg (by decide), r1], by rw [q2, zu_at, if_pos rfl, List.length_append]; simp, ?_⟩
    rw [q2, zu_at, if_neg (by decide), q1, zu_at, if_pos rfl]
    unfold fnd
    rw [List.length_append, List.length_singleton, app_at, if_pos (by omega), if_neg (by omega), if_pos (by omega)]
theorem c_X9_spellWord {L : List Int} {w : Int} {s : Nat} (hs : s < 12) (r : spR M w L) (hl : L.length + (zw s).length ≤ 1000) (zw' : zI w) : CV l m_X9_spellWord [zr 9 0, zr 61 s] M (fun M' => sFr M M' ∧ spR M' w (L ++ zw s)) := by
  have hw := zw_le hs
  have loop : ∀ (n j : Nat) (M' : zM), (zw s).length - j = n → j ≤ (zw s).length → sFr M M' → spR M' w (L ++ (zw s).take j) → LX9_spellWord_2 l (fun M' => sFr M M' ∧ spR M' w (L ++ zw s)) s (j : Int) M' := by
    intro n
    induction n with
    | zero =>
      intro j M' hn hj f r
      have : j = (zw s).length := by omega
      subst this
      rw [List.take_length] at r
      exact vX9_spellWord_2 ⟨by omega, by omega, fun _ => ⟨f, r⟩, fun e => by omega⟩
    | succ n ih =>
      intro j M' hn hj f r
      refine vX9_spellWord_2 ⟨by omega, by omega, fun e => by omega, fun _ => ⟨⟨hs, by omega, by omega⟩, ?_⟩⟩
      refine (c_X9_spell r (by rw [List.length_append, List.length_take]; omega) zw').mono ?_
      rintro M2 ⟨f2, r2⟩
      have := ih (j + 1) M2 (by omega) (by omega) (f.tr f2) (by
        have ht := take_at (L := zw s) (j := (j : Int)) (by omega)
        rw [show ((j : Int) + 1).toNat = j + 1 by omega, show ((j : Int)).toNat = j by omega] at ht
        rw [ht, ← List.append_assoc]
        rw [zw_at, show ((j : Int)).toNat = j by omega] at r2
        exact r2)
      rw [show ((j + 1 : Nat) : Int) = (j : Int) + 1 by omega] at this
      exact this
  exact vX9_spellWord (loop _ 0 M rfl (by omega) sFr.rf (by simpa using r))
theorem c_X9_parts {L : List Int} {w : Int} (r : spR M w L) (hl : L.length < 1000) (zw' : zI w) : CV l m_X9_parts [zr 9 0] M (fun M' => sFr M M' ∧ spR M' w (L ++ sep L)) := by
  refine vX9_parts ?_
  rw [r.2.1]
  refine ⟨by omega, fun e => ?_, fun e => ?_⟩
  · have : L = [] := List.length_eq_zero_iff.mp (by omega)
    subst this
    exact ⟨sFr.rf, r⟩
  · have hne : L ≠ [] := by intro q; rw [q] at e; simp at e
    refine (c_X9_spell r hl zw').mono ?_
    rintro M1 ⟨f1, r1⟩
    rw [sep, if_neg hne]
    exact ⟨f1, r1⟩
theorem c_X9_spellNumber {L : List Int} {w v : Int} (hv : 0 ≤ v ∧ v ≤ 9999) (r : spR M w L) (hl : L.length + 4 ≤ 1000) (zw' : zI w) : CV l m_X9_spellNumber [zr 9 0, zi v] M (fun M' => sFr M M' ∧ spR M' w (L ++ dgF v (top v))) := by
  have down : ∀ (k : Nat) (M' : zM) (L' : List Int), k ≤ 3 → L'.length + k + 1 ≤ 1000 → sFr M M' → spR M' w L' → (∀ M2, sFr M M2 → spR M2 w (L' ++ dgF v k) → sFr M M2 ∧ spR M2 w (L ++ dgF v (top v))) → LX9_spellNumber_18 l (fun M' => sFr M M' ∧ spR M' w (L ++ dgF v (top v))) v (ten k) M' := by
    intro k
    induction k with
    | zero =>
      intro M' L' hk hl' f r kk
      have tb := ten_b (k := 0) (by omega)
      have hd : 0 ≤ v / ten 0 ∧ v / ten 0 ≤ v := ⟨Int.ediv_nonneg hv.1 (by omega), Int.ediv_le_self _ hv.1⟩
      refine vX9_spellNumber_18 ⟨by omega, fun e => by omega, fun _ => ⟨by omega, by omega, by rw [tdiv_n hv.1]; omega, ?_⟩⟩
      rw [tdiv_n hv.1, tmod_n hd.1]
      refine (c_X9_spell r (by omega) zw').mono ?_
      rintro M2 ⟨f2, r2⟩
      refine vX9_spellNumber_18 ⟨by rw [ten_v.1]; decide, fun _ => kk M2 (f.tr f2) r2, fun e => absurd e (by rw [ten_v.1]; decide)⟩
    | succ k ih =>
      intro M' L' hk hl' f r kk
      have tb := ten_b (k := k + 1) hk
      have tb2 := ten_b (k := k) (by omega)
      have hd : 0 ≤ v / ten (k + 1) ∧ v / ten (k + 1) ≤ v := ⟨Int.ediv_nonneg hv.1 (by omega), Int.ediv_le_self _ hv.1⟩
      refine vX9_spellNumber_18 ⟨by omega, fun e => by omega, fun _ => ⟨by omega, by omega, by rw [tdiv_n hv.1]; omega, ?_⟩⟩
      rw [tdiv_n hv.1, tmod_n hd.1]
      have et : Int.tdiv (ten (k + 1)) 10 = ten k := by rw [tdiv_n (by omega), ten]; omega
      rw [et]
      refine (c_X9_spell r (by omega) zw').mono ?_
      rintro M2 ⟨f2, r2⟩
      refine ih M2 _ (by omega) (by rw [List.length_append]; simp; omega) (f.tr f2) r2 (fun M3 f3 r3 => kk M3 f3 ?_)
      rw [dgF]
      rw [List.append_assoc] at r3
      exact r3
  have up : ∀ (n k : Nat), 3 - k = n → k ≤ top v → LX9_spellNumber_2 l (fun M' => sFr M M' ∧ spR M' w (L ++ dgF v (top v))) v (ten k) M := by
    intro n
    have t3 := top_3 v
    have tv := ten_v
    induction n with
    | zero =>
      intro k hn hk
      have tb := ten_b (k := k) (by omega)
      have hk3 : k = 3 := by omega
      have et : top v = k := by omega
      have hd : 0 ≤ v / ten k ∧ v / ten k ≤ v := ⟨Int.ediv_nonneg hv.1 (by omega), Int.ediv_le_self _ hv.1⟩
      refine vX9_spellNumber_2 ⟨by omega, by omega, by omega, by rw [tdiv_n hv.1]; omega, fun _ => down k M L (by omega) (by omega) sFr.rf r (fun M2 f2 r2 => ⟨f2, by rw [et]; exact r2⟩), fun e => ?_⟩
      rw [tdiv_n hv.1, hk3, tv.2.2.2] at e
      omega
    | succ n ih =>
      intro k hn hk
      have tb := ten_b (k := k) (by omega)
      have hd : 0 ≤ v / ten k ∧ v / ten k ≤ v := ⟨Int.ediv_nonneg hv.1 (by omega), Int.ediv_le_self _ hv.1⟩
      refine vX9_spellNumber_2 ⟨by omega, by omega, by omega, by rw [tdiv_n hv.1]; omega, fun e => ?_, fun e => ?_⟩
      · have et : top v = k := by
          rw [tdiv_n hv.1] at e
          have hk3 : k = 0 ∨ k = 1 ∨ k = 2 := by omega
          unfold top at hk ⊢
          rcases hk3 with rfl | rfl | rfl
          · rw [tv.1] at e; rw [if_pos (by omega)]
          · rw [tv.2.1] at e
            by_cases q : v < 10
            · rw [if_pos q] at hk; omega
            · rw [if_neg q, if_pos (by omega)]
          · rw [tv.2.2.1] at e
            by_cases q : v < 10
            · rw [if_pos q] at hk; omega
            · by_cases q2 : v < 100
              · rw [if_neg q, if_pos q2] at hk; omega
              · rw [if_neg q, if_neg q2, if_pos (by omega)]
        exact down k M L (by omega) (by omega) sFr.rf r (fun M2 f2 r2 => ⟨f2, by rw [et]; exact r2⟩)
      · have hlt : k + 1 ≤ top v := by
          rw [tdiv_n hv.1] at e
          have hk3 : k = 0 ∨ k = 1 ∨ k = 2 := by omega
          unfold top
          rcases hk3 with rfl | rfl | rfl
          · rw [tv.1] at e; rw [if_neg (by omega)]; split <;> first | omega | (split <;> omega)
          · rw [tv.2.1] at e; rw [if_neg (by omega), if_neg (by omega)]; split <;> omega
          · rw [tv.2.2.1] at e; rw [if_neg (by omega), if_neg (by omega), if_neg (by omega)]; omega
        exact ih (k + 1) (by omega) hlt
  exact vX9_spellNumber (up _ 0 rfl (by omega))
theorem c_X9_lawWord {w : Int} (hw : 0 ≤ w ∧ w ≤ 3) : CR l m_X9_lawWord 61 [zi w] M (fun x M' => x = zlw w ∧ M' = M) :=
  vX9_lawWord ⟨by omega, fun e => ⟨by subst e; rfl, rfl⟩, fun e => ⟨by subst e; rfl, rfl⟩, fun e => ⟨by subst e; rfl, rfl⟩, fun e => ⟨(by rw [show w = 3 by omega]; rfl), rfl⟩⟩
def LX9_spellTrader_37 (l : Launch) (P : zM → Prop) (v1 : Int) (v2 : Int) (M : zM) : Prop := AW l m_X9_spellTrader (zTv m_X9_spellTrader P) 37 [(0, zr 9 0), (1, zi v1), (2, zi v2)] [] M
theorem vX9_spellTrader_37 {l : Launch} {P : zM → Prop} {v1 : Int} {v2 : Int} {M : zM}
    (H0 : ((0 ≤ 9 * v1 + 2 ∧ 9 * v1 + 2 < 187) ∧ (zI v2 ∧ zI (M 27 0 (9 * v1 + 2)) ∧ ((M 27 0 (9 * v1 + 2)) ≤ v2 → P M) ∧ (v2 < (M 27 0 (9 * v1 + 2)) → (CV l m_X9_spell [zr 9 0, zi 32] M (fun M35 => ((0 ≤ 9 * v1 + (3 + v2) ∧ 9 * v1 + (3 + v2) < 187) ∧ (CV l m_X9_spellNumber [zr 9 0, zi (M35 27 0 (9 * v1 + (3 + v2)))] M35 (fun M40 => LX9_spellTrader_37 l P v1 (v2 + 1) M40))))))))) :
    LX9_spellTrader_37 l P v1 v2 M :=
(aw_iload_n d_X9_spellTrader_37 rfl rfl 2 rfl
(aw_aload_n d_X9_spellTrader_38 rfl rfl 0 rfl (by decide)
(aw_iload_n d_X9_spellTrader_39 rfl rfl 1 rfl
(aw_iconst d_X9_spellTrader_40 rfl
(have z26 := H0.1; have e27 := H0.2; (aw_VI (As := [zi v1, zi 2]) (st := [zi v2]) d_X9_spellTrader_41 rfl cv9_88 ⟨Nat.le_of_ble_eq_true rfl, Nat.le_of_ble_eq_true rfl⟩ rfl rfl (Nat.le_of_ble_eq_true rfl) (Nat.le_of_ble_eq_true rfl) (s_X9_of z26) (fun _ _ hq => aw_eqs hq
(have z28 := e27.1; have z29 := e27.2.1; have e30 := e27.2.2; aw_icmp_ge d_X9_spellTrader_44 rfl rfl z28 z29 (fun c31 => have e33 := e30.1 c31; (aw_rv d_X9_spellTrader_71 rfl e33)) (fun c32 => have e34 := e30.2 c32; (aw_aload_n d_X9_spellTrader_47 rfl rfl 0 rfl (by decide)
(aw_bipush d_X9_spellTrader_48 rfl (by decide)
(aw_VV (As := [zi 32]) (st := []) d_X9_spellTrader_50 rfl cv9_324 ⟨Nat.le_of_ble_eq_true rfl, Nat.le_of_ble_eq_true rfl⟩ rfl rfl (Nat.le_of_ble_eq_true rfl) (Nat.le_of_ble_eq_true rfl) e34 (fun M35 e36 => (aw_aload_n d_X9_spellTrader_53 rfl rfl 0 rfl (by decide)
(aw_aload_n d_X9_spellTrader_54 rfl rfl 0 rfl (by decide)
(aw_iload_n d_X9_spellTrader_55 rfl rfl 1 rfl
(aw_iconst d_X9_spellTrader_56 rfl
(aw_iload_n d_X9_spellTrader_57 rfl rfl 2 rfl
(aw_iadd d_X9_spellTrader_58 rfl
(have z38 := e36.1; have e39 := e36.2; (aw_VI (As := [zi v1, zi (3 + v2)]) (st := [zr 9 0]) d_X9_spellTrader_59 rfl cv9_88 ⟨Nat.le_of_ble_eq_true rfl, Nat.le_of_ble_eq_true rfl⟩ rfl rfl (Nat.le_of_ble_eq_true rfl) (Nat.le_of_ble_eq_true rfl) (s_X9_of z38) (fun _ _ hq => aw_eqs hq
(aw_VV (As := [zi (M35 27 0 (9 * v1 + (3 + v2)))]) (st := []) d_X9_spellTrader_62 rfl cv9_346 ⟨Nat.le_of_ble_eq_true rfl, Nat.le_of_ble_eq_true rfl⟩ rfl rfl (Nat.le_of_ble_eq_true rfl) (Nat.le_of_ble_eq_true rfl) e39 (fun M40 e41 => (aw_iinc (lv' := [(2, zi (v2 + 1)), (0, zr 9 0), (1, zi v1)]) (y := (v2 + 1)) d_X9_spellTrader_65 rfl 2 rfl (by decide) rfl rfl
(aw_goto d_X9_spellTrader_68 rfl
(aw_sub [1, 2, 0] rfl e41)))))))))))))))))))))))))))
theorem vX9_spellTrader {l : Launch} {P : zM → Prop} {v1 : Int} {M : zM}
    (H0 : (CV l m_X9_parts [zr 9 0] M (fun M1 => (((0 ≤ v1 ∧ v1 < 20) ∧ (M1 27 0 (9 * v1) = 0 ∨ M1 27 0 (9 * v1) = 1)) ∧ ((¬ (M1 27 0 (9 * v1) = 1) → (CV l m_X9_spellWord [zr 9 0, zr 61 8] M1 (fun M10 => ((0 ≤ 9 * v1 + 1 ∧ 9 * v1 + 1 < 187) ∧ (CV l m_X9_spellNumber [zr 9 0, zi (M10 27 0 (9 * v1 + 1))] M10 (fun M15 => LX9_spellTrader_37 l P v1 0 M15)))))) ∧ (M1 27 0 (9 * v1) = 1 → (CV l m_X9_spellWord [zr 9 0, zr 61 9] M1 (fun M18 => ((0 ≤ 9 * v1 + 1 ∧ 9 * v1 + 1 < 187) ∧ (CV l m_X9_spellNumber [zr 9 0, zi (M18 27 0 (9 * v1 + 1))] M18 (fun M23 => LX9_spellTrader_37 l P v1 0 M23))))))))))) :
    CV l m_X9_spellTrader [zr 9 0, zi v1] M P :=
(aw_aload_n d_X9_spellTrader_0 rfl rfl 0 rfl (by decide)
(aw_VV (As := []) (st := []) d_X9_spellTrader_1 rfl cv9_335 ⟨Nat.le_of_ble_eq_true rfl, Nat.le_of_ble_eq_true rfl⟩ rfl rfl (Nat.le_of_ble_eq_true rfl) (Nat.le_of_ble_eq_true rfl) H0 (fun M1 e2 => (aw_aload_n d_X9_spellTrader_4 rfl rfl 0 rfl (by decide)
(aw_aload_n d_X9_spellTrader_5 rfl rfl 0 rfl (by decide)
(aw_iload_n d_X9_spellTrader_6 rfl rfl 1 rfl
(have z4 := e2.1; have e5 := e2.2; (aw_VI (As := [zi v1]) (st := [zr 9 0]) d_X9_spellTrader_7 rfl cv9_122 ⟨Nat.le_of_ble_eq_true rfl, Nat.le_of_ble_eq_true rfl⟩ rfl rfl (Nat.le_of_ble_eq_true rfl) (Nat.le_of_ble_eq_true rfl) (s_X9_sells z4) (fun _ _ hq => aw_eqs hq
(aw_if_eq d_X9_spellTrader_10 rfl rfl zb_I (fun c6 => have e8 := e5.1 (zb_0 c6); (aw_ldcSw (i := 8) (tx := "buyer ") d_X9_spellTrader_19 rfl (by decide +kernel) (by decide)
(aw_VV (As := [zr 61 8]) (st := []) d_X9_spellTrader_22 rfl cv9_342 ⟨Nat.le_of_ble_eq_true rfl, Nat.le_of_ble_eq_true rfl⟩ rfl rfl (Nat.le_of_ble_eq_true rfl) (Nat.le_of_ble_eq_true rfl) e8 (fun M10 e11 => (aw_aload_n d_X9_spellTrader_25 rfl rfl 0 rfl (by decide)
(aw_aload_n d_X9_spellTrader_26 rfl rfl 0 rfl (by decide)
(aw_iload_n d_X9_spellTrader_27 rfl rfl 1 rfl
(aw_iconst d_X9_spellTrader_28 rfl
(have z13 := e11.1; have e14 := e11.2; (aw_VI (As := [zi v1, zi 1]) (st := [zr 9 0]) d_X9_spellTrader_29 rfl cv9_88 ⟨Nat.le_of_ble_eq_true rfl, Nat.le_of_ble_eq_true rfl⟩ rfl rfl (Nat.le_of_ble_eq_true rfl) (Nat.le_of_ble_eq_true rfl) (s_X9_of z13) (fun _ _ hq => aw_eqs hq
(aw_VV (As := [zi (M10 27 0 (9 * v1 + 1))]) (st := []) d_X9_spellTrader_32 rfl cv9_346 ⟨Nat.le_of_ble_eq_true rfl, Nat.le_of_ble_eq_true rfl⟩ rfl rfl (Nat.le_of_ble_eq_true rfl) (Nat.le_of_ble_eq_true rfl) e14 (fun M15 e16 => (aw_iconst d_X9_spellTrader_35 rfl
(aw_istore_n (lv' := [(2, zi 0), (0, zr 9 0), (1, zi v1)]) d_X9_spellTrader_36 rfl rfl (by decide) rfl
(aw_sub [1, 2, 0] rfl e16)))))))))))))))) (fun c7 => have e9 := e5.2 (zb_n0 c7); (aw_ldcSw (i := 9) (tx := "seller ") d_X9_spellTrader_13 rfl (by decide +kernel) (by decide)
(aw_goto d_X9_spellTrader_16 rfl
(aw_VV (As := [zr 61 9]) (st := []) d_X9_spellTrader_22 rfl cv9_342 ⟨Nat.le_of_ble_eq_true rfl, Nat.le_of_ble_eq_true rfl⟩ rfl rfl (Nat.le_of_ble_eq_true rfl) (Nat.le_of_ble_eq_true rfl) e9 (fun M18 e19 => (aw_aload_n d_X9_spellTrader_25 rfl rfl 0 rfl (by decide)
(aw_aload_n d_X9_spellTrader_26 rfl rfl 0 rfl (by decide)
(aw_iload_n d_X9_spellTrader_27 rfl rfl 1 rfl
(aw_iconst d_X9_spellTrader_28 rfl
(have z21 := e19.1; have e22 := e19.2; (aw_VI (As := [zi v1, zi 1]) (st := [zr 9 0]) d_X9_spellTrader_29 rfl cv9_88 ⟨Nat.le_of_ble_eq_true rfl, Nat.le_of_ble_eq_true rfl⟩ rfl rfl (Nat.le_of_ble_eq_true rfl) (Nat.le_of_ble_eq_true rfl) (s_X9_of z21) (fun _ _ hq => aw_eqs hq
(aw_VV (As := [zi (M18 27 0 (9 * v1 + 1))]) (st := []) d_X9_spellTrader_32 rfl cv9_346 ⟨Nat.le_of_ble_eq_true rfl, Nat.le_of_ble_eq_true rfl⟩ rfl rfl (Nat.le_of_ble_eq_true rfl) (Nat.le_of_ble_eq_true rfl) e22 (fun M23 e24 => (aw_iconst d_X9_spellTrader_35 rfl
(aw_istore_n (lv' := [(2, zi 0), (0, zr 9 0), (1, zi v1)]) d_X9_spellTrader_36 rfl rfl (by decide) rfl
(aw_sub [1, 2, 0] rfl e24)))))))))))))))))))))))))))
def LX9_spellAll_13 (l : Launch) (P : zM → Prop) (v1 : Int) (M : zM) : Prop := AW l m_X9_spellAll (zTv m_X9_spellAll P) 13 [(0, zr 9 0), (1, zi v1)] [] M
theorem vX9_spellAll_13 {l : Launch} {P : zM → Prop} {v1 : Int} {M : zM}
    (H0 : (zI v1 ∧ zI (M 27 0 180) ∧ ((M 27 0 180) ≤ v1 → (zI (M 27 0 181) ∧ ((M 27 0 181) ≤ 0 → (zI (M 27 0 182) ∧ ((M 27 0 182) ≠ 0 → (CV l m_X9_parts [zr 9 0] M (fun M24 => (CV l m_X9_spellWord [zr 9 0, zr 61 11] M24 (fun M27 => (CR l m_X9_lawWord 61 [zi (M27 27 0 182)] M27 (fun (x33 : Nat) M30 => (CV l m_X9_spellWord [zr 9 0, zr 61 x33] M30 (fun M34 => P M34))))))))) ∧ ((M 27 0 182) = 0 → P M))) ∧ (0 < (M 27 0 181) → (CV l m_X9_parts [zr 9 0] M (fun M37 => (CV l m_X9_spellWord [zr 9 0, zr 61 10] M37 (fun M40 => (CV l m_X9_spellNumber [zr 9 0, zi (M40 27 0 181)] M40 (fun M43 => (zI (M43 27 0 182) ∧ ((M43 27 0 182) ≠ 0 → (CV l m_X9_parts [zr 9 0] M43 (fun M52 => (CV l m_X9_spellWord [zr 9 0, zr 61 11] M52 (fun M55 => (CR l m_X9_lawWord 61 [zi (M55 27 0 182)] M55 (fun (x61 : Nat) M58 => (CV l m_X9_spellWord [zr 9 0, zr 61 x61] M58 (fun M62 => P M62))))))))) ∧ ((M43 27 0 182) = 0 → P M43))))))))))) ∧ (v1 < (M 27 0 180) → (CV l m_X9_spellTrader [zr 9 0, zi v1] M (fun M65 => LX9_spellAll_13 l P (v1 + 1) M65))))) :
    LX9_spellAll_13 l P v1 M :=
(aw_iload_n d_X9_spellAll_13 rfl rfl 1 rfl
(aw_aload_n d_X9_spellAll_14 rfl rfl 0 rfl (by decide)
(aw_VI (As := []) (st := [zi v1]) d_X9_spellAll_15 rfl cv9_78 ⟨Nat.le_of_ble_eq_true rfl, Nat.le_of_ble_eq_true rfl⟩ rfl rfl (Nat.le_of_ble_eq_true rfl) (Nat.le_of_ble_eq_true rfl) (s_X9_traders) (fun _ _ hq => aw_eqs hq
(have z5 := H0.1; have z6 := H0.2.1; have e7 := H0.2.2; aw_icmp_ge d_X9_spellAll_18 rfl rfl z5 z6 (fun c8 => have e10 := e7.1 c8; (aw_aload_n d_X9_spellAll_32 rfl rfl 0 rfl (by decide)
(aw_getR (k' := 27) (a := 0) (b := 0) (j := 0) d_X9_spellAll_33 rfl fl9_7 rfl zj0 ⟨by decide, fun _ => by decide⟩
(aw_sipush d_X9_spellAll_36 rfl (by decide)
(aw_iald d_X9_spellAll_39 rfl za27 (by decide)
(have z12 := e10.1; have e13 := e10.2; aw_if_le d_X9_spellAll_40 rfl rfl z12 (fun c14 => have e16 := e13.1 c14; (aw_aload_n d_X9_spellAll_66 rfl rfl 0 rfl (by decide)
(aw_getR (k' := 27) (a := 0) (b := 0) (j := 0) d_X9_spellAll_67 rfl fl9_7 rfl zj0 ⟨by decide, fun _ => by decide⟩
(aw_sipush d_X9_spellAll_70 rfl (by decide)
(aw_iald d_X9_spellAll_73 rfl za27 (by decide)
(have z18 := e16.1; have e19 := e16.2; aw_if_ne d_X9_spellAll_74 rfl rfl z18 (fun c20 => have e22 := e19.1 c20; (aw_aload_n d_X9_spellAll_78 rfl rfl 0 rfl (by decide)
(aw_VV (As := []) (st := []) d_X9_spellAll_79 rfl cv9_335 ⟨Nat.le_of_ble_eq_true rfl, Nat.le_of_ble_eq_true rfl⟩ rfl rfl (Nat.le_of_ble_eq_true rfl) (Nat.le_of_ble_eq_true rfl) e22 (fun M24 e25 => (aw_aload_n d_X9_spellAll_82 rfl rfl 0 rfl (by decide)
(aw_ldcSw (i := 11) (tx := "law ") d_X9_spellAll_83 rfl (by decide +kernel) (by decide)
(aw_VV (As := [zr 61 11]) (st := []) d_X9_spellAll_86 rfl cv9_342 ⟨Nat.le_of_ble_eq_true rfl, Nat.le_of_ble_eq_true rfl⟩ rfl rfl (Nat.le_of_ble_eq_true rfl) (Nat.le_of_ble_eq_true rfl) e25 (fun M27 e28 => (aw_aload_n d_X9_spellAll_89 rfl rfl 0 rfl (by decide)
(aw_aload_n d_X9_spellAll_90 rfl rfl 0 rfl (by decide)
(aw_getR (k' := 27) (a := 0) (b := 0) (j := 0) d_X9_spellAll_91 rfl fl9_7 rfl zj0 ⟨by decide, fun _ => by decide⟩
(aw_sipush d_X9_spellAll_94 rfl (by decide)
(aw_iald d_X9_spellAll_97 rfl za27 (by decide)
(aw_SR (As := [zi (M27 27 0 182)]) (st := [zr 9 0]) d_X9_spellAll_98 rfl cs9_356 ⟨Nat.le_of_ble_eq_true rfl, Nat.le_of_ble_eq_true rfl⟩ rfl rfl (Nat.le_of_ble_eq_true rfl) (Nat.le_of_ble_eq_true rfl) e28 (fun x33 M30 e31 => (aw_VV (As := [zr 61 x33]) (st := []) d_X9_spellAll_101 rfl cv9_342 ⟨Nat.le_of_ble_eq_true rfl, Nat.le_of_ble_eq_true rfl⟩ rfl rfl (Nat.le_of_ble_eq_true rfl) (Nat.le_of_ble_eq_true rfl) e31 (fun M34 e35 => (aw_rv d_X9_spellAll_104 rfl e35)))))))))))))))))) (fun c21 => have e23 := e19.2 c21; (aw_rv d_X9_spellAll_77 rfl e23)))))))) (fun c15 => have e17 := e13.2 c15; (aw_aload_n d_X9_spellAll_43 rfl rfl 0 rfl (by decide)
(aw_VV (As := []) (st := []) d_X9_spellAll_44 rfl cv9_335 ⟨Nat.le_of_ble_eq_true rfl, Nat.le_of_ble_eq_true rfl⟩ rfl rfl (Nat.le_of_ble_eq_true rfl) (Nat.le_of_ble_eq_true rfl) e17 (fun M37 e38 => (aw_aload_n d_X9_spellAll_47 rfl rfl 0 rfl (by decide)
(aw_ldcSw (i := 10) (tx := "fee ") d_X9_spellAll_48 rfl (by decide +kernel) (by decide)
(aw_VV (As := [zr 61 10]) (st := []) d_X9_spellAll_51 rfl cv9_342 ⟨Nat.le_of_ble_eq_true rfl, Nat.le_of_ble_eq_true rfl⟩ rfl rfl (Nat.le_of_ble_eq_true rfl) (Nat.le_of_ble_eq_true rfl) e38 (fun M40 e41 => (aw_aload_n d_X9_spellAll_54 rfl rfl 0 rfl (by decide)
(aw_aload_n d_X9_spellAll_55 rfl rfl 0 rfl (by decide)
(aw_getR (k' := 27) (a := 0) (b := 0) (j := 0) d_X9_spellAll_56 rfl fl9_7 rfl zj0 ⟨by decide, fun _ => by decide⟩
(aw_sipush d_X9_spellAll_59 rfl (by decide)
(aw_iald d_X9_spellAll_62 rfl za27 (by decide)
(aw_VV (As := [zi (M40 27 0 181)]) (st := []) d_X9_spellAll_63 rfl cv9_346 ⟨Nat.le_of_ble_eq_true rfl, Nat.le_of_ble_eq_true rfl⟩ rfl rfl (Nat.le_of_ble_eq_true rfl) (Nat.le_of_ble_eq_true rfl) e41 (fun M43 e44 => (aw_aload_n d_X9_spellAll_66 rfl rfl 0 rfl (by decide)
(aw_getR (k' := 27) (a := 0) (b := 0) (j := 0) d_X9_spellAll_67 rfl fl9_7 rfl zj0 ⟨by decide, fun _ => by decide⟩
(aw_sipush d_X9_spellAll_70 rfl (by decide)
(aw_iald d_X9_spellAll_73 rfl za27 (by decide)
(have z46 := e44.1; have e47 := e44.2; aw_if_ne d_X9_spellAll_74 rfl rfl z46 (fun c48 => have e50 := e47.1 c48; (aw_aload_n d_X9_spellAll_78 rfl rfl 0 rfl (by decide)
(aw_VV (As := []) (st := []) d_X9_spellAll_79 rfl cv9_335 ⟨Nat.le_of_ble_eq_true rfl, Nat.le_of_ble_eq_true rfl⟩ rfl rfl (Nat.le_of_ble_eq_true rfl) (Nat.le_of_ble_eq_true rfl) e50 (fun M52 e53 => (aw_aload_n d_X9_spellAll_82 rfl rfl 0 rfl (by decide)
(aw_ldcSw (i := 11) (tx := "law ") d_X9_spellAll_83 rfl (by decide +kernel) (by decide)
(aw_VV (As := [zr 61 11]) (st := []) d_X9_spellAll_86 rfl cv9_342 ⟨Nat.le_of_ble_eq_true rfl, Nat.le_of_ble_eq_true rfl⟩ rfl rfl (Nat.le_of_ble_eq_true rfl) (Nat.le_of_ble_eq_true rfl) e53 (fun M55 e56 => (aw_aload_n d_X9_spellAll_89 rfl rfl 0 rfl (by decide)
(aw_aload_n d_X9_spellAll_90 rfl rfl 0 rfl (by decide)
(aw_getR (k' := 27) (a := 0) (b := 0) (j := 0) d_X9_spellAll_91 rfl fl9_7 rfl zj0 ⟨by decide, fun _ => by decide⟩
(aw_sipush d_X9_spellAll_94 rfl (by decide)
(aw_iald d_X9_spellAll_97 rfl za27 (by decide)
(aw_SR (As := [zi (M55 27 0 182)]) (st := [zr 9 0]) d_X9_spellAll_98 rfl cs9_356 ⟨Nat.le_of_ble_eq_true rfl, Nat.le_of_ble_eq_true rfl⟩ rfl rfl (Nat.le_of_ble_eq_true rfl) (Nat.le_of_ble_eq_true rfl) e56 (fun x61 M58 e59 => (aw_VV (As := [zr 61 x61]) (st := []) d_X9_spellAll_101 rfl cv9_342 ⟨Nat.le_of_ble_eq_true rfl, Nat.le_of_ble_eq_true rfl⟩ rfl rfl (Nat.le_of_ble_eq_true rfl) (Nat.le_of_ble_eq_true rfl) e59 (fun M62 e63 => (aw_rv d_X9_spellAll_104 rfl e63)))))))))))))))))) (fun c49 => have e51 := e47.2 c49; (aw_rv d_X9_spellAll_77 rfl e51)))))))))))))))))))))))))))) (fun c9 => have e11 := e7.2 c9; (aw_aload_n d_X9_spellAll_21 rfl rfl 0 rfl (by decide)
(aw_iload_n d_X9_spellAll_22 rfl rfl 1 rfl
(aw_VV (As := [zi v1]) (st := []) d_X9_spellAll_23 rfl cv9_349 ⟨Nat.le_of_ble_eq_true rfl, Nat.le_of_ble_eq_true rfl⟩ rfl rfl (Nat.le_of_ble_eq_true rfl) (Nat.le_of_ble_eq_true rfl) e11 (fun M65 e66 => (aw_iinc (lv' := [(1, zi (v1 + 1)), (0, zr 9 0)]) (y := (v1 + 1)) d_X9_spellAll_26 rfl 1 rfl (by decide) rfl rfl
(aw_goto d_X9_spellAll_29 rfl
(aw_sub [1, 0] rfl e66)))))))))))))
theorem vX9_spellAll {l : Launch} {P : zM → Prop}  {M : zM}
    (H0 : (∀ M1 : zM, M1 = zu M 9 0 30 0 → (∀ M3 : zM, M3 = zu M1 9 0 32 (-2) → LX9_spellAll_13 l P 0 M3))) :
    CV l m_X9_spellAll [zr 9 0] M P :=
(aw_aload_n d_X9_spellAll_0 rfl rfl 0 rfl (by decide)
(aw_iconst d_X9_spellAll_1 rfl
(have e2 := H0 _ rfl; aw_put (kc := 30) d_X9_spellAll_2 rfl fp9_306 rfl rfl rfl rfl
(aw_aload_n d_X9_spellAll_5 rfl rfl 0 rfl (by decide)
(aw_bipush d_X9_spellAll_6 rfl (by decide)
(have e4 := e2 _ rfl; aw_put (kc := 32) d_X9_spellAll_8 rfl fp9_312 rfl rfl rfl rfl
(aw_iconst d_X9_spellAll_11 rfl
(aw_istore_n (lv' := [(1, zi 0), (0, zr 9 0)]) d_X9_spellAll_12 rfl rfl (by decide) rfl
(aw_sub [1, 0] rfl e4)))))))))
theorem vX9_letter {l : Launch} {P : Int → zM → Prop} {v1 : Int} {M : zM}
    (H0 : (zI v1 ∧ ((-1) ≤ v1 → (∀ M7 : zM, M7 = zu M 9 0 31 v1 → (CV l m_X9_spellAll [zr 9 0] M7 (fun M9 => ((v1 ≠ (-1) → P (M9 9 0 32) M9) ∧ (v1 = (-1) → P (M9 9 0 30) M9)))))) ∧ (v1 < (-1) → P (-1) M))) :
    CI l m_X9_letter [zr 9 0, zi v1] M P :=
(aw_iload_n d_X9_letter_0 rfl rfl 1 rfl
(aw_iconst d_X9_letter_1 rfl
(have z1 := H0.1; have e2 := H0.2; aw_icmp_ge d_X9_letter_2 rfl rfl z1 (by decide) (fun c3 => have e5 := e2.1 c3; (aw_aload_n d_X9_letter_7 rfl rfl 0 rfl (by decide)
(aw_iload_n d_X9_letter_8 rfl rfl 1 rfl
(have e8 := e5 _ rfl; aw_put (kc := 31) d_X9_letter_9 rfl fp9_309 rfl rfl rfl rfl
(aw_aload_n d_X9_letter_12 rfl rfl 0 rfl (by decide)
(aw_VV (As := []) (st := []) d_X9_letter_13 rfl cv9_360 ⟨Nat.le_of_ble_eq_true rfl, Nat.le_of_ble_eq_true rfl⟩ rfl rfl (Nat.le_of_ble_eq_true rfl) (Nat.le_of_ble_eq_true rfl) e8 (fun M9 e10 => (aw_iload_n d_X9_letter_16 rfl rfl 1 rfl
(aw_iconst d_X9_letter_17 rfl
(aw_icmp_ne d_X9_letter_18 rfl rfl z1 (by decide) (fun c12 => have e14 := e10.1 c12; (aw_aload_n d_X9_letter_28 rfl rfl 0 rfl (by decide)
(aw_getI (kc := 32) d_X9_letter_29 rfl fl9_312 rfl rfl
(aw_ri d_X9_letter_32 rfl e14)))) (fun c13 => have e15 := e10.2 c13; (aw_aload_n d_X9_letter_21 rfl rfl 0 rfl (by decide)
(aw_getI (kc := 30) d_X9_letter_22 rfl fl9_306 rfl rfl
(aw_goto d_X9_letter_25 rfl
(aw_ri d_X9_letter_32 rfl e15))))))))))))))) (fun c4 => have e6 := e2.2 c4; (aw_iconst d_X9_letter_5 rfl
(aw_ri d_X9_letter_6 rfl e6))))))
theorem c_X9_spellTrader {t : Nat} {w : Int} (h : MX M S) (ht : (t : Int) < qn S) (r : spR M w (tTs S t)) (zw' : zI w) : CV l m_X9_spellTrader [zr 9 0, zi (t : Int)] M (fun M' => sFr M M' ∧ spR M' w (tTs S (t + 1))) := by
  have ok := h.ok
  have hn := ok.1.1
  have ht' : 0 ≤ (t : Int) ∧ (t : Int) < qn S := by omega
  have hl := tTs_len ok t (by omega)
  have hu := ok.1.2.1 t ht'
  have hgr := ok.2.1 t ht'
  have htr : 0 ≤ (t : Int) ∧ (t : Int) < qn (rS M) := by rw [h.1.2]; exact ht'
  have esl : M 27 0 (9 * (t : Int)) = qsl S t := by rw [← rS_sl htr, h.1.2]
  have egr : M 27 0 (9 * (t : Int) + 1) = qgr S t := by rw [← rS_gr htr, h.1.2]
  have eun : M 27 0 (9 * (t : Int) + 2) = qun S t := by rw [← rS_un htr, h.1.2]
  have esy : ∀ u : Int, 0 ≤ u ∧ u < qun S t → M 27 0 (9 * (t : Int) + (3 + u)) = qsy S t u := fun u hu => by rw [← rS_sy (M := M) (t := (t : Int)) (u := u) (by rw [h.1.2]; exact ⟨ht'.1, ht'.2, hu.1, hu.2⟩), h.1.2]
  have units : ∀ (m u : Nat) (M' : zM), (qun S t - u).toNat = m → (u : Int) ≤ qun S t → sFr M M' → spR M' w (tTs S t ++ sep (tTs S t) ++ zw (if qsl S t = 1 then 1 else 0) ++ tnum (qgr S t) ++ tUn S t u) → LX9_spellTrader_37 l (fun M' => sFr M M' ∧ spR M' w (tTs S (t + 1))) (t : Int) (u : Int) M' := by
    intro m
    induction m with
    | zero =>
      intro u M' hm hu' f r
      refine vX9_spellTrader_37 ?_
      rw [f.1 27 0 (by decide), eun]
      refine ⟨by omega, by omega, by omega, fun _ => ⟨f, ?_⟩, fun e => by omega⟩
      rw [tTs, show (qun S t).toNat = u by omega]
      exact r
    | succ m ihm =>
      intro u M' hm hu' f r
      have hv := ok.1.2.2.1 t u ⟨ht'.1, ht'.2, by omega, by omega⟩
      have hlen := tTs_mono ok ht'.2 u (by omega)
      refine vX9_spellTrader_37 ?_
      rw [f.1 27 0 (by decide), eun]
      refine ⟨by omega, by omega, by omega, fun e => by omega, fun _ => (c_X9_spell r (by omega) zw').mono ?_⟩
      rintro M2 ⟨f2, r2⟩
      rw [(f.tr f2).1 27 0 (by decide), esy u (by omega)]
      refine ⟨by omega, (c_X9_spellNumber hv r2 (by rw [List.length_append, List.length_singleton]; omega) zw').mono ?_⟩
      rintro M3 ⟨f3, r3⟩
      have := ihm (u + 1) M3 (by omega) (by omega) ((f.tr f2).tr f3) (by
        rw [tUn, ← List.append_assoc]
        rw [List.append_assoc _ [32]] at r3
        exact r3)
      rw [show ((u + 1 : Nat) : Int) = (u : Int) + 1 by omega] at this
      exact this
  have z2 := zw_2
  have after : ∀ (M2 : zM) (s : Nat), s < 2 → s = (if qsl S t = 1 then 1 else 0) → sFr M M2 → spR M2 w (tTs S t ++ sep (tTs S t) ++ (zw s ++ [32])) → (0 ≤ 9 * (t : Int) + 1 ∧ 9 * (t : Int) + 1 < 187) ∧ (CV l m_X9_spellNumber [zr 9 0, zi (M2 27 0 (9 * (t : Int) + 1))] M2 (fun M3 => LX9_spellTrader_37 l (fun M' => sFr M M' ∧ spR M' w (tTs S (t + 1))) (t : Int) 0 M3)) := by
    intro M2 s hs2 hs f2 r2
    rw [f2.1 27 0 (by decide), egr]
    have hz := (zw_le (s := s) (by omega)).2
    refine ⟨by omega, (c_X9_spellNumber (by omega) r2 (by simp only [List.length_append, List.length_singleton]; have := sep_len (tTs S t); omega) zw').mono ?_⟩
    rintro M3 ⟨f3, r3⟩
    refine units _ 0 M3 rfl (by omega) (f2.tr f3) ?_
    rw [tUn, List.append_nil, ← hs, tnum]
    rw [← List.append_assoc (tTs S t ++ sep (tTs S t)), List.append_assoc _ [32]] at r3
    exact r3
  refine vX9_spellTrader ((c_X9_parts r (by omega) zw').mono ?_)
  rintro M1 ⟨f1, r1⟩
  rw [f1.1 27 0 (by decide), esl]
  have hsep := sep_len (tTs S t)
  have sl01 : qsl S t = 0 ∨ qsl S t = 1 := by rw [← esl]; exact h.1.1.sl htr
  refine ⟨⟨by omega, sl01⟩, fun e => ?_, fun e => ?_⟩
  · refine (c_X9_spellWord (s := 8) (by omega) r1 (by rw [List.length_append]; have := (zw_le (s := 8) (by omega)).2; omega) zw').mono ?_
    rintro M2 ⟨f2, r2⟩
    rw [z2.1] at r2
    exact after M2 0 (by omega) (by rw [if_neg e]) (f1.tr f2) r2
  · refine (c_X9_spellWord (s := 9) (by omega) r1 (by rw [List.length_append]; have := (zw_le (s := 9) (by omega)).2; omega) zw').mono ?_
    rintro M2 ⟨f2, r2⟩
    rw [z2.2.1] at r2
    exact after M2 1 (by omega) (by rw [if_pos e]) (f1.tr f2) r2
theorem c_X9_spellAll {w : Int} (h : MX M S) (ew : M 9 0 31 = w) (zw' : zI w) : CV l m_X9_spellAll [zr 9 0] M (fun M' => sFr M M' ∧ spR M' w (tAll S)) := by
  have ok := h.ok
  have hn := ok.1.1
  have z2 := zw_2
  have lawp : ∀ M' : zM, sFr M M' → spR M' w (tFe S) → zI (M' 27 0 182) ∧ ((M' 27 0 182) ≠ 0 → (CV l m_X9_parts [zr 9 0] M' (fun M24 => (CV l m_X9_spellWord [zr 9 0, zr 61 11] M24 (fun M27 => (CR l m_X9_lawWord 61 [zi (M27 27 0 182)] M27 (fun (x33 : Nat) M30 => (CV l m_X9_spellWord [zr 9 0, zr 61 x33] M30 (fun M34 => sFr M M34 ∧ spR M34 w (tAll S)))))))))) ∧ ((M' 27 0 182) = 0 → (sFr M M' ∧ spR M' w (tAll S))) := by
    intro M' f r
    have el : ∀ M', sFr M M' → M' 27 0 182 = qlaw S := fun M' f => by rw [f.1 27 0 (by decide)]; exact h.law
    rw [el M' f]
    have hw := ok.2.2.2
    have hl := tFe_len ok
    have hsep := sep_len (tFe S)
    refine ⟨by omega, fun e => ?_, fun e => ⟨f, by unfold tAll; rw [if_pos e]; exact r⟩⟩
    refine (c_X9_parts r (by omega) zw').mono ?_
    rintro M2 ⟨f2, r2⟩
    refine (c_X9_spellWord (s := 11) (by omega) r2 (by rw [List.length_append]; have := (zw_le (s := 11) (by omega)).2; omega) zw').mono ?_
    rintro M3 ⟨f3, r3⟩
    have F3 := (f.tr f2).tr f3
    rw [el M3 F3]
    refine (c_X9_lawWord hw).mono ?_
    rintro x M4 ⟨rfl, rfl⟩
    refine (c_X9_spellWord zlw_12 r3 (by rw [List.length_append, List.length_append]; have := (zw_le (s := 11) (by omega)).2; have := (zw_le (zlw_12 (w := qlaw S))).2; omega) zw').mono ?_
    rintro M5 ⟨f5, r5⟩
    refine ⟨F3.tr f5, ?_⟩
    unfold tAll
    rw [if_neg e]
    rw [z2.2.2.2, ← List.append_assoc (tFe S ++ sep (tFe S))] at r5
    exact r5
  have loop : ∀ (n t : Nat) (M' : zM), (qn S - t).toNat = n → (t : Int) ≤ qn S → sFr M M' → spR M' w (tTs S t) → LX9_spellAll_13 l (fun M' => sFr M M' ∧ spR M' w (tAll S)) (t : Int) M' := by
    intro n
    induction n with
    | zero =>
      intro t M' hn' ht f r
      have e180 : M' 27 0 180 = qn S := by rw [f.1 27 0 (by decide)]; exact h.n
      have e181 : ∀ M', sFr M M' → M' 27 0 181 = qfee S := fun M' f => by rw [f.1 27 0 (by decide)]; exact h.fee
      have et : (qn S).toNat = t := by omega
      have hf := ok.2.2.1
      have hl := tTs_len ok t ht
      have hsep := sep_len (tTs S t)
      refine vX9_spellAll_13 ?_
      rw [e180, e181 M' f]
      refine ⟨by omega, by omega, fun _ => ⟨by omega, fun e => lawp M' f (by unfold tFe; rw [if_pos (by omega), et]; exact r), fun e => ?_⟩, fun e => by omega⟩
      refine (c_X9_parts r (by omega) zw').mono ?_
      rintro M2 ⟨f2, r2⟩
      refine (c_X9_spellWord (s := 10) (by omega) r2 (by rw [List.length_append]; have := (zw_le (s := 10) (by omega)).2; omega) zw').mono ?_
      rintro M3 ⟨f3, r3⟩
      have F3 := (f.tr f2).tr f3
      rw [e181 M3 F3]
      refine (c_X9_spellNumber (by omega) r3 (by rw [List.length_append, List.length_append]; have := (zw_le (s := 10) (by omega)).2; omega) zw').mono ?_
      rintro M4 ⟨f4, r4⟩
      refine lawp M4 (F3.tr f4) ?_
      unfold tFe
      rw [if_neg (by omega), et, tnum]
      rw [z2.2.2.1, ← List.append_assoc (tTs S t ++ sep (tTs S t)), List.append_assoc _ [32]] at r4
      exact r4
    | succ n ih =>
      intro t M' hn' ht f r
      have e180 : M' 27 0 180 = qn S := by rw [f.1 27 0 (by decide)]; exact h.n
      have hx := h.q (f.q h)
      refine vX9_spellAll_13 ?_
      rw [e180]
      refine ⟨by omega, by omega, fun e => by omega, fun _ => (c_X9_spellTrader hx (by omega) r zw').mono ?_⟩
      rintro M2 ⟨f2, r2⟩
      have := ih (t + 1) M2 (by omega) (by omega) (f.tr f2) r2
      rw [show ((t + 1 : Nat) : Int) = (t : Int) + 1 by omega] at this
      exact this
  refine vX9_spellAll ?_
  intro M1 q1 M2 q2
  refine loop _ 0 M2 rfl (by omega) ⟨fun k i hk => by rw [q2, zu_k hk, q1, zu_k hk], fun j h1 h2 => by rw [q2, zu_at, if_neg h2, q1, zu_at, if_neg h1]⟩ ⟨by rw [q2, zu_at, if_neg (by decide), q1, zu_at, if_neg (by decide), ew], by rw [q2, zu_at, if_neg (by decide), q1, zu_at, if_pos rfl]; rfl, ?_⟩
  rw [q2, zu_at, if_pos rfl]
  unfold fnd
  rw [if_neg (by intro q; have := q.2; simp [tTs] at this; omega)]
theorem q9_letter {k : Int} (h : MX M S) (zk : zI k) : CI l m_X9_letter [zr 9 0, zi k] M (fun x M' => x = aLetter S k ∧ mQ M M') := by
  refine vX9_letter ⟨zk, fun a => ?_, fun a => ⟨by rw [aLetter, if_pos a], mQ.rf h⟩⟩
  intro M1 q1
  have f1 : mQ M M1 := ⟨fun k i h1 _ => by rw [q1, zu_k h1], fun j hj => by rw [q1, zu_at, if_neg (by omega)], by rw [q1, zu_at, if_neg (by decide)]; exact h.1.1.2.2.2.2.2⟩
  have hx := h.q f1
  refine (c_X9_spellAll (w := k) hx (by rw [q1, zu_at, if_pos rfl]) zk).mono ?_
  rintro M2 ⟨f2, r2⟩
  have F := f1.tr (f2.q hx)
  refine ⟨fun e => ⟨?_, F⟩, fun e => ⟨?_, F⟩⟩
  · rw [r2.2.2, aLetter, if_neg (by omega), if_neg e]
    unfold fnd
    by_cases c : k < ((tAll S).length : Int)
    · rw [if_pos (by omega), if_pos c]
    · rw [if_neg (by omega), if_neg c]
  · rw [r2.2.1, aLetter, if_neg (by omega), if_pos e]
end
