/-! ===== the reference: what a trader pays, gains, what the hall takes ===== -/
section
variable {l : Launch} {M : zM}
theorem rG_t {M : zM} {t : Int} (hg : hb (M 9 0 5) t = false) : rG M (qgr (rS M) t) t := ⟨rfl, hg⟩
theorem c_done {t w g : Int} (rc : RC M) (ht : 0 ≤ t ∧ t < qn (rS M)) (h : mLd M (rB M g) (rA M g) (qfee (rS M))) (hd : mDn M (rB M g) (rA M g) (qfee (rS M)) w) :
    CI l m_X9_doneOf [zr 9 0, zi t] M (fun x M' => x = cnt (if qsl (rS M) t = 1 then rA M g else rB M g) t (dN (rB M g) (rA M g) (qfee (rS M)) w) ∧ M' = M) := by
  have ok := rc.ok
  have hn := rc.2.1.1
  have hl := dN_l (B := rB M g) (A := rA M g) (f := qfee (rS M)) (w := w)
  refine (c_X9_doneOf h (gd_m ok) hd (by omega) (fun x hx => ?_) (fun x hx => ?_)).mono ?_
  · obtain ⟨t', u, c, rfl⟩ := ((mB_ok ok).2 x).mp hx
    have h1 := ok.rng c.1
    rw [(kB_d h1).1]
    omega
  · obtain ⟨t', u, c, rfl⟩ := ((mA_ok ok).2 x).mp hx
    have h1 := ok.rng c.1
    rw [(kA_d h1).1]
    omega
  · rintro x M' ⟨rfl, rfl⟩
    refine ⟨?_, rfl⟩
    by_cases c : qsl (rS M') t = 1
    · rw [if_pos c, cnt2_A (noB ok (fun q => q.2.2 c)) hl.1]
    · rw [if_neg c, cnt2_B (noA ok (fun q => c q.2.2)) hl.2]
theorem vX9_dealOf {l : Launch} {P : Int → zM → Prop} {v1 : Int} {v2 : Int} {M : zM}
    (H0 : (CI l m_X9_doneOf [zr 9 0, zi v1] M (fun x4 M1 => (zI v2 ∧ (v2 = 3 → ((0 ≤ 9 * v1 + 1 ∧ 9 * v1 + 1 < 187) ∧ (CI l m_X9_worthOf [zr 9 0, zi (zshl 1 (M1 27 0 (9 * v1 + 1)))] M1 (fun x16 M13 => (CI l m_X9_worthWithout [zr 9 0, zi (M1 27 0 (9 * v1 + 1)), zi v1] M13 (fun x20 M17 => (CI l m_X9_sumOf [zr 9 0, zi v1, zi x4, zi 0] M17 (fun x24 M21 => (CV l m_X9_laysOf [zr 9 0, zi (zshl 1 (M1 27 0 (9 * v1 + 1)))] M21 (fun M25 => (((0 ≤ v1 ∧ v1 < 20) ∧ (M25 27 0 (9 * v1) = 0 ∨ M25 27 0 (9 * v1) = 1)) ∧ ((¬ (M25 27 0 (9 * v1) = 1) → P ((x20 - x16) + x24) M25) ∧ (M25 27 0 (9 * v1) = 1 → P ((x16 + x24) - x20) M25))))))))))))) ∧ (v2 ≠ 3 → (((0 ≤ v1 ∧ v1 < 20) ∧ (M1 27 0 (9 * v1) = 0 ∨ M1 27 0 (9 * v1) = 1)) ∧ ((¬ (M1 27 0 (9 * v1) = 1) → P (x4 * (M1 9 0 19)) M1) ∧ (M1 27 0 (9 * v1) = 1 → P (x4 * (M1 9 0 20)) M1)))))))) :
    CI l m_X9_dealOf [zr 9 0, zi v1, zi v2] M P :=
(aw_aload_n d_X9_dealOf_0 rfl rfl 0 rfl (by decide)
(aw_iload_n d_X9_dealOf_1 rfl rfl 1 rfl
(aw_VI (As := [zi v1]) (st := []) d_X9_dealOf_2 rfl cv9_170 ⟨Nat.le_of_ble_eq_true rfl, Nat.le_of_ble_eq_true rfl⟩ rfl rfl (Nat.le_of_ble_eq_true rfl) (Nat.le_of_ble_eq_true rfl) H0 (fun x4 M1 e2 => (aw_istore_n (lv' := [(3, zi x4), (0, zr 9 0), (1, zi v1), (2, zi v2)]) d_X9_dealOf_5 rfl rfl (by decide) rfl
(aw_iload_n d_X9_dealOf_6 rfl rfl 3 rfl
(aw_iconst d_X9_dealOf_7 rfl
(have z5 := e2.1; have e6 := e2.2; aw_icmp_eq d_X9_dealOf_8 rfl rfl z5 (by decide) (fun c7 => have e9 := e6.1 c7; (aw_aload_n d_X9_dealOf_33 rfl rfl 1 rfl (by decide)
(aw_iload_n d_X9_dealOf_34 rfl rfl 2 rfl
(aw_iconst d_X9_dealOf_35 rfl
(have z11 := e9.1; have e12 := e9.2; (aw_VI (As := [zi v1, zi 1]) (st := []) d_X9_dealOf_36 rfl cv9_88 ⟨Nat.le_of_ble_eq_true rfl, Nat.le_of_ble_eq_true rfl⟩ rfl rfl (Nat.le_of_ble_eq_true rfl) (Nat.le_of_ble_eq_true rfl) (s_X9_of z11) (fun _ _ hq => aw_eqs hq
(aw_istore (lv' := [(4, zi (M1 27 0 (9 * v1 + 1))), (3, zi x4), (0, zr 9 0), (1, zi v1), (2, zi v2)]) d_X9_dealOf_39 rfl (by decide) rfl
(aw_aload_n d_X9_dealOf_41 rfl rfl 2 rfl (by decide)
(aw_iconst d_X9_dealOf_42 rfl
(aw_iload d_X9_dealOf_43 rfl 0 rfl
(aw_ishl d_X9_dealOf_45 rfl zshl_h
(aw_VI (As := [zi (zshl 1 (M1 27 0 (9 * v1 + 1)))]) (st := []) d_X9_dealOf_46 rfl cv9_143 ⟨Nat.le_of_ble_eq_true rfl, Nat.le_of_ble_eq_true rfl⟩ rfl rfl (Nat.le_of_ble_eq_true rfl) (Nat.le_of_ble_eq_true rfl) e12 (fun x16 M13 e14 => (aw_istore (lv' := [(5, zi x16), (4, zi (M1 27 0 (9 * v1 + 1))), (3, zi x4), (0, zr 9 0), (1, zi v1), (2, zi v2)]) d_X9_dealOf_49 rfl (by decide) rfl
(aw_aload_n d_X9_dealOf_51 rfl rfl 3 rfl (by decide)
(aw_iload d_X9_dealOf_52 rfl 1 rfl
(aw_iload_n d_X9_dealOf_54 rfl rfl 4 rfl
(aw_VI (As := [zi (M1 27 0 (9 * v1 + 1)), zi v1]) (st := []) d_X9_dealOf_55 rfl cv9_173 ⟨Nat.le_of_ble_eq_true rfl, Nat.le_of_ble_eq_true rfl⟩ rfl rfl (Nat.le_of_ble_eq_true rfl) (Nat.le_of_ble_eq_true rfl) e14 (fun x20 M17 e18 => (aw_istore (lv' := [(6, zi x20), (5, zi x16), (4, zi (M1 27 0 (9 * v1 + 1))), (3, zi x4), (0, zr 9 0), (1, zi v1), (2, zi v2)]) d_X9_dealOf_58 rfl (by decide) rfl
(aw_aload_n d_X9_dealOf_60 rfl rfl 4 rfl (by decide)
(aw_iload_n d_X9_dealOf_61 rfl rfl 5 rfl
(aw_iload_n d_X9_dealOf_62 rfl rfl 3 rfl
(aw_iconst d_X9_dealOf_63 rfl
(aw_VI (As := [zi v1, zi x4, zi 0]) (st := []) d_X9_dealOf_64 rfl cv9_176 ⟨Nat.le_of_ble_eq_true rfl, Nat.le_of_ble_eq_true rfl⟩ rfl rfl (Nat.le_of_ble_eq_true rfl) (Nat.le_of_ble_eq_true rfl) e18 (fun x24 M21 e22 => (aw_istore (lv' := [(7, zi x24), (6, zi x20), (5, zi x16), (4, zi (M1 27 0 (9 * v1 + 1))), (3, zi x4), (0, zr 9 0), (1, zi v1), (2, zi v2)]) d_X9_dealOf_67 rfl (by decide) rfl
(aw_aload_n d_X9_dealOf_69 rfl rfl 5 rfl (by decide)
(aw_iconst d_X9_dealOf_70 rfl
(aw_iload d_X9_dealOf_71 rfl 3 rfl
(aw_ishl d_X9_dealOf_73 rfl zshl_h
(aw_VV (As := [zi (zshl 1 (M1 27 0 (9 * v1 + 1)))]) (st := []) d_X9_dealOf_74 rfl cv9_139 ⟨Nat.le_of_ble_eq_true rfl, Nat.le_of_ble_eq_true rfl⟩ rfl rfl (Nat.le_of_ble_eq_true rfl) (Nat.le_of_ble_eq_true rfl) e22 (fun M25 e26 => (aw_aload_n d_X9_dealOf_77 rfl rfl 5 rfl (by decide)
(aw_iload_n d_X9_dealOf_78 rfl rfl 6 rfl
(have z28 := e26.1; have e29 := e26.2; (aw_VI (As := [zi v1]) (st := []) d_X9_dealOf_79 rfl cv9_122 ⟨Nat.le_of_ble_eq_true rfl, Nat.le_of_ble_eq_true rfl⟩ rfl rfl (Nat.le_of_ble_eq_true rfl) (Nat.le_of_ble_eq_true rfl) (s_X9_sells z28) (fun _ _ hq => aw_eqs hq
(aw_if_eq d_X9_dealOf_82 rfl rfl zb_I (fun c30 => have e32 := e29.1 (zb_0 c30); (aw_iload d_X9_dealOf_96 rfl 1 rfl
(aw_iload d_X9_dealOf_98 rfl 2 rfl
(aw_isub d_X9_dealOf_100 rfl
(aw_iload d_X9_dealOf_101 rfl 0 rfl
(aw_iadd d_X9_dealOf_103 rfl
(aw_ri d_X9_dealOf_104 rfl e32))))))) (fun c31 => have e33 := e29.2 (zb_n0 c31); (aw_iload d_X9_dealOf_85 rfl 2 rfl
(aw_iload d_X9_dealOf_87 rfl 0 rfl
(aw_iadd d_X9_dealOf_89 rfl
(aw_iload d_X9_dealOf_90 rfl 1 rfl
(aw_isub d_X9_dealOf_92 rfl
(aw_goto d_X9_dealOf_93 rfl
(aw_ri d_X9_dealOf_104 rfl e33)))))))))))))))))))))))))))))))))))))))))))))))) (fun c8 => have e10 := e6.2 c8; (aw_iload_n d_X9_dealOf_11 rfl rfl 0 rfl
(aw_aload_n d_X9_dealOf_12 rfl rfl 1 rfl (by decide)
(aw_iload_n d_X9_dealOf_13 rfl rfl 2 rfl
(have z34 := e10.1; have e35 := e10.2; (aw_VI (As := [zi v1]) (st := [zi x4]) d_X9_dealOf_14 rfl cv9_122 ⟨Nat.le_of_ble_eq_true rfl, Nat.le_of_ble_eq_true rfl⟩ rfl rfl (Nat.le_of_ble_eq_true rfl) (Nat.le_of_ble_eq_true rfl) (s_X9_sells z34) (fun _ _ hq => aw_eqs hq
(aw_if_eq d_X9_dealOf_17 rfl rfl zb_I (fun c36 => have e38 := e35.1 (zb_0 c36); (aw_aload_n d_X9_dealOf_27 rfl rfl 1 rfl (by decide)
(aw_getI (kc := 19) d_X9_dealOf_28 rfl fl9_149 rfl rfl
(aw_imul d_X9_dealOf_31 rfl
(aw_ri d_X9_dealOf_32 rfl e38))))) (fun c37 => have e39 := e35.2 (zb_n0 c37); (aw_aload_n d_X9_dealOf_20 rfl rfl 1 rfl (by decide)
(aw_getI (kc := 20) d_X9_dealOf_21 rfl fl9_152 rfl rfl
(aw_goto d_X9_dealOf_24 rfl
(aw_imul d_X9_dealOf_31 rfl
(aw_ri d_X9_dealOf_32 rfl e39))))))))))))))))))))))
theorem vX9_gainOf {l : Launch} {P : Int → zM → Prop} {v1 : Int} {M : zM}
    (H0 : ((0 ≤ 9 * v1 + 1 ∧ 9 * v1 + 1 < 187) ∧ (CV l m_X9_lays [zr 9 0, zi (M 27 0 (9 * v1 + 1))] M (fun M3 => (CI l m_X9_doneOf [zr 9 0, zi v1] M3 (fun x9 M6 => (CI l m_X9_sumOf [zr 9 0, zi v1, zi x9, zi 1] M6 (fun x13 M10 => (CI l m_X9_dealOf [zr 9 0, zi v1, zi (M10 27 0 182)] M10 (fun x17 M14 => (((0 ≤ v1 ∧ v1 < 20) ∧ (M14 27 0 (9 * v1) = 0 ∨ M14 27 0 (9 * v1) = 1)) ∧ ((¬ (M14 27 0 (9 * v1) = 1) → P (x13 - x17) M14) ∧ (M14 27 0 (9 * v1) = 1 → P (x17 - x13) M14))))))))))))) :
    CI l m_X9_gainOf [zr 9 0, zi v1] M P :=
(aw_aload_n d_X9_gainOf_0 rfl rfl 0 rfl (by decide)
(aw_aload_n d_X9_gainOf_1 rfl rfl 0 rfl (by decide)
(aw_iload_n d_X9_gainOf_2 rfl rfl 1 rfl
(aw_iconst d_X9_gainOf_3 rfl
(have z1 := H0.1; have e2 := H0.2; (aw_VI (As := [zi v1, zi 1]) (st := [zr 9 0]) d_X9_gainOf_4 rfl cv9_88 ⟨Nat.le_of_ble_eq_true rfl, Nat.le_of_ble_eq_true rfl⟩ rfl rfl (Nat.le_of_ble_eq_true rfl) (Nat.le_of_ble_eq_true rfl) (s_X9_of z1) (fun _ _ hq => aw_eqs hq
(aw_VV (As := [zi (M 27 0 (9 * v1 + 1))]) (st := []) d_X9_gainOf_7 rfl cv9_180 ⟨Nat.le_of_ble_eq_true rfl, Nat.le_of_ble_eq_true rfl⟩ rfl rfl (Nat.le_of_ble_eq_true rfl) (Nat.le_of_ble_eq_true rfl) e2 (fun M3 e4 => (aw_aload_n d_X9_gainOf_10 rfl rfl 0 rfl (by decide)
(aw_iload_n d_X9_gainOf_11 rfl rfl 1 rfl
(aw_VI (As := [zi v1]) (st := []) d_X9_gainOf_12 rfl cv9_170 ⟨Nat.le_of_ble_eq_true rfl, Nat.le_of_ble_eq_true rfl⟩ rfl rfl (Nat.le_of_ble_eq_true rfl) (Nat.le_of_ble_eq_true rfl) e4 (fun x9 M6 e7 => (aw_istore_n (lv' := [(2, zi x9), (0, zr 9 0), (1, zi v1)]) d_X9_gainOf_15 rfl rfl (by decide) rfl
(aw_aload_n d_X9_gainOf_16 rfl rfl 1 rfl (by decide)
(aw_iload_n d_X9_gainOf_17 rfl rfl 2 rfl
(aw_iload_n d_X9_gainOf_18 rfl rfl 0 rfl
(aw_iconst d_X9_gainOf_19 rfl
(aw_VI (As := [zi v1, zi x9, zi 1]) (st := []) d_X9_gainOf_20 rfl cv9_176 ⟨Nat.le_of_ble_eq_true rfl, Nat.le_of_ble_eq_true rfl⟩ rfl rfl (Nat.le_of_ble_eq_true rfl) (Nat.le_of_ble_eq_true rfl) e7 (fun x13 M10 e11 => (aw_istore_n (lv' := [(3, zi x13), (2, zi x9), (0, zr 9 0), (1, zi v1)]) d_X9_gainOf_23 rfl rfl (by decide) rfl
(aw_aload_n d_X9_gainOf_24 rfl rfl 2 rfl (by decide)
(aw_iload_n d_X9_gainOf_25 rfl rfl 3 rfl
(aw_aload_n d_X9_gainOf_26 rfl rfl 2 rfl (by decide)
(aw_getR (k' := 27) (a := 0) (b := 0) (j := 0) d_X9_gainOf_27 rfl fl9_7 rfl zj0 ⟨by decide, fun _ => by decide⟩
(aw_sipush d_X9_gainOf_30 rfl (by decide)
(aw_iald d_X9_gainOf_33 rfl za27 (by decide)
(aw_VI (As := [zi v1, zi (M10 27 0 182)]) (st := []) d_X9_gainOf_34 rfl cv9_183 ⟨Nat.le_of_ble_eq_true rfl, Nat.le_of_ble_eq_true rfl⟩ rfl rfl (Nat.le_of_ble_eq_true rfl) (Nat.le_of_ble_eq_true rfl) e11 (fun x17 M14 e15 => (aw_istore (lv' := [(4, zi x17), (3, zi x13), (2, zi x9), (0, zr 9 0), (1, zi v1)]) d_X9_gainOf_37 rfl (by decide) rfl
(aw_aload_n d_X9_gainOf_39 rfl rfl 3 rfl (by decide)
(aw_iload_n d_X9_gainOf_40 rfl rfl 4 rfl
(have z18 := e15.1; have e19 := e15.2; (aw_VI (As := [zi v1]) (st := []) d_X9_gainOf_41 rfl cv9_122 ⟨Nat.le_of_ble_eq_true rfl, Nat.le_of_ble_eq_true rfl⟩ rfl rfl (Nat.le_of_ble_eq_true rfl) (Nat.le_of_ble_eq_true rfl) (s_X9_sells z18) (fun _ _ hq => aw_eqs hq
(aw_if_eq d_X9_gainOf_44 rfl rfl zb_I (fun c20 => have e22 := e19.1 (zb_0 c20); (aw_iload_n d_X9_gainOf_54 rfl rfl 1 rfl
(aw_iload d_X9_gainOf_55 rfl 0 rfl
(aw_isub d_X9_gainOf_57 rfl
(aw_ri d_X9_gainOf_58 rfl e22))))) (fun c21 => have e23 := e19.2 (zb_n0 c21); (aw_iload d_X9_gainOf_47 rfl 0 rfl
(aw_iload_n d_X9_gainOf_49 rfl rfl 1 rfl
(aw_isub d_X9_gainOf_50 rfl
(aw_goto d_X9_gainOf_51 rfl
(aw_ri d_X9_gainOf_58 rfl e23))))))))))))))))))))))))))))))))))))))))))
def LX9_takingsBy_25 (l : Launch) (P : Int → zM → Prop) (v1 : Int) (v2 : Int) (v3 : Int) (v4 : Int) (M : zM) : Prop := AW l m_X9_takingsBy (zTi m_X9_takingsBy P) 25 [(0, zr 9 0), (1, zi v1), (2, zi v2), (3, zi v3), (4, zi v4)] [] M
theorem vX9_takingsBy_25 {l : Launch} {P : Int → zM → Prop} {v1 : Int} {v2 : Int} {v3 : Int} {v4 : Int} {M : zM}
    (H0 : (zI v4 ∧ zI (M 27 0 180) ∧ ((M 27 0 180) ≤ v4 → P v3 M) ∧ (v4 < (M 27 0 180) → ((0 ≤ 9 * v4 + 1 ∧ 9 * v4 + 1 < 187) ∧ (zI (M 27 0 (9 * v4 + 1)) ∧ zI v1 ∧ ((M 27 0 (9 * v4 + 1)) ≠ v1 → LX9_takingsBy_25 l P v1 v2 v3 (v4 + 1) M) ∧ ((M 27 0 (9 * v4 + 1)) = v1 → ((hsb (M 9 0 5) v4 → LX9_takingsBy_25 l P v1 v2 v3 (v4 + 1) M) ∧ (¬ (hsb (M 9 0 5) v4) → (((0 ≤ v4 ∧ v4 < 20) ∧ (M 27 0 (9 * v4) = 0 ∨ M 27 0 (9 * v4) = 1)) ∧ ((¬ (M 27 0 (9 * v4) = 1) → (CI l m_X9_dealOf [zr 9 0, zi v4, zi v2] M (fun x36 M33 => LX9_takingsBy_25 l P v1 v2 (v3 + x36) (v4 + 1) M33))) ∧ (M 27 0 (9 * v4) = 1 → (CI l m_X9_dealOf [zr 9 0, zi v4, zi v2] M (fun x40 M37 => LX9_takingsBy_25 l P v1 v2 (v3 + (-x40)) (v4 + 1) M37))))))))))))) :
    LX9_takingsBy_25 l P v1 v2 v3 v4 M :=
(aw_iload d_X9_takingsBy_25 rfl 4 rfl
(aw_aload_n d_X9_takingsBy_27 rfl rfl 0 rfl (by decide)
(aw_VI (As := []) (st := [zi v4]) d_X9_takingsBy_28 rfl cv9_78 ⟨Nat.le_of_ble_eq_true rfl, Nat.le_of_ble_eq_true rfl⟩ rfl rfl (Nat.le_of_ble_eq_true rfl) (Nat.le_of_ble_eq_true rfl) (s_X9_traders) (fun _ _ hq => aw_eqs hq
(have z7 := H0.1; have z8 := H0.2.1; have e9 := H0.2.2; aw_icmp_ge d_X9_takingsBy_31 rfl rfl z7 z8 (fun c10 => have e12 := e9.1 c10; (aw_iload_n d_X9_takingsBy_93 rfl rfl 3 rfl
(aw_ri d_X9_takingsBy_94 rfl e12))) (fun c11 => have e13 := e9.2 c11; (aw_aload_n d_X9_takingsBy_34 rfl rfl 0 rfl (by decide)
(aw_iload d_X9_takingsBy_35 rfl 4 rfl
(aw_iconst d_X9_takingsBy_37 rfl
(have z14 := e13.1; have e15 := e13.2; (aw_VI (As := [zi v4, zi 1]) (st := []) d_X9_takingsBy_38 rfl cv9_88 ⟨Nat.le_of_ble_eq_true rfl, Nat.le_of_ble_eq_true rfl⟩ rfl rfl (Nat.le_of_ble_eq_true rfl) (Nat.le_of_ble_eq_true rfl) (s_X9_of z14) (fun _ _ hq => aw_eqs hq
(aw_iload_n d_X9_takingsBy_41 rfl rfl 1 rfl
(have z16 := e15.1; have z17 := e15.2.1; have e18 := e15.2.2; aw_icmp_ne d_X9_takingsBy_42 rfl rfl z16 z17 (fun c19 => have e21 := e18.1 c19; (aw_iinc (lv' := [(4, zi (v4 + 1)), (0, zr 9 0), (1, zi v1), (2, zi v2), (3, zi v3)]) (y := (v4 + 1)) d_X9_takingsBy_87 rfl 4 rfl (by decide) rfl rfl
(aw_goto d_X9_takingsBy_90 rfl
(aw_sub [1, 2, 3, 4, 0] rfl e21)))) (fun c20 => have e22 := e18.2 c20; (aw_aload_n d_X9_takingsBy_45 rfl rfl 0 rfl (by decide)
(aw_getI (kc := 5) d_X9_takingsBy_46 rfl fl9_107 rfl rfl
(aw_iload d_X9_takingsBy_49 rfl 4 rfl
(aw_SI (As := [zi (M 9 0 5), zi v4]) (st := []) d_X9_takingsBy_51 rfl cs9_96 ⟨Nat.le_of_ble_eq_true rfl, Nat.le_of_ble_eq_true rfl⟩ rfl rfl (Nat.le_of_ble_eq_true rfl) (Nat.le_of_ble_eq_true rfl) (s_X9_has) (fun _ _ hq => aw_eqs hq
(aw_if_ne d_X9_takingsBy_54 rfl rfl zb_I (fun c23 => have e25 := e22.1 (zb_n0 c23); (aw_iinc (lv' := [(4, zi (v4 + 1)), (0, zr 9 0), (1, zi v1), (2, zi v2), (3, zi v3)]) (y := (v4 + 1)) d_X9_takingsBy_87 rfl 4 rfl (by decide) rfl rfl
(aw_goto d_X9_takingsBy_90 rfl
(aw_sub [1, 2, 3, 4, 0] rfl e25)))) (fun c24 => have e26 := e22.2 (zb_0 c24); (aw_iload_n d_X9_takingsBy_57 rfl rfl 3 rfl
(aw_aload_n d_X9_takingsBy_58 rfl rfl 0 rfl (by decide)
(aw_iload d_X9_takingsBy_59 rfl 4 rfl
(have z27 := e26.1; have e28 := e26.2; (aw_VI (As := [zi v4]) (st := [zi v3]) d_X9_takingsBy_61 rfl cv9_122 ⟨Nat.le_of_ble_eq_true rfl, Nat.le_of_ble_eq_true rfl⟩ rfl rfl (Nat.le_of_ble_eq_true rfl) (Nat.le_of_ble_eq_true rfl) (s_X9_sells z27) (fun _ _ hq => aw_eqs hq
(aw_if_eq d_X9_takingsBy_64 rfl rfl zb_I (fun c29 => have e31 := e28.1 (zb_0 c29); (aw_aload_n d_X9_takingsBy_78 rfl rfl 0 rfl (by decide)
(aw_iload d_X9_takingsBy_79 rfl 4 rfl
(aw_iload_n d_X9_takingsBy_81 rfl rfl 2 rfl
(aw_VI (As := [zi v4, zi v2]) (st := [zi v3]) d_X9_takingsBy_82 rfl cv9_183 ⟨Nat.le_of_ble_eq_true rfl, Nat.le_of_ble_eq_true rfl⟩ rfl rfl (Nat.le_of_ble_eq_true rfl) (Nat.le_of_ble_eq_true rfl) e31 (fun x36 M33 e34 => (aw_iadd d_X9_takingsBy_85 rfl
(aw_istore_n (lv' := [(3, zi (v3 + x36)), (0, zr 9 0), (1, zi v1), (2, zi v2), (4, zi v4)]) d_X9_takingsBy_86 rfl rfl (by decide) rfl
(aw_iinc (lv' := [(4, zi (v4 + 1)), (3, zi (v3 + x36)), (0, zr 9 0), (1, zi v1), (2, zi v2)]) (y := (v4 + 1)) d_X9_takingsBy_87 rfl 4 rfl (by decide) rfl rfl
(aw_goto d_X9_takingsBy_90 rfl
(aw_sub [2, 3, 4, 1, 0] rfl e34))))))))))) (fun c30 => have e32 := e28.2 (zb_n0 c30); (aw_aload_n d_X9_takingsBy_67 rfl rfl 0 rfl (by decide)
(aw_iload d_X9_takingsBy_68 rfl 4 rfl
(aw_iload_n d_X9_takingsBy_70 rfl rfl 2 rfl
(aw_VI (As := [zi v4, zi v2]) (st := [zi v3]) d_X9_takingsBy_71 rfl cv9_183 ⟨Nat.le_of_ble_eq_true rfl, Nat.le_of_ble_eq_true rfl⟩ rfl rfl (Nat.le_of_ble_eq_true rfl) (Nat.le_of_ble_eq_true rfl) e32 (fun x40 M37 e38 => (aw_ineg d_X9_takingsBy_74 rfl
(aw_goto d_X9_takingsBy_75 rfl
(aw_iadd d_X9_takingsBy_85 rfl
(aw_istore_n (lv' := [(3, zi (v3 + (-x40))), (0, zr 9 0), (1, zi v1), (2, zi v2), (4, zi v4)]) d_X9_takingsBy_86 rfl rfl (by decide) rfl
(aw_iinc (lv' := [(4, zi (v4 + 1)), (3, zi (v3 + (-x40))), (0, zr 9 0), (1, zi v1), (2, zi v2)]) (y := (v4 + 1)) d_X9_takingsBy_87 rfl 4 rfl (by decide) rfl rfl
(aw_goto d_X9_takingsBy_90 rfl
(aw_sub [2, 3, 4, 1, 0] rfl e38))))))))))))))))))))))))))))))))))))))))))
theorem vX9_takingsBy {l : Launch} {P : Int → zM → Prop} {v1 : Int} {v2 : Int} {M : zM}
    (H0 : (zI v2 ∧ (v2 = 3 → LX9_takingsBy_25 l P v1 v2 0 0 M) ∧ (v2 ≠ 3 → P ((M 9 0 18) * ((M 9 0 19) - (M 9 0 20))) M))) :
    CI l m_X9_takingsBy [zr 9 0, zi v1, zi v2] M P :=
(aw_iload_n d_X9_takingsBy_0 rfl rfl 2 rfl
(aw_iconst d_X9_takingsBy_1 rfl
(have z1 := H0.1; have e2 := H0.2; aw_icmp_eq d_X9_takingsBy_2 rfl rfl z1 (by decide) (fun c3 => have e5 := e2.1 c3; (aw_iconst d_X9_takingsBy_20 rfl
(aw_istore_n (lv' := [(3, zi 0), (0, zr 9 0), (1, zi v1), (2, zi v2)]) d_X9_takingsBy_21 rfl rfl (by decide) rfl
(aw_iconst d_X9_takingsBy_22 rfl
(aw_istore (lv' := [(4, zi 0), (3, zi 0), (0, zr 9 0), (1, zi v1), (2, zi v2)]) d_X9_takingsBy_23 rfl (by decide) rfl
(aw_sub [2, 3, 4, 1, 0] rfl e5)))))) (fun c4 => have e6 := e2.2 c4; (aw_aload_n d_X9_takingsBy_5 rfl rfl 0 rfl (by decide)
(aw_getI (kc := 18) d_X9_takingsBy_6 rfl fl9_146 rfl rfl
(aw_aload_n d_X9_takingsBy_9 rfl rfl 0 rfl (by decide)
(aw_getI (kc := 19) d_X9_takingsBy_10 rfl fl9_149 rfl rfl
(aw_aload_n d_X9_takingsBy_13 rfl rfl 0 rfl (by decide)
(aw_getI (kc := 20) d_X9_takingsBy_14 rfl fl9_152 rfl rfl
(aw_isub d_X9_takingsBy_17 rfl
(aw_imul d_X9_takingsBy_18 rfl
(aw_ri d_X9_takingsBy_19 rfl e6)))))))))))))
theorem vX9_takingsOf {l : Launch} {P : Int → zM → Prop} {v1 : Int} {M : zM}
    (H0 : (CV l m_X9_lays [zr 9 0, zi v1] M (fun M1 => (CI l m_X9_takingsBy [zr 9 0, zi v1, zi (M1 27 0 182)] M1 (fun x7 M4 => P x7 M4))))) :
    CI l m_X9_takingsOf [zr 9 0, zi v1] M P :=
(aw_aload_n d_X9_takingsOf_0 rfl rfl 0 rfl (by decide)
(aw_iload_n d_X9_takingsOf_1 rfl rfl 1 rfl
(aw_VV (As := [zi v1]) (st := []) d_X9_takingsOf_2 rfl cv9_180 ⟨Nat.le_of_ble_eq_true rfl, Nat.le_of_ble_eq_true rfl⟩ rfl rfl (Nat.le_of_ble_eq_true rfl) (Nat.le_of_ble_eq_true rfl) H0 (fun M1 e2 => (aw_aload_n d_X9_takingsOf_5 rfl rfl 0 rfl (by decide)
(aw_iload_n d_X9_takingsOf_6 rfl rfl 1 rfl
(aw_aload_n d_X9_takingsOf_7 rfl rfl 0 rfl (by decide)
(aw_getR (k' := 27) (a := 0) (b := 0) (j := 0) d_X9_takingsOf_8 rfl fl9_7 rfl zj0 ⟨by decide, fun _ => by decide⟩
(aw_sipush d_X9_takingsOf_11 rfl (by decide)
(aw_iald d_X9_takingsOf_14 rfl za27 (by decide)
(aw_VI (As := [zi v1, zi (M1 27 0 182)]) (st := []) d_X9_takingsOf_15 rfl cv9_186 ⟨Nat.le_of_ble_eq_true rfl, Nat.le_of_ble_eq_true rfl⟩ rfl rfl (Nat.le_of_ble_eq_true rfl) (Nat.le_of_ble_eq_true rfl) e2 (fun x7 M4 e5 => (aw_ri d_X9_takingsOf_18 rfl e5)))))))))))))
theorem c_X9_dealOf {t w g : Int} (rc : RC M) (ht : 0 ≤ t ∧ t < qn (rS M)) (hgo : hb (M 9 0 5) t = false) (eg : qgr (rS M) t = g) (hw : 0 ≤ w ∧ w ≤ 3) (h : mLd M (rB M g) (rA M g) (qfee (rS M))) (hd : mDn M (rB M g) (rA M g) (qfee (rS M)) w) :
    CI l m_X9_dealOf [zr 9 0, zi t, zi w] M (fun x M' => x = mny (rB M g) (rA M g) (qfee (rS M)) w (zb (qsl (rS M) t = 1)) t ∧ mFr M M' ∧ mLd M' (rB M g) (rA M g) (qfee (rS M)) ∧ mDn M' (rB M g) (rA M g) (qfee (rS M)) w) := by
  have ok := rc.ok
  have hn := rc.2.1.1
  have hgr := rc.2.2.1 t ht
  rw [eg] at hgr
  have hE : rG M g t := ⟨eg, hgo⟩
  have hl := dN_l (B := rB M g) (A := rA M g) (f := qfee (rS M)) (w := w)
  have hb := dN_b (B := rB M g) (A := rA M g) (f := qfee (rS M)) (w := w)
  have hm := mny_ref (f := qfee (rS M)) (w := w) ok ht hE
  have e1 : M 27 0 (9 * t + 1) = g := by rw [← rS_gr ht, eg]
  have esl : M 27 0 (9 * t) = qsl (rS M) t := (rS_sl ht).symm
  have sl01 := rc.sl ht
  refine vX9_dealOf ((c_done rc ht h hd).eq ?_)
  rw [e1]
  refine ⟨by omega, fun c3 => ⟨by omega, ?_⟩, fun c3 => ⟨⟨by omega, sl01⟩, ?_⟩⟩
  · refine (c_X9_worthOf rc hgr).mono ?_
    rintro x M1 ⟨rfl, f1, h1⟩
    have rc1 := f1.s.rc rc
    refine (c_X9_worthWithout rc1 hgr (by rw [f1.S]; exact ht)).mono ?_
    rintro x M2 ⟨rfl, f2⟩
    have f12 := f1.tr f2
    have rc2 := f12.s.rc rc
    have hcu : 0 ≤ cnt (if qsl (rS M) t = 1 then rA M g else rB M g) t (dN (rB M g) (rA M g) (qfee (rS M)) w) ∧ cnt (if qsl (rS M) t = 1 then rA M g else rB M g) t (dN (rB M g) (rA M g) (qfee (rS M)) w) ≤ qun (rS M) t := by
      refine ⟨(cnt_b hb.1).1, ?_⟩
      by_cases c : qsl (rS M) t = 1
      · rw [if_pos c]; exact (ownA (f := 0) ok ht hE c ⟨hb.1, hl.2⟩).2
      · rw [if_neg c]; exact (ownB ok ht hE c ⟨hb.1, hl.1⟩).2
    refine (c_X9_sumOf rc2 (by rw [f12.S]; exact ht) (by rw [f12.S]; exact hcu) (.inl rfl)).eq ?_
    refine (lays_g rc2 hgr).mono ?_
    rintro M3 ⟨f3, h3⟩
    have f13 := f12.tr f3
    rw [f12.s.B, f12.s.A, f12.S] at h3
    have esl3 : M3 27 0 (9 * t) = qsl (rS M) t := by rw [f13.1 27 0 (by decide) (by decide)]; exact esl
    rw [esl3, if_pos rfl, f12.V, f1.s.B, f1.s.A, f1.S]
    refine ⟨⟨by omega, by rw [← esl]; exact sl01⟩, fun c => ⟨?_, f13, h3, f13.dn hd⟩, fun c => ⟨?_, f13, h3, f13.dn hd⟩⟩
    · rw [zb_f c, hm.1 c, if_pos c3, if_neg c]
    · rw [zb_1 c, hm.2 c, if_pos c3, if_pos c]
  · rw [esl]
    have hT : cnt (if qsl (rS M) t = 1 then rA M g else rB M g) t (dN (rB M g) (rA M g) (qfee (rS M)) w) ≠ 0 → tT (qfee (rS M)) (rB M g) (rA M g) ≠ 0 := by
      intro c e
      have : dN (rB M g) (rA M g) (qfee (rS M)) w = 0 := by omega
      rw [this] at c
      exact c rfl
    refine ⟨fun c => ⟨?_, mFr.rf, h, hd⟩, fun c => ⟨?_, mFr.rf, h, hd⟩⟩
    · rw [zb_f c, hm.1 c, if_neg c3]
      rw [if_neg c] at hT ⊢
      by_cases e : cnt (rB M g) t (dN (rB M g) (rA M g) (qfee (rS M)) w) = 0
      · rw [e, Int.zero_mul, Int.zero_mul]
      · rw [(hd.2.1 (hT e)).1]
    · rw [zb_1 c, hm.2 c, if_neg c3]
      rw [if_pos c] at hT ⊢
      by_cases e : cnt (rA M g) t (dN (rB M g) (rA M g) (qfee (rS M)) w) = 0
      · rw [e, Int.zero_mul, Int.zero_mul]
      · rw [(hd.2.1 (hT e)).2]
/-- a trader's gain in its market -/
noncomputable def rGn (M : zM) (t : Int) : Int := gnr (rS M) (rB M (qgr (rS M) t)) (rA M (qgr (rS M) t)) (qfee (rS M)) (qlaw (rS M)) t
theorem mFs.Gn {M M' : zM} (f : mFs M M') {t : Int} : rGn M' t = rGn M t := by unfold rGn; rw [f.B, f.A, f.S]
theorem c_X9_gainOf {t : Int} (rc : RC M) (ht : 0 ≤ t ∧ t < qn (rS M)) (hgo : hb (M 9 0 5) t = false) :
    CI l m_X9_gainOf [zr 9 0, zi t] M (fun x M' => x = rGn M t ∧ mFs M M' ∧ mLd M' (rB M (qgr (rS M) t)) (rA M (qgr (rS M) t)) (qfee (rS M)) ∧ mDn M' (rB M (qgr (rS M) t)) (rA M (qgr (rS M) t)) (qfee (rS M)) (qlaw (rS M))) := by
  have ok := rc.ok
  have hn := rc.2.1.1
  have hgr := rc.2.2.1 t ht
  have hlaw := rc.2.2.2.2.1
  have e1 : M 27 0 (9 * t + 1) = qgr (rS M) t := (rS_gr ht).symm
  have hl := dN_l (B := rB M (qgr (rS M) t)) (A := rA M (qgr (rS M) t)) (f := qfee (rS M)) (w := qlaw (rS M))
  have hb := dN_b (B := rB M (qgr (rS M) t)) (A := rA M (qgr (rS M) t)) (f := qfee (rS M)) (w := qlaw (rS M))
  have hE : rG M (qgr (rS M) t) t := ⟨rfl, hgo⟩
  have hcu : 0 ≤ cnt (if qsl (rS M) t = 1 then rA M (qgr (rS M) t) else rB M (qgr (rS M) t)) t (dN (rB M (qgr (rS M) t)) (rA M (qgr (rS M) t)) (qfee (rS M)) (qlaw (rS M))) ∧ cnt (if qsl (rS M) t = 1 then rA M (qgr (rS M) t) else rB M (qgr (rS M) t)) t (dN (rB M (qgr (rS M) t)) (rA M (qgr (rS M) t)) (qfee (rS M)) (qlaw (rS M))) ≤ qun (rS M) t := by
    refine ⟨(cnt_b hb.1).1, ?_⟩
    by_cases c : qsl (rS M) t = 1
    · rw [if_pos c]; exact (ownA (f := 0) ok ht hE c ⟨hb.1, hl.2⟩).2
    · rw [if_neg c]; exact (ownB ok ht hE c ⟨hb.1, hl.1⟩).2
  refine vX9_gainOf ⟨by omega, ?_⟩
  rw [e1]
  refine (c_X9_lays rc hgr).mono ?_
  rintro M1 ⟨f1, h1, d1⟩
  have rc1 := f1.rc rc
  have ht1 : 0 ≤ t ∧ t < qn (rS M1) := by rw [f1.S]; exact ht
  rw [← f1.B, ← f1.A, ← f1.S] at h1 d1
  rw [← f1.B, ← f1.A, ← f1.S] at hcu
  refine (c_done rc1 ht1 h1 d1).eq ?_
  refine (c_X9_sumOf rc1 ht1 (by rw [f1.S] at hcu ⊢; exact hcu) (.inr rfl)).eq ?_
  have e182 : M1 27 0 182 = qlaw (rS M1) := rfl
  rw [e182]
  have eg1 : qgr (rS M1) t = qgr (rS M) t := by rw [f1.S]
  refine (c_X9_dealOf (g := qgr (rS M1) t) rc1 ht1 (by rw [f1.F 5 (by omega)]; exact hgo) rfl (by rw [f1.S]; exact hlaw) h1 d1).mono ?_
  rintro x M2 ⟨rfl, f2, h2, d2⟩
  have f12 := f1.tr f2.s
  have esl2 : M2 27 0 (9 * t) = qsl (rS M) t := by rw [f12.1 27 0 (by decide) (by decide)]; exact (rS_sl ht).symm
  rw [esl2]
  rw [f1.B, f1.A, f1.S] at h2 d2 ⊢
  rw [if_neg (by decide)]
  refine ⟨⟨by omega, by rw [rS_sl ht]; exact rc.sl ht⟩, fun c => ⟨?_, f12, h2, d2⟩, fun c => ⟨?_, f12, h2, d2⟩⟩
  · rw [zb_f c, if_neg c, rGn, gnr, if_neg c]
  · rw [zb_1 c, if_pos c, rGn, gnr, if_pos c]
/-- what the hall takes: the class's sum is the reference's -/
theorem tkg_ref {S : zS} {E : Int → Prop} {v : Int → Int → Int} {f : Int} (ok : okM S v) (D : Int → Bool) (hD : ∀ t, 0 ≤ t ∧ t < qn S → (D t = true ↔ E t)) :
    tkg (mB S E v) (mA S E v) f 3 = zsum (fun t => if D t = true then (if qsl S t = 1 then -(mny (mB S E v) (mA S E v) f 3 1 t) else mny (mB S E v) (mA S E v) f 3 0 t) else 0) (qn S) := by
  have hn := ok.1
  unfold tkg
  rw [if_pos rfl, zsum_stop (j := qn S) (n := 20) hn (fun t ht => by
    rw [(mny_none ok).1 (by omega), (mny_none ok).2 (by omega)]
    omega)]
  refine zsum_congr fun t ht => ?_
  by_cases c : D t = true
  · have hE := (hD t ht).mp c
    rw [if_pos c]
    by_cases s : qsl S t = 1
    · rw [if_pos s, (mny_none ok).1 (fun q => q.2.2 s)]; omega
    · rw [if_neg s, (mny_none ok).2 (fun q => s q.2.2)]; omega
  · rw [if_neg c, (mny_none ok).1 (fun q => c ((hD t ht).mpr q.2.1)), (mny_none ok).2 (fun q => c ((hD t ht).mpr q.2.1))]
    omega
theorem c_X9_takingsBy {g w : Int} (rc : RC M) (hg : 0 ≤ g ∧ g < 4) (hw : 0 ≤ w ∧ w ≤ 3) (h : mLd M (rB M g) (rA M g) (qfee (rS M))) (hd : mDn M (rB M g) (rA M g) (qfee (rS M)) w) :
    CI l m_X9_takingsBy [zr 9 0, zi g, zi w] M (fun x M' => x = tkg (rB M g) (rA M g) (qfee (rS M)) w ∧ mFr M M' ∧ mLd M' (rB M g) (rA M g) (qfee (rS M)) ∧ mDn M' (rB M g) (rA M g) (qfee (rS M)) w) := by
  have ok := rc.ok
  have hn := rc.2.1.1
  refine vX9_takingsBy ⟨by omega, fun c3 => ?_, fun c3 => ⟨?_, mFr.rf, h, hd⟩⟩
  · subst c3
    have e := tkg_ref (E := rG M g) (f := qfee (rS M)) ok (fun t => decide (qgr (rS M) t = g) && !hb (M 9 0 5) t) (fun t ht => by
      unfold rG
      simp)
    rw [e]
    have loop : ∀ (n : Nat) (t : Int) (M' : zM), (qn (rS M) - t).toNat = n → 0 ≤ t ∧ t ≤ qn (rS M) → mFr M M' → mLd M' (rB M g) (rA M g) (qfee (rS M)) → mDn M' (rB M g) (rA M g) (qfee (rS M)) 3 →
        LX9_takingsBy_25 l (fun x M' => x = zsum (fun t => if (decide (qgr (rS M) t = g) && !hb (M 9 0 5) t) = true then (if qsl (rS M) t = 1 then -(mny (rB M g) (rA M g) (qfee (rS M)) 3 1 t) else mny (rB M g) (rA M g) (qfee (rS M)) 3 0 t) else 0) (qn (rS M)) ∧ mFr M M' ∧ mLd M' (rB M g) (rA M g) (qfee (rS M)) ∧ mDn M' (rB M g) (rA M g) (qfee (rS M)) 3) g 3
          (zsum (fun t => if (decide (qgr (rS M) t = g) && !hb (M 9 0 5) t) = true then (if qsl (rS M) t = 1 then -(mny (rB M g) (rA M g) (qfee (rS M)) 3 1 t) else mny (rB M g) (rA M g) (qfee (rS M)) 3 0 t) else 0) t) t M' := by
      intro n
      induction n with
      | zero =>
        intro t M' hn' ht f0 h0 d0
        have : t = qn (rS M) := by omega
        subst this
        have e180 : M' 27 0 180 = qn (rS M) := by rw [← rS_n M', f0.S]
        exact vX9_takingsBy_25 ⟨by omega, by omega, fun _ => ⟨rfl, f0, h0, d0⟩, fun e => by omega⟩
      | succ n ih =>
        intro t M' hn' ht f0 h0 d0
        have ht' : 0 ≤ t ∧ t < qn (rS M) := by omega
        have e180 : M' 27 0 180 = qn (rS M) := by rw [← rS_n M', f0.S]
        have ht2 : 0 ≤ t ∧ t < qn (rS M') := by rw [f0.S]; exact ht'
        have egr : M' 27 0 (9 * t + 1) = qgr (rS M) t := by rw [← rS_gr ht2, f0.S]
        have esl : M' 27 0 (9 * t) = qsl (rS M) t := by rw [← rS_sl ht2, f0.S]
        have hgr := rc.2.2.1 t ht'
        have rc' := f0.s.rc rc
        have h2 := hb_has (s := M 9 0 5) (k := t) (by omega)
        have ih1 := fun M2 => ih (t + 1) M2 (by omega) (by omega)
        rw [zsum_s ht.1] at ih1
        refine vX9_takingsBy_25 ?_
        rw [egr, f0.F 5 (by omega), esl]
        refine ⟨by omega, by omega, fun e => by omega, fun _ => ⟨by omega, by omega, by omega, fun c => ?_, fun c => ⟨fun c2 => ?_, fun c2 => ?_⟩⟩⟩
        · have := ih1 M' f0 h0 d0
          rw [if_neg (by simp [c]), Int.add_zero] at this
          exact this
        · have := ih1 M' f0 h0 d0
          rw [if_neg (by simp [h2.mp c2]), Int.add_zero] at this
          exact this
        · have hgo : hb (M 9 0 5) t = false := by
            cases q : hb (M 9 0 5) t with
            | false => rfl
            | true => exact absurd (h2.mpr q) c2
          have hD : (decide (qgr (rS M) t = g) && !hb (M 9 0 5) t) = true := by rw [c, hgo]; simp
          rw [if_pos hD] at ih1
          rw [← f0.s.B, ← f0.s.A, ← f0.S] at h0 d0
          have deal := c_X9_dealOf (l := l) (g := g) rc' ht2 (by rw [f0.F 5 (by omega)]; exact hgo) (by rw [f0.S]; exact c) hw h0 d0
          rw [f0.s.B, f0.s.A, f0.S] at deal
          refine ⟨⟨by omega, by rw [rS_sl ht']; exact rc.sl ht'⟩, fun c4 => ?_, fun c4 => ?_⟩
          · refine deal.mono ?_
            rintro x M2 ⟨rfl, f2, h2, d2⟩
            have := ih1 M2 (f0.tr f2) h2 d2
            rw [if_neg c4] at this
            rw [zb_f c4]
            exact this
          · refine deal.mono ?_
            rintro x M2 ⟨rfl, f2, h2, d2⟩
            have := ih1 M2 (f0.tr f2) h2 d2
            rw [if_pos c4] at this
            rw [zb_1 c4]
            exact this
    exact loop _ 0 M rfl (by omega) mFr.rf h hd
  · have hb := dN_b (B := rB M g) (A := rA M g) (f := qfee (rS M)) (w := w)
    rw [tkg, if_neg c3, hd.1]
    by_cases e : dN (rB M g) (rA M g) (qfee (rS M)) w = 0
    · rw [if_pos e, e, Int.zero_mul]
    · rw [if_neg e]
      have hT : tT (qfee (rS M)) (rB M g) (rA M g) ≠ 0 := by omega
      rw [(hd.2.1 hT).1, (hd.2.1 hT).2]
theorem c_X9_takingsOf {g : Int} (rc : RC M) (hg : 0 ≤ g ∧ g < 4) : CI l m_X9_takingsOf [zr 9 0, zi g] M (fun x M' => x = tkg (rB M g) (rA M g) (qfee (rS M)) (qlaw (rS M)) ∧ mFs M M') := by
  refine vX9_takingsOf ((c_X9_lays rc hg).mono ?_)
  rintro M1 ⟨f1, h1, d1⟩
  have rc1 := f1.rc rc
  have e182 : M1 27 0 182 = qlaw (rS M1) := rfl
  rw [e182]
  rw [← f1.B, ← f1.A, ← f1.S] at h1 d1
  refine (c_X9_takingsBy rc1 hg (by rw [f1.S]; exact rc.2.2.2.2.1) h1 d1).mono ?_
  rintro x M2 ⟨rfl, f2, -, -⟩
  rw [f1.B, f1.A, f1.S]
  exact ⟨rfl, f1.tr f2.s⟩
end
