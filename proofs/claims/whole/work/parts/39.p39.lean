/-! ===== questions, both sides: helps, moved, bar ===== -/
section
variable {l : Launch} {M : zM} {S : zS}
noncomputable def gOut (S : zS) (t o : Int) : Int := gnr S (mB S (fun t' => qgr S t' = qgr S t ∧ t' ≠ o) (qsy S)) (mA S (fun t' => qgr S t' = qgr S t ∧ t' ≠ o) (qsy S)) (qfee S) (qlaw S) t
noncomputable def aHelps (S : zS) (t o : Int) : Int := if (0 ≤ t ∧ t < qn S) ∧ (0 ≤ o ∧ o < qn S) ∧ t ≠ o ∧ qgr S t = qgr S o then gOut S t o - sGn S (qgr S t) t else -2147483648
theorem vX8_helps {l : Launch} {P : Int → zM → Prop} {v1 : Int} {v2 : Int} {M : zM}
    (H0 : (CI l m_X8_areTwoOfOneGrade [zr 8 0, zi v1, zi v2] M (fun x4 M1 => (zI x4 ∧ (x4 ≠ 0 → ((hW M1 0 ∧ 0 ≤ v1 ∧ v1 < M1 1 0 6) ∧ (CV l m_X8_settleGrade [zr 8 0, zi (qgr (hS M1 0) v1)] M1 (fun M13 => (CI l m_X0_gainOf [zr 0 0, zr 1 0, zi v1] M13 (fun x19 M16 => (CV l m_X0_take [zr 0 0, zr 1 0, zi (zshl 1 (qgr (hS M1 0) v1)), zi (zshl 1 v2)] M16 (fun M20 => (CV l m_X0_settle [zr 0 0, zi (M20 1 0 7), zi (M20 1 0 8)] M20 (fun M23 => (CI l m_X0_gainOf [zr 0 0, zr 1 0, zi v1] M23 (fun x29 M26 => P (x29 - x19) M26)))))))))))) ∧ (x4 = 0 → P (-2147483648) M1))))) :
    CI l m_X8_helps [zr 8 0, zi v1, zi v2] M P :=
(aw_aload_n d_X8_helps_0 rfl rfl 0 rfl (by decide)
(aw_iload_n d_X8_helps_1 rfl rfl 1 rfl
(aw_iload_n d_X8_helps_2 rfl rfl 2 rfl
(aw_VI (As := [zi v1, zi v2]) (st := []) d_X8_helps_3 rfl cv8_360 ⟨Nat.le_of_ble_eq_true rfl, Nat.le_of_ble_eq_true rfl⟩ rfl rfl (Nat.le_of_ble_eq_true rfl) (Nat.le_of_ble_eq_true rfl) H0 (fun x4 M1 e2 => (have z5 := e2.1; have e6 := e2.2; aw_if_ne d_X8_helps_6 rfl rfl z5 (fun c7 => have e9 := e6.1 c7; (aw_aload_n d_X8_helps_12 rfl rfl 0 rfl (by decide)
(aw_getR (k' := 1) (a := 0) (b := 0) (j := 0) d_X8_helps_13 rfl fl8_12 rfl zj0 ⟨by decide, fun _ => by decide⟩
(aw_iload_n d_X8_helps_16 rfl rfl 1 rfl
(have z11 := e9.1; have e12 := e9.2; (aw_VI (As := [zi v1]) (st := []) d_X8_helps_17 rfl cv8_196 ⟨Nat.le_of_ble_eq_true rfl, Nat.le_of_ble_eq_true rfl⟩ rfl rfl (Nat.le_of_ble_eq_true rfl) (Nat.le_of_ble_eq_true rfl) (s_X1_gradeOf z11) (fun _ _ hq => aw_eqs hq
(aw_istore_n (lv' := [(3, zi (qgr (hS M1 0) v1)), (0, zr 8 0), (1, zi v1), (2, zi v2)]) d_X8_helps_20 rfl rfl (by decide) rfl
(aw_aload_n d_X8_helps_21 rfl rfl 1 rfl (by decide)
(aw_iload_n d_X8_helps_22 rfl rfl 0 rfl
(aw_VV (As := [zi (qgr (hS M1 0) v1)]) (st := []) d_X8_helps_23 rfl cv8_154 ⟨Nat.le_of_ble_eq_true rfl, Nat.le_of_ble_eq_true rfl⟩ rfl rfl (Nat.le_of_ble_eq_true rfl) (Nat.le_of_ble_eq_true rfl) e12 (fun M13 e14 => (aw_aload_n d_X8_helps_26 rfl rfl 1 rfl (by decide)
(aw_getR (k' := 0) (a := 0) (b := 0) (j := 0) d_X8_helps_27 rfl fl8_47 rfl zj0 ⟨by decide, fun _ => by decide⟩
(aw_aload_n d_X8_helps_30 rfl rfl 1 rfl (by decide)
(aw_getR (k' := 1) (a := 0) (b := 0) (j := 0) d_X8_helps_31 rfl fl8_12 rfl zj0 ⟨by decide, fun _ => by decide⟩
(aw_iload_n d_X8_helps_34 rfl rfl 2 rfl
(aw_VI (As := [zr 1 0, zi v1]) (st := []) d_X8_helps_35 rfl cv8_251 ⟨Nat.le_of_ble_eq_true rfl, Nat.le_of_ble_eq_true rfl⟩ rfl rfl (Nat.le_of_ble_eq_true rfl) (Nat.le_of_ble_eq_true rfl) e14 (fun x19 M16 e17 => (aw_istore (lv' := [(4, zi x19), (3, zi (qgr (hS M1 0) v1)), (0, zr 8 0), (1, zi v1), (2, zi v2)]) d_X8_helps_38 rfl (by decide) rfl
(aw_aload_n d_X8_helps_40 rfl rfl 2 rfl (by decide)
(aw_getR (k' := 0) (a := 0) (b := 0) (j := 0) d_X8_helps_41 rfl fl8_47 rfl zj0 ⟨by decide, fun _ => by decide⟩
(aw_aload_n d_X8_helps_44 rfl rfl 2 rfl (by decide)
(aw_getR (k' := 1) (a := 0) (b := 0) (j := 0) d_X8_helps_45 rfl fl8_12 rfl zj0 ⟨by decide, fun _ => by decide⟩
(aw_iload_n d_X8_helps_48 rfl rfl 1 rfl
(aw_SI (As := [zi (qgr (hS M1 0) v1)]) (st := [zr 1 0, zr 0 0]) d_X8_helps_49 rfl cs8_255 ⟨Nat.le_of_ble_eq_true rfl, Nat.le_of_ble_eq_true rfl⟩ rfl rfl (Nat.le_of_ble_eq_true rfl) (Nat.le_of_ble_eq_true rfl) (s_X8_bit) (fun _ _ hq => aw_eqs hq
(aw_iload_n d_X8_helps_52 rfl rfl 4 rfl
(aw_SI (As := [zi v2]) (st := [zi (zshl 1 (qgr (hS M1 0) v1)), zr 1 0, zr 0 0]) d_X8_helps_53 rfl cs8_255 ⟨Nat.le_of_ble_eq_true rfl, Nat.le_of_ble_eq_true rfl⟩ rfl rfl (Nat.le_of_ble_eq_true rfl) (Nat.le_of_ble_eq_true rfl) (s_X8_bit) (fun _ _ hq => aw_eqs hq
(aw_VV (As := [zr 1 0, zi (zshl 1 (qgr (hS M1 0) v1)), zi (zshl 1 v2)]) (st := []) d_X8_helps_56 rfl cv8_289 ⟨Nat.le_of_ble_eq_true rfl, Nat.le_of_ble_eq_true rfl⟩ rfl rfl (Nat.le_of_ble_eq_true rfl) (Nat.le_of_ble_eq_true rfl) e17 (fun M20 e21 => (aw_aload_n d_X8_helps_59 rfl rfl 2 rfl (by decide)
(aw_getR (k' := 0) (a := 0) (b := 0) (j := 0) d_X8_helps_60 rfl fl8_47 rfl zj0 ⟨by decide, fun _ => by decide⟩
(aw_aload_n d_X8_helps_63 rfl rfl 2 rfl (by decide)
(aw_getR (k' := 1) (a := 0) (b := 0) (j := 0) d_X8_helps_64 rfl fl8_12 rfl zj0 ⟨by decide, fun _ => by decide⟩
(aw_getI (kc := 7) d_X8_helps_67 rfl fl8_145 rfl rfl
(aw_aload_n d_X8_helps_70 rfl rfl 2 rfl (by decide)
(aw_getR (k' := 1) (a := 0) (b := 0) (j := 0) d_X8_helps_71 rfl fl8_12 rfl zj0 ⟨by decide, fun _ => by decide⟩
(aw_getI (kc := 8) d_X8_helps_74 rfl fl8_151 rfl rfl
(aw_VV (As := [zi (M20 1 0 7), zi (M20 1 0 8)]) (st := []) d_X8_helps_77 rfl cv8_293 ⟨Nat.le_of_ble_eq_true rfl, Nat.le_of_ble_eq_true rfl⟩ rfl rfl (Nat.le_of_ble_eq_true rfl) (Nat.le_of_ble_eq_true rfl) e21 (fun M23 e24 => (aw_aload_n d_X8_helps_80 rfl rfl 2 rfl (by decide)
(aw_getR (k' := 0) (a := 0) (b := 0) (j := 0) d_X8_helps_81 rfl fl8_47 rfl zj0 ⟨by decide, fun _ => by decide⟩
(aw_aload_n d_X8_helps_84 rfl rfl 2 rfl (by decide)
(aw_getR (k' := 1) (a := 0) (b := 0) (j := 0) d_X8_helps_85 rfl fl8_12 rfl zj0 ⟨by decide, fun _ => by decide⟩
(aw_iload_n d_X8_helps_88 rfl rfl 3 rfl
(aw_VI (As := [zr 1 0, zi v1]) (st := []) d_X8_helps_89 rfl cv8_251 ⟨Nat.le_of_ble_eq_true rfl, Nat.le_of_ble_eq_true rfl⟩ rfl rfl (Nat.le_of_ble_eq_true rfl) (Nat.le_of_ble_eq_true rfl) e24 (fun x29 M26 e27 => (aw_iload d_X8_helps_92 rfl 0 rfl
(aw_isub d_X8_helps_94 rfl
(aw_ri d_X8_helps_95 rfl e27)))))))))))))))))))))))))))))))))))))))))))))))))))) (fun c8 => have e10 := e6.2 c8; (aw_ldc d_X8_helps_9 rfl ci8_195
(aw_ri d_X8_helps_11 rfl e10)))))))))
theorem vX9_helps {l : Launch} {P : Int → zM → Prop} {v1 : Int} {v2 : Int} {M : zM}
    (H0 : ((zI v1 ∧ (0 ≤ M 27 0 180 ∧ M 27 0 180 ≤ 20)) ∧ ((¬ (0 ≤ v1 ∧ v1 < M 27 0 180) → P (-2147483648) M) ∧ (0 ≤ v1 ∧ v1 < M 27 0 180 → ((zI v2 ∧ (0 ≤ M 27 0 180 ∧ M 27 0 180 ≤ 20)) ∧ ((¬ (0 ≤ v2 ∧ v2 < M 27 0 180) → P (-2147483648) M) ∧ (0 ≤ v2 ∧ v2 < M 27 0 180 → (zI v1 ∧ zI v2 ∧ (v1 = v2 → P (-2147483648) M) ∧ (v1 ≠ v2 → ((0 ≤ 9 * v1 + 1 ∧ 9 * v1 + 1 < 187) ∧ ((0 ≤ 9 * v2 + 1 ∧ 9 * v2 + 1 < 187) ∧ (zI (M 27 0 (9 * v1 + 1)) ∧ zI (M 27 0 (9 * v2 + 1)) ∧ ((M 27 0 (9 * v1 + 1)) = (M 27 0 (9 * v2 + 1)) → (CI l m_X9_gainOf [zr 9 0, zi v1] M (fun x34 M31 => (∀ M35 : zM, M35 = zu M31 9 0 5 (zshl 1 v2) → (CI l m_X9_gainOf [zr 9 0, zi v1] M35 (fun x40 M37 => (∀ M41 : zM, M41 = zu M37 9 0 5 0 → P (x40 - x34) M41))))))) ∧ ((M 27 0 (9 * v1 + 1)) ≠ (M 27 0 (9 * v2 + 1)) → P (-2147483648) M))))))))))))) :
    CI l m_X9_helps [zr 9 0, zi v1, zi v2] M P :=
(aw_aload_n d_X9_helps_0 rfl rfl 0 rfl (by decide)
(aw_iload_n d_X9_helps_1 rfl rfl 1 rfl
(have z1 := H0.1; have e2 := H0.2; (aw_VI (As := [zi v1]) (st := []) d_X9_helps_2 rfl cv9_189 ⟨Nat.le_of_ble_eq_true rfl, Nat.le_of_ble_eq_true rfl⟩ rfl rfl (Nat.le_of_ble_eq_true rfl) (Nat.le_of_ble_eq_true rfl) (s_X9_isTrader z1) (fun _ _ hq => aw_eqs hq
(aw_if_eq d_X9_helps_5 rfl rfl zb_I (fun c3 => have e5 := e2.1 (zb_0 c3); (aw_ldc d_X9_helps_36 rfl ci9_192
(aw_ri d_X9_helps_38 rfl e5))) (fun c4 => have e6 := e2.2 (zb_n0 c4); (aw_aload_n d_X9_helps_8 rfl rfl 0 rfl (by decide)
(aw_iload_n d_X9_helps_9 rfl rfl 2 rfl
(have z7 := e6.1; have e8 := e6.2; (aw_VI (As := [zi v2]) (st := []) d_X9_helps_10 rfl cv9_189 ⟨Nat.le_of_ble_eq_true rfl, Nat.le_of_ble_eq_true rfl⟩ rfl rfl (Nat.le_of_ble_eq_true rfl) (Nat.le_of_ble_eq_true rfl) (s_X9_isTrader z7) (fun _ _ hq => aw_eqs hq
(aw_if_eq d_X9_helps_13 rfl rfl zb_I (fun c9 => have e11 := e8.1 (zb_0 c9); (aw_ldc d_X9_helps_36 rfl ci9_192
(aw_ri d_X9_helps_38 rfl e11))) (fun c10 => have e12 := e8.2 (zb_n0 c10); (aw_iload_n d_X9_helps_16 rfl rfl 1 rfl
(aw_iload_n d_X9_helps_17 rfl rfl 2 rfl
(have z13 := e12.1; have z14 := e12.2.1; have e15 := e12.2.2; aw_icmp_eq d_X9_helps_18 rfl rfl z13 z14 (fun c16 => have e18 := e15.1 c16; (aw_ldc d_X9_helps_36 rfl ci9_192
(aw_ri d_X9_helps_38 rfl e18))) (fun c17 => have e19 := e15.2 c17; (aw_aload_n d_X9_helps_21 rfl rfl 0 rfl (by decide)
(aw_iload_n d_X9_helps_22 rfl rfl 1 rfl
(aw_iconst d_X9_helps_23 rfl
(have z20 := e19.1; have e21 := e19.2; (aw_VI (As := [zi v1, zi 1]) (st := []) d_X9_helps_24 rfl cv9_88 ⟨Nat.le_of_ble_eq_true rfl, Nat.le_of_ble_eq_true rfl⟩ rfl rfl (Nat.le_of_ble_eq_true rfl) (Nat.le_of_ble_eq_true rfl) (s_X9_of z20) (fun _ _ hq => aw_eqs hq
(aw_aload_n d_X9_helps_27 rfl rfl 0 rfl (by decide)
(aw_iload_n d_X9_helps_28 rfl rfl 2 rfl
(aw_iconst d_X9_helps_29 rfl
(have z22 := e21.1; have e23 := e21.2; (aw_VI (As := [zi v2, zi 1]) (st := [zi (M 27 0 (9 * v1 + 1))]) d_X9_helps_30 rfl cv9_88 ⟨Nat.le_of_ble_eq_true rfl, Nat.le_of_ble_eq_true rfl⟩ rfl rfl (Nat.le_of_ble_eq_true rfl) (Nat.le_of_ble_eq_true rfl) (s_X9_of z22) (fun _ _ hq => aw_eqs hq
(have z24 := e23.1; have z25 := e23.2.1; have e26 := e23.2.2; aw_icmp_eq d_X9_helps_33 rfl rfl z24 z25 (fun c27 => have e29 := e26.1 c27; (aw_aload_n d_X9_helps_39 rfl rfl 0 rfl (by decide)
(aw_iload_n d_X9_helps_40 rfl rfl 1 rfl
(aw_VI (As := [zi v1]) (st := []) d_X9_helps_41 rfl cv9_204 ⟨Nat.le_of_ble_eq_true rfl, Nat.le_of_ble_eq_true rfl⟩ rfl rfl (Nat.le_of_ble_eq_true rfl) (Nat.le_of_ble_eq_true rfl) e29 (fun x34 M31 e32 => (aw_istore_n (lv' := [(3, zi x34), (0, zr 9 0), (1, zi v1), (2, zi v2)]) d_X9_helps_44 rfl rfl (by decide) rfl
(aw_aload_n d_X9_helps_45 rfl rfl 1 rfl (by decide)
(aw_iconst d_X9_helps_46 rfl
(aw_iload_n d_X9_helps_47 rfl rfl 3 rfl
(aw_ishl d_X9_helps_48 rfl zshl_h
(have e36 := e32 _ rfl; aw_put (kc := 5) d_X9_helps_49 rfl fp9_107 rfl rfl rfl rfl
(aw_aload_n d_X9_helps_52 rfl rfl 1 rfl (by decide)
(aw_iload_n d_X9_helps_53 rfl rfl 2 rfl
(aw_VI (As := [zi v1]) (st := []) d_X9_helps_54 rfl cv9_204 ⟨Nat.le_of_ble_eq_true rfl, Nat.le_of_ble_eq_true rfl⟩ rfl rfl (Nat.le_of_ble_eq_true rfl) (Nat.le_of_ble_eq_true rfl) e36 (fun x40 M37 e38 => (aw_istore (lv' := [(4, zi x40), (3, zi x34), (0, zr 9 0), (1, zi v1), (2, zi v2)]) d_X9_helps_57 rfl (by decide) rfl
(aw_aload_n d_X9_helps_59 rfl rfl 2 rfl (by decide)
(aw_iconst d_X9_helps_60 rfl
(have e42 := e38 _ rfl; aw_put (kc := 5) d_X9_helps_61 rfl fp9_107 rfl rfl rfl rfl
(aw_iload d_X9_helps_64 rfl 0 rfl
(aw_iload_n d_X9_helps_66 rfl rfl 1 rfl
(aw_isub d_X9_helps_67 rfl
(aw_ri d_X9_helps_68 rfl e42))))))))))))))))))))))) (fun c28 => have e30 := e26.2 c28; (aw_ldc d_X9_helps_36 rfl ci9_192
(aw_ri d_X9_helps_38 rfl e30))))))))))))))))))))))))))))))))))
theorem q8_helps {t o : Int} (c : CX M S) (zt : zI t) (zo : zI o) : CI l m_X8_helps [zr 8 0, zi t, zi o] M (fun x M' => x = aHelps S t o ∧ Fr kScr M M') := by
  have w0 := c.1.1
  have hn := c.2.1.1
  refine vX8_helps ((s_two c ⟨zt, zo⟩).eq ⟨zb_I, fun q => ?_, fun q => ⟨by rw [aHelps, if_neg (zb_0 q)], Fr.rf⟩⟩)
  have q := zb_n0 q
  have hgr := c.2.2.1 t q.1
  rw [c.n, c.1.2, aHelps, if_pos q]
  refine ⟨⟨w0, q.1⟩, ?_⟩
  refine (c_settleGrade c hgr).mono ?_
  rintro M1 ⟨f1, s1⟩
  have c1 := c.bk f1
  refine (c_gainOf c1 c.2.1 zt s1).eq ?_
  refine (c_X0_take (E := fun t' => qgr S t' = qgr S t ∧ t' ≠ o) c1.1.1 c1.1.2 c.2.1 (fun t' ht' => ?_)).mono ?_
  · rw [← grE c.2 hgr t' ht', hb_bit (by omega) (by omega), decide_eq_false_iff_not]
  · rintro M2 ⟨f2, r2⟩
    have c2 := c1.bk f2
    rw [c2.fee, c2.law]
    refine (c_X0_settle (gd_m c.2.1) c.2.2.2.1 c.2.2.2.2 r2).mono ?_
    rintro M3 ⟨f3, s3⟩
    have c3 := c2.bk f3.bk
    exact (c_gainOf c3 c.2.1 zt s3).eq ⟨rfl, ((f1.tr f2).tr f3.bk).scr⟩
theorem q9_helps {t o : Int} (h : MX M S) (zt : zI t) (zo : zI o) : CI l m_X9_helps [zr 9 0, zi t, zi o] M (fun x M' => x = aHelps S t o ∧ mQ M M') := by
  have hn := h.1.1.n
  have ok := h.ok
  refine vX9_helps ?_
  rw [h.n] at hn ⊢
  refine ⟨⟨zt, hn⟩, fun a => ⟨by rw [aHelps, if_neg (fun q => a q.1)], mQ.rf h⟩, fun a => ⟨⟨zo, hn⟩, fun a2 => ⟨by rw [aHelps, if_neg (fun q => a2 q.2.1)], mQ.rf h⟩, fun a2 => ⟨zt, zo, fun e => ⟨by rw [aHelps, if_neg (fun q => q.2.2.1 e)], mQ.rf h⟩, fun e => ?_⟩⟩⟩
  have eg1 : M 27 0 (9 * t + 1) = qgr S t := by rw [← rS_gr (M := M) (t := t) (by rw [h.1.2]; exact a), h.1.2]
  have eg2 : M 27 0 (9 * o + 1) = qgr S o := by rw [← rS_gr (M := M) (t := o) (by rw [h.1.2]; exact a2), h.1.2]
  have r1 := ok.2.1 t a
  have r2 := ok.2.1 o a2
  rw [eg1, eg2]
  refine ⟨by omega, by omega, by omega, by omega, fun e2 => ?_, fun e2 => ⟨by rw [aHelps, if_neg (fun q => e2 q.2.2.2)], mQ.rf h⟩⟩
  rw [aHelps, if_pos ⟨a, a2, e, e2⟩]
  refine (c_X9_gainOf h.1.1 (by rw [h.1.2]; exact a) (by rw [h.2.1, hb_0])).mono ?_
  rintro x M1 ⟨rfl, f1, -, -⟩
  have hx1 := h.q (mFs.q h f1)
  intro M2 q2
  have e27 : M2 27 0 = M1 27 0 := by rw [q2, zu_k (by decide)]
  have eS : rS M2 = S := (rS_congr e27).trans hx1.1.2
  have e5 : M2 9 0 5 = zshl 1 o := by rw [q2, zu_at, if_pos rfl]
  have e6 : M2 9 0 6 = 0 := by rw [q2, zu_at, if_neg (by decide), hx1.2.2]
  have e7 : M2 9 0 7 = M1 9 0 7 := by rw [q2, zu_at, if_neg (by decide)]
  have rc2 : RC M2 := by
    have rc := hx1.1.1
    unfold RC at rc ⊢
    rw [eS, e7]
    rw [hx1.1.2] at rc
    exact ⟨mW_27 e27 rc.1, rc.2⟩
  have em := m_congrE (S := S) (E := rG M2 (qgr S t)) (E' := fun t' => qgr S t' = qgr S t ∧ t' ≠ o) (v := rV M2) (v' := qsy S) (fun t' ht' => by
    unfold rG
    rw [eS, e5, hb_bit (by omega) (by omega), decide_eq_false_iff_not]) (fun t' u q _ => by
    unfold rV
    rw [eS, e6, hb_0]
    simp)
  refine (c_X9_gainOf rc2 (by rw [eS]; exact a) (by rw [e5, hb_bit (by omega) (by omega), decide_eq_false_iff_not]; exact e)).mono ?_
  rintro x M3 ⟨rfl, f3, -, -⟩
  intro M4 q4
  refine ⟨?_, fun k i h1 h2 => ?_, fun j hj => ?_, ?_⟩
  · have eg : rGn M2 t = gOut S t o := by
      unfold rGn gOut rB rA
      rw [eS, em.1, em.2]
    rw [eg, h.Gn]
  · rw [q4, zu_k h1, f3.1 k i h1 (by omega), q2, zu_k h1, f1.1 k i h1 (by omega)]
  · rw [q4, zu_at]
    by_cases c : j = 5
    · rw [if_pos c, c, h.2.1]
    · rw [if_neg c, f3.F j (by omega), q2, zu_at, if_neg c, f1.F j (by omega)]
  · rw [q4, zu_at, if_neg (by decide), f3.F 7 (by omega), e7, f1.F 7 (by omega)]
    exact h.1.1.2.2.2.2.2
/-! moved -/
noncomputable def gMv (S : zS) (t g : Int) : Int := gnr S (mB S (fun t' => (qgr S t' = g ∧ t' ≠ t) ∨ t' = t) (qsy S)) (mA S (fun t' => (qgr S t' = g ∧ t' ≠ t) ∨ t' = t) (qsy S)) (qfee S) (qlaw S) t
noncomputable def bMv (S : zS) (t : Int) : Nat → Int × Int
  | 0 => (gMv S t (qgr S t), qgr S t)
  | k + 1 => if (bMv S t k).1 < gMv S t k then (gMv S t k, (k : Int)) else bMv S t k
theorem gMv_b {S : zS} (h : okS S) (t g : Int) : -5000000 ≤ gMv S t g ∧ gMv S t g ≤ 5000000 := gnr_b h.1 h.1 h.2.2.1
theorem bMv_b {S : zS} (h : okS S) (t : Int) : ∀ k, -5000000 ≤ (bMv S t k).1 ∧ (bMv S t k).1 ≤ 5000000
  | 0 => gMv_b h t _
  | k + 1 => by
    rw [bMv]
    split
    · exact gMv_b h t _
    · exact bMv_b h t k
noncomputable def aMoved (S : zS) (t k : Int) : Int := if (0 ≤ t ∧ t < qn S) ∧ (k = 0 ∨ k = 1) then (if k = 0 then (bMv S t 4).2 else (bMv S t 4).1) else -2147483648
theorem c_gMv {t g : Int} (c : CX M S) (ht : 0 ≤ t ∧ t < qn S) (r : bkR M 1 (mB S (fun t' => qgr S t' = g ∧ hb (zshl 1 t) t' = false) (qsy S)) (mA S (fun t' => qgr S t' = g ∧ hb (zshl 1 t) t' = false) (qsy S))) :
    CI l m_X8_gainByLie [zr 8 0, zi t, zi 0] M (fun x M' => x = gMv S t g ∧ Fx (kBk 0) M M') := by
  have hn := c.2.1.1
  refine (c_gainByLie c ht (fun q => ?_) (by omega) r).mono ?_
  · have := q.2
    rw [hb_bit (by omega) (by omega)] at this
    simp at this
  · rintro x M' ⟨rfl, f⟩
    refine ⟨?_, f⟩
    have e := m_congrE (S := S) (E := fun t' => (qgr S t' = g ∧ hb (zshl 1 t) t' = false) ∨ t' = t) (E' := fun t' => (qgr S t' = g ∧ t' ≠ t) ∨ t' = t) (v := vL S (fun t' => decide (t' = t)) 0) (v' := qsy S) (fun t' ht' => by
      rw [hb_bit (by omega) (by omega), decide_eq_false_iff_not]) (fun t' u q _ => by
      have := c.2.1.2.2.1 t' u q
      unfold vL zhold
      split <;> omega)
    unfold gLie gMv
    rw [e.1, e.2]
def LX8_moved_50 (l : Launch) (P : Int → zM → Prop) (v1 : Int) (v2 : Int) (v3 : Int) (v4 : Int) (v5 : Int) (M : zM) : Prop := AW l m_X8_moved (zTi m_X8_moved P) 50 [(0, zr 8 0), (1, zi v1), (2, zi v2), (3, zi v3), (4, zi v4), (5, zi v5)] [] M
theorem vX8_moved_50 {l : Launch} {P : Int → zM → Prop} {v1 : Int} {v2 : Int} {v3 : Int} {v4 : Int} {v5 : Int} {M : zM}
    (H0 : (zI v5 ∧ (4 ≤ v5 → (zI v2 ∧ (v2 ≠ 0 → P v4 M) ∧ (v2 = 0 → P v3 M))) ∧ (v5 < 4 → (CV l m_X8_setAside [zr 8 0, zi v5, zi (zshl 1 v1)] M (fun M34 => (CI l m_X8_gainByLie [zr 8 0, zi v1, zi 0] M34 (fun x40 M37 => (zI x40 ∧ zI v4 ∧ (x40 ≤ v4 → LX8_moved_50 l P v1 v2 v3 v4 (v5 + 1) M37) ∧ (v4 < x40 → LX8_moved_50 l P v1 v2 v5 x40 (v5 + 1) M37))))))))) :
    LX8_moved_50 l P v1 v2 v3 v4 v5 M :=
(aw_iload d_X8_moved_50 rfl 5 rfl
(aw_iconst d_X8_moved_52 rfl
(have z22 := H0.1; have e23 := H0.2; aw_icmp_ge d_X8_moved_53 rfl rfl z22 (by decide) (fun c24 => have e26 := e23.1 c24; (aw_iload_n d_X8_moved_94 rfl rfl 2 rfl
(have z28 := e26.1; have e29 := e26.2; aw_if_ne d_X8_moved_95 rfl rfl z28 (fun c30 => have e32 := e29.1 c30; (aw_iload d_X8_moved_102 rfl 4 rfl
(aw_ri d_X8_moved_104 rfl e32))) (fun c31 => have e33 := e29.2 c31; (aw_iload_n d_X8_moved_98 rfl rfl 3 rfl
(aw_goto d_X8_moved_99 rfl
(aw_ri d_X8_moved_104 rfl e33))))))) (fun c25 => have e27 := e23.2 c25; (aw_aload_n d_X8_moved_56 rfl rfl 0 rfl (by decide)
(aw_iload d_X8_moved_57 rfl 5 rfl
(aw_iload_n d_X8_moved_59 rfl rfl 1 rfl
(aw_SI (As := [zi v1]) (st := [zi v5, zr 8 0]) d_X8_moved_60 rfl cs8_255 ⟨Nat.le_of_ble_eq_true rfl, Nat.le_of_ble_eq_true rfl⟩ rfl rfl (Nat.le_of_ble_eq_true rfl) (Nat.le_of_ble_eq_true rfl) (s_X8_bit) (fun _ _ hq => aw_eqs hq
(aw_VV (As := [zi v5, zi (zshl 1 v1)]) (st := []) d_X8_moved_63 rfl cv8_258 ⟨Nat.le_of_ble_eq_true rfl, Nat.le_of_ble_eq_true rfl⟩ rfl rfl (Nat.le_of_ble_eq_true rfl) (Nat.le_of_ble_eq_true rfl) e27 (fun M34 e35 => (aw_aload_n d_X8_moved_66 rfl rfl 0 rfl (by decide)
(aw_iload_n d_X8_moved_67 rfl rfl 1 rfl
(aw_iconst d_X8_moved_68 rfl
(aw_VI (As := [zi v1, zi 0]) (st := []) d_X8_moved_69 rfl cv8_261 ⟨Nat.le_of_ble_eq_true rfl, Nat.le_of_ble_eq_true rfl⟩ rfl rfl (Nat.le_of_ble_eq_true rfl) (Nat.le_of_ble_eq_true rfl) e35 (fun x40 M37 e38 => (aw_istore (lv' := [(6, zi x40), (0, zr 8 0), (1, zi v1), (2, zi v2), (3, zi v3), (4, zi v4), (5, zi v5)]) d_X8_moved_72 rfl (by decide) rfl
(aw_iload d_X8_moved_74 rfl 0 rfl
(aw_iload d_X8_moved_76 rfl 5 rfl
(have z41 := e38.1; have z42 := e38.2.1; have e43 := e38.2.2; aw_icmp_le d_X8_moved_78 rfl rfl z41 z42 (fun c44 => have e46 := e43.1 c44; (aw_iinc (lv' := [(5, zi (v5 + 1)), (6, zi x40), (0, zr 8 0), (1, zi v1), (2, zi v2), (3, zi v3), (4, zi v4)]) (y := (v5 + 1)) d_X8_moved_88 rfl 6 rfl (by decide) rfl rfl
(aw_goto d_X8_moved_91 rfl
(aw_sub [2, 3, 4, 5, 6, 0] rfl e46)))) (fun c45 => have e47 := e43.2 c45; (aw_iload d_X8_moved_81 rfl 0 rfl
(aw_istore (lv' := [(4, zi x40), (6, zi x40), (0, zr 8 0), (1, zi v1), (2, zi v2), (3, zi v3), (5, zi v5)]) d_X8_moved_83 rfl (by decide) rfl
(aw_iload d_X8_moved_85 rfl 6 rfl
(aw_istore_n (lv' := [(3, zi v5), (4, zi x40), (6, zi x40), (0, zr 8 0), (1, zi v1), (2, zi v2), (5, zi v5)]) d_X8_moved_87 rfl rfl (by decide) rfl
(aw_iinc (lv' := [(5, zi (v5 + 1)), (3, zi v5), (4, zi x40), (6, zi x40), (0, zr 8 0), (1, zi v1), (2, zi v2)]) (y := (v5 + 1)) d_X8_moved_88 rfl 6 rfl (by decide) rfl rfl
(aw_goto d_X8_moved_91 rfl
(aw_sub [4, 5, 6, 1, 2, 0] rfl e47))))))))))))))))))))))))))))
theorem vX8_moved {l : Launch} {P : Int → zM → Prop} {v1 : Int} {v2 : Int} {M : zM}
    (H0 : ((hW M 0 ∧ zI v1) ∧ ((¬ (0 ≤ v1 ∧ v1 < M 1 0 6) → P (-2147483648) M) ∧ (0 ≤ v1 ∧ v1 < M 1 0 6 → (zI v2 ∧ ((v2 = 0 ∨ v2 = 1 → ((hW M 0 ∧ 0 ≤ v1 ∧ v1 < M 1 0 6) ∧ (CV l m_X8_setAside [zr 8 0, zi (qgr (hS M 0) v1), zi (zshl 1 v1)] M (fun M15 => (CI l m_X8_gainByLie [zr 8 0, zi v1, zi 0] M15 (fun x21 M18 => LX8_moved_50 l P v1 v2 (qgr (hS M 0) v1) x21 0 M18)))))) ∧ (¬ (v2 = 0 ∨ v2 = 1) → P (-2147483648) M))))))) :
    CI l m_X8_moved [zr 8 0, zi v1, zi v2] M P :=
(aw_aload_n d_X8_moved_0 rfl rfl 0 rfl (by decide)
(aw_getR (k' := 1) (a := 0) (b := 0) (j := 0) d_X8_moved_1 rfl fl8_12 rfl zj0 ⟨by decide, fun _ => by decide⟩
(aw_iload_n d_X8_moved_4 rfl rfl 1 rfl
(have z1 := H0.1; have e2 := H0.2; (aw_VI (As := [zi v1]) (st := []) d_X8_moved_5 rfl cv8_110 ⟨Nat.le_of_ble_eq_true rfl, Nat.le_of_ble_eq_true rfl⟩ rfl rfl (Nat.le_of_ble_eq_true rfl) (Nat.le_of_ble_eq_true rfl) (s_X1_has z1) (fun _ _ hq => aw_eqs hq
(aw_if_eq d_X8_moved_8 rfl rfl zb_I (fun c3 => have e5 := e2.1 (zb_0 c3); (aw_ldc d_X8_moved_18 rfl ci8_195
(aw_ri d_X8_moved_20 rfl e5))) (fun c4 => have e6 := e2.2 (zb_n0 c4); (aw_iload_n d_X8_moved_11 rfl rfl 2 rfl
(have z7 := e6.1; have e8 := e6.2; (aw_SI (As := [zi v2]) (st := []) d_X8_moved_12 rfl cs8_248 ⟨Nat.le_of_ble_eq_true rfl, Nat.le_of_ble_eq_true rfl⟩ rfl rfl (Nat.le_of_ble_eq_true rfl) (Nat.le_of_ble_eq_true rfl) (s_X8_isZeroOrOne z7) (fun _ _ hq => aw_eqs hq
(aw_if_ne d_X8_moved_15 rfl rfl zb_I (fun c9 => have e11 := e8.1 (zb_n0 c9); (aw_aload_n d_X8_moved_21 rfl rfl 0 rfl (by decide)
(aw_getR (k' := 1) (a := 0) (b := 0) (j := 0) d_X8_moved_22 rfl fl8_12 rfl zj0 ⟨by decide, fun _ => by decide⟩
(aw_iload_n d_X8_moved_25 rfl rfl 1 rfl
(have z13 := e11.1; have e14 := e11.2; (aw_VI (As := [zi v1]) (st := []) d_X8_moved_26 rfl cv8_196 ⟨Nat.le_of_ble_eq_true rfl, Nat.le_of_ble_eq_true rfl⟩ rfl rfl (Nat.le_of_ble_eq_true rfl) (Nat.le_of_ble_eq_true rfl) (s_X1_gradeOf z13) (fun _ _ hq => aw_eqs hq
(aw_istore_n (lv' := [(3, zi (qgr (hS M 0) v1)), (0, zr 8 0), (1, zi v1), (2, zi v2)]) d_X8_moved_29 rfl rfl (by decide) rfl
(aw_aload_n d_X8_moved_30 rfl rfl 1 rfl (by decide)
(aw_iload_n d_X8_moved_31 rfl rfl 0 rfl
(aw_iload_n d_X8_moved_32 rfl rfl 2 rfl
(aw_SI (As := [zi v1]) (st := [zi (qgr (hS M 0) v1), zr 8 0]) d_X8_moved_33 rfl cs8_255 ⟨Nat.le_of_ble_eq_true rfl, Nat.le_of_ble_eq_true rfl⟩ rfl rfl (Nat.le_of_ble_eq_true rfl) (Nat.le_of_ble_eq_true rfl) (s_X8_bit) (fun _ _ hq => aw_eqs hq
(aw_VV (As := [zi (qgr (hS M 0) v1), zi (zshl 1 v1)]) (st := []) d_X8_moved_36 rfl cv8_258 ⟨Nat.le_of_ble_eq_true rfl, Nat.le_of_ble_eq_true rfl⟩ rfl rfl (Nat.le_of_ble_eq_true rfl) (Nat.le_of_ble_eq_true rfl) e14 (fun M15 e16 => (aw_aload_n d_X8_moved_39 rfl rfl 1 rfl (by decide)
(aw_iload_n d_X8_moved_40 rfl rfl 2 rfl
(aw_iconst d_X8_moved_41 rfl
(aw_VI (As := [zi v1, zi 0]) (st := []) d_X8_moved_42 rfl cv8_261 ⟨Nat.le_of_ble_eq_true rfl, Nat.le_of_ble_eq_true rfl⟩ rfl rfl (Nat.le_of_ble_eq_true rfl) (Nat.le_of_ble_eq_true rfl) e16 (fun x21 M18 e19 => (aw_istore (lv' := [(4, zi x21), (3, zi (qgr (hS M 0) v1)), (0, zr 8 0), (1, zi v1), (2, zi v2)]) d_X8_moved_45 rfl (by decide) rfl
(aw_iconst d_X8_moved_47 rfl
(aw_istore (lv' := [(5, zi 0), (4, zi x21), (3, zi (qgr (hS M 0) v1)), (0, zr 8 0), (1, zi v1), (2, zi v2)]) d_X8_moved_48 rfl (by decide) rfl
(aw_sub [3, 4, 5, 2, 1, 0] rfl e19)))))))))))))))))))))))) (fun c10 => have e12 := e8.2 (zb_0 c10); (aw_ldc d_X8_moved_18 rfl ci8_195
(aw_ri d_X8_moved_20 rfl e12))))))))))))))))
def LX9_moved_41 (l : Launch) (P : Int → zM → Prop) (v1 : Int) (v2 : Int) (v3 : Int) (v4 : Int) (v5 : Int) (v6 : Int) (M : zM) : Prop := AW l m_X9_moved (zTi m_X9_moved P) 41 [(0, zr 9 0), (1, zi v1), (2, zi v2), (3, zi v3), (4, zi v4), (5, zi v5), (6, zi v6)] [] M
theorem vX9_moved_41 {l : Launch} {P : Int → zM → Prop} {v1 : Int} {v2 : Int} {v3 : Int} {v4 : Int} {v5 : Int} {v6 : Int} {M : zM}
    (H0 : (zI v6 ∧ (4 ≤ v6 → ((0 ≤ ((9 * v1) + 1) ∧ ((9 * v1) + 1) < 187) ∧ ∀ M28 : zM, M28 = zu M 27 0 ((9 * v1) + 1) v3 → (zI v2 ∧ (v2 ≠ 0 → P v5 M28) ∧ (v2 = 0 → P v4 M28)))) ∧ (v6 < 4 → ((0 ≤ ((9 * v1) + 1) ∧ ((9 * v1) + 1) < 187) ∧ ∀ M37 : zM, M37 = zu M 27 0 ((9 * v1) + 1) v6 → (CI l m_X9_gainOf [zr 9 0, zi v1] M37 (fun x42 M39 => (zI x42 ∧ zI v5 ∧ (v5 < x42 → LX9_moved_41 l P v1 v2 v3 v6 x42 (v6 + 1) M39) ∧ (x42 ≤ v5 → LX9_moved_41 l P v1 v2 v3 v4 v5 (v6 + 1) M39)))))))) :
    LX9_moved_41 l P v1 v2 v3 v4 v5 v6 M :=
(aw_iload d_X9_moved_41 rfl 6 rfl
(aw_iconst d_X9_moved_43 rfl
(have z21 := H0.1; have e22 := H0.2; aw_icmp_ge d_X9_moved_44 rfl rfl z21 (by decide) (fun c23 => have e25 := e22.1 c23; (aw_aload_n d_X9_moved_91 rfl rfl 0 rfl (by decide)
(aw_getR (k' := 27) (a := 0) (b := 0) (j := 0) d_X9_moved_92 rfl fl9_7 rfl zj0 ⟨by decide, fun _ => by decide⟩
(aw_bipush d_X9_moved_95 rfl (by decide)
(aw_iload_n d_X9_moved_97 rfl rfl 1 rfl
(aw_imul d_X9_moved_98 rfl
(aw_iconst d_X9_moved_99 rfl
(aw_iadd d_X9_moved_100 rfl
(aw_iload_n d_X9_moved_101 rfl rfl 3 rfl
(have z27 := e25.1; have e29 := e25.2 _ rfl; aw_iast d_X9_moved_102 rfl za27 z27
(aw_iload_n d_X9_moved_103 rfl rfl 2 rfl
(have z30 := e29.1; have e31 := e29.2; aw_if_ne d_X9_moved_104 rfl rfl z30 (fun c32 => have e34 := e31.1 c32; (aw_iload d_X9_moved_112 rfl 5 rfl
(aw_ri d_X9_moved_114 rfl e34))) (fun c33 => have e35 := e31.2 c33; (aw_iload d_X9_moved_107 rfl 4 rfl
(aw_goto d_X9_moved_109 rfl
(aw_ri d_X9_moved_114 rfl e35)))))))))))))))) (fun c24 => have e26 := e22.2 c24; (aw_aload_n d_X9_moved_47 rfl rfl 0 rfl (by decide)
(aw_getR (k' := 27) (a := 0) (b := 0) (j := 0) d_X9_moved_48 rfl fl9_7 rfl zj0 ⟨by decide, fun _ => by decide⟩
(aw_bipush d_X9_moved_51 rfl (by decide)
(aw_iload_n d_X9_moved_53 rfl rfl 1 rfl
(aw_imul d_X9_moved_54 rfl
(aw_iconst d_X9_moved_55 rfl
(aw_iadd d_X9_moved_56 rfl
(aw_iload d_X9_moved_57 rfl 6 rfl
(have z36 := e26.1; have e38 := e26.2 _ rfl; aw_iast d_X9_moved_59 rfl za27 z36
(aw_aload_n d_X9_moved_60 rfl rfl 0 rfl (by decide)
(aw_iload_n d_X9_moved_61 rfl rfl 1 rfl
(aw_VI (As := [zi v1]) (st := []) d_X9_moved_62 rfl cv9_204 ⟨Nat.le_of_ble_eq_true rfl, Nat.le_of_ble_eq_true rfl⟩ rfl rfl (Nat.le_of_ble_eq_true rfl) (Nat.le_of_ble_eq_true rfl) e38 (fun x42 M39 e40 => (aw_istore (lv' := [(7, zi x42), (0, zr 9 0), (1, zi v1), (2, zi v2), (3, zi v3), (4, zi v4), (5, zi v5), (6, zi v6)]) d_X9_moved_65 rfl (by decide) rfl
(aw_iload d_X9_moved_67 rfl 0 rfl
(aw_iload d_X9_moved_69 rfl 6 rfl
(have z43 := e40.1; have z44 := e40.2.1; have e45 := e40.2.2; aw_icmp_gt d_X9_moved_71 rfl rfl z43 z44 (fun c46 => have e48 := e45.1 c46; (aw_iload d_X9_moved_77 rfl 0 rfl
(aw_istore (lv' := [(5, zi x42), (7, zi x42), (0, zr 9 0), (1, zi v1), (2, zi v2), (3, zi v3), (4, zi v4), (6, zi v6)]) d_X9_moved_79 rfl (by decide) rfl
(aw_iload d_X9_moved_81 rfl 7 rfl
(aw_istore (lv' := [(4, zi v6), (5, zi x42), (7, zi x42), (0, zr 9 0), (1, zi v1), (2, zi v2), (3, zi v3), (6, zi v6)]) d_X9_moved_83 rfl (by decide) rfl
(aw_iinc (lv' := [(6, zi (v6 + 1)), (4, zi v6), (5, zi x42), (7, zi x42), (0, zr 9 0), (1, zi v1), (2, zi v2), (3, zi v3)]) (y := (v6 + 1)) d_X9_moved_85 rfl 7 rfl (by decide) rfl rfl
(aw_goto d_X9_moved_88 rfl
(aw_sub [4, 5, 6, 7, 1, 2, 0] rfl e48)))))))) (fun c47 => have e49 := e45.2 c47; (aw_goto d_X9_moved_74 rfl
(aw_iinc (lv' := [(6, zi (v6 + 1)), (7, zi x42), (0, zr 9 0), (1, zi v1), (2, zi v2), (3, zi v3), (4, zi v4), (5, zi v5)]) (y := (v6 + 1)) d_X9_moved_85 rfl 7 rfl (by decide) rfl rfl
(aw_goto d_X9_moved_88 rfl
(aw_sub [2, 3, 4, 5, 6, 7, 0] rfl e49))))))))))))))))))))))))))
theorem vX9_moved {l : Launch} {P : Int → zM → Prop} {v1 : Int} {v2 : Int} {M : zM}
    (H0 : ((zI v1 ∧ (0 ≤ M 27 0 180 ∧ M 27 0 180 ≤ 20)) ∧ ((¬ (0 ≤ v1 ∧ v1 < M 27 0 180) → P (-2147483648) M) ∧ (0 ≤ v1 ∧ v1 < M 27 0 180 → (zI v2 ∧ ((zJ v2 ∧ zJ 0 ∧ zJ 1) ∧ ((0 ≤ v2 ∧ v2 ≤ 1 → ((0 ≤ 9 * v1 + 1 ∧ 9 * v1 + 1 < 187) ∧ (CI l m_X9_gainOf [zr 9 0, zi v1] M (fun x20 M17 => LX9_moved_41 l P v1 v2 (M 27 0 (9 * v1 + 1)) (M 27 0 (9 * v1 + 1)) x20 0 M17)))) ∧ (¬ (0 ≤ v2 ∧ v2 ≤ 1) → P (-2147483648) M)))))))) :
    CI l m_X9_moved [zr 9 0, zi v1, zi v2] M P :=
(aw_aload_n d_X9_moved_0 rfl rfl 0 rfl (by decide)
(aw_iload_n d_X9_moved_1 rfl rfl 1 rfl
(have z1 := H0.1; have e2 := H0.2; (aw_VI (As := [zi v1]) (st := []) d_X9_moved_2 rfl cv9_189 ⟨Nat.le_of_ble_eq_true rfl, Nat.le_of_ble_eq_true rfl⟩ rfl rfl (Nat.le_of_ble_eq_true rfl) (Nat.le_of_ble_eq_true rfl) (s_X9_isTrader z1) (fun _ _ hq => aw_eqs hq
(aw_if_eq d_X9_moved_5 rfl rfl zb_I (fun c3 => have e5 := e2.1 (zb_0 c3); (aw_ldc d_X9_moved_18 rfl ci9_192
(aw_ri d_X9_moved_20 rfl e5))) (fun c4 => have e6 := e2.2 (zb_n0 c4); (aw_iload_n d_X9_moved_8 rfl rfl 2 rfl
(have z7 := e6.1; have e8 := e6.2; (aw_i2l d_X9_moved_9 rfl z7
(aw_lconst (x := 0) d_X9_moved_10 rfl (by decide)
(aw_lconst (x := 1) d_X9_moved_11 rfl (by decide)
(have z9 := e8.1; have e10 := e8.2; (aw_SI (As := [zl v2, zl 0, zl 1]) (st := []) d_X9_moved_12 rfl cs9_82 ⟨Nat.le_of_ble_eq_true rfl, Nat.le_of_ble_eq_true rfl⟩ rfl rfl (Nat.le_of_ble_eq_true rfl) (Nat.le_of_ble_eq_true rfl) (s_X9_in z9) (fun _ _ hq => aw_eqs hq
(aw_if_ne d_X9_moved_15 rfl rfl zb_I (fun c11 => have e13 := e10.1 (zb_n0 c11); (aw_aload_n d_X9_moved_21 rfl rfl 0 rfl (by decide)
(aw_iload_n d_X9_moved_22 rfl rfl 1 rfl
(aw_iconst d_X9_moved_23 rfl
(have z15 := e13.1; have e16 := e13.2; (aw_VI (As := [zi v1, zi 1]) (st := []) d_X9_moved_24 rfl cv9_88 ⟨Nat.le_of_ble_eq_true rfl, Nat.le_of_ble_eq_true rfl⟩ rfl rfl (Nat.le_of_ble_eq_true rfl) (Nat.le_of_ble_eq_true rfl) (s_X9_of z15) (fun _ _ hq => aw_eqs hq
(aw_istore_n (lv' := [(3, zi (M 27 0 (9 * v1 + 1))), (0, zr 9 0), (1, zi v1), (2, zi v2)]) d_X9_moved_27 rfl rfl (by decide) rfl
(aw_iload_n d_X9_moved_28 rfl rfl 0 rfl
(aw_istore (lv' := [(4, zi (M 27 0 (9 * v1 + 1))), (3, zi (M 27 0 (9 * v1 + 1))), (0, zr 9 0), (1, zi v1), (2, zi v2)]) d_X9_moved_29 rfl (by decide) rfl
(aw_aload_n d_X9_moved_31 rfl rfl 2 rfl (by decide)
(aw_iload_n d_X9_moved_32 rfl rfl 3 rfl
(aw_VI (As := [zi v1]) (st := []) d_X9_moved_33 rfl cv9_204 ⟨Nat.le_of_ble_eq_true rfl, Nat.le_of_ble_eq_true rfl⟩ rfl rfl (Nat.le_of_ble_eq_true rfl) (Nat.le_of_ble_eq_true rfl) e16 (fun x20 M17 e18 => (aw_istore (lv' := [(5, zi x20), (4, zi (M 27 0 (9 * v1 + 1))), (3, zi (M 27 0 (9 * v1 + 1))), (0, zr 9 0), (1, zi v1), (2, zi v2)]) d_X9_moved_36 rfl (by decide) rfl
(aw_iconst d_X9_moved_38 rfl
(aw_istore (lv' := [(6, zi 0), (5, zi x20), (4, zi (M 27 0 (9 * v1 + 1))), (3, zi (M 27 0 (9 * v1 + 1))), (0, zr 9 0), (1, zi v1), (2, zi v2)]) d_X9_moved_39 rfl (by decide) rfl
(aw_sub [4, 5, 6, 3, 2, 1, 0] rfl e18)))))))))))))))))) (fun c12 => have e14 := e10.2 (zb_0 c12); (aw_ldc d_X9_moved_18 rfl ci9_192
(aw_ri d_X9_moved_20 rfl e14)))))))))))))))))))
theorem q8_moved {t k : Int} (c : CX M S) (zt : zI t) (zk : zI k) : CI l m_X8_moved [zr 8 0, zi t, zi k] M (fun x M' => x = aMoved S t k ∧ Fr kScr M M') := by
  have w0 := c.1.1
  refine vX8_moved ?_
  rw [c.n, c.1.2]
  refine ⟨⟨w0, zt⟩, fun a => ⟨by rw [aMoved, if_neg (fun q => a q.1)], Fr.rf⟩, fun a => ⟨zk, fun b => ⟨⟨w0, a⟩, ?_⟩, fun b => ⟨by rw [aMoved, if_neg (fun q => b q.2)], Fr.rf⟩⟩⟩
  have ai : aMoved S t k = if k = 0 then (bMv S t 4).2 else (bMv S t 4).1 := by rw [aMoved, if_pos ⟨a, b⟩]
  refine (c_setAside c (c.2.2.1 t a)).mono ?_
  rintro M1 ⟨f1, r1⟩
  refine (c_gMv (c.bk f1) a r1).mono ?_
  rintro x M2 ⟨rfl, f2⟩
  have loop : ∀ (n g : Nat) (M' : zM), 4 - g = n → g ≤ 4 → Fr kScr M M' → LX8_moved_50 l (fun x M' => x = aMoved S t k ∧ Fr kScr M M') t k (bMv S t g).2 (bMv S t g).1 (g : Int) M' := by
    intro n
    induction n with
    | zero =>
      intro g M' hn hg f
      have : g = 4 := by omega
      subst this
      exact vX8_moved_50 ⟨by omega, fun _ => ⟨zk, fun e => ⟨by rw [ai, if_neg e], f⟩, fun e => ⟨by rw [ai, if_pos e], f⟩⟩, fun e => by omega⟩
    | succ n ih =>
      intro g M' hn hg f
      have c1 := c.scr f
      have hb := bMv_b c.2 t g
      have hg2 := gMv_b c.2 t g
      refine vX8_moved_50 ⟨by omega, fun e => by omega, fun _ => (c_setAside c1 (by omega)).mono ?_⟩
      rintro M3 ⟨f3, r3⟩
      refine (c_gMv (c1.bk f3) a r3).mono ?_
      rintro x M4 ⟨rfl, f4⟩
      have := ih (g + 1) M4 (by omega) (by omega) ((f.tr f3.scr).tr f4.scr)
      have eb : bMv S t (g + 1) = if (bMv S t g).1 < gMv S t g then (gMv S t g, (g : Int)) else bMv S t g := rfl
      rw [eb, show ((g + 1 : Nat) : Int) = (g : Int) + 1 by omega] at this
      refine ⟨by omega, by omega, fun e => ?_, fun e => ?_⟩
      · rw [if_neg (by omega)] at this; exact this
      · rw [if_pos e] at this; exact this
  exact loop _ 0 M2 rfl (by omega) (f1.scr.tr f2.scr)
def sMv (S : zS) (t g : Int) : zS := (qsc S, qsl S, upf (qgr S) t g, qun S, qsy S, qpu S, qtr S)
theorem gMv_eq {S : zS} {t g : Int} : sGn (sMv S t g) g t = gMv S t g := by
  have e1 : qB (sMv S t g) g = mB S (fun t' => (qgr S t' = g ∧ t' ≠ t) ∨ t' = t) (qsy S) := by
    refine mB_congr (fun t' u => ?_) (fun _ _ _ => rfl)
    have key : (upf (qgr S) t g t' = g) ↔ ((qgr S t' = g ∧ t' ≠ t) ∨ t' = t) := by
      unfold upf
      by_cases c : t' = t
      · rw [if_pos c]; exact ⟨fun _ => .inr c, fun _ => rfl⟩
      · rw [if_neg c]; exact ⟨fun q => .inl ⟨q, c⟩, fun q => q.elim (fun q => q.1) (fun q => absurd q c)⟩
    exact ⟨fun q => ⟨q.1, key.mp q.2.1, q.2.2⟩, fun q => ⟨q.1, key.mpr q.2.1, q.2.2⟩⟩
  have e2 : qA (sMv S t g) g = mA S (fun t' => (qgr S t' = g ∧ t' ≠ t) ∨ t' = t) (qsy S) := by
    refine mA_congr (fun t' u => ?_) (fun _ _ _ => rfl)
    have key : (upf (qgr S) t g t' = g) ↔ ((qgr S t' = g ∧ t' ≠ t) ∨ t' = t) := by
      unfold upf
      by_cases c : t' = t
      · rw [if_pos c]; exact ⟨fun _ => .inr c, fun _ => rfl⟩
      · rw [if_neg c]; exact ⟨fun q => .inl ⟨q, c⟩, fun q => q.elim (fun q => q.1) (fun q => absurd q c)⟩
    exact ⟨fun q => ⟨q.1, key.mp q.2.1, q.2.2⟩, fun q => ⟨q.1, key.mpr q.2.1, q.2.2⟩⟩
  unfold sGn gMv
  rw [e1, e2]
  rfl
theorem sMv_own {S : zS} {t : Int} : sMv S t (qgr S t) = S := by
  have e : upf (qgr S) t (qgr S t) = qgr S := by
    funext t'
    unfold upf
    split
    · next c => rw [c]
    · rfl
  unfold sMv
  rw [e]
theorem mv_put {M1 M2 : zM} {t g : Int} (w : mW M1 27 0) (ht : 0 ≤ t ∧ t < qn (rS M1)) (e : M2 = zu M1 27 0 (9 * t + 1) g) : rS M2 = sMv (rS M1) t g ∧ mW M2 27 0 := by
  have hn := w.1
  have hn1 : qn (rS M1) = M1 27 0 (0 + 180) := rfl
  have a1 : ∀ j, j ≠ 9 * t + 1 → M2 27 0 j = M1 27 0 j := fun j hj => by rw [e, zu_at, if_neg hj]
  have a2 : M2 27 0 (9 * t + 1) = g := by rw [e, zu_at, if_pos rfl]
  have a180 : M2 27 0 (0 + 180) = M1 27 0 (0 + 180) := a1 _ (by omega)
  refine ⟨?_, ⟨by rw [a180]; exact hn, fun t' ht' => ?_⟩⟩
  · unfold sMv
    show mV M2 27 0 = _
    refine Prod.ext ?_ (Prod.ext ?_ (Prod.ext ?_ (Prod.ext ?_ (Prod.ext ?_ (Prod.ext ?_ ?_)))))
    · funext j
      show (if _ then _ else _) = (if _ then _ else _)
      split
      · exact a1 _ (by omega)
      · rfl
    · funext j
      show (if _ then _ else _) = (if _ then _ else _)
      rw [a180]
      split
      · exact a1 _ (by omega)
      · rfl
    · funext j
      show (if _ then _ else _) = upf _ _ _ _
      unfold upf
      rw [a180]
      by_cases c : j = t
      · subst c
        rw [if_pos (by omega), if_pos rfl, Int.zero_add]
        exact a2
      · rw [if_neg c]
        show _ = (if _ then _ else _)
        split
        · exact a1 _ (by omega)
        · rfl
    · funext j
      show (if _ then _ else _) = (if _ then _ else _)
      rw [a180]
      split
      · exact a1 _ (by omega)
      · rfl
    · funext j u
      show (if _ then _ else _) = (if _ then _ else _)
      rw [a180]
      by_cases c : 0 ≤ j ∧ j < M1 27 0 (0 + 180)
      · have hu := (w.2 j c).2
        rw [a1 (0 + 9 * j + 2) (by omega)]
        split
        · next q => exact a1 _ (by omega)
        · rfl
      · rw [if_neg (by omega), if_neg (by omega)]
    · funext j
      show (if _ then _ else _) = (if _ then _ else _)
      rw [a180]
      split
      · exact a1 _ (by omega)
      · rfl
    · funext j
      show (if _ then _ else _) = (if _ then _ else _)
      rw [a180]
      split
      · exact a1 _ (by omega)
      · rfl
  · rw [a180] at ht'
    rw [a1 (0 + 9 * t') (by omega), a1 (0 + 9 * t' + 2) (by omega)]
    exact w.2 t' ht'
theorem sMv_ok {S : zS} {t g : Int} (h : okS S) (hg : 0 ≤ g ∧ g < 4) : okS (sMv S t g) := by
  refine ⟨h.1, fun t' ht' => ?_, h.2.2⟩
  show 0 ≤ upf _ _ _ _ ∧ upf _ _ _ _ < 4
  unfold upf
  split
  · exact hg
  · exact h.2.1 t' ht'
theorem q9_moved {t k : Int} (h : MX M S) (zt : zI t) (zk : zI k) : CI l m_X9_moved [zr 9 0, zi t, zi k] M (fun x M' => x = aMoved S t k ∧ mQ M M') := by
  have hn := h.1.1.n
  have ok := h.ok
  refine vX9_moved ?_
  rw [h.n] at hn ⊢
  refine ⟨⟨zt, hn⟩, fun a => ⟨by rw [aMoved, if_neg (fun q => a q.1)], mQ.rf h⟩, fun a => ⟨zk, by omega, fun b => ⟨by omega, ?_⟩, fun b => ⟨by rw [aMoved, if_neg (by omega)], mQ.rf h⟩⟩⟩
  have b' : k = 0 ∨ k = 1 := by omega
  have ai : aMoved S t k = if k = 0 then (bMv S t 4).2 else (bMv S t 4).1 := by rw [aMoved, if_pos ⟨a, b'⟩]
  have eg1 : M 27 0 (9 * t + 1) = qgr S t := by rw [← rS_gr (M := M) (t := t) (by rw [h.1.2]; exact a), h.1.2]
  rw [eg1]
  refine (c_X9_gainOf h.1.1 (by rw [h.1.2]; exact a) (by rw [h.2.1, hb_0])).mono ?_
  rintro x M1 ⟨rfl, f1, -, -⟩
  have F1 := mFs.q h f1
  rw [h.Gn]
  have e0 : sGn S (qgr S t) t = gMv S t (qgr S t) := by
    have := gMv_eq (S := S) (t := t) (g := qgr S t)
    rw [sMv_own] at this
    exact this
  rw [e0]
  -- all but the grade of t is as it was
  have loop : ∀ (n g : Nat) (M' : zM), 4 - g = n → g ≤ 4 → (∀ k i, k ≠ 9 → k ≠ 27 → ¬ (31 ≤ k ∧ k ≤ 46) → M' k i = M k i) → (∀ i, i ≠ 0 → M' 27 i = M 27 i) → (∀ j, j ≠ 9 * t + 1 → M' 27 0 j = M 27 0 j) → (∀ j, (j = 2 ∨ j = 5 ∨ j = 6 ∨ j = 36) → M' 9 0 j = M 9 0 j) → (-1000 ≤ M' 9 0 7 ∧ M' 9 0 7 ≤ 1000) →
      LX9_moved_41 l (fun x M' => x = aMoved S t k ∧ mQ M M') t k (qgr S t) (bMv S t g).2 (bMv S t g).1 (g : Int) M' := by
    intro n
    induction n with
    | zero =>
      intro g M' hn' hg g1 g2 g3 g4 g5
      have : g = 4 := by omega
      subst this
      refine vX9_moved_41 ⟨by omega, fun _ => ⟨by omega, fun M2 q2 => ?_⟩, fun e => by omega⟩
      have F : mQ M M2 := by
        refine ⟨fun k i h1 h2 => ?_, fun j hj => by rw [q2, zu_k (by decide)]; exact g4 j hj, by rw [q2, zu_k (by decide)]; exact g5⟩
        by_cases c : k = 27
        · subst c
          by_cases c2 : i = 0
          · subst c2
            funext j
            rw [q2, zu_at]
            by_cases c3 : j = 9 * t + 1
            · rw [if_pos c3, c3, eg1]
            · rw [if_neg c3, g3 j c3]
          · rw [q2, zu_i c2, g2 i c2]
        · rw [q2, zu_k c, g1 k i h1 c h2]
      exact ⟨zk, fun e => ⟨by rw [ai, if_neg e], F⟩, fun e => ⟨by rw [ai, if_pos e], F⟩⟩
    | succ n ih =>
      intro g M' hn' hg g1 g2 g3 g4 g5
      have hb := bMv_b ok t g
      have hg2 := gMv_b ok t g
      refine vX9_moved_41 ⟨by omega, fun e => by omega, fun _ => ⟨by omega, fun M2 q2 => ?_⟩⟩
      -- the hall with t in g
      have p2 : ∀ j, M2 27 0 j = if j = 9 * t + 1 then (g : Int) else M 27 0 j := by
        intro j
        rw [q2, zu_at]
        by_cases c : j = 9 * t + 1
        · rw [if_pos c, if_pos c]
        · rw [if_neg c, if_neg c, g3 j c]
      have e2 : M2 27 0 = (zu M 27 0 (9 * t + 1) (g : Int)) 27 0 := by
        funext j
        rw [p2, zu_at]
      obtain ⟨eS', w'⟩ := mv_put h.1.1.1 (t := t) (g := (g : Int)) (by rw [h.1.2]; exact a) rfl
      rw [h.1.2] at eS'
      have eS : rS M2 = sMv S t g := (rS_congr e2).trans eS'
      have hx : MX M2 (sMv S t g) := by
        refine ⟨⟨?_, eS⟩, by rw [q2, zu_k (by decide), g4 5 (by omega), h.2.1], by rw [q2, zu_k (by decide), g4 6 (by omega), h.2.2]⟩
        have o := sMv_ok (t := t) (g := (g : Int)) ok (by omega)
        unfold RC
        rw [eS]
        exact ⟨mW_27 e2 w', o.1, o.2.1, o.2.2.1, o.2.2.2, by rw [q2, zu_k (by decide)]; exact g5⟩
      refine (c_X9_gainOf hx.1.1 (by rw [hx.1.2]; exact a) (by rw [hx.2.1, hb_0])).mono ?_
      rintro x M3 ⟨rfl, f3, -, -⟩
      have eG : rGn M2 t = gMv S t g := by
        rw [hx.Gn]
        have : qgr (sMv S t g) t = (g : Int) := by show upf _ _ _ _ = _; unfold upf; rw [if_pos rfl]
        rw [this]
        exact gMv_eq
      rw [eG]
      have next := ih (g + 1) M3 (by omega) (by omega) (fun k i h1 h2 h3 => by rw [f3.1 k i h1 (by omega), q2, zu_k h2, g1 k i h1 h2 h3]) (fun i hi => by rw [f3.1 27 i (by decide) (by decide), q2, zu_i hi, g2 i hi]) (fun j hj => by rw [f3.1 27 0 (by decide) (by decide), p2, if_neg hj]) (fun j hj => by rw [f3.F j (by omega), q2, zu_k (by decide), g4 j hj]) (by rw [f3.F 7 (by omega), q2, zu_k (by decide)]; exact g5)
      have eb : bMv S t (g + 1) = if (bMv S t g).1 < gMv S t g then (gMv S t g, (g : Int)) else bMv S t g := rfl
      rw [eb, show ((g + 1 : Nat) : Int) = (g : Int) + 1 by omega] at next
      refine ⟨by omega, by omega, fun e => ?_, fun e => ?_⟩
      · rw [if_pos e] at next; exact next
      · rw [if_neg (by omega)] at next; exact next
  exact loop _ 0 M1 rfl (by omega) (fun k i h1 h2 h3 => F1.1 k i h1 h3) (fun i hi => F1.1 27 i (by decide) (by decide)) (fun j hj => by rw [F1.1 27 0 (by decide) (by decide)]) F1.2.1 F1.2.2
/-! bar -/
noncomputable def dLie (S : zS) (t d : Int) : Int := cnt (if qsl S t = 1 then mA S (fun t' => qgr S t' = qgr S t) (vL S (fun t' => decide (t' = t)) d) else mB S (fun t' => qgr S t' = qgr S t) (vL S (fun t' => decide (t' = t)) d)) t (dN (mB S (fun t' => qgr S t' = qgr S t) (vL S (fun t' => decide (t' = t)) d)) (mA S (fun t' => qgr S t' = qgr S t) (vL S (fun t' => decide (t' = t)) d)) (qfee S) (qlaw S))
def barF (p : Int → Bool) (e : Int) : Nat → Int → Int
  | 0, _ => -1000
  | n + 1, s => if p (e * s) = true then e * s else barF p e n (s + 1)
noncomputable def aBar (S : zS) (t : Int) : Int := if 0 ≤ t ∧ t < qn S then barF (fun d => decide (0 < dLie S t d)) (if qsl S t = 1 then -1 else 1) 1001 (-500) else -2147483648
theorem dLie_b {S : zS} (h : okS S) (t d : Int) : 0 ≤ dLie S t d ∧ dLie S t d ≤ 80 := by
  have ok := vL_ok h.1 (fun t' => decide (t' = t)) d
  have g := gd_m (E := fun t' => qgr S t' = qgr S t) ok
  have h1 := dN_b (B := mB S (fun t' => qgr S t' = qgr S t) (vL S (fun t' => decide (t' = t)) d)) (A := mA S (fun t' => qgr S t' = qgr S t) (vL S (fun t' => decide (t' = t)) d)) (f := qfee S) (w := qlaw S)
  have h2 := dN_l (B := mB S (fun t' => qgr S t' = qgr S t) (vL S (fun t' => decide (t' = t)) d)) (A := mA S (fun t' => qgr S t' = qgr S t) (vL S (fun t' => decide (t' = t)) d)) (f := qfee S) (w := qlaw S)
  have h3 := cnt_b (R := if qsl S t = 1 then mA S (fun t' => qgr S t' = qgr S t) (vL S (fun t' => decide (t' = t)) d) else mB S (fun t' => qgr S t' = qgr S t) (vL S (fun t' => decide (t' = t)) d)) (t := t) h1.1
  have h4 := g.1
  unfold dLie
  omega
def LX8_bar_43 (l : Launch) (P : Int → zM → Prop) (v1 : Int) (v2 : Int) (v3 : Int) (M : zM) : Prop := AW l m_X8_bar (zTi m_X8_bar P) 43 [(0, zr 8 0), (1, zi v1), (2, zi v2), (3, zi v3)] [] M
theorem vX8_bar_43 {l : Launch} {P : Int → zM → Prop} {v1 : Int} {v2 : Int} {v3 : Int} {M : zM}
    (H0 : (zI v3 ∧ (500 < v3 → P (-1000) M) ∧ (v3 ≤ 500 → (zI v2 ∧ (v2 = 0 → (CV l m_X8_settleLie [zr 8 0, zi v1, zi v3] M (fun M26 => (CI l m_X0_doneOf [zr 0 0, zi v2, zi v1] M26 (fun x32 M29 => (zI x32 ∧ (x32 ≤ 0 → LX8_bar_43 l P v1 v2 (v3 + 1) M29) ∧ (0 < x32 → P v3 M29))))))) ∧ (v2 ≠ 0 → (CV l m_X8_settleLie [zr 8 0, zi v1, zi (-v3)] M (fun M39 => (CI l m_X0_doneOf [zr 0 0, zi v2, zi v1] M39 (fun x45 M42 => (zI x45 ∧ (x45 ≤ 0 → LX8_bar_43 l P v1 v2 (v3 + 1) M42) ∧ (0 < x45 → P (-v3) M42))))))))))) :
    LX8_bar_43 l P v1 v2 v3 M :=
(aw_iload_n d_X8_bar_43 rfl rfl 3 rfl
(aw_sipush d_X8_bar_44 rfl (by decide)
(have z14 := H0.1; have e15 := H0.2; aw_icmp_gt d_X8_bar_47 rfl rfl z14 (by decide) (fun c16 => have e18 := e15.1 c16; (aw_sipush d_X8_bar_90 rfl (by decide)
(aw_ri d_X8_bar_93 rfl e18))) (fun c17 => have e19 := e15.2 c17; (aw_iload_n d_X8_bar_50 rfl rfl 2 rfl
(have z20 := e19.1; have e21 := e19.2; aw_if_eq d_X8_bar_51 rfl rfl z20 (fun c22 => have e24 := e21.1 c22; (aw_iload_n d_X8_bar_59 rfl rfl 3 rfl
(aw_istore (lv' := [(4, zi v3), (0, zr 8 0), (1, zi v1), (2, zi v2), (3, zi v3)]) d_X8_bar_60 rfl (by decide) rfl
(aw_aload_n d_X8_bar_62 rfl rfl 1 rfl (by decide)
(aw_iload_n d_X8_bar_63 rfl rfl 2 rfl
(aw_iload d_X8_bar_64 rfl 0 rfl
(aw_VV (As := [zi v1, zi v3]) (st := []) d_X8_bar_66 rfl cv8_357 ⟨Nat.le_of_ble_eq_true rfl, Nat.le_of_ble_eq_true rfl⟩ rfl rfl (Nat.le_of_ble_eq_true rfl) (Nat.le_of_ble_eq_true rfl) e24 (fun M26 e27 => (aw_aload_n d_X8_bar_69 rfl rfl 1 rfl (by decide)
(aw_getR (k' := 0) (a := 0) (b := 0) (j := 0) d_X8_bar_70 rfl fl8_47 rfl zj0 ⟨by decide, fun _ => by decide⟩
(aw_iload_n d_X8_bar_73 rfl rfl 3 rfl
(aw_iload_n d_X8_bar_74 rfl rfl 2 rfl
(aw_VI (As := [zi v2, zi v1]) (st := []) d_X8_bar_75 rfl cv8_163 ⟨Nat.le_of_ble_eq_true rfl, Nat.le_of_ble_eq_true rfl⟩ rfl rfl (Nat.le_of_ble_eq_true rfl) (Nat.le_of_ble_eq_true rfl) e27 (fun x32 M29 e30 => (have z33 := e30.1; have e34 := e30.2; aw_if_le d_X8_bar_78 rfl rfl z33 (fun c35 => have e37 := e34.1 c35; (aw_iinc (lv' := [(3, zi (v3 + 1)), (4, zi v3), (0, zr 8 0), (1, zi v1), (2, zi v2)]) (y := (v3 + 1)) d_X8_bar_84 rfl 4 rfl (by decide) rfl rfl
(aw_goto d_X8_bar_87 rfl
(aw_sub [2, 3, 4, 0] rfl e37)))) (fun c36 => have e38 := e34.2 c36; (aw_iload d_X8_bar_81 rfl 0 rfl
(aw_ri d_X8_bar_83 rfl e38)))))))))))))))))) (fun c23 => have e25 := e21.2 c23; (aw_iload_n d_X8_bar_54 rfl rfl 3 rfl
(aw_ineg d_X8_bar_55 rfl
(aw_goto d_X8_bar_56 rfl
(aw_istore (lv' := [(4, zi (-v3)), (0, zr 8 0), (1, zi v1), (2, zi v2), (3, zi v3)]) d_X8_bar_60 rfl (by decide) rfl
(aw_aload_n d_X8_bar_62 rfl rfl 1 rfl (by decide)
(aw_iload_n d_X8_bar_63 rfl rfl 2 rfl
(aw_iload d_X8_bar_64 rfl 0 rfl
(aw_VV (As := [zi v1, zi (-v3)]) (st := []) d_X8_bar_66 rfl cv8_357 ⟨Nat.le_of_ble_eq_true rfl, Nat.le_of_ble_eq_true rfl⟩ rfl rfl (Nat.le_of_ble_eq_true rfl) (Nat.le_of_ble_eq_true rfl) e25 (fun M39 e40 => (aw_aload_n d_X8_bar_69 rfl rfl 1 rfl (by decide)
(aw_getR (k' := 0) (a := 0) (b := 0) (j := 0) d_X8_bar_70 rfl fl8_47 rfl zj0 ⟨by decide, fun _ => by decide⟩
(aw_iload_n d_X8_bar_73 rfl rfl 3 rfl
(aw_iload_n d_X8_bar_74 rfl rfl 2 rfl
(aw_VI (As := [zi v2, zi v1]) (st := []) d_X8_bar_75 rfl cv8_163 ⟨Nat.le_of_ble_eq_true rfl, Nat.le_of_ble_eq_true rfl⟩ rfl rfl (Nat.le_of_ble_eq_true rfl) (Nat.le_of_ble_eq_true rfl) e40 (fun x45 M42 e43 => (have z46 := e43.1; have e47 := e43.2; aw_if_le d_X8_bar_78 rfl rfl z46 (fun c48 => have e50 := e47.1 c48; (aw_iinc (lv' := [(3, zi (v3 + 1)), (4, zi (-v3)), (0, zr 8 0), (1, zi v1), (2, zi v2)]) (y := (v3 + 1)) d_X8_bar_84 rfl 4 rfl (by decide) rfl rfl
(aw_goto d_X8_bar_87 rfl
(aw_sub [2, 3, 4, 0] rfl e50)))) (fun c49 => have e51 := e47.2 c49; (aw_iload d_X8_bar_81 rfl 0 rfl
(aw_ri d_X8_bar_83 rfl e51))))))))))))))))))))))))))
theorem vX8_bar {l : Launch} {P : Int → zM → Prop} {v1 : Int} {M : zM}
    (H0 : ((hW M 0 ∧ zI v1) ∧ ((0 ≤ v1 ∧ v1 < M 1 0 6 → ((hW M 0 ∧ 0 ≤ v1 ∧ v1 < M 1 0 6) ∧ (CV l m_X8_setAside [zr 8 0, zi (qgr (hS M 0) v1), zi (zshl 1 v1)] M (fun M9 => ((hW M9 0 ∧ zI v1) ∧ LX8_bar_43 l P v1 (zb (qsl (hS M9 0) v1 = 1)) (-500) M9))))) ∧ (¬ (0 ≤ v1 ∧ v1 < M 1 0 6) → P (-2147483648) M)))) :
    CI l m_X8_bar [zr 8 0, zi v1] M P :=
(aw_aload_n d_X8_bar_0 rfl rfl 0 rfl (by decide)
(aw_getR (k' := 1) (a := 0) (b := 0) (j := 0) d_X8_bar_1 rfl fl8_12 rfl zj0 ⟨by decide, fun _ => by decide⟩
(aw_iload_n d_X8_bar_4 rfl rfl 1 rfl
(have z1 := H0.1; have e2 := H0.2; (aw_VI (As := [zi v1]) (st := []) d_X8_bar_5 rfl cv8_110 ⟨Nat.le_of_ble_eq_true rfl, Nat.le_of_ble_eq_true rfl⟩ rfl rfl (Nat.le_of_ble_eq_true rfl) (Nat.le_of_ble_eq_true rfl) (s_X1_has z1) (fun _ _ hq => aw_eqs hq
(aw_if_ne d_X8_bar_8 rfl rfl zb_I (fun c3 => have e5 := e2.1 (zb_n0 c3); (aw_aload_n d_X8_bar_14 rfl rfl 0 rfl (by decide)
(aw_aload_n d_X8_bar_15 rfl rfl 0 rfl (by decide)
(aw_getR (k' := 1) (a := 0) (b := 0) (j := 0) d_X8_bar_16 rfl fl8_12 rfl zj0 ⟨by decide, fun _ => by decide⟩
(aw_iload_n d_X8_bar_19 rfl rfl 1 rfl
(have z7 := e5.1; have e8 := e5.2; (aw_VI (As := [zi v1]) (st := [zr 8 0]) d_X8_bar_20 rfl cv8_196 ⟨Nat.le_of_ble_eq_true rfl, Nat.le_of_ble_eq_true rfl⟩ rfl rfl (Nat.le_of_ble_eq_true rfl) (Nat.le_of_ble_eq_true rfl) (s_X1_gradeOf z7) (fun _ _ hq => aw_eqs hq
(aw_iload_n d_X8_bar_23 rfl rfl 1 rfl
(aw_SI (As := [zi v1]) (st := [zi (qgr (hS M 0) v1), zr 8 0]) d_X8_bar_24 rfl cs8_255 ⟨Nat.le_of_ble_eq_true rfl, Nat.le_of_ble_eq_true rfl⟩ rfl rfl (Nat.le_of_ble_eq_true rfl) (Nat.le_of_ble_eq_true rfl) (s_X8_bit) (fun _ _ hq => aw_eqs hq
(aw_VV (As := [zi (qgr (hS M 0) v1), zi (zshl 1 v1)]) (st := []) d_X8_bar_27 rfl cv8_258 ⟨Nat.le_of_ble_eq_true rfl, Nat.le_of_ble_eq_true rfl⟩ rfl rfl (Nat.le_of_ble_eq_true rfl) (Nat.le_of_ble_eq_true rfl) e8 (fun M9 e10 => (aw_aload_n d_X8_bar_30 rfl rfl 0 rfl (by decide)
(aw_getR (k' := 1) (a := 0) (b := 0) (j := 0) d_X8_bar_31 rfl fl8_12 rfl zj0 ⟨by decide, fun _ => by decide⟩
(aw_iload_n d_X8_bar_34 rfl rfl 1 rfl
(have z12 := e10.1; have e13 := e10.2; (aw_VI (As := [zi v1]) (st := []) d_X8_bar_35 rfl cv8_160 ⟨Nat.le_of_ble_eq_true rfl, Nat.le_of_ble_eq_true rfl⟩ rfl rfl (Nat.le_of_ble_eq_true rfl) (Nat.le_of_ble_eq_true rfl) (s_X1_isSeller z12) (fun _ _ hq => aw_eqs hq
(aw_istore_n (lv' := [(2, zi (zb (qsl (hS M9 0) v1 = 1))), (0, zr 8 0), (1, zi v1)]) d_X8_bar_38 rfl rfl (by decide) rfl
(aw_sipush d_X8_bar_39 rfl (by decide)
(aw_istore_n (lv' := [(3, zi (-500)), (2, zi (zb (qsl (hS M9 0) v1 = 1))), (0, zr 8 0), (1, zi v1)]) d_X8_bar_42 rfl rfl (by decide) rfl
(aw_sub [2, 3, 1, 0] rfl e13))))))))))))))))))))))) (fun c4 => have e6 := e2.2 (zb_0 c4); (aw_ldc d_X8_bar_11 rfl ci8_195
(aw_ri d_X8_bar_13 rfl e6))))))))))
theorem vX9_isDoneBy {l : Launch} {P : Int → zM → Prop} {v1 : Int} {v2 : Int} {M : zM}
    (H0 : (∀ M1 : zM, M1 = zu M 9 0 6 (zshl 1 v1) → (∀ M3 : zM, M3 = zu M1 9 0 7 v2 → ((0 ≤ 9 * v1 + 1 ∧ 9 * v1 + 1 < 187) ∧ (CV l m_X9_lays [zr 9 0, zi (M3 27 0 (9 * v1 + 1))] M3 (fun M7 => (CI l m_X9_doneOf [zr 9 0, zi v1] M7 (fun x13 M10 => (zI x13 ∧ (x13 ≤ 0 → (∀ M20 : zM, M20 = zu M10 9 0 6 0 → P 0 M20)) ∧ (0 < x13 → (∀ M22 : zM, M22 = zu M10 9 0 6 0 → P 1 M22))))))))))) :
    CI l m_X9_isDoneBy [zr 9 0, zi v1, zi v2] M P :=
(aw_aload_n d_X9_isDoneBy_0 rfl rfl 0 rfl (by decide)
(aw_iconst d_X9_isDoneBy_1 rfl
(aw_iload_n d_X9_isDoneBy_2 rfl rfl 1 rfl
(aw_ishl d_X9_isDoneBy_3 rfl zshl_h
(have e2 := H0 _ rfl; aw_put (kc := 6) d_X9_isDoneBy_4 rfl fp9_92 rfl rfl rfl rfl
(aw_aload_n d_X9_isDoneBy_7 rfl rfl 0 rfl (by decide)
(aw_iload_n d_X9_isDoneBy_8 rfl rfl 2 rfl
(aw_put (kc := 7) d_X9_isDoneBy_9 rfl fp9_100 rfl rfl rfl rfl
(aw_nm fun M3 hqM3 => have e4 := e2 M3 hqM3; (aw_aload_n d_X9_isDoneBy_12 rfl rfl 0 rfl (by decide)
(aw_aload_n d_X9_isDoneBy_13 rfl rfl 0 rfl (by decide)
(aw_iload_n d_X9_isDoneBy_14 rfl rfl 1 rfl
(aw_iconst d_X9_isDoneBy_15 rfl
(have z5 := e4.1; have e6 := e4.2; (aw_VI (As := [zi v1, zi 1]) (st := [zr 9 0]) d_X9_isDoneBy_16 rfl cv9_88 ⟨Nat.le_of_ble_eq_true rfl, Nat.le_of_ble_eq_true rfl⟩ rfl rfl (Nat.le_of_ble_eq_true rfl) (Nat.le_of_ble_eq_true rfl) (s_X9_of z5) (fun _ _ hq => aw_eqs hq
(aw_VV (As := [zi (M3 27 0 (9 * v1 + 1))]) (st := []) d_X9_isDoneBy_19 rfl cv9_180 ⟨Nat.le_of_ble_eq_true rfl, Nat.le_of_ble_eq_true rfl⟩ rfl rfl (Nat.le_of_ble_eq_true rfl) (Nat.le_of_ble_eq_true rfl) e6 (fun M7 e8 => (aw_aload_n d_X9_isDoneBy_22 rfl rfl 0 rfl (by decide)
(aw_iload_n d_X9_isDoneBy_23 rfl rfl 1 rfl
(aw_VI (As := [zi v1]) (st := []) d_X9_isDoneBy_24 rfl cv9_170 ⟨Nat.le_of_ble_eq_true rfl, Nat.le_of_ble_eq_true rfl⟩ rfl rfl (Nat.le_of_ble_eq_true rfl) (Nat.le_of_ble_eq_true rfl) e8 (fun x13 M10 e11 => (have z14 := e11.1; have e15 := e11.2; aw_if_le d_X9_isDoneBy_27 rfl rfl z14 (fun c16 => have e18 := e15.1 c16; (aw_iconst d_X9_isDoneBy_34 rfl
(aw_istore_n (lv' := [(3, zi 0), (0, zr 9 0), (1, zi v1), (2, zi v2)]) d_X9_isDoneBy_35 rfl rfl (by decide) rfl
(aw_aload_n d_X9_isDoneBy_36 rfl rfl 1 rfl (by decide)
(aw_iconst d_X9_isDoneBy_37 rfl
(have e21 := e18 _ rfl; aw_put (kc := 6) d_X9_isDoneBy_38 rfl fp9_92 rfl rfl rfl rfl
(aw_iload_n d_X9_isDoneBy_41 rfl rfl 0 rfl
(aw_rz d_X9_isDoneBy_42 rfl (by decide) e21)))))))) (fun c17 => have e19 := e15.2 c17; (aw_iconst d_X9_isDoneBy_30 rfl
(aw_goto d_X9_isDoneBy_31 rfl
(aw_istore_n (lv' := [(3, zi 1), (0, zr 9 0), (1, zi v1), (2, zi v2)]) d_X9_isDoneBy_35 rfl rfl (by decide) rfl
(aw_aload_n d_X9_isDoneBy_36 rfl rfl 1 rfl (by decide)
(aw_iconst d_X9_isDoneBy_37 rfl
(have e23 := e19 _ rfl; aw_put (kc := 6) d_X9_isDoneBy_38 rfl fp9_92 rfl rfl rfl rfl
(aw_iload_n d_X9_isDoneBy_41 rfl rfl 0 rfl
(aw_rz d_X9_isDoneBy_42 rfl (by decide) e23))))))))))))))))))))))))))))))))
def LX9_bar_31 (l : Launch) (P : Int → zM → Prop) (v1 : Int) (v2 : Int) (v3 : Int) (M : zM) : Prop := AW l m_X9_bar (zTi m_X9_bar P) 31 [(0, zr 9 0), (1, zi v1), (2, zi v2), (3, zi v3)] [] M
theorem vX9_bar_31 {l : Launch} {P : Int → zM → Prop} {v1 : Int} {v2 : Int} {v3 : Int} {M : zM}
    (H0 : (zI v3 ∧ ((zJ v3 ∧ zJ (-500) ∧ zJ 500) ∧ ((¬ ((-500) ≤ v3 ∧ v3 ≤ 500) → P (-1000) M) ∧ ((-500) ≤ v3 ∧ v3 ≤ 500 → (CI l m_X9_isDoneBy [zr 9 0, zi v1, zi v3] M (fun x24 M21 => (zI x24 ∧ (x24 = 0 → LX9_bar_31 l P v1 v2 (v3 + v2) M21) ∧ (x24 ≠ 0 → P v3 M21))))))))) :
    LX9_bar_31 l P v1 v2 v3 M :=
(aw_iload_n d_X9_bar_31 rfl rfl 3 rfl
(have z13 := H0.1; have e14 := H0.2; (aw_i2l d_X9_bar_32 rfl z13
(aw_ldc2 d_X9_bar_33 rfl cl9_207
(aw_ldc2 d_X9_bar_36 rfl cl9_209
(have z15 := e14.1; have e16 := e14.2; (aw_SI (As := [zl v3, zl (-500), zl 500]) (st := []) d_X9_bar_39 rfl cs9_82 ⟨Nat.le_of_ble_eq_true rfl, Nat.le_of_ble_eq_true rfl⟩ rfl rfl (Nat.le_of_ble_eq_true rfl) (Nat.le_of_ble_eq_true rfl) (s_X9_in z15) (fun _ _ hq => aw_eqs hq
(aw_if_eq d_X9_bar_42 rfl rfl zb_I (fun c17 => have e19 := e16.1 (zb_0 c17); (aw_sipush d_X9_bar_63 rfl (by decide)
(aw_ri d_X9_bar_66 rfl e19))) (fun c18 => have e20 := e16.2 (zb_n0 c18); (aw_aload_n d_X9_bar_45 rfl rfl 0 rfl (by decide)
(aw_iload_n d_X9_bar_46 rfl rfl 1 rfl
(aw_iload_n d_X9_bar_47 rfl rfl 3 rfl
(aw_VI (As := [zi v1, zi v3]) (st := []) d_X9_bar_48 rfl cv9_214 ⟨Nat.le_of_ble_eq_true rfl, Nat.le_of_ble_eq_true rfl⟩ rfl rfl (Nat.le_of_ble_eq_true rfl) (Nat.le_of_ble_eq_true rfl) e20 (fun x24 M21 e22 => (have z25 := e22.1; have e26 := e22.2; aw_if_eq d_X9_bar_51 rfl rfl z25 (fun c27 => have e29 := e26.1 c27; (aw_iload_n d_X9_bar_56 rfl rfl 3 rfl
(aw_iload_n d_X9_bar_57 rfl rfl 2 rfl
(aw_iadd d_X9_bar_58 rfl
(aw_istore_n (lv' := [(3, zi (v3 + v2)), (0, zr 9 0), (1, zi v1), (2, zi v2)]) d_X9_bar_59 rfl rfl (by decide) rfl
(aw_goto d_X9_bar_60 rfl
(aw_sub [1, 2, 3, 0] rfl e29))))))) (fun c28 => have e30 := e26.2 c28; (aw_iload_n d_X9_bar_54 rfl rfl 3 rfl
(aw_ri d_X9_bar_55 rfl e30)))))))))))))))))))
theorem vX9_bar {l : Launch} {P : Int → zM → Prop} {v1 : Int} {M : zM}
    (H0 : ((zI v1 ∧ (0 ≤ M 27 0 180 ∧ M 27 0 180 ≤ 20)) ∧ ((0 ≤ v1 ∧ v1 < M 27 0 180 → (((0 ≤ v1 ∧ v1 < 20) ∧ (M 27 0 (9 * v1) = 0 ∨ M 27 0 (9 * v1) = 1)) ∧ ((¬ (M 27 0 (9 * v1) = 1) → LX9_bar_31 l P v1 1 ((-500) * 1) M) ∧ (M 27 0 (9 * v1) = 1 → LX9_bar_31 l P v1 (-1) ((-500) * (-1)) M)))) ∧ (¬ (0 ≤ v1 ∧ v1 < M 27 0 180) → P (-2147483648) M)))) :
    CI l m_X9_bar [zr 9 0, zi v1] M P :=
(aw_aload_n d_X9_bar_0 rfl rfl 0 rfl (by decide)
(aw_iload_n d_X9_bar_1 rfl rfl 1 rfl
(have z1 := H0.1; have e2 := H0.2; (aw_VI (As := [zi v1]) (st := []) d_X9_bar_2 rfl cv9_189 ⟨Nat.le_of_ble_eq_true rfl, Nat.le_of_ble_eq_true rfl⟩ rfl rfl (Nat.le_of_ble_eq_true rfl) (Nat.le_of_ble_eq_true rfl) (s_X9_isTrader z1) (fun _ _ hq => aw_eqs hq
(aw_if_ne d_X9_bar_5 rfl rfl zb_I (fun c3 => have e5 := e2.1 (zb_n0 c3); (aw_aload_n d_X9_bar_11 rfl rfl 0 rfl (by decide)
(aw_iload_n d_X9_bar_12 rfl rfl 1 rfl
(have z7 := e5.1; have e8 := e5.2; (aw_VI (As := [zi v1]) (st := []) d_X9_bar_13 rfl cv9_122 ⟨Nat.le_of_ble_eq_true rfl, Nat.le_of_ble_eq_true rfl⟩ rfl rfl (Nat.le_of_ble_eq_true rfl) (Nat.le_of_ble_eq_true rfl) (s_X9_sells z7) (fun _ _ hq => aw_eqs hq
(aw_if_eq d_X9_bar_16 rfl rfl zb_I (fun c9 => have e11 := e8.1 (zb_0 c9); (aw_iconst d_X9_bar_23 rfl
(aw_istore_n (lv' := [(2, zi 1), (0, zr 9 0), (1, zi v1)]) d_X9_bar_24 rfl rfl (by decide) rfl
(aw_sipush d_X9_bar_25 rfl (by decide)
(aw_iload_n d_X9_bar_28 rfl rfl 0 rfl
(aw_imul d_X9_bar_29 rfl
(aw_istore_n (lv' := [(3, zi ((-500) * 1)), (2, zi 1), (0, zr 9 0), (1, zi v1)]) d_X9_bar_30 rfl rfl (by decide) rfl
(aw_sub [2, 3, 1, 0] rfl e11)))))))) (fun c10 => have e12 := e8.2 (zb_n0 c10); (aw_iconst d_X9_bar_19 rfl
(aw_goto d_X9_bar_20 rfl
(aw_istore_n (lv' := [(2, zi (-1)), (0, zr 9 0), (1, zi v1)]) d_X9_bar_24 rfl rfl (by decide) rfl
(aw_sipush d_X9_bar_25 rfl (by decide)
(aw_iload_n d_X9_bar_28 rfl rfl 0 rfl
(aw_imul d_X9_bar_29 rfl
(aw_istore_n (lv' := [(3, zi ((-500) * (-1))), (2, zi (-1)), (0, zr 9 0), (1, zi v1)]) d_X9_bar_30 rfl rfl (by decide) rfl
(aw_sub [2, 3, 1, 0] rfl e12)))))))))))))))) (fun c4 => have e6 := e2.2 (zb_0 c4); (aw_ldc d_X9_bar_8 rfl ci9_192
(aw_ri d_X9_bar_10 rfl e6)))))))))
theorem c_dLie {t d : Int} {P : Int → zM → Prop} (c : CX M S) (ht : 0 ≤ t ∧ t < qn S) (hd : -500 ≤ d ∧ d ≤ 500) (r : bkR M 1 (mB S (fun t' => qgr S t' = qgr S t ∧ hb (zshl 1 t) t' = false) (qsy S)) (mA S (fun t' => qgr S t' = qgr S t ∧ hb (zshl 1 t) t' = false) (qsy S))) (k : ∀ M', Fx (kBk 0) M M' → P (dLie S t d) M') :
    CV l m_X8_settleLie [zr 8 0, zi t, zi d] M (fun M' => CI l m_X0_doneOf [zr 0 0, zi (zb (qsl S t = 1)), zi t] M' P) := by
  have hn := c.2.1.1
  refine (c_settleLie c ht (fun q => ?_) hd r).mono ?_
  · have := q.2
    rw [hb_bit (by omega) (by omega)] at this
    simp at this
  · rintro M' ⟨f, s⟩
    have ok := vL_ok c.2.1 (fun t' => decide (t' = t)) d
    have e := m_congrE (S := S) (E := fun t' => (qgr S t' = qgr S t ∧ hb (zshl 1 t) t' = false) ∨ t' = t) (E' := fun t' => qgr S t' = qgr S t) (v := vL S (fun t' => decide (t' = t)) d) (v' := vL S (fun t' => decide (t' = t)) d) (fun t' ht' => by
      rw [hb_bit (by omega) (by omega), decide_eq_false_iff_not]
      constructor
      · rintro (q | q)
        · exact q.1
        · rw [q]
      · intro q
        by_cases c : t' = t
        · exact .inr c
        · exact .inl ⟨q, c⟩) (fun _ _ _ _ => rfl)
    rw [e.1, e.2] at s
    refine (c_X0_doneOf (gd_m ok) c.2.2.2.1 s zb_01 (by omega)).eq ?_
    have ed : cnt (if zb (qsl S t = 1) = 0 then mB S (fun t' => qgr S t' = qgr S t) (vL S (fun t' => decide (t' = t)) d) else mA S (fun t' => qgr S t' = qgr S t) (vL S (fun t' => decide (t' = t)) d)) t (dN (mB S (fun t' => qgr S t' = qgr S t) (vL S (fun t' => decide (t' = t)) d)) (mA S (fun t' => qgr S t' = qgr S t) (vL S (fun t' => decide (t' = t)) d)) (qfee S) (qlaw S)) = dLie S t d := by
      unfold dLie
      by_cases q : qsl S t = 1
      · rw [zb_1 q, if_pos q]; rfl
      · rw [zb_f q, if_neg q]; rfl
    rw [ed]
    exact k M' f
theorem q8_bar {t : Int} (c : CX M S) (zt : zI t) : CI l m_X8_bar [zr 8 0, zi t] M (fun x M' => x = aBar S t ∧ Fr kScr M M') := by
  have w0 := c.1.1
  refine vX8_bar ?_
  rw [c.n, c.1.2]
  refine ⟨⟨w0, zt⟩, fun a => ⟨⟨w0, a⟩, ?_⟩, fun a => ⟨by rw [aBar, if_neg a], Fr.rf⟩⟩
  refine (c_setAside c (c.2.2.1 t a)).mono ?_
  rintro M1 ⟨f1, r1⟩
  have c1 := c.bk f1
  rw [c1.1.2]
  refine ⟨⟨c1.1.1, zt⟩, ?_⟩
  have loop : ∀ (n : Nat) (s : Int) (M' : zM), -500 ≤ s → s + n = 501 → Fx (kBk 0) M1 M' → barF (fun d => decide (0 < dLie S t d)) (if qsl S t = 1 then -1 else 1) n s = aBar S t → LX8_bar_43 l (fun x M' => x = aBar S t ∧ Fr kScr M M') t (zb (qsl S t = 1)) s M' := by
    intro n
    induction n with
    | zero =>
      intro s M' hs hn f e
      exact vX8_bar_43 ⟨by omega, fun _ => ⟨e, f1.scr.tr f.scr⟩, fun e => by omega⟩
    | succ n ih =>
      intro s M' hs hn f e
      have c2 := c1.bk f
      have r2 := kBk_ne f (by decide) r1
      refine vX8_bar_43 ⟨by omega, fun e => by omega, fun _ => ⟨zb_I, fun q => ?_, fun q => ?_⟩⟩
      · have hq := zb_0 q
        have db := dLie_b c.2 t s
        refine c_dLie c2 a (by omega) r2 fun M3 f3 => ?_
        rw [barF, if_neg hq, Int.one_mul] at e
        refine ⟨by omega, fun q2 => ?_, fun q2 => ?_⟩
        · rw [if_neg (by rw [decide_eq_true_eq]; omega)] at e
          exact ih (s + 1) M3 (by omega) (by omega) (f.tr f3) (by rw [if_neg hq]; exact e)
        · rw [if_pos (by rw [decide_eq_true_eq]; omega)] at e
          exact ⟨e, f1.scr.tr (f.tr f3).scr⟩
      · have hq := zb_n0 q
        have db := dLie_b c.2 t (-s)
        refine c_dLie c2 a (by omega) r2 fun M3 f3 => ?_
        rw [barF, if_pos hq, Int.neg_mul, Int.one_mul] at e
        refine ⟨by omega, fun q2 => ?_, fun q2 => ?_⟩
        · rw [if_neg (by rw [decide_eq_true_eq]; omega)] at e
          exact ih (s + 1) M3 (by omega) (by omega) (f.tr f3) (by rw [if_pos hq]; exact e)
        · rw [if_pos (by rw [decide_eq_true_eq]; omega)] at e
          exact ⟨e, f1.scr.tr (f.tr f3).scr⟩
  exact loop 1001 (-500) M1 (by omega) (by omega) Fx.rf (by rw [aBar, if_pos a])
theorem c_X9_isDoneBy {t d : Int} (h : MX M S) (ht : 0 ≤ t ∧ t < qn S) (hd : -500 ≤ d ∧ d ≤ 500) : CI l m_X9_isDoneBy [zr 9 0, zi t, zi d] M (fun x M' => x = zb (0 < dLie S t d) ∧ mQ M M') := by
  have ok := h.ok
  have hn := ok.1.1
  refine vX9_isDoneBy ?_
  intro M1 q1 M2 q2
  have e27 : M2 27 0 = M 27 0 := by rw [q2, zu_k (by decide), q1, zu_k (by decide)]
  have e5 : M2 9 0 5 = 0 := by rw [q2, zu_at, if_neg (by decide), q1, zu_at, if_neg (by decide), h.2.1]
  have e6 : M2 9 0 6 = zshl 1 t := by rw [q2, zu_at, if_neg (by decide), q1, zu_at, if_pos rfl]
  have e7 : M2 9 0 7 = d := by rw [q2, zu_at, if_pos rfl]
  obtain ⟨rc, eS, eM, -⟩ := r_lie (t := t) (L := fun t' => decide (t' = t)) h e27 e5 (fun t' ht' => by rw [e6, hb_bit (by omega) (by omega)]) e7 hd
  have eg1 : M2 27 0 (9 * t + 1) = qgr S t := by rw [← rS_gr (M := M2) (t := t) (by rw [eS]; exact ht), eS]
  rw [eg1]
  refine ⟨by omega, (c_X9_lays rc (ok.2.1 t ht)).mono ?_⟩
  rintro M3 ⟨f3, h3, d3⟩
  have rc3 := f3.rc rc
  rw [← f3.B, ← f3.A, ← f3.S] at h3 d3
  refine (c_done rc3 (by rw [f3.S, eS]; exact ht) h3 d3).eq ?_
  rw [f3.B, f3.A, f3.S, eS, (eM _).1, (eM _).2]
  have db := dLie_b ok t d
  have ed : cnt (if qsl S t = 1 then mA S (fun t' => qgr S t' = qgr S t) (vL S (fun t' => decide (t' = t)) d) else mB S (fun t' => qgr S t' = qgr S t) (vL S (fun t' => decide (t' = t)) d)) t (dN (mB S (fun t' => qgr S t' = qgr S t) (vL S (fun t' => decide (t' = t)) d)) (mA S (fun t' => qgr S t' = qgr S t) (vL S (fun t' => decide (t' = t)) d)) (qfee S) (qlaw S)) = dLie S t d := rfl
  rw [ed]
  have F : ∀ M4 : zM, M4 = zu M3 9 0 6 0 → mQ M M4 := by
    intro M4 q4
    refine ⟨fun k i h1 h2 => ?_, fun j hj => ?_, ?_⟩
    · rw [q4, zu_k h1, f3.1 k i h1 (by omega), q2, zu_k h1, q1, zu_k h1]
    · rw [q4, zu_at]
      by_cases c : j = 6
      · rw [if_pos c, c, h.2.2]
      · rw [if_neg c, f3.F j (by omega), q2, zu_at, if_neg (by omega), q1, zu_at, if_neg c]
    · rw [q4, zu_at, if_neg (by decide), f3.F 7 (by omega), e7]
      omega
  exact ⟨by omega, fun c M4 q4 => ⟨(zb_f (by omega)).symm, F M4 q4⟩, fun c M4 q4 => ⟨(zb_1 c).symm, F M4 q4⟩⟩
theorem q9_bar {t : Int} (h : MX M S) (zt : zI t) : CI l m_X9_bar [zr 9 0, zi t] M (fun x M' => x = aBar S t ∧ mQ M M') := by
  have hn := h.1.1.n
  have ok := h.ok
  have rc := h.1.1
  refine vX9_bar ?_
  rw [h.n] at hn ⊢
  refine ⟨⟨zt, hn⟩, fun a => ⟨⟨by omega, rc.sl (by rw [h.1.2]; exact a)⟩, ?_⟩, fun a => ⟨by rw [aBar, if_neg a], mQ.rf h⟩⟩
  have esl : M 27 0 (9 * t) = qsl S t := by rw [← rS_sl (M := M) (t := t) (by rw [h.1.2]; exact a), h.1.2]
  rw [esl]
  have loop : ∀ (e : Int), e = 1 ∨ e = -1 → (if qsl S t = 1 then -1 else 1) = e → ∀ (n : Nat) (s : Int) (M' : zM), -500 ≤ s → s + n = 501 → mQ M M' → barF (fun d => decide (0 < dLie S t d)) e n s = aBar S t → ∀ d, d = e * s → LX9_bar_31 l (fun x M' => x = aBar S t ∧ mQ M M') t e d M' := by
    intro e he1 he2 n
    induction n with
    | zero =>
      intro s M' hs hn f eb d hd
      have hd2 : d = s ∨ d = -s := by rcases he1 with rfl | rfl <;> omega
      exact vX9_bar_31 ⟨by omega, by omega, fun _ => ⟨eb, f⟩, fun q => by omega⟩
    | succ n ih =>
      intro s M' hs hn f eb d hd
      have hd2 : d = s ∨ d = -s := by rcases he1 with rfl | rfl <;> omega
      refine vX9_bar_31 ⟨by omega, by omega, fun q => by omega, fun _ => ?_⟩
      refine (c_X9_isDoneBy (h.q f) a (by omega)).mono ?_
      rintro x M3 ⟨rfl, f3⟩
      rw [barF, ← hd] at eb
      refine ⟨zb_I, fun q => ?_, fun q => ?_⟩
      · have q := zb_0 q
        rw [if_neg (by rw [decide_eq_true_eq]; exact q)] at eb
        refine ih (s + 1) M3 (by omega) (by omega) (f.tr f3) eb _ ?_
        rcases he1 with rfl | rfl <;> omega
      · have q := zb_n0 q
        rw [if_pos (by rw [decide_eq_true_eq]; exact q)] at eb
        exact ⟨eb, f.tr f3⟩
  refine ⟨fun c => ?_, fun c => ?_⟩
  · exact loop 1 (.inl rfl) (if_neg c) 1001 (-500) M (by omega) (by omega) (mQ.rf h) (by rw [aBar, if_pos a, if_neg c]) _ (by omega)
  · exact loop (-1) (.inr rfl) (if_pos c) 1001 (-500) M (by omega) (by omega) (mQ.rf h) (by rw [aBar, if_pos a, if_pos c]) _ (by omega)
end
