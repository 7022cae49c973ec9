/-! ===== tell: the reference reads parts ===== -/
def rZ (M0 M' : zM) (x : Int) (r : zT7) : Prop := x = zb (r.1 = 0) ∧ rdF M0 M' ∧ (r.1 ≠ 0 → M' 9 0 38 = r.1) ∧ (r.1 = 0 → rdS M' r.2.1 ∧ M' 9 0 42 = r.2.2.1 ∧ M' 9 0 43 = r.2.2.2.1 ∧ M' 9 0 37 = r.2.2.2.2)
theorem rZ.x {M0 M' : zM} {x : Int} {r : zT7} (h : rZ M0 M' x r) : x = 0 ∨ x = 1 := by
  rw [h.1]
  exact zb_01
theorem rZ.fr {M M1 M2 : zM} {x : Int} {r : zT7} (f : rdF M M1) (h : rZ M1 M2 x r) : rZ M M2 x r := ⟨h.1, f.tr h.2.1, h.2.2⟩
theorem rZ.bad {M0 M M' : zM} {k w : Int} {S : zS} {hf hl p : Int} (e : M' = zu M 9 0 38 (8 * w + k)) (f : rdF M0 M) (hk : 1 ≤ k ∧ k ≤ 3) (hw : 0 ≤ w) : rZ M0 M' 0 (8 * w + k, S, hf, hl, p) := by
  refine ⟨(zb_f (show ¬ 8 * w + k = 0 by omega)).symm, f.tr (rdF.fl e (by omega)), fun _ => by rw [e, zu_at, if_pos rfl], fun c => ?_⟩
  have c' : 8 * w + k = 0 := c
  omega
theorem rdS.sc {M M' : zM} {S : zS} {j x : Int} (h : rdS M S) (hj : 1 ≤ j ∧ j < 7) (e : M' = zu M 48 0 (180 + j) x) : rdS M' (sSc S j x) := by
  have z := sc_put (M1 := sw M) (M2 := sw M') (j := j) (x := x) h.1.1 hj (by
    funext i
    rw [sw_at, zu_at, sw_at, e, zu_at])
  refine ⟨⟨z.2, z.1.trans (by rw [show rS (sw M) = S from h.1.2])⟩, fun i hi => ?_⟩
  have hi' : 9 * upf (qsc S) j x 0 ≤ i ∧ i < 180 := hi
  unfold upf at hi'
  rw [if_neg (by omega)] at hi'
  rw [e, zu_at, if_neg (by omega)]
  exact h.2 i hi'
section
variable {l : Launch} {M : zM} {b : Int → Int} {n kk : Int} {S : zS} {hf hl : Int}
theorem vX9_readsTrader {l : Launch} {P : Int → zM → Prop} {v1 : Int} {M : zM}
    (H0 : (zI (M 48 0 180) ∧ ((M 48 0 180) ≠ 20 → (zI v1 ∧ (v1 = 0 → (∀ M13 : zM, M13 = zu M 9 0 37 ((M 9 0 37) + 5) → ((0 ≤ ((9 * (M 48 0 180)) + 0) ∧ ((9 * (M 48 0 180)) + 0) < 187) ∧ ∀ M17 : zM, M17 = zu M13 48 0 ((9 * (M 48 0 180)) + 0) 0 → (CI l m_X9_readsNumber [zr 9 0, zi 0, zi 3] M17 (fun x22 M19 => (zI x22 ∧ (x22 ≠ 0 → ((0 ≤ ((9 * (M 48 0 180)) + 1) ∧ ((9 * (M 48 0 180)) + 1) < 187) ∧ ∀ M30 : zM, M30 = zu M19 48 0 ((9 * (M 48 0 180)) + 1) (M19 9 0 39) → (∀ M32 : zM, M32 = zu M30 48 0 180 ((M30 48 0 180) + 1) → (CI l m_X9_readsUnits [zr 9 0, zi (9 * (M 48 0 180)), zi v1] M32 (fun x37 M34 => ((x37 = 0 ∨ x37 = 1) ∧ P x37 M34)))))) ∧ (x22 = 0 → P 0 M19))))))) ∧ (v1 ≠ 0 → (∀ M38 : zM, M38 = zu M 9 0 37 ((M 9 0 37) + 6) → ((0 ≤ ((9 * (M 48 0 180)) + 0) ∧ ((9 * (M 48 0 180)) + 0) < 187) ∧ ∀ M42 : zM, M42 = zu M38 48 0 ((9 * (M 48 0 180)) + 0) 1 → (CI l m_X9_readsNumber [zr 9 0, zi 0, zi 3] M42 (fun x47 M44 => (zI x47 ∧ (x47 ≠ 0 → ((0 ≤ ((9 * (M 48 0 180)) + 1) ∧ ((9 * (M 48 0 180)) + 1) < 187) ∧ ∀ M55 : zM, M55 = zu M44 48 0 ((9 * (M 48 0 180)) + 1) (M44 9 0 39) → (∀ M57 : zM, M57 = zu M55 48 0 180 ((M55 48 0 180) + 1) → (CI l m_X9_readsUnits [zr 9 0, zi (9 * (M 48 0 180)), zi v1] M57 (fun x62 M59 => ((x62 = 0 ∨ x62 = 1) ∧ P x62 M59)))))) ∧ (x47 = 0 → P 0 M44))))))))) ∧ ((M 48 0 180) = 20 → (CI l m_X9_fails [zr 9 0, zi 3, zi (M 9 0 37)] M (fun x66 M63 => ((x66 = 0 ∨ x66 = 1) ∧ P x66 M63)))))) :
    CI l m_X9_readsTrader [zr 9 0, zi v1] M P :=
(aw_aload_n d_X9_readsTrader_0 rfl rfl 0 rfl (by decide)
(aw_getR (k' := 48) (a := 0) (b := 0) (j := 0) d_X9_readsTrader_1 rfl fl9_75 rfl zj0 ⟨by decide, fun _ => by decide⟩
(aw_sipush d_X9_readsTrader_4 rfl (by decide)
(aw_iald d_X9_readsTrader_7 rfl za48 (by decide)
(aw_istore_n (lv' := [(2, zi (M 48 0 180)), (0, zr 9 0), (1, zi v1)]) d_X9_readsTrader_8 rfl rfl (by decide) rfl
(aw_iload_n d_X9_readsTrader_9 rfl rfl 0 rfl
(aw_bipush d_X9_readsTrader_10 rfl (by decide)
(have z1 := H0.1; have e2 := H0.2; aw_icmp_ne d_X9_readsTrader_12 rfl rfl z1 (by decide) (fun c3 => have e5 := e2.1 c3; (aw_aload_n d_X9_readsTrader_25 rfl rfl 1 rfl (by decide)
(aw_dup d_X9_readsTrader_26 rfl rfl
(aw_getI (kc := 37) d_X9_readsTrader_27 rfl fl9_381 rfl rfl
(aw_iload_n d_X9_readsTrader_30 rfl rfl 2 rfl
(have z7 := e5.1; have e8 := e5.2; aw_if_eq d_X9_readsTrader_31 rfl rfl z7 (fun c9 => have e11 := e8.1 c9; (aw_iconst d_X9_readsTrader_39 rfl
(aw_iadd d_X9_readsTrader_40 rfl
(have e14 := e11 _ rfl; aw_put (kc := 37) d_X9_readsTrader_41 rfl fp9_381 rfl rfl rfl rfl
(aw_bipush d_X9_readsTrader_44 rfl (by decide)
(aw_iload_n d_X9_readsTrader_46 rfl rfl 0 rfl
(aw_imul d_X9_readsTrader_47 rfl
(aw_istore_n (lv' := [(3, zi (9 * (M 48 0 180))), (2, zi (M 48 0 180)), (0, zr 9 0), (1, zi v1)]) d_X9_readsTrader_48 rfl rfl (by decide) rfl
(aw_aload_n d_X9_readsTrader_49 rfl rfl 2 rfl (by decide)
(aw_getR (k' := 48) (a := 0) (b := 0) (j := 0) d_X9_readsTrader_50 rfl fl9_75 rfl zj0 ⟨by decide, fun _ => by decide⟩
(aw_iload_n d_X9_readsTrader_53 rfl rfl 0 rfl
(aw_iconst d_X9_readsTrader_54 rfl
(aw_iadd d_X9_readsTrader_55 rfl
(aw_iload_n d_X9_readsTrader_56 rfl rfl 3 rfl
(aw_if_eq d_X9_readsTrader_57 rfl rfl z7 (fun _ => (aw_iconst d_X9_readsTrader_64 rfl
(have z16 := e14.1; have e18 := e14.2 _ rfl; aw_iast d_X9_readsTrader_65 rfl za48 z16
(aw_aload_n d_X9_readsTrader_66 rfl rfl 2 rfl (by decide)
(aw_iconst d_X9_readsTrader_67 rfl
(aw_iconst d_X9_readsTrader_68 rfl
(aw_VI (As := [zi 0, zi 3]) (st := []) d_X9_readsTrader_69 rfl cv9_415 ⟨Nat.le_of_ble_eq_true rfl, Nat.le_of_ble_eq_true rfl⟩ rfl rfl (Nat.le_of_ble_eq_true rfl) (Nat.le_of_ble_eq_true rfl) e18 (fun x22 M19 e20 => (have z23 := e20.1; have e24 := e20.2; aw_if_ne d_X9_readsTrader_72 rfl rfl z23 (fun c25 => have e27 := e24.1 c25; (aw_aload_n d_X9_readsTrader_77 rfl rfl 2 rfl (by decide)
(aw_getR (k' := 48) (a := 0) (b := 0) (j := 0) d_X9_readsTrader_78 rfl fl9_75 rfl zj0 ⟨by decide, fun _ => by decide⟩
(aw_iload_n d_X9_readsTrader_81 rfl rfl 0 rfl
(aw_iconst d_X9_readsTrader_82 rfl
(aw_iadd d_X9_readsTrader_83 rfl
(aw_aload_n d_X9_readsTrader_84 rfl rfl 2 rfl (by decide)
(aw_getI (kc := 39) d_X9_readsTrader_85 rfl fl9_411 rfl rfl
(have z29 := e27.1; have e31 := e27.2 _ rfl; aw_iast d_X9_readsTrader_88 rfl za48 z29
(aw_aload_n d_X9_readsTrader_89 rfl rfl 2 rfl (by decide)
(aw_getR (k' := 48) (a := 0) (b := 0) (j := 0) d_X9_readsTrader_90 rfl fl9_75 rfl zj0 ⟨by decide, fun _ => by decide⟩
(aw_sipush d_X9_readsTrader_93 rfl (by decide)
(aw_dup2 d_X9_readsTrader_96 rfl rfl rfl
(aw_iald d_X9_readsTrader_97 rfl za48 (by decide)
(aw_iconst d_X9_readsTrader_98 rfl
(aw_iadd d_X9_readsTrader_99 rfl
(have e33 := e31 _ rfl; aw_iast d_X9_readsTrader_100 rfl za48 (by decide)
(aw_aload_n d_X9_readsTrader_101 rfl rfl 2 rfl (by decide)
(aw_iload_n d_X9_readsTrader_102 rfl rfl 0 rfl
(aw_iload_n d_X9_readsTrader_103 rfl rfl 3 rfl
(aw_VI (As := [zi (9 * (M 48 0 180)), zi v1]) (st := []) d_X9_readsTrader_104 rfl cv9_418 ⟨Nat.le_of_ble_eq_true rfl, Nat.le_of_ble_eq_true rfl⟩ rfl rfl (Nat.le_of_ble_eq_true rfl) (Nat.le_of_ble_eq_true rfl) e33 (fun x37 M34 e35 => (aw_rz d_X9_readsTrader_107 rfl e35.1 e35.2))))))))))))))))))))))) (fun c26 => have e28 := e24.2 c26; (aw_iconst d_X9_readsTrader_75 rfl
(aw_rz d_X9_readsTrader_76 rfl (by decide) e28)))))))))))) (fun c15 => absurd c9 (by omega))))))))))))))))) (fun c10 => have e12 := e8.2 c10; (aw_bipush d_X9_readsTrader_34 rfl (by decide)
(aw_goto d_X9_readsTrader_36 rfl
(aw_iadd d_X9_readsTrader_40 rfl
(have e39 := e12 _ rfl; aw_put (kc := 37) d_X9_readsTrader_41 rfl fp9_381 rfl rfl rfl rfl
(aw_bipush d_X9_readsTrader_44 rfl (by decide)
(aw_iload_n d_X9_readsTrader_46 rfl rfl 0 rfl
(aw_imul d_X9_readsTrader_47 rfl
(aw_istore_n (lv' := [(3, zi (9 * (M 48 0 180))), (2, zi (M 48 0 180)), (0, zr 9 0), (1, zi v1)]) d_X9_readsTrader_48 rfl rfl (by decide) rfl
(aw_aload_n d_X9_readsTrader_49 rfl rfl 2 rfl (by decide)
(aw_getR (k' := 48) (a := 0) (b := 0) (j := 0) d_X9_readsTrader_50 rfl fl9_75 rfl zj0 ⟨by decide, fun _ => by decide⟩
(aw_iload_n d_X9_readsTrader_53 rfl rfl 0 rfl
(aw_iconst d_X9_readsTrader_54 rfl
(aw_iadd d_X9_readsTrader_55 rfl
(aw_iload_n d_X9_readsTrader_56 rfl rfl 3 rfl
(aw_if_eq d_X9_readsTrader_57 rfl rfl z7 (fun c40 => absurd c10 (by omega)) (fun _ => (aw_iconst d_X9_readsTrader_60 rfl
(aw_goto d_X9_readsTrader_61 rfl
(have z41 := e39.1; have e43 := e39.2 _ rfl; aw_iast d_X9_readsTrader_65 rfl za48 z41
(aw_aload_n d_X9_readsTrader_66 rfl rfl 2 rfl (by decide)
(aw_iconst d_X9_readsTrader_67 rfl
(aw_iconst d_X9_readsTrader_68 rfl
(aw_VI (As := [zi 0, zi 3]) (st := []) d_X9_readsTrader_69 rfl cv9_415 ⟨Nat.le_of_ble_eq_true rfl, Nat.le_of_ble_eq_true rfl⟩ rfl rfl (Nat.le_of_ble_eq_true rfl) (Nat.le_of_ble_eq_true rfl) e43 (fun x47 M44 e45 => (have z48 := e45.1; have e49 := e45.2; aw_if_ne d_X9_readsTrader_72 rfl rfl z48 (fun c50 => have e52 := e49.1 c50; (aw_aload_n d_X9_readsTrader_77 rfl rfl 2 rfl (by decide)
(aw_getR (k' := 48) (a := 0) (b := 0) (j := 0) d_X9_readsTrader_78 rfl fl9_75 rfl zj0 ⟨by decide, fun _ => by decide⟩
(aw_iload_n d_X9_readsTrader_81 rfl rfl 0 rfl
(aw_iconst d_X9_readsTrader_82 rfl
(aw_iadd d_X9_readsTrader_83 rfl
(aw_aload_n d_X9_readsTrader_84 rfl rfl 2 rfl (by decide)
(aw_getI (kc := 39) d_X9_readsTrader_85 rfl fl9_411 rfl rfl
(have z54 := e52.1; have e56 := e52.2 _ rfl; aw_iast d_X9_readsTrader_88 rfl za48 z54
(aw_aload_n d_X9_readsTrader_89 rfl rfl 2 rfl (by decide)
(aw_getR (k' := 48) (a := 0) (b := 0) (j := 0) d_X9_readsTrader_90 rfl fl9_75 rfl zj0 ⟨by decide, fun _ => by decide⟩
(aw_sipush d_X9_readsTrader_93 rfl (by decide)
(aw_dup2 d_X9_readsTrader_96 rfl rfl rfl
(aw_iald d_X9_readsTrader_97 rfl za48 (by decide)
(aw_iconst d_X9_readsTrader_98 rfl
(aw_iadd d_X9_readsTrader_99 rfl
(have e58 := e56 _ rfl; aw_iast d_X9_readsTrader_100 rfl za48 (by decide)
(aw_aload_n d_X9_readsTrader_101 rfl rfl 2 rfl (by decide)
(aw_iload_n d_X9_readsTrader_102 rfl rfl 0 rfl
(aw_iload_n d_X9_readsTrader_103 rfl rfl 3 rfl
(aw_VI (As := [zi (9 * (M 48 0 180)), zi v1]) (st := []) d_X9_readsTrader_104 rfl cv9_418 ⟨Nat.le_of_ble_eq_true rfl, Nat.le_of_ble_eq_true rfl⟩ rfl rfl (Nat.le_of_ble_eq_true rfl) (Nat.le_of_ble_eq_true rfl) e58 (fun x62 M59 e60 => (aw_rz d_X9_readsTrader_107 rfl e60.1 e60.2))))))))))))))))))))))) (fun c51 => have e53 := e49.2 c51; (aw_iconst d_X9_readsTrader_75 rfl
(aw_rz d_X9_readsTrader_76 rfl (by decide) e53))))))))))))))))))))))))))))))))))) (fun c4 => have e6 := e2.2 c4; (aw_aload_n d_X9_readsTrader_15 rfl rfl 1 rfl (by decide)
(aw_iconst d_X9_readsTrader_16 rfl
(aw_aload_n d_X9_readsTrader_17 rfl rfl 1 rfl (by decide)
(aw_getI (kc := 37) d_X9_readsTrader_18 rfl fl9_381 rfl rfl
(aw_VI (As := [zi 3, zi (M 9 0 37)]) (st := []) d_X9_readsTrader_21 rfl cv9_405 ⟨Nat.le_of_ble_eq_true rfl, Nat.le_of_ble_eq_true rfl⟩ rfl rfl (Nat.le_of_ble_eq_true rfl) (Nat.le_of_ble_eq_true rfl) e6 (fun x66 M63 e64 => (aw_rz d_X9_readsTrader_24 rfl e64.1 e64.2))))))))))))))))
theorem vX9_readsFee {l : Launch} {P : Int → zM → Prop}  {M : zM}
    (H0 : (zI (M 9 0 42) ∧ ((M 9 0 42) = 0 → (∀ M7 : zM, M7 = zu M 9 0 42 1 → (∀ M9 : zM, M9 = zu M7 9 0 37 ((M7 9 0 37) + 3) → (CI l m_X9_readsNumber [zr 9 0, zi 0, zi 500] M9 (fun x14 M11 => (zI x14 ∧ (x14 ≠ 0 → (∀ M21 : zM, M21 = zu M11 48 0 181 (M11 9 0 39) → P 1 M21)) ∧ (x14 = 0 → P 0 M11))))))) ∧ ((M 9 0 42) ≠ 0 → (CI l m_X9_fails [zr 9 0, zi 3, zi (M 9 0 37)] M (fun x26 M23 => ((x26 = 0 ∨ x26 = 1) ∧ P x26 M23)))))) :
    CI l m_X9_readsFee [zr 9 0] M P :=
(aw_aload_n d_X9_readsFee_0 rfl rfl 0 rfl (by decide)
(aw_getI (kc := 42) d_X9_readsFee_1 rfl fl9_422 rfl rfl
(have z1 := H0.1; have e2 := H0.2; aw_if_eq d_X9_readsFee_4 rfl rfl z1 (fun c3 => have e5 := e2.1 c3; (aw_aload_n d_X9_readsFee_17 rfl rfl 0 rfl (by decide)
(aw_iconst d_X9_readsFee_18 rfl
(have e8 := e5 _ rfl; aw_put (kc := 42) d_X9_readsFee_19 rfl fp9_422 rfl rfl rfl rfl
(aw_aload_n d_X9_readsFee_22 rfl rfl 0 rfl (by decide)
(aw_dup d_X9_readsFee_23 rfl rfl
(aw_getI (kc := 37) d_X9_readsFee_24 rfl fl9_381 rfl rfl
(aw_iconst d_X9_readsFee_27 rfl
(aw_iadd d_X9_readsFee_28 rfl
(have e10 := e8 _ rfl; aw_put (kc := 37) d_X9_readsFee_29 rfl fp9_381 rfl rfl rfl rfl
(aw_aload_n d_X9_readsFee_32 rfl rfl 0 rfl (by decide)
(aw_iconst d_X9_readsFee_33 rfl
(aw_sipush d_X9_readsFee_34 rfl (by decide)
(aw_VI (As := [zi 0, zi 500]) (st := []) d_X9_readsFee_37 rfl cv9_415 ⟨Nat.le_of_ble_eq_true rfl, Nat.le_of_ble_eq_true rfl⟩ rfl rfl (Nat.le_of_ble_eq_true rfl) (Nat.le_of_ble_eq_true rfl) e10 (fun x14 M11 e12 => (have z15 := e12.1; have e16 := e12.2; aw_if_ne d_X9_readsFee_40 rfl rfl z15 (fun c17 => have e19 := e16.1 c17; (aw_aload_n d_X9_readsFee_45 rfl rfl 0 rfl (by decide)
(aw_getR (k' := 48) (a := 0) (b := 0) (j := 0) d_X9_readsFee_46 rfl fl9_75 rfl zj0 ⟨by decide, fun _ => by decide⟩
(aw_sipush d_X9_readsFee_49 rfl (by decide)
(aw_aload_n d_X9_readsFee_52 rfl rfl 0 rfl (by decide)
(aw_getI (kc := 39) d_X9_readsFee_53 rfl fl9_411 rfl rfl
(have e22 := e19 _ rfl; aw_iast d_X9_readsFee_56 rfl za48 (by decide)
(aw_iconst d_X9_readsFee_57 rfl
(aw_rz d_X9_readsFee_58 rfl (by decide) e22))))))))) (fun c18 => have e20 := e16.2 c18; (aw_iconst d_X9_readsFee_43 rfl
(aw_rz d_X9_readsFee_44 rfl (by decide) e20))))))))))))))))))) (fun c4 => have e6 := e2.2 c4; (aw_aload_n d_X9_readsFee_7 rfl rfl 0 rfl (by decide)
(aw_iconst d_X9_readsFee_8 rfl
(aw_aload_n d_X9_readsFee_9 rfl rfl 0 rfl (by decide)
(aw_getI (kc := 37) d_X9_readsFee_10 rfl fl9_381 rfl rfl
(aw_VI (As := [zi 3, zi (M 9 0 37)]) (st := []) d_X9_readsFee_13 rfl cv9_405 ⟨Nat.le_of_ble_eq_true rfl, Nat.le_of_ble_eq_true rfl⟩ rfl rfl (Nat.le_of_ble_eq_true rfl) (Nat.le_of_ble_eq_true rfl) e6 (fun x26 M23 e24 => (aw_rz d_X9_readsFee_16 rfl e24.1 e24.2)))))))))))
def LX9_readsLaw_34 (l : Launch) (P : Int → zM → Prop) (v1 : Int) (M : zM) : Prop := AW l m_X9_readsLaw (zTi m_X9_readsLaw P) 34 [(0, zr 9 0), (1, zi v1)] [] M
theorem vX9_readsLaw_34 {l : Launch} {P : Int → zM → Prop} {v1 : Int} {M : zM}
    (H0 : (zI v1 ∧ (4 ≤ v1 → (CI l m_X9_fails [zr 9 0, zi 1, zi (M 9 0 37)] M (fun x24 M21 => ((x24 = 0 ∨ x24 = 1) ∧ P x24 M21)))) ∧ (v1 < 4 → (CR l m_X9_lawWord 61 [zi v1] M (fun (x28 : Nat) M25 => (CI l m_X9_isWord [zr 9 0, zr 61 x28] M25 (fun x32 M29 => (zI x32 ∧ (x32 ≠ 0 → (∀ M39 : zM, M39 = zu M29 48 0 182 v1 → (CR l m_X9_lawWord 61 [zi v1] M39 (fun (x44 : Nat) M41 => (∀ M45 : zM, M45 = zu M41 9 0 37 ((M39 9 0 37) + ((zsLen.getD x44 0 : Nat) : Int)) → P 1 M45))))) ∧ (x32 = 0 → LX9_readsLaw_34 l P (v1 + 1) M29))))))))) :
    LX9_readsLaw_34 l P v1 M :=
(aw_iload_n d_X9_readsLaw_34 rfl rfl 1 rfl
(aw_iconst d_X9_readsLaw_35 rfl
(have z15 := H0.1; have e16 := H0.2; aw_icmp_ge d_X9_readsLaw_36 rfl rfl z15 (by decide) (fun c17 => have e19 := e16.1 c17; (aw_aload_n d_X9_readsLaw_86 rfl rfl 0 rfl (by decide)
(aw_iconst d_X9_readsLaw_87 rfl
(aw_aload_n d_X9_readsLaw_88 rfl rfl 0 rfl (by decide)
(aw_getI (kc := 37) d_X9_readsLaw_89 rfl fl9_381 rfl rfl
(aw_VI (As := [zi 1, zi (M 9 0 37)]) (st := []) d_X9_readsLaw_92 rfl cv9_405 ⟨Nat.le_of_ble_eq_true rfl, Nat.le_of_ble_eq_true rfl⟩ rfl rfl (Nat.le_of_ble_eq_true rfl) (Nat.le_of_ble_eq_true rfl) e19 (fun x24 M21 e22 => (aw_rz d_X9_readsLaw_95 rfl e22.1 e22.2)))))))) (fun c18 => have e20 := e16.2 c18; (aw_aload_n d_X9_readsLaw_39 rfl rfl 0 rfl (by decide)
(aw_iload_n d_X9_readsLaw_40 rfl rfl 1 rfl
(aw_SR (As := [zi v1]) (st := [zr 9 0]) d_X9_readsLaw_41 rfl cs9_356 ⟨Nat.le_of_ble_eq_true rfl, Nat.le_of_ble_eq_true rfl⟩ rfl rfl (Nat.le_of_ble_eq_true rfl) (Nat.le_of_ble_eq_true rfl) e20 (fun x28 M25 e26 => (aw_VI (As := [zr 61 x28]) (st := []) d_X9_readsLaw_44 rfl cv9_429 ⟨Nat.le_of_ble_eq_true rfl, Nat.le_of_ble_eq_true rfl⟩ rfl rfl (Nat.le_of_ble_eq_true rfl) (Nat.le_of_ble_eq_true rfl) e26 (fun x32 M29 e30 => (have z33 := e30.1; have e34 := e30.2; aw_if_ne d_X9_readsLaw_47 rfl rfl z33 (fun c35 => have e37 := e34.1 c35; (aw_aload_n d_X9_readsLaw_53 rfl rfl 0 rfl (by decide)
(aw_getR (k' := 48) (a := 0) (b := 0) (j := 0) d_X9_readsLaw_54 rfl fl9_75 rfl zj0 ⟨by decide, fun _ => by decide⟩
(aw_sipush d_X9_readsLaw_57 rfl (by decide)
(aw_iload_n d_X9_readsLaw_60 rfl rfl 1 rfl
(aw_iast d_X9_readsLaw_61 rfl za48 (by decide)
(aw_nm fun M39 hqM39 => have e40 := e37 M39 hqM39; (aw_aload_n d_X9_readsLaw_62 rfl rfl 0 rfl (by decide)
(aw_dup d_X9_readsLaw_63 rfl rfl
(aw_getI (kc := 37) d_X9_readsLaw_64 rfl fl9_381 rfl rfl
(aw_iload_n d_X9_readsLaw_67 rfl rfl 1 rfl
(aw_SR (As := [zi v1]) (st := [zi (M39 9 0 37), zr 9 0]) d_X9_readsLaw_68 rfl cs9_356 ⟨Nat.le_of_ble_eq_true rfl, Nat.le_of_ble_eq_true rfl⟩ rfl rfl (Nat.le_of_ble_eq_true rfl) (Nat.le_of_ble_eq_true rfl) e40 (fun x44 M41 e42 => (aw_TI (As := []) (st := [zi (M39 9 0 37), zr 9 0]) d_X9_readsLaw_71 rfl ct9_315 ⟨Nat.le_of_ble_eq_true rfl, Nat.le_of_ble_eq_true rfl⟩ rfl rfl (Nat.le_of_ble_eq_true rfl) (Nat.le_of_ble_eq_true rfl) (s_J0_length_8abf5) (fun _ _ hq => aw_eqs hq
(aw_iadd d_X9_readsLaw_74 rfl
(have e46 := e42 _ rfl; aw_put (kc := 37) d_X9_readsLaw_75 rfl fp9_381 rfl rfl rfl rfl
(aw_iconst d_X9_readsLaw_78 rfl
(aw_rz d_X9_readsLaw_79 rfl (by decide) e46))))))))))))))))))) (fun c36 => have e38 := e34.2 c36; (aw_goto d_X9_readsLaw_50 rfl
(aw_iinc (lv' := [(1, zi (v1 + 1)), (0, zr 9 0)]) (y := (v1 + 1)) d_X9_readsLaw_80 rfl 1 rfl (by decide) rfl rfl
(aw_goto d_X9_readsLaw_83 rfl
(aw_sub [1, 0] rfl e38))))))))))))))))
theorem vX9_readsLaw {l : Launch} {P : Int → zM → Prop}  {M : zM}
    (H0 : (zI (M 9 0 43) ∧ ((M 9 0 43) = 0 → (∀ M7 : zM, M7 = zu M 9 0 43 1 → (∀ M9 : zM, M9 = zu M7 9 0 37 ((M7 9 0 37) + 3) → LX9_readsLaw_34 l P 0 M9))) ∧ ((M 9 0 43) ≠ 0 → (CI l m_X9_fails [zr 9 0, zi 3, zi (M 9 0 37)] M (fun x14 M11 => ((x14 = 0 ∨ x14 = 1) ∧ P x14 M11)))))) :
    CI l m_X9_readsLaw [zr 9 0] M P :=
(aw_aload_n d_X9_readsLaw_0 rfl rfl 0 rfl (by decide)
(aw_getI (kc := 43) d_X9_readsLaw_1 rfl fl9_426 rfl rfl
(have z1 := H0.1; have e2 := H0.2; aw_if_eq d_X9_readsLaw_4 rfl rfl z1 (fun c3 => have e5 := e2.1 c3; (aw_aload_n d_X9_readsLaw_17 rfl rfl 0 rfl (by decide)
(aw_iconst d_X9_readsLaw_18 rfl
(have e8 := e5 _ rfl; aw_put (kc := 43) d_X9_readsLaw_19 rfl fp9_426 rfl rfl rfl rfl
(aw_aload_n d_X9_readsLaw_22 rfl rfl 0 rfl (by decide)
(aw_dup d_X9_readsLaw_23 rfl rfl
(aw_getI (kc := 37) d_X9_readsLaw_24 rfl fl9_381 rfl rfl
(aw_iconst d_X9_readsLaw_27 rfl
(aw_iadd d_X9_readsLaw_28 rfl
(have e10 := e8 _ rfl; aw_put (kc := 37) d_X9_readsLaw_29 rfl fp9_381 rfl rfl rfl rfl
(aw_iconst d_X9_readsLaw_32 rfl
(aw_istore_n (lv' := [(1, zi 0), (0, zr 9 0)]) d_X9_readsLaw_33 rfl rfl (by decide) rfl
(aw_sub [1, 0] rfl e10))))))))))))) (fun c4 => have e6 := e2.2 c4; (aw_aload_n d_X9_readsLaw_7 rfl rfl 0 rfl (by decide)
(aw_iconst d_X9_readsLaw_8 rfl
(aw_aload_n d_X9_readsLaw_9 rfl rfl 0 rfl (by decide)
(aw_getI (kc := 37) d_X9_readsLaw_10 rfl fl9_381 rfl rfl
(aw_VI (As := [zi 3, zi (M 9 0 37)]) (st := []) d_X9_readsLaw_13 rfl cv9_405 ⟨Nat.le_of_ble_eq_true rfl, Nat.le_of_ble_eq_true rfl⟩ rfl rfl (Nat.le_of_ble_eq_true rfl) (Nat.le_of_ble_eq_true rfl) e6 (fun x14 M11 e12 => (aw_rz d_X9_readsLaw_16 rfl e12.1 e12.2)))))))))))
theorem vX9_readsPart {l : Launch} {P : Int → zM → Prop}  {M : zM}
    (H0 : (CI l m_X9_isWord [zr 9 0, zr 61 0] M (fun x4 M1 => (zI x4 ∧ (x4 = 0 → (CI l m_X9_isWord [zr 9 0, zr 61 1] M1 (fun x14 M11 => (zI x14 ∧ (x14 = 0 → (CI l m_X9_isWord [zr 9 0, zr 61 2] M11 (fun x24 M21 => (zI x24 ∧ (x24 = 0 → (CI l m_X9_isWord [zr 9 0, zr 61 3] M21 (fun x34 M31 => (zI x34 ∧ (x34 = 0 → (CI l m_X9_fails [zr 9 0, zi 1, zi (M31 9 0 37)] M31 (fun x44 M41 => ((x44 = 0 ∨ x44 = 1) ∧ P x44 M41)))) ∧ (x34 ≠ 0 → (CI l m_X9_readsLaw [zr 9 0] M31 (fun x48 M45 => ((x48 = 0 ∨ x48 = 1) ∧ P x48 M45)))))))) ∧ (x24 ≠ 0 → (CI l m_X9_readsFee [zr 9 0] M21 (fun x52 M49 => ((x52 = 0 ∨ x52 = 1) ∧ P x52 M49)))))))) ∧ (x14 ≠ 0 → (CI l m_X9_readsTrader [zr 9 0, zi 1] M11 (fun x56 M53 => ((x56 = 0 ∨ x56 = 1) ∧ P x56 M53)))))))) ∧ (x4 ≠ 0 → (CI l m_X9_readsTrader [zr 9 0, zi 0] M1 (fun x60 M57 => ((x60 = 0 ∨ x60 = 1) ∧ P x60 M57)))))))) :
    CI l m_X9_readsPart [zr 9 0] M P :=
(aw_aload_n d_X9_readsPart_0 rfl rfl 0 rfl (by decide)
(aw_ldcSw (i := 0) (tx := "buyer") d_X9_readsPart_1 rfl (by decide +kernel) (by decide)
(aw_VI (As := [zr 61 0]) (st := []) d_X9_readsPart_4 rfl cv9_429 ⟨Nat.le_of_ble_eq_true rfl, Nat.le_of_ble_eq_true rfl⟩ rfl rfl (Nat.le_of_ble_eq_true rfl) (Nat.le_of_ble_eq_true rfl) H0 (fun x4 M1 e2 => (have z5 := e2.1; have e6 := e2.2; aw_if_eq d_X9_readsPart_7 rfl rfl z5 (fun c7 => have e9 := e6.1 c7; (aw_aload_n d_X9_readsPart_16 rfl rfl 0 rfl (by decide)
(aw_ldcSw (i := 1) (tx := "seller") d_X9_readsPart_17 rfl (by decide +kernel) (by decide)
(aw_VI (As := [zr 61 1]) (st := []) d_X9_readsPart_20 rfl cv9_429 ⟨Nat.le_of_ble_eq_true rfl, Nat.le_of_ble_eq_true rfl⟩ rfl rfl (Nat.le_of_ble_eq_true rfl) (Nat.le_of_ble_eq_true rfl) e9 (fun x14 M11 e12 => (have z15 := e12.1; have e16 := e12.2; aw_if_eq d_X9_readsPart_23 rfl rfl z15 (fun c17 => have e19 := e16.1 c17; (aw_aload_n d_X9_readsPart_32 rfl rfl 0 rfl (by decide)
(aw_ldcSw (i := 2) (tx := "fee") d_X9_readsPart_33 rfl (by decide +kernel) (by decide)
(aw_VI (As := [zr 61 2]) (st := []) d_X9_readsPart_36 rfl cv9_429 ⟨Nat.le_of_ble_eq_true rfl, Nat.le_of_ble_eq_true rfl⟩ rfl rfl (Nat.le_of_ble_eq_true rfl) (Nat.le_of_ble_eq_true rfl) e19 (fun x24 M21 e22 => (have z25 := e22.1; have e26 := e22.2; aw_if_eq d_X9_readsPart_39 rfl rfl z25 (fun c27 => have e29 := e26.1 c27; (aw_aload_n d_X9_readsPart_47 rfl rfl 0 rfl (by decide)
(aw_ldcSw (i := 3) (tx := "law") d_X9_readsPart_48 rfl (by decide +kernel) (by decide)
(aw_VI (As := [zr 61 3]) (st := []) d_X9_readsPart_51 rfl cv9_429 ⟨Nat.le_of_ble_eq_true rfl, Nat.le_of_ble_eq_true rfl⟩ rfl rfl (Nat.le_of_ble_eq_true rfl) (Nat.le_of_ble_eq_true rfl) e29 (fun x34 M31 e32 => (have z35 := e32.1; have e36 := e32.2; aw_if_eq d_X9_readsPart_54 rfl rfl z35 (fun c37 => have e39 := e36.1 c37; (aw_aload_n d_X9_readsPart_64 rfl rfl 0 rfl (by decide)
(aw_iconst d_X9_readsPart_65 rfl
(aw_aload_n d_X9_readsPart_66 rfl rfl 0 rfl (by decide)
(aw_getI (kc := 37) d_X9_readsPart_67 rfl fl9_381 rfl rfl
(aw_VI (As := [zi 1, zi (M31 9 0 37)]) (st := []) d_X9_readsPart_70 rfl cv9_405 ⟨Nat.le_of_ble_eq_true rfl, Nat.le_of_ble_eq_true rfl⟩ rfl rfl (Nat.le_of_ble_eq_true rfl) (Nat.le_of_ble_eq_true rfl) e39 (fun x44 M41 e42 => (aw_rz d_X9_readsPart_73 rfl e42.1 e42.2)))))))) (fun c38 => have e40 := e36.2 c38; (aw_aload_n d_X9_readsPart_57 rfl rfl 0 rfl (by decide)
(aw_VI (As := []) (st := []) d_X9_readsPart_58 rfl cv9_448 ⟨Nat.le_of_ble_eq_true rfl, Nat.le_of_ble_eq_true rfl⟩ rfl rfl (Nat.le_of_ble_eq_true rfl) (Nat.le_of_ble_eq_true rfl) e40 (fun x48 M45 e46 => (aw_goto d_X9_readsPart_61 rfl
(aw_rz d_X9_readsPart_73 rfl e46.1 e46.2)))))))))))) (fun c28 => have e30 := e26.2 c28; (aw_aload_n d_X9_readsPart_42 rfl rfl 0 rfl (by decide)
(aw_VI (As := []) (st := []) d_X9_readsPart_43 rfl cv9_443 ⟨Nat.le_of_ble_eq_true rfl, Nat.le_of_ble_eq_true rfl⟩ rfl rfl (Nat.le_of_ble_eq_true rfl) (Nat.le_of_ble_eq_true rfl) e30 (fun x52 M49 e50 => (aw_rz d_X9_readsPart_46 rfl e50.1 e50.2))))))))))) (fun c18 => have e20 := e16.2 c18; (aw_aload_n d_X9_readsPart_26 rfl rfl 0 rfl (by decide)
(aw_iconst d_X9_readsPart_27 rfl
(aw_VI (As := [zi 1]) (st := []) d_X9_readsPart_28 rfl cv9_435 ⟨Nat.le_of_ble_eq_true rfl, Nat.le_of_ble_eq_true rfl⟩ rfl rfl (Nat.le_of_ble_eq_true rfl) (Nat.le_of_ble_eq_true rfl) e20 (fun x56 M53 e54 => (aw_rz d_X9_readsPart_31 rfl e54.1 e54.2)))))))))))) (fun c8 => have e10 := e6.2 c8; (aw_aload_n d_X9_readsPart_10 rfl rfl 0 rfl (by decide)
(aw_iconst d_X9_readsPart_11 rfl
(aw_VI (As := [zi 0]) (st := []) d_X9_readsPart_12 rfl cv9_435 ⟨Nat.le_of_ble_eq_true rfl, Nat.le_of_ble_eq_true rfl⟩ rfl rfl (Nat.le_of_ble_eq_true rfl) (Nat.le_of_ble_eq_true rfl) e10 (fun x60 M57 e58 => (aw_rz d_X9_readsPart_15 rfl e58.1 e58.2)))))))))))
/-- the reference's parser stands at a place -/
def rdT (M : zM) (S : zS) (hf hl p : Int) : Prop := rdS M S ∧ M 9 0 42 = hf ∧ M 9 0 43 = hl ∧ M 9 0 37 = p
theorem c_X9_readsTrader {i s : Int} (h : mtX M b n) (ts : rdT M S hf hl i) (g : gdT kk n (i + (if s = 0 then 5 else 6)) S hf hl) (hi : 0 ≤ i) (hs : s = 0 ∨ s = 1) : CI l m_X9_readsTrader [zr 9 0, zi s] M (fun x M' => rZ M M' x (tTr b n S hf hl i (i + (if s = 0 then 5 else 6)) s)) := by
  obtain ⟨rs, e42, e43, e37⟩ := ts
  generalize hpp : i + (if s = 0 then 5 else 6) = p at *
  obtain ⟨⟨w, z⟩, g2, g3, hp⟩ := g
  have h1 := h.1
  have hn := w.1
  obtain ⟨-, n0, g0, g1, -⟩ := mv_at rs.1.1 rs.1.2
  have n1 : M 48 0 180 = qn S := by
    have q := g0 0 (by omega)
    rw [sw_at] at q
    exact q
  have go : ∀ M2 : zM, rdF M M2 → M2 9 0 37 = p → M2 9 0 42 = hf → M2 9 0 43 = hl → (∀ j, M2 48 0 j = if j = 9 * qn S then s else M 48 0 j) → qn S ≠ 20 → CI l m_X9_readsNumber [zr 9 0, zi 0, zi 3] M2 (fun x22 M19 => (zI x22 ∧ (x22 ≠ 0 → ((0 ≤ ((9 * qn S) + 1) ∧ ((9 * qn S) + 1) < 187) ∧ ∀ M30 : zM, M30 = zu M19 48 0 ((9 * qn S) + 1) (M19 9 0 39) → (∀ M32 : zM, M32 = zu M30 48 0 180 ((M30 48 0 180) + 1) → (CI l m_X9_readsUnits [zr 9 0, zi (9 * qn S), zi s] M32 (fun x37 M34 => ((x37 = 0 ∨ x37 = 1) ∧ rZ M M34 x37 (tTr b n S hf hl i p s))))))) ∧ (x22 = 0 → rZ M M19 0 (tTr b n S hf hl i p s)))) := by
    intro M2 f2 a37 a42 a43 at2 n20
    have x2 := h.rd f2
    have B := nm_b (b := b) hp.2
    have V := nmV_nn (b := b) (n := n) (p := p)
    refine (c_X9_readsNumber x2 (by omega) (by omega)).mono ?_
    rw [a37]
    rintro y M3 ⟨ey, f3, b37, b38, b40⟩
    have f03 := f2.tr f3.rd
    have r48 : M3 48 0 = M2 48 0 := by rw [f3.1 48 0 (by decide)]
    refine ⟨by rw [ey]; exact zb_I, fun c => ?_, fun c => ?_⟩
    · rw [ey] at c
      have ok := zb_n0 c
      have E39 := (b40 ok.1).2 ok.2
      have c0 : nmF b n p 3 = 0 := by
        unfold nmF
        rw [if_neg ok.1, if_neg (by omega)]
      refine ⟨by omega, ?_⟩
      intro M4 q4 M5 q5
      have F5 : rdF M3 M5 := (rdF.ro q4).tr (rdF.ro q5)
      have r180 : M4 48 0 180 = qn S := by rw [q4, zu_at, if_neg (by omega), r48, at2, if_neg (by omega)]; exact n1
      have at5 : ∀ j, M5 48 0 j = if j = 180 then qn S + 1 else if j = 9 * qn S + 1 then nmV b n p else if j = 9 * qn S then s else if 9 * qn S ≤ j ∧ j < 9 * qn S + 9 then 0 else M 48 0 j := by
        intro j
        rw [q5, zu_at, r180, q4, zu_at, E39, r48, at2]
        by_cases d0 : j = 180
        · rw [if_pos d0, if_pos d0]
        · rw [if_neg d0, if_neg d0]
          by_cases d1 : j = 9 * qn S + 1
          · rw [if_pos d1, if_pos d1]
          · rw [if_neg d1, if_neg d1]
            by_cases d2 : j = 9 * qn S
            · rw [if_pos d2, if_pos d2]
            · rw [if_neg d2, if_neg d2]
              by_cases d3 : 9 * qn S ≤ j ∧ j < 9 * qn S + 9
              · rw [if_pos d3]
                exact rs.2 j (by omega)
              · rw [if_neg d3]
      have co := m_come (M1 := sw M) (M2 := sw M5) (s := s) (g := nmV b n p) rs.1.1 rs.1.2 (by omega) hs (fun j => by rw [sw_at, sw_at]; exact at5 j)
      have eq1 : qn (sCome S s (nmV b n p)) = qn S + 1 := rfl
      have rs5 : rdS M5 (sCome S s (nmV b n p)) := by
        refine ⟨co, fun j hj => ?_⟩
        rw [eq1] at hj
        rw [at5, if_neg (by omega), if_neg (by omega), if_neg (by omega), if_neg (by omega)]
        exact rs.2 j (by omega)
      have s37 : M5 9 0 37 = nmQ b n p := by rw [q5, zu_k (by decide), q4, zu_k (by decide)]; exact b37
      have eT : tTr b n S hf hl i p s = ((tU b n (qn S) 5 0 (sCome S s (nmV b n p)) (sk isB b n (nmQ b n p))).1, (tU b n (qn S) 5 0 (sCome S s (nmV b n p)) (sk isB b n (nmQ b n p))).2.1, hf, hl, (tU b n (qn S) 5 0 (sCome S s (nmV b n p)) (sk isB b n (nmQ b n p))).2.2) := by
        unfold tTr
        rw [if_neg (by omega), if_neg (fun q => q c0)]
      have R := c_X9_rUnits (l := l) (M0 := M) (b := b) (n := n) (kk := kk) (t := qn S) (s := s) (hf := hf) (hl := hl) hs 5 0 M5 (sCome S s (nmV b n p)) (by omega) (by omega) ((x2.n f3).rd F5) (f03.tr F5) rs5 (by
          rw [q5, zu_k (by decide), q4, zu_k (by decide)]
          exact (f3.2 42 (by omega)).trans a42) (by
          rw [q5, zu_k (by decide), q4, zu_k (by decide)]
          exact (f3.2 43 (by omega)).trans a43) (by omega) (wf_come w z (by omega) hs (by omega)) (by omega) (z.2.1 (qn S) (by omega)).2.2.1 (by
          show (if qn S = qn S then s else qsl S (qn S)) = s
          rw [if_pos rfl])
      rw [s37] at R
      refine (vX9_readsUnits R).mono ?_
      rintro x M6 ⟨u1, u2, u3, u4⟩
      rw [eT]
      exact ⟨by rw [u1]; exact zb_01, u1, u2, u3, u4⟩
    · rw [ey] at c
      have bad := zb_0 c
      have eF : M3 9 0 38 = nmF b n p 3 := by
        rw [b38]
        unfold nmF
        by_cases d : nmQ b n p = nmI b n p
        · rw [if_pos d, if_pos d]
        · rw [if_neg d, if_neg d]
          by_cases d2 : 3 < nmV b n p
          · rw [if_pos d2, if_pos d2]
          · exact absurd ⟨d, by omega⟩ bad
      have c0 : nmF b n p 3 ≠ 0 := fun q => bad (nmF_0 q hp)
      have eT : tTr b n S hf hl i p s = (nmF b n p 3, S, hf, hl, nmQ b n p) := by
        unfold tTr
        rw [if_neg (by omega), if_pos c0]
      rw [eT]
      exact ⟨(zb_f c0).symm, f03, fun _ => eF, fun q => absurd q c0⟩
  refine vX9_readsTrader ?_
  rw [n1, e37]
  refine ⟨by omega, fun c => ⟨by omega, fun c0 => ?_, fun c0 => ?_⟩, fun c => ?_⟩
  · intro M1 q1
    refine ⟨by omega, ?_⟩
    intro M2 q2
    refine go M2 ((rdF.fl q1 (by omega)).tr (rdF.ro q2)) ?_ ?_ ?_ (fun j => ?_) c
    · rw [if_pos c0] at hpp
      rw [q2, zu_k (by decide), q1, zu_at, if_pos rfl]
      exact hpp
    · rw [q2, zu_k (by decide), q1, zu_at, if_neg (by decide)]
      exact e42
    · rw [q2, zu_k (by decide), q1, zu_at, if_neg (by decide)]
      exact e43
    · rw [q2, zu_at, q1, zu_k (by decide), Int.add_zero, c0]
  · intro M1 q1
    refine ⟨by omega, ?_⟩
    intro M2 q2
    refine go M2 ((rdF.fl q1 (by omega)).tr (rdF.ro q2)) ?_ ?_ ?_ (fun j => ?_) c
    · rw [if_neg c0] at hpp
      rw [q2, zu_k (by decide), q1, zu_at, if_pos rfl]
      exact hpp
    · rw [q2, zu_k (by decide), q1, zu_at, if_neg (by decide)]
      exact e42
    · rw [q2, zu_k (by decide), q1, zu_at, if_neg (by decide)]
      exact e43
    · rw [q2, zu_at, q1, zu_k (by decide), Int.add_zero, show s = 1 by omega]
  · have eT : tTr b n S hf hl i p s = (8 * i + 3, S, hf, hl, p) := by
      unfold tTr
      rw [if_pos (by omega)]
    rw [eT]
    exact c_X9_fl fun M3 q3 => rZ.bad q3 rdF.rf (by omega) hi
theorem c_X9_readsFee {i : Int} (h : mtX M b n) (ts : rdT M S hf hl i) (g : gdT kk n (i + 3) S hf hl) (hi : 0 ≤ i) : CI l m_X9_readsFee [zr 9 0] M (fun x M' => rZ M M' x (tPf b n S hf hl i (i + 3))) := by
  obtain ⟨rs, e42, e43, e37⟩ := ts
  obtain ⟨⟨w, z⟩, g2, g3, hp⟩ := g
  have h1 := h.1
  refine vX9_readsFee ?_
  rw [e42]
  refine ⟨by omega, fun c => ?_, fun c => ?_⟩
  · intro M1 q1 M2 q2
    have f2 : rdF M M2 := (rdF.fl q1 (by omega)).tr (rdF.fl q2 (by omega))
    have a37 : M2 9 0 37 = i + 3 := by rw [q2, zu_at, if_pos rfl, q1, zu_at, if_neg (by decide), e37]
    have a42 : M2 9 0 42 = 1 := by rw [q2, zu_at, if_neg (by decide), q1, zu_at, if_pos rfl]
    have a43 : M2 9 0 43 = hl := by rw [q2, zu_at, if_neg (by decide), q1, zu_at, if_neg (by decide)]; exact e43
    have x2 := h.rd f2
    have B := nm_b (b := b) hp.2
    have V := nmV_nn (b := b) (n := n) (p := i + 3)
    have eT : tPf b n S hf hl i (i + 3) = (nmF b n (i + 3) 500, if nmF b n (i + 3) 500 = 0 then sSc S 1 (nmV b n (i + 3)) else S, 1, hl, nmQ b n (i + 3)) := by
      unfold tPf
      rw [if_neg (fun q => q c)]
    refine (c_X9_readsNumber x2 (by omega) (by omega)).mono ?_
    rw [a37]
    rintro y M3 ⟨ey, f3, b37, b38, b40⟩
    have f03 := f2.tr f3.rd
    have rs3 : rdS M3 S := rs.eq (by rw [f3.1 48 0 (by decide), q2, zu_k (by decide), q1, zu_k (by decide)])
    rw [eT]
    refine ⟨by rw [ey]; exact zb_I, fun d => ?_, fun d => ?_⟩
    · rw [ey] at d
      have ok := zb_n0 d
      have E39 := (b40 ok.1).2 ok.2
      have c0 : nmF b n (i + 3) 500 = 0 := by
        unfold nmF
        rw [if_neg ok.1, if_neg (by omega)]
      intro M4 q4
      rw [E39] at q4
      have rs4 := rs3.sc (j := 1) (by omega) q4
      refine ⟨(zb_1 c0).symm, f03.tr (rdF.ro q4), fun q => absurd c0 q, fun _ => ⟨?_, ?_, ?_, ?_⟩⟩
      · show rdS M4 (if nmF b n (i + 3) 500 = 0 then sSc S 1 (nmV b n (i + 3)) else S)
        rw [if_pos c0]
        exact rs4
      · rw [q4, zu_k (by decide)]
        exact (f3.2 42 (by omega)).trans a42
      · rw [q4, zu_k (by decide)]
        exact (f3.2 43 (by omega)).trans a43
      · rw [q4, zu_k (by decide)]
        exact b37
    · rw [ey] at d
      have bad := zb_0 d
      have eF : M3 9 0 38 = nmF b n (i + 3) 500 := by
        rw [b38]
        unfold nmF
        by_cases d : nmQ b n (i + 3) = nmI b n (i + 3)
        · rw [if_pos d, if_pos d]
        · rw [if_neg d, if_neg d]
          by_cases d2 : 500 < nmV b n (i + 3)
          · rw [if_pos d2, if_pos d2]
          · exact absurd ⟨d, by omega⟩ bad
      have c0 : nmF b n (i + 3) 500 ≠ 0 := fun q => bad (nmF_0 q hp)
      exact ⟨(zb_f c0).symm, f03, fun _ => eF, fun q => absurd q c0⟩
  · have eT : tPf b n S hf hl i (i + 3) = (8 * i + 3, S, hf, hl, i + 3) := by
      unfold tPf
      rw [if_pos c]
    rw [eT, e37]
    exact c_X9_fl fun M3 q3 => rZ.bad q3 rdF.rf (by omega) hi
theorem c_X9_isX {s : Nat} (hs : s < 8) (h : mtX M b n) (hp : 0 ≤ M 9 0 37 ∧ M 9 0 37 ≤ n) : CI l m_X9_isWord [zr 9 0, zr 61 s] M (fun x M' => x = zb (isX s b n (sk isB b n (M 9 0 37)) = true) ∧ spF M M' ∧ M' 9 0 37 = sk isB b n (M 9 0 37)) := by
  refine (c_X9_isWord (by omega) h hp).mono ?_
  rintro x M' ⟨ex, f, e⟩
  refine ⟨?_, f, e⟩
  rw [ex]
  unfold isX
  by_cases c : isWd s b n (sk isB b n (M 9 0 37)) = true ∧ isL (bt b n (sk isB b n (M 9 0 37) + zl_ s)) = false
  · rw [zb_1 c, zb_1 (by rw [c.1, c.2]; rfl)]
  · rw [zb_f c, zb_f fun q => c (by
      rw [Bool.and_eq_true, Bool.not_eq_true'] at q
      exact q)]
theorem c_X9_readsLaw {i : Int} (h : mtX M b n) (ts : rdT M S hf hl i) (g : gdT kk n (i + 3) S hf hl) (hi : 0 ≤ i) : CI l m_X9_readsLaw [zr 9 0] M (fun x M' => rZ M M' x (tLw b n S hf hl i (i + 3))) := by
  obtain ⟨rs, e42, e43, e37⟩ := ts
  obtain ⟨⟨w, z⟩, g2, g3, hp⟩ := g
  have h1 := h.1
  refine vX9_readsLaw ?_
  rw [e43]
  refine ⟨by omega, fun c => ?_, fun c => ?_⟩
  · intro M1 q1 M2 q2
    have f2 : rdF M M2 := (rdF.fl q1 (by omega)).tr (rdF.fl q2 (by omega))
    have a37 : M2 9 0 37 = i + 3 := by rw [q2, zu_at, if_pos rfl, q1, zu_at, if_neg (by decide), e37]
    have a42 : M2 9 0 42 = hf := by rw [q2, zu_at, if_neg (by decide), q1, zu_at, if_neg (by decide)]; exact e42
    have a43 : M2 9 0 43 = 1 := by rw [q2, zu_at, if_neg (by decide), q1, zu_at, if_pos rfl]
    have rs2 : rdS M2 S := rs.eq (by rw [q2, zu_k (by decide), q1, zu_k (by decide)])
    have B := sk_b (p := isB) (b := b) (n := n) _ (i + 3) rfl hp.2
    have SS := sk_sk (p := isB) (b := b) hp.2
    have eT : tLw b n S hf hl i (i + 3) = if isX 4 b n (sk isB b n (i + 3)) = true then (0, sSc S 2 0, hf, 1, sk isB b n (i + 3) + zl_ 4)
        else if isX 5 b n (sk isB b n (i + 3)) = true then (0, sSc S 2 1, hf, 1, sk isB b n (i + 3) + zl_ 5)
        else if isX 6 b n (sk isB b n (i + 3)) = true then (0, sSc S 2 2, hf, 1, sk isB b n (i + 3) + zl_ 6)
        else if isX 7 b n (sk isB b n (i + 3)) = true then (0, sSc S 2 3, hf, 1, sk isB b n (i + 3) + zl_ 7)
        else (8 * sk isB b n (i + 3) + 1, S, hf, 1, sk isB b n (i + 3)) := by
      unfold tLw
      rw [if_neg (fun q => q c)]
    rw [eT]
    generalize hq : sk isB b n (i + 3) = q at *
    have stp : ∀ (v : Int) (r : zT7) (M3 : zM), 0 ≤ v ∧ v ≤ 3 → spF M2 M3 → (0 ≤ M3 9 0 37 ∧ M3 9 0 37 ≤ n ∧ sk isB b n (M3 9 0 37) = q) → (isX (zlw v) b n q = true → r = (0, sSc S 2 v, hf, 1, q + zl_ (zlw v))) → (¬ isX (zlw v) b n q = true → ∀ M4, spF M2 M4 → M4 9 0 37 = q → LX9_readsLaw_34 l (fun x M' => rZ M M' x r) (v + 1) M4) → LX9_readsLaw_34 l (fun x M' => rZ M M' x r) v M3 := by
      intro v r M3 hv f3 h3 hy hno
      have zw := zlw_i v
      have x3 := (h.rd f2).f f3
      refine vX9_readsLaw_34 ⟨by omega, fun c => by omega, fun _ => (c_X9_lawWord hv).mono ?_⟩
      rintro x M4 ⟨rfl, rfl⟩
      refine (c_X9_isX zw.2 x3 ⟨h3.1, h3.2.1⟩).mono ?_
      rw [h3.2.2]
      rintro y M5 ⟨ey, f5, e5⟩
      refine ⟨by rw [ey]; exact zb_I, fun d => ?_, fun d => ?_⟩
      · rw [ey] at d
        have hx := zb_n0 d
        intro M6 q6
        have rs6 := (rs2.eq (M' := M5) (by rw [f5.1 48 0 (by decide), f3.1 48 0 (by decide)])).sc (j := 2) (by omega) q6
        refine (c_X9_lawWord hv).mono ?_
        rintro x M7 ⟨rfl, rfl⟩
        intro M8 q8
        rw [hy hx]
        refine ⟨(zb_1 rfl).symm, f2.tr (f3.rn.rd.tr (f5.rn.rd.tr ((rdF.ro q6).tr (rdF.fl q8 (by omega))))), fun q => absurd rfl q, fun _ => ⟨rs6.eq (by rw [q8, zu_k (by decide)]), ?_, ?_, ?_⟩⟩
        · rw [q8, zu_at, if_neg (by decide), q6, zu_k (by decide), f5.2 42 (by decide), f3.2 42 (by decide)]
          exact a42
        · rw [q8, zu_at, if_neg (by decide), q6, zu_k (by decide), f5.2 43 (by decide), f3.2 43 (by decide)]
          exact a43
        · rw [q8, zu_at, if_pos rfl, q6, zu_k (by decide), e5]
          rfl
      · rw [ey] at d
        exact hno (zb_0 d) M5 (f3.tr f5) e5
    refine stp 0 _ M2 (by omega) spF.rf ⟨by omega, by omega, by rw [a37]; exact hq⟩ (fun q => if_pos q) fun n4 M3 f3 e3 => ?_
    refine stp 1 _ M3 (by omega) f3 ⟨by omega, by omega, by rw [e3]; exact SS⟩ (fun q => (if_neg n4).trans (if_pos q)) fun n5 M4 f4 e4 => ?_
    refine stp 2 _ M4 (by omega) f4 ⟨by omega, by omega, by rw [e4]; exact SS⟩ (fun q => (if_neg n4).trans ((if_neg n5).trans (if_pos q))) fun n6 M5 f5 e5 => ?_
    refine stp 3 _ M5 (by omega) f5 ⟨by omega, by omega, by rw [e5]; exact SS⟩ (fun q => (if_neg n4).trans ((if_neg n5).trans ((if_neg n6).trans (if_pos q)))) fun n7 M6 f6 e6 => ?_
    have n4' : ¬ isX 4 b n q = true := n4
    have n5' : ¬ isX 5 b n q = true := n5
    have n6' : ¬ isX 6 b n q = true := n6
    have n7' : ¬ isX 7 b n q = true := n7
    rw [if_neg n4', if_neg n5', if_neg n6', if_neg n7']
    refine vX9_readsLaw_34 ⟨by omega, fun _ => ?_, fun c => by omega⟩
    rw [e6]
    exact c_X9_fl fun M3 q3 => rZ.bad q3 (f2.tr f6.rn.rd) (by omega) (by omega)
  · have eT : tLw b n S hf hl i (i + 3) = (8 * i + 3, S, hf, hl, i + 3) := by
      unfold tLw
      rw [if_pos c]
    rw [eT, e37]
    exact c_X9_fl fun M3 q3 => rZ.bad q3 rdF.rf (by omega) hi
theorem c_X9_readsPart {p : Int} (h : mtX M b n) (ts : rdT M S hf hl p) (g : gdT kk n p S hf hl) : CI l m_X9_readsPart [zr 9 0] M (fun x M' => rZ M M' x (tPt b n S hf hl p)) := by
  obtain ⟨rs, e42, e43, e37⟩ := ts
  have hp := g.2.2.2
  have h1 := h.1
  have B := sk_b (p := isB) (b := b) (n := n) _ p rfl hp.2
  have SS := sk_sk (p := isB) (b := b) hp.2
  have l0 : zl_ 0 = 5 := rfl
  have l1 : zl_ 1 = 6 := rfl
  have l2 : zl_ 2 = 3 := rfl
  have l3 : zl_ 3 = 3 := rfl
  have tS2 : ∀ M' : zM, spF M M' → M' 9 0 37 = sk isB b n p → rdT M' S hf hl (sk isB b n p) := fun M' f e => ⟨rs.eq (by rw [f.1 48 0 (by decide)]), (f.2 42 (by decide)).trans e42, (f.2 43 (by decide)).trans e43, e⟩
  have gg : ∀ s : Nat, s < 8 → isX s b n (sk isB b n p) = true → gdT kk n (sk isB b n p + zl_ s) S hf hl := fun s hs hx => ⟨g.1, g.2.1, g.2.2.1, by omega, isX_b hs (by omega) hx⟩
  refine vX9_readsPart ((c_X9_isX (s := 0) (by decide) h (by omega)).mono ?_)
  rw [e37]
  rintro y0 M1 ⟨ey0, f1, e1⟩
  have x1 := h.f f1
  refine ⟨by rw [ey0]; exact zb_I, fun c0 => ?_, fun c0 => ?_⟩
  · rw [ey0] at c0
    have m0 := zb_0 c0
    refine (c_X9_isX (s := 1) (by decide) x1 (by omega)).mono ?_
    rw [e1, SS]
    rintro y1 M2 ⟨ey1, f2, e2⟩
    have x2 := x1.f f2
    have F2 := f1.tr f2
    refine ⟨by rw [ey1]; exact zb_I, fun c1 => ?_, fun c1 => ?_⟩
    · rw [ey1] at c1
      have m1 := zb_0 c1
      refine (c_X9_isX (s := 2) (by decide) x2 (by omega)).mono ?_
      rw [e2, SS]
      rintro y2 M3 ⟨ey2, f3, e3⟩
      have x3 := x2.f f3
      have F3 := F2.tr f3
      refine ⟨by rw [ey2]; exact zb_I, fun c2 => ?_, fun c2 => ?_⟩
      · rw [ey2] at c2
        have m2 := zb_0 c2
        refine (c_X9_isX (s := 3) (by decide) x3 (by omega)).mono ?_
        rw [e3, SS]
        rintro y3 M4 ⟨ey3, f4, e4⟩
        have x4 := x3.f f4
        have F4 := F3.tr f4
        refine ⟨by rw [ey3]; exact zb_I, fun c3 => ?_, fun c3 => ?_⟩
        · rw [ey3] at c3
          have m3 := zb_0 c3
          unfold tPt
          rw [if_neg m0, if_neg m1, if_neg m2, if_neg m3, e4]
          exact c_X9_fl fun M3 q3 => rZ.bad q3 F4.rn.rd (by omega) (by omega)
        · rw [ey3] at c3
          have m3 := zb_n0 c3
          unfold tPt
          rw [if_neg m0, if_neg m1, if_neg m2, if_pos m3]
          refine (c_X9_readsLaw x4 (tS2 M4 F4 e4) (gg 3 (by decide) m3) (by omega)).mono ?_
          intro x M5 k5
          exact ⟨k5.x, k5.fr F4.rn.rd⟩
      · rw [ey2] at c2
        have m2 := zb_n0 c2
        unfold tPt
        rw [if_neg m0, if_neg m1, if_pos m2]
        refine (c_X9_readsFee x3 (tS2 M3 F3 e3) (gg 2 (by decide) m2) (by omega)).mono ?_
        intro x M5 k5
        exact ⟨k5.x, k5.fr F3.rn.rd⟩
    · rw [ey1] at c1
      have m1 := zb_n0 c1
      unfold tPt
      rw [if_neg m0, if_pos m1]
      refine (c_X9_readsTrader (s := 1) x2 (tS2 M2 F2 e2) (gg 1 (by decide) m1) (by omega) (.inr rfl)).mono ?_
      intro x M5 k5
      exact ⟨k5.x, k5.fr F2.rn.rd⟩
  · rw [ey0] at c0
    have m0 := zb_n0 c0
    unfold tPt
    rw [if_pos m0]
    refine (c_X9_readsTrader (s := 0) x1 (tS2 M1 f1 e1) (gg 0 (by decide) m0) (by omega) (.inl rfl)).mono ?_
    intro x M5 k5
    exact ⟨k5.x, k5.fr f1.rn.rd⟩
end
