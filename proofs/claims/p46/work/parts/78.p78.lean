/-! ===== tell: the class reads parts ===== -/
abbrev tZ (M0 M' : zM) (n : Int) (r : zT7) : Prop := tQ M0 M' n r.1 r.2.1 r.2.2.1 r.2.2.2.1 r.2.2.2.2
theorem pF.fg {M M' : zM} {j x : Int} (e : M' = zu M 7 0 j x) (hj : 3 ≤ j ∧ j ≤ 6) : pF M M' := ⟨fun k i h => by rw [e, zu_k (fun q => h (.inl q))], fun j' h => by rw [e, zu_at, if_neg (by omega)]⟩
theorem zlw_i (v : Int) : 4 ≤ zlw v ∧ zlw v < 8 := by
  unfold zlw
  split
  · decide
  · split
    · decide
    · split
      · decide
      · decide
section
variable {l : Launch} {M : zM} {b : Int → Int} {n kk : Int} {S : zS} {hf hl : Int}
theorem vX7_readFee {l : Launch} {P : zM → Prop} {v1 : Int} {M : zM}
    (H0 : (zI (M 7 0 5) ∧ ((M 7 0 5) = 0 → (∀ M7 : zM, M7 = zu M 7 0 5 1 → (CI l m_X7_readNumber [zr 7 0, zi 500] M7 (fun x12 M9 => (∀ M13 : zM, M13 = zu M9 1 1 7 x12 → P M13))))) ∧ ((M 7 0 5) ≠ 0 → (CV l m_X7_note [zr 7 0, zi v1, zi 3] M (fun M15 => P M15))))) :
    CV l m_X7_readFee [zr 7 0, zi v1] M P :=
(aw_aload_n d_X7_readFee_0 rfl rfl 0 rfl (by decide)
(aw_getI (kc := 5) d_X7_readFee_1 rfl fl7_35 rfl rfl
(have z1 := H0.1; have e2 := H0.2; aw_if_eq d_X7_readFee_4 rfl rfl z1 (fun c3 => have e5 := e2.1 c3; (aw_aload_n d_X7_readFee_14 rfl rfl 0 rfl (by decide)
(aw_iconst d_X7_readFee_15 rfl
(have e8 := e5 _ rfl; aw_put (kc := 5) d_X7_readFee_16 rfl fp7_35 rfl rfl rfl rfl
(aw_aload_n d_X7_readFee_19 rfl rfl 0 rfl (by decide)
(aw_getR (k' := 1) (a := 0) (b := 1) (j := 1) d_X7_readFee_20 rfl fl7_18 rfl zj0 ⟨by decide, fun _ => by decide⟩
(aw_aload_n d_X7_readFee_23 rfl rfl 0 rfl (by decide)
(aw_sipush d_X7_readFee_24 rfl (by decide)
(aw_VI (As := [zi 500]) (st := [zr 1 1]) d_X7_readFee_27 rfl cv7_83 ⟨Nat.le_of_ble_eq_true rfl, Nat.le_of_ble_eq_true rfl⟩ rfl rfl (Nat.le_of_ble_eq_true rfl) (Nat.le_of_ble_eq_true rfl) e8 (fun x12 M9 e10 => (have e14 := e10 _ rfl; aw_put (kc := 7) d_X7_readFee_30 rfl fp7_102 rfl rfl rfl rfl
(aw_rv d_X7_readFee_33 rfl e14)))))))))))) (fun c4 => have e6 := e2.2 c4; (aw_aload_n d_X7_readFee_7 rfl rfl 0 rfl (by decide)
(aw_iload_n d_X7_readFee_8 rfl rfl 1 rfl
(aw_iconst d_X7_readFee_9 rfl
(aw_VV (As := [zi v1, zi 3]) (st := []) d_X7_readFee_10 rfl cv7_52 ⟨Nat.le_of_ble_eq_true rfl, Nat.le_of_ble_eq_true rfl⟩ rfl rfl (Nat.le_of_ble_eq_true rfl) (Nat.le_of_ble_eq_true rfl) e6 (fun M15 e16 => (aw_rv d_X7_readFee_13 rfl e16))))))))))
def LX7_readLaw_34 (l : Launch) (P : zM → Prop) (v2 : Int) (v3 : Int) (M : zM) : Prop := AW l m_X7_readLaw (zTv m_X7_readLaw P) 34 [(0, zr 7 0), (2, zi v2), (3, zi v3)] [] M
theorem vX7_readLaw_34 {l : Launch} {P : zM → Prop} {v2 : Int} {v3 : Int} {M : zM}
    (H0 : (zI v3 ∧ (3 < v3 → (CV l m_X7_note [zr 7 0, zi v2, zi 1] M (fun M24 => P M24))) ∧ (v3 ≤ 3 → (zI v3 ∧ (CI l m_X7_isWord [zr 7 0, zi v2, zr 61 (zlw v3)] M (fun x32 M29 => (zI x32 ∧ (x32 = 0 → LX7_readLaw_34 l P v2 (v3 + 1) M29) ∧ (x32 ≠ 0 → (∀ M39 : zM, M39 = zu M29 1 1 8 v3 → P M39))))))))) :
    LX7_readLaw_34 l P v2 v3 M :=
(aw_iload_n d_X7_readLaw_34 rfl rfl 2 rfl
(aw_iconst d_X7_readLaw_35 rfl
(have z18 := H0.1; have e19 := H0.2; aw_icmp_gt d_X7_readLaw_36 rfl rfl z18 (by decide) (fun c20 => have e22 := e19.1 c20; (aw_aload_n d_X7_readLaw_66 rfl rfl 0 rfl (by decide)
(aw_iload_n d_X7_readLaw_67 rfl rfl 1 rfl
(aw_iconst d_X7_readLaw_68 rfl
(aw_VV (As := [zi v2, zi 1]) (st := []) d_X7_readLaw_69 rfl cv7_52 ⟨Nat.le_of_ble_eq_true rfl, Nat.le_of_ble_eq_true rfl⟩ rfl rfl (Nat.le_of_ble_eq_true rfl) (Nat.le_of_ble_eq_true rfl) e22 (fun M24 e25 => (aw_rv d_X7_readLaw_72 rfl e25))))))) (fun c21 => have e23 := e19.2 c21; (aw_aload_n d_X7_readLaw_39 rfl rfl 0 rfl (by decide)
(aw_iload_n d_X7_readLaw_40 rfl rfl 1 rfl
(aw_iload_n d_X7_readLaw_41 rfl rfl 2 rfl
(have z27 := e23.1; have e28 := e23.2; (aw_SR (As := [zi v3]) (st := [zi v2, zr 7 0]) d_X7_readLaw_42 rfl cs7_104 ⟨Nat.le_of_ble_eq_true rfl, Nat.le_of_ble_eq_true rfl⟩ rfl rfl (Nat.le_of_ble_eq_true rfl) (Nat.le_of_ble_eq_true rfl) (s_X8_lawWord z27) (fun _ _ hq => aw_eqr hq
(aw_VI (As := [zi v2, zr 61 (zlw v3)]) (st := []) d_X7_readLaw_45 rfl cv7_61 ⟨Nat.le_of_ble_eq_true rfl, Nat.le_of_ble_eq_true rfl⟩ rfl rfl (Nat.le_of_ble_eq_true rfl) (Nat.le_of_ble_eq_true rfl) e28 (fun x32 M29 e30 => (have z33 := e30.1; have e34 := e30.2; aw_if_eq d_X7_readLaw_48 rfl rfl z33 (fun c35 => have e37 := e34.1 c35; (aw_iinc (lv' := [(3, zi (v3 + 1)), (0, zr 7 0), (2, zi v2)]) (y := (v3 + 1)) d_X7_readLaw_60 rfl 2 rfl (by decide) rfl rfl
(aw_goto d_X7_readLaw_63 rfl
(aw_sub [1, 2, 0] rfl e37)))) (fun c36 => have e38 := e34.2 c36; (aw_aload_n d_X7_readLaw_51 rfl rfl 0 rfl (by decide)
(aw_getR (k' := 1) (a := 0) (b := 1) (j := 1) d_X7_readLaw_52 rfl fl7_18 rfl zj0 ⟨by decide, fun _ => by decide⟩
(aw_iload_n d_X7_readLaw_55 rfl rfl 2 rfl
(have e40 := e38 _ rfl; aw_put (kc := 8) d_X7_readLaw_56 rfl fp7_108 rfl rfl rfl rfl
(aw_rv d_X7_readLaw_59 rfl e40)))))))))))))))))))
theorem vX7_readLaw {l : Launch} {P : zM → Prop} {v1 : Int} {M : zM}
    (H0 : (zI (M 7 0 6) ∧ ((M 7 0 6) = 0 → (∀ M7 : zM, M7 = zu M 7 0 6 1 → (CV l m_X7_skipBlanks [zr 7 0] M7 (fun M9 => (CV l m_X7_skipWord [zr 7 0] M9 (fun M12 => LX7_readLaw_34 l P (M9 7 0 3) 0 M12)))))) ∧ ((M 7 0 6) ≠ 0 → (CV l m_X7_note [zr 7 0, zi v1, zi 3] M (fun M15 => P M15))))) :
    CV l m_X7_readLaw [zr 7 0, zi v1] M P :=
(aw_aload_n d_X7_readLaw_0 rfl rfl 0 rfl (by decide)
(aw_getI (kc := 6) d_X7_readLaw_1 rfl fl7_39 rfl rfl
(have z1 := H0.1; have e2 := H0.2; aw_if_eq d_X7_readLaw_4 rfl rfl z1 (fun c3 => have e5 := e2.1 c3; (aw_aload_n d_X7_readLaw_14 rfl rfl 0 rfl (by decide)
(aw_iconst d_X7_readLaw_15 rfl
(have e8 := e5 _ rfl; aw_put (kc := 6) d_X7_readLaw_16 rfl fp7_39 rfl rfl rfl rfl
(aw_aload_n d_X7_readLaw_19 rfl rfl 0 rfl (by decide)
(aw_VV (As := []) (st := []) d_X7_readLaw_20 rfl cv7_42 ⟨Nat.le_of_ble_eq_true rfl, Nat.le_of_ble_eq_true rfl⟩ rfl rfl (Nat.le_of_ble_eq_true rfl) (Nat.le_of_ble_eq_true rfl) e8 (fun M9 e10 => (aw_aload_n d_X7_readLaw_23 rfl rfl 0 rfl (by decide)
(aw_getI (kc := 3) d_X7_readLaw_24 rfl fl7_29 rfl rfl
(aw_istore_n (lv' := [(2, zi (M9 7 0 3)), (0, zr 7 0), (1, zi v1)]) d_X7_readLaw_27 rfl rfl (by decide) rfl
(aw_aload_n d_X7_readLaw_28 rfl rfl 1 rfl (by decide)
(aw_VV (As := []) (st := []) d_X7_readLaw_29 rfl cv7_56 ⟨Nat.le_of_ble_eq_true rfl, Nat.le_of_ble_eq_true rfl⟩ rfl rfl (Nat.le_of_ble_eq_true rfl) (Nat.le_of_ble_eq_true rfl) e10 (fun M12 e13 => (aw_iconst d_X7_readLaw_32 rfl
(aw_istore_n (lv' := [(3, zi 0), (2, zi (M9 7 0 3)), (0, zr 7 0), (1, zi v1)]) d_X7_readLaw_33 rfl rfl (by decide) rfl
(aw_sub [2, 1, 0] rfl e13)))))))))))))))) (fun c4 => have e6 := e2.2 c4; (aw_aload_n d_X7_readLaw_7 rfl rfl 0 rfl (by decide)
(aw_iload_n d_X7_readLaw_8 rfl rfl 1 rfl
(aw_iconst d_X7_readLaw_9 rfl
(aw_VV (As := [zi v1, zi 3]) (st := []) d_X7_readLaw_10 rfl cv7_52 ⟨Nat.le_of_ble_eq_true rfl, Nat.le_of_ble_eq_true rfl⟩ rfl rfl (Nat.le_of_ble_eq_true rfl) (Nat.le_of_ble_eq_true rfl) e6 (fun M15 e16 => (aw_rv d_X7_readLaw_13 rfl e16))))))))))
theorem vX7_readPart {l : Launch} {P : zM → Prop}  {M : zM}
    (H0 : (CV l m_X7_skipBlanks [zr 7 0] M (fun M1 => (CV l m_X7_skipWord [zr 7 0] M1 (fun M4 => (CI l m_X7_isWord [zr 7 0, zi (M1 7 0 3), zr 61 0] M4 (fun x10 M7 => (zI x10 ∧ (x10 = 0 → (CI l m_X7_isWord [zr 7 0, zi (M1 7 0 3), zr 61 1] M7 (fun x20 M17 => (zI x20 ∧ (x20 = 0 → (CI l m_X7_isWord [zr 7 0, zi (M1 7 0 3), zr 61 2] M17 (fun x30 M27 => (zI x30 ∧ (x30 = 0 → (CI l m_X7_isWord [zr 7 0, zi (M1 7 0 3), zr 61 3] M27 (fun x40 M37 => (zI x40 ∧ (x40 = 0 → (CV l m_X7_note [zr 7 0, zi (M1 7 0 3), zi 1] M37 (fun M47 => P M47))) ∧ (x40 ≠ 0 → (CV l m_X7_readLaw [zr 7 0, zi (M1 7 0 3)] M37 (fun M50 => P M50))))))) ∧ (x30 ≠ 0 → (CV l m_X7_readFee [zr 7 0, zi (M1 7 0 3)] M27 (fun M53 => P M53))))))) ∧ (x20 ≠ 0 → (CV l m_X7_readTrader [zr 7 0, zi (M1 7 0 3), zi 1] M17 (fun M56 => P M56))))))) ∧ (x10 ≠ 0 → (CV l m_X7_readTrader [zr 7 0, zi (M1 7 0 3), zi 0] M7 (fun M59 => P M59))))))))))) :
    CV l m_X7_readPart [zr 7 0] M P :=
(aw_aload_n d_X7_readPart_0 rfl rfl 0 rfl (by decide)
(aw_VV (As := []) (st := []) d_X7_readPart_1 rfl cv7_42 ⟨Nat.le_of_ble_eq_true rfl, Nat.le_of_ble_eq_true rfl⟩ rfl rfl (Nat.le_of_ble_eq_true rfl) (Nat.le_of_ble_eq_true rfl) H0 (fun M1 e2 => (aw_aload_n d_X7_readPart_4 rfl rfl 0 rfl (by decide)
(aw_getI (kc := 3) d_X7_readPart_5 rfl fl7_29 rfl rfl
(aw_istore_n (lv' := [(1, zi (M1 7 0 3)), (0, zr 7 0)]) d_X7_readPart_8 rfl rfl (by decide) rfl
(aw_aload_n d_X7_readPart_9 rfl rfl 1 rfl (by decide)
(aw_VV (As := []) (st := []) d_X7_readPart_10 rfl cv7_56 ⟨Nat.le_of_ble_eq_true rfl, Nat.le_of_ble_eq_true rfl⟩ rfl rfl (Nat.le_of_ble_eq_true rfl) (Nat.le_of_ble_eq_true rfl) e2 (fun M4 e5 => (aw_aload_n d_X7_readPart_13 rfl rfl 1 rfl (by decide)
(aw_iload_n d_X7_readPart_14 rfl rfl 0 rfl
(aw_ldcS (i := 0) (tx := "buyer") d_X7_readPart_15 rfl (by decide +kernel) (by decide)
(aw_VI (As := [zi (M1 7 0 3), zr 61 0]) (st := []) d_X7_readPart_17 rfl cv7_61 ⟨Nat.le_of_ble_eq_true rfl, Nat.le_of_ble_eq_true rfl⟩ rfl rfl (Nat.le_of_ble_eq_true rfl) (Nat.le_of_ble_eq_true rfl) e5 (fun x10 M7 e8 => (have z11 := e8.1; have e12 := e8.2; aw_if_eq d_X7_readPart_20 rfl rfl z11 (fun c13 => have e15 := e12.1 c13; (aw_aload_n d_X7_readPart_32 rfl rfl 1 rfl (by decide)
(aw_iload_n d_X7_readPart_33 rfl rfl 0 rfl
(aw_ldcS (i := 1) (tx := "seller") d_X7_readPart_34 rfl (by decide +kernel) (by decide)
(aw_VI (As := [zi (M1 7 0 3), zr 61 1]) (st := []) d_X7_readPart_36 rfl cv7_61 ⟨Nat.le_of_ble_eq_true rfl, Nat.le_of_ble_eq_true rfl⟩ rfl rfl (Nat.le_of_ble_eq_true rfl) (Nat.le_of_ble_eq_true rfl) e15 (fun x20 M17 e18 => (have z21 := e18.1; have e22 := e18.2; aw_if_eq d_X7_readPart_39 rfl rfl z21 (fun c23 => have e25 := e22.1 c23; (aw_aload_n d_X7_readPart_51 rfl rfl 1 rfl (by decide)
(aw_iload_n d_X7_readPart_52 rfl rfl 0 rfl
(aw_ldcS (i := 2) (tx := "fee") d_X7_readPart_53 rfl (by decide +kernel) (by decide)
(aw_VI (As := [zi (M1 7 0 3), zr 61 2]) (st := []) d_X7_readPart_55 rfl cv7_61 ⟨Nat.le_of_ble_eq_true rfl, Nat.le_of_ble_eq_true rfl⟩ rfl rfl (Nat.le_of_ble_eq_true rfl) (Nat.le_of_ble_eq_true rfl) e25 (fun x30 M27 e28 => (have z31 := e28.1; have e32 := e28.2; aw_if_eq d_X7_readPart_58 rfl rfl z31 (fun c33 => have e35 := e32.1 c33; (aw_aload_n d_X7_readPart_69 rfl rfl 1 rfl (by decide)
(aw_iload_n d_X7_readPart_70 rfl rfl 0 rfl
(aw_ldcS (i := 3) (tx := "law") d_X7_readPart_71 rfl (by decide +kernel) (by decide)
(aw_VI (As := [zi (M1 7 0 3), zr 61 3]) (st := []) d_X7_readPart_73 rfl cv7_61 ⟨Nat.le_of_ble_eq_true rfl, Nat.le_of_ble_eq_true rfl⟩ rfl rfl (Nat.le_of_ble_eq_true rfl) (Nat.le_of_ble_eq_true rfl) e35 (fun x40 M37 e38 => (have z41 := e38.1; have e42 := e38.2; aw_if_eq d_X7_readPart_76 rfl rfl z41 (fun c43 => have e45 := e42.1 c43; (aw_aload_n d_X7_readPart_87 rfl rfl 1 rfl (by decide)
(aw_iload_n d_X7_readPart_88 rfl rfl 0 rfl
(aw_iconst d_X7_readPart_89 rfl
(aw_VV (As := [zi (M1 7 0 3), zi 1]) (st := []) d_X7_readPart_90 rfl cv7_52 ⟨Nat.le_of_ble_eq_true rfl, Nat.le_of_ble_eq_true rfl⟩ rfl rfl (Nat.le_of_ble_eq_true rfl) (Nat.le_of_ble_eq_true rfl) e45 (fun M47 e48 => (aw_rv d_X7_readPart_93 rfl e48))))))) (fun c44 => have e46 := e42.2 c44; (aw_aload_n d_X7_readPart_79 rfl rfl 1 rfl (by decide)
(aw_iload_n d_X7_readPart_80 rfl rfl 0 rfl
(aw_VV (As := [zi (M1 7 0 3)]) (st := []) d_X7_readPart_81 rfl cv7_79 ⟨Nat.le_of_ble_eq_true rfl, Nat.le_of_ble_eq_true rfl⟩ rfl rfl (Nat.le_of_ble_eq_true rfl) (Nat.le_of_ble_eq_true rfl) e46 (fun M50 e51 => (aw_goto d_X7_readPart_84 rfl
(aw_rv d_X7_readPart_93 rfl e51)))))))))))))) (fun c34 => have e36 := e32.2 c34; (aw_aload_n d_X7_readPart_61 rfl rfl 1 rfl (by decide)
(aw_iload_n d_X7_readPart_62 rfl rfl 0 rfl
(aw_VV (As := [zi (M1 7 0 3)]) (st := []) d_X7_readPart_63 rfl cv7_73 ⟨Nat.le_of_ble_eq_true rfl, Nat.le_of_ble_eq_true rfl⟩ rfl rfl (Nat.le_of_ble_eq_true rfl) (Nat.le_of_ble_eq_true rfl) e36 (fun M53 e54 => (aw_goto d_X7_readPart_66 rfl
(aw_rv d_X7_readPart_93 rfl e54)))))))))))))) (fun c24 => have e26 := e22.2 c24; (aw_aload_n d_X7_readPart_42 rfl rfl 1 rfl (by decide)
(aw_iload_n d_X7_readPart_43 rfl rfl 0 rfl
(aw_iconst d_X7_readPart_44 rfl
(aw_VV (As := [zi (M1 7 0 3), zi 1]) (st := []) d_X7_readPart_45 rfl cv7_65 ⟨Nat.le_of_ble_eq_true rfl, Nat.le_of_ble_eq_true rfl⟩ rfl rfl (Nat.le_of_ble_eq_true rfl) (Nat.le_of_ble_eq_true rfl) e26 (fun M56 e57 => (aw_goto d_X7_readPart_48 rfl
(aw_rv d_X7_readPart_93 rfl e57))))))))))))))) (fun c14 => have e16 := e12.2 c14; (aw_aload_n d_X7_readPart_23 rfl rfl 1 rfl (by decide)
(aw_iload_n d_X7_readPart_24 rfl rfl 0 rfl
(aw_iconst d_X7_readPart_25 rfl
(aw_VV (As := [zi (M1 7 0 3), zi 0]) (st := []) d_X7_readPart_26 rfl cv7_65 ⟨Nat.le_of_ble_eq_true rfl, Nat.le_of_ble_eq_true rfl⟩ rfl rfl (Nat.le_of_ble_eq_true rfl) (Nat.le_of_ble_eq_true rfl) e16 (fun M59 e60 => (aw_goto d_X7_readPart_29 rfl
(aw_rv d_X7_readPart_93 rfl e60)))))))))))))))))))))))
theorem c_X7_isX {s : Nat} {i : Int} (hs : s < 8) (h : tX M b n) (hi : 0 ≤ i ∧ i ≤ n) (e3 : M 7 0 3 = sk isL b n i) : CI l m_X7_isWord [zr 7 0, zi i, zr 61 s] M (fun x M' => x = zb (isX s b n i = true) ∧ M' = M) := by
  have r := sk_b (p := isL) (b := b) (n := n) _ i rfl hi.2
  refine (c_X7_isWord (by omega) h (by rw [e3]; omega) hi).mono ?_
  rintro x M' ⟨ex, rfl⟩
  refine ⟨?_, rfl⟩
  rw [ex, e3]
  by_cases c : isX s b n i = true
  · rw [zb_1 c, zb_1 ((isX_iff hs hi).mpr c)]
  · rw [zb_f c, zb_f (fun q => c ((isX_iff hs hi).mp q))]
theorem c_nt {i k p e : Int} (h : tX M b n) (ts : tS M S e hf hl p) (hp : 0 ≤ p ∧ p ≤ n) (hi : 0 ≤ i) (hk : 1 ≤ k ∧ k ≤ 3) {S' : zS} {hf' hl' p' : Int} : CV l m_X7_note [zr 7 0, zi i, zi k] M (fun M' => tQ M M' n (8 * i + k) S' hf' hl' p') := by
  obtain ⟨k1, e4, e5, e6, e3⟩ := ts
  refine c_X7_note.mono ?_
  intro M5 q5
  have e54 : M5 7 0 4 = 8 * i + k := by rw [q5, zu_at, if_pos rfl]
  have e53 : M5 7 0 3 = p := by rw [q5, zu_at, if_neg (by decide)]; exact e3
  exact ⟨pF.nt q5, (nt_h q5 k1).1, by omega, e54, fun c => by omega⟩
theorem tQ.fr {M M1 M2 : zM} {n e : Int} {S : zS} {hf hl p : Int} (f : pF M M1) (h : tQ M1 M2 n e S hf hl p) : tQ M M2 n e S hf hl p := ⟨f.tr h.1, h.2⟩
theorem c_X7_readTrader {i p s : Int} (h : tX M b n) (ts : tS M S 0 hf hl p) (g : gdT kk n p S hf hl) (hi : 0 ≤ i ∧ i ≤ n) (hs : s = 0 ∨ s = 1) : CV l m_X7_readTrader [zr 7 0, zi i, zi s] M (fun M' => tZ M M' n (tTr b n S hf hl i p s)) := by
  have ts' := ts
  obtain ⟨⟨w1, e1⟩, e4, e5, e6, e3⟩ := ts'
  obtain ⟨⟨w, z⟩, g2, g3, hp⟩ := g
  have h1 := h.1
  have hn := w.1
  have n1 : M 1 1 6 = qn S := by rw [← e1]; exact (hS_n M 1).symm
  refine vX7_readTrader ?_
  rw [n1]
  refine ⟨by omega, fun c => (c_X7_readNumber h (by omega) (by omega)).mono ?_, fun c => ?_⟩
  · rw [e3, e4]
    rintro x M1 ⟨ex, f1, e13, e14⟩
    have eN : M1 7 0 4 = nmF b n p 3 := e14
    have B := nm_b (b := b) hp.2
    have V := nmV_nn (b := b) (n := n) (p := p)
    have k1 := f1.h1 ⟨w1, e1⟩
    have a5 : M1 7 0 5 = hf := (f1.2 5 (by decide) (by decide)).trans e5
    have a6 : M1 7 0 6 = hl := (f1.2 6 (by decide) (by decide)).trans e6
    by_cases c0 : nmF b n p 3 = 0
    · refine ⟨by omega, fun _ => ?_, fun c => by omega⟩
      have m := nmF_0 c0 hp
      have ex' : x = nmV b n p := by omega
      subst ex'
      have n11 : M1 1 1 6 = qn S := by rw [← k1.2]; exact (hS_n M1 1).symm
      refine (c_X1_enter k1.1 (by omega) hs).mono ?_
      rintro y M2 ⟨ey, f2, w2, e2⟩
      rw [k1.2] at e2
      have ey' : y = qn S := ey.trans n11
      subst ey'
      have hx2 := (h.n f1).p f2.p
      have q7 : M2 7 0 = M1 7 0 := f2 7 0 (fun q => by have := q.1; omega)
      refine (c_X7_skipBlanks hx2 (by rw [q7]; omega)).mono ?_
      rintro M3 ⟨f3, e33⟩
      rw [q7, e13] at e33
      have B3 := sk_b (p := isB) (b := b) (n := n) _ (nmQ b n p) rfl B.2.2
      have eT : tTr b n S hf hl i p s = ((tU b n (qn S) 5 0 (sCome S s (nmV b n p)) (sk isB b n (nmQ b n p))).1, (tU b n (qn S) 5 0 (sCome S s (nmV b n p)) (sk isB b n (nmQ b n p))).2.1, hf, hl, (tU b n (qn S) 5 0 (sCome S s (nmV b n p)) (sk isB b n (nmQ b n p))).2.2) := by
        unfold tTr
        rw [if_neg (by omega), if_neg (fun q => q c0)]
      rw [eT]
      have eq1 : qn (sCome S s (nmV b n p)) = qn S + 1 := rfl
      refine c_X7_units (kk := kk) 5 0 M3 (sCome S s (nmV b n p)) (sk isB b n (nmQ b n p)) hf hl (by omega) (by omega) (hx2.f f3) (f1.p.tr (f2.p.tr f3.n.p)) ⟨f3.n.h1 ⟨w2, e2⟩, ?_, ?_, ?_, e33⟩ (by omega) (sk_sk B.2.2) (wf_come w z (by omega) hs (by omega)) (by omega) (z.2.1 (qn S) (by omega)).2.2.1
      · rw [f3.2 4 (by decide), q7, eN]
        exact c0
      · rw [f3.2 5 (by decide), q7]
        exact a5
      · rw [f3.2 6 (by decide), q7]
        exact a6
    · have eb : 0 ≤ nmF b n p 3 ∧ nmF b n p 3 ≤ 8 * n + 2 := by
        unfold nmF
        split
        · omega
        · split
          · omega
          · omega
      refine ⟨by omega, fun c => by omega, fun _ => ?_⟩
      have eT : tTr b n S hf hl i p s = (nmF b n p 3, S, hf, hl, nmQ b n p) := by
        unfold tTr
        rw [if_neg (by omega), if_pos c0]
      rw [eT]
      exact ⟨f1.p, k1.1, by omega, eN, fun c => absurd c c0⟩
  · have eT : tTr b n S hf hl i p s = (8 * i + 3, S, hf, hl, p) := by
      unfold tTr
      rw [if_pos c]
    rw [eT]
    exact c_nt h ts hp hi.1 (by omega)
theorem c_X7_readFee {i p : Int} (h : tX M b n) (ts : tS M S 0 hf hl p) (g : gdT kk n p S hf hl) (hi : 0 ≤ i ∧ i ≤ n) : CV l m_X7_readFee [zr 7 0, zi i] M (fun M' => tZ M M' n (tPf b n S hf hl i p)) := by
  have ts' := ts
  obtain ⟨⟨w1, e1⟩, e4, e5, e6, e3⟩ := ts'
  obtain ⟨⟨w, z⟩, g2, g3, hp⟩ := g
  have h1 := h.1
  refine vX7_readFee ?_
  rw [e5]
  refine ⟨by omega, fun c => ?_, fun c => ?_⟩
  · intro M1 q1
    have p1 := pF.fg q1 (by omega)
    have b3 : M1 7 0 3 = p := by rw [q1, zu_at, if_neg (by decide)]; exact e3
    have b4 : M1 7 0 4 = 0 := by rw [q1, zu_at, if_neg (by decide)]; exact e4
    have b5 : M1 7 0 5 = 1 := by rw [q1, zu_at, if_pos rfl]
    have b6 : M1 7 0 6 = hl := by rw [q1, zu_at, if_neg (by decide)]; exact e6
    refine (c_X7_readNumber (h.p p1) (by omega) (by omega)).mono ?_
    rw [b3, b4]
    rintro x M2 ⟨ex, f2, e23, e24⟩
    have eN : M2 7 0 4 = nmF b n p 500 := e24
    have B := nm_b (b := b) hp.2
    have V := nmV_nn (b := b) (n := n) (p := p)
    have k2 := f2.h1 (nt_h q1 ⟨w1, e1⟩)
    intro M3 q3
    have F := fld_h (j := 1) (by omega) k2.1 q3
    have q7 : M3 7 0 = M2 7 0 := F.1 7 0 (fun q => by have := q.1; omega)
    have eT : tPf b n S hf hl i p = (nmF b n p 500, if nmF b n p 500 = 0 then sSc S 1 (nmV b n p) else S, 1, hl, nmQ b n p) := by
      unfold tPf
      rw [if_neg (fun q => q c)]
    rw [eT]
    refine ⟨p1.tr (f2.p.tr F.1.p), F.2.1, by rw [q7, e23]; omega, by rw [q7]; exact eN, fun c0 => ⟨?_, ?_, ?_, ?_⟩⟩
    · have m := nmF_0 c0 hp
      show hS M3 1 = if nmF b n p 500 = 0 then sSc S 1 (nmV b n p) else S
      rw [if_pos c0, F.2.2, k2.2, show x = nmV b n p by omega]
    · rw [q7]
      exact (f2.2 5 (by decide) (by decide)).trans b5
    · rw [q7]
      exact (f2.2 6 (by decide) (by decide)).trans b6
    · rw [q7]
      exact e23
  · have eT : tPf b n S hf hl i p = (8 * i + 3, S, hf, hl, p) := by
      unfold tPf
      rw [if_pos c]
    rw [eT]
    exact c_nt h ts hp hi.1 (by omega)
theorem c_X7_readLaw {i p : Int} (h : tX M b n) (ts : tS M S 0 hf hl p) (g : gdT kk n p S hf hl) (hi : 0 ≤ i ∧ i ≤ n) : CV l m_X7_readLaw [zr 7 0, zi i] M (fun M' => tZ M M' n (tLw b n S hf hl i p)) := by
  have ts' := ts
  obtain ⟨⟨w1, e1⟩, e4, e5, e6, e3⟩ := ts'
  obtain ⟨⟨w, z⟩, g2, g3, hp⟩ := g
  have h1 := h.1
  refine vX7_readLaw ?_
  rw [e6]
  refine ⟨by omega, fun c => ?_, fun c => ?_⟩
  · intro M1 q1
    have p1 := pF.fg q1 (by omega)
    have b3 : M1 7 0 3 = p := by rw [q1, zu_at, if_neg (by decide)]; exact e3
    have b4 : M1 7 0 4 = 0 := by rw [q1, zu_at, if_neg (by decide)]; exact e4
    have b5 : M1 7 0 5 = hf := by rw [q1, zu_at, if_neg (by decide)]; exact e5
    have b6 : M1 7 0 6 = 1 := by rw [q1, zu_at, if_pos rfl]
    have k1 := nt_h q1 ⟨w1, e1⟩
    have x1 := h.p p1
    have B := sk_b (p := isB) (b := b) (n := n) _ p rfl hp.2
    refine (c_X7_skipBlanks x1 (by omega)).mono ?_
    rintro M2 ⟨f2, e23⟩
    rw [b3] at e23
    have x2 := x1.f f2
    refine (c_X7_skipWord x2 (by omega)).mono ?_
    rintro M3 ⟨f3, e33⟩
    rw [e23] at e33 ⊢
    have x3 := x2.f f3
    have k3 := f3.n.h1 (f2.n.h1 k1)
    have p3 : pF M M3 := p1.tr (f2.n.p.tr f3.n.p)
    have a4 : M3 7 0 4 = 0 := (f3.2 4 (by decide)).trans ((f2.2 4 (by decide)).trans b4)
    have a5 : M3 7 0 5 = hf := (f3.2 5 (by decide)).trans ((f2.2 5 (by decide)).trans b5)
    have a6 : M3 7 0 6 = 1 := (f3.2 6 (by decide)).trans ((f2.2 6 (by decide)).trans b6)
    have ts3 : tS M3 S 0 hf 1 (sk isL b n (sk isB b n p)) := ⟨k3, a4, a5, a6, e33⟩
    have BL := sk_b (p := isL) (b := b) (n := n) _ (sk isB b n p) rfl B.2.1
    have yes : ∀ v : Int, 0 ≤ v ∧ v ≤ 3 → isX (zlw v) b n (sk isB b n p) = true → ∀ M', M' = zu M3 1 1 8 v → tQ M M' n 0 (sSc S 2 v) hf 1 (sk isB b n p + zl_ (zlw v)) := by
      intro v hv hx M' q
      have zw := zlw_i v
      have F := fld_h (j := 2) (by omega) k3.1 q
      have q7 : M' 7 0 = M3 7 0 := F.1 7 0 (fun q => by have := q.1; omega)
      have e := ((isX_iff (by omega) (by omega)).mpr hx).1
      refine ⟨p3.tr F.1.p, F.2.1, by rw [q7]; omega, by rw [q7]; exact a4, fun _ => ⟨by rw [F.2.2, k3.2], by rw [q7]; exact a5, by rw [q7]; exact a6, by rw [q7, e33]; omega⟩⟩
    have stp : ∀ (v : Int) (r : zT7), 0 ≤ v ∧ v ≤ 3 → (isX (zlw v) b n (sk isB b n p) = true → r = (0, sSc S 2 v, hf, 1, sk isB b n p + zl_ (zlw v))) → (¬ isX (zlw v) b n (sk isB b n p) = true → LX7_readLaw_34 l (fun M' => tZ M M' n r) (sk isB b n p) (v + 1) M3) → LX7_readLaw_34 l (fun M' => tZ M M' n r) (sk isB b n p) v M3 := by
      intro v r hv hy hno
      have zw := zlw_i v
      refine vX7_readLaw_34 ⟨by omega, fun c => by omega, fun _ => ⟨by omega, (c_X7_isX zw.2 x3 (by omega) e33).mono ?_⟩⟩
      rintro x M4 ⟨ex, rfl⟩
      refine ⟨by rw [ex]; exact zb_I, fun c => ?_, fun c => ?_⟩
      · rw [ex] at c
        exact hno (zb_0 c)
      · rw [ex] at c
        have hx := zb_n0 c
        intro M5 q5
        rw [hy hx]
        exact yes v hv hx M5 q5
    have eT : tLw b n S hf hl i p = if isX 4 b n (sk isB b n p) = true then (0, sSc S 2 0, hf, 1, sk isB b n p + zl_ 4)
        else if isX 5 b n (sk isB b n p) = true then (0, sSc S 2 1, hf, 1, sk isB b n p + zl_ 5)
        else if isX 6 b n (sk isB b n p) = true then (0, sSc S 2 2, hf, 1, sk isB b n p + zl_ 6)
        else if isX 7 b n (sk isB b n p) = true then (0, sSc S 2 3, hf, 1, sk isB b n p + zl_ 7)
        else (8 * sk isB b n p + 1, S, hf, 1, sk isB b n p) := by
      unfold tLw
      rw [if_neg (fun q => q c)]
    rw [eT]
    refine stp 0 _ (by omega) (fun q => if_pos q) fun n4 => ?_
    refine stp 1 _ (by omega) (fun q => (if_neg n4).trans (if_pos q)) fun n5 => ?_
    refine stp 2 _ (by omega) (fun q => (if_neg n4).trans ((if_neg n5).trans (if_pos q))) fun n6 => ?_
    refine stp 3 _ (by omega) (fun q => (if_neg n4).trans ((if_neg n5).trans ((if_neg n6).trans (if_pos q)))) fun n7 => ?_
    have n4' : ¬ isX 4 b n (sk isB b n p) = true := n4
    have n5' : ¬ isX 5 b n (sk isB b n p) = true := n5
    have n6' : ¬ isX 6 b n (sk isB b n p) = true := n6
    have n7' : ¬ isX 7 b n (sk isB b n p) = true := n7
    rw [if_neg n4', if_neg n5', if_neg n6', if_neg n7']
    refine vX7_readLaw_34 ⟨by omega, fun _ => ?_, fun c => by omega⟩
    refine (c_nt (S' := S) (hf' := hf) (hl' := 1) (p' := sk isB b n p) x3 ts3 (by omega) (by omega) (by omega)).mono ?_
    intro M4 k4
    exact k4.fr p3
  · have eT : tLw b n S hf hl i p = (8 * i + 3, S, hf, hl, p) := by
      unfold tLw
      rw [if_pos c]
    rw [eT]
    exact c_nt h ts hp hi.1 (by omega)
theorem c_X7_readPart {p : Int} (h : tX M b n) (ts : tS M S 0 hf hl p) (g : gdT kk n p S hf hl) : CV l m_X7_readPart [zr 7 0] M (fun M' => tZ M M' n (tPt b n S hf hl p)) := by
  have ts' := ts
  obtain ⟨k0, e4, e5, e6, e3⟩ := ts'
  have hp := g.2.2.2
  have h1 := h.1
  have B := sk_b (p := isB) (b := b) (n := n) _ p rfl hp.2
  have BL := sk_b (p := isL) (b := b) (n := n) _ (sk isB b n p) rfl B.2.1
  refine vX7_readPart ((c_X7_skipBlanks h (by omega)).mono ?_)
  rintro M1 ⟨f1, e13⟩
  rw [e3] at e13
  rw [e13]
  have x1 := h.f f1
  refine (c_X7_skipWord x1 (by omega)).mono ?_
  rintro M2 ⟨f2, e23⟩
  rw [e13] at e23
  have x2 := x1.f f2
  have p2 : pF M M2 := f1.n.p.tr f2.n.p
  have k2 := f2.n.h1 (f1.n.h1 k0)
  have a4 : M2 7 0 4 = 0 := (f2.2 4 (by decide)).trans ((f1.2 4 (by decide)).trans e4)
  have a5 : M2 7 0 5 = hf := (f2.2 5 (by decide)).trans ((f1.2 5 (by decide)).trans e5)
  have a6 : M2 7 0 6 = hl := (f2.2 6 (by decide)).trans ((f1.2 6 (by decide)).trans e6)
  have ts2 : ∀ s : Nat, s < 8 → isX s b n (sk isB b n p) = true → tS M2 S 0 hf hl (sk isB b n p + zl_ s) ∧ gdT kk n (sk isB b n p + zl_ s) S hf hl := by
    intro s hs hx
    have e := ((isX_iff hs (by omega)).mpr hx).1
    exact ⟨⟨k2, a4, a5, a6, by rw [e23]; omega⟩, g.1, g.2.1, g.2.2.1, by omega⟩
  refine (c_X7_isX (s := 0) (by decide) x2 (by omega) e23).mono ?_
  rintro y0 M3 ⟨ey0, rfl⟩
  refine ⟨by rw [ey0]; exact zb_I, fun c0 => ?_, fun c0 => ?_⟩
  · rw [ey0] at c0
    have m0 := zb_0 c0
    refine (c_X7_isX (s := 1) (by decide) x2 (by omega) e23).mono ?_
    rintro y1 M4 ⟨ey1, rfl⟩
    refine ⟨by rw [ey1]; exact zb_I, fun c1 => ?_, fun c1 => ?_⟩
    · rw [ey1] at c1
      have m1 := zb_0 c1
      refine (c_X7_isX (s := 2) (by decide) x2 (by omega) e23).mono ?_
      rintro y2 M5 ⟨ey2, rfl⟩
      refine ⟨by rw [ey2]; exact zb_I, fun c2 => ?_, fun c2 => ?_⟩
      · rw [ey2] at c2
        have m2 := zb_0 c2
        refine (c_X7_isX (s := 3) (by decide) x2 (by omega) e23).mono ?_
        rintro y3 M6 ⟨ey3, rfl⟩
        refine ⟨by rw [ey3]; exact zb_I, fun c3 => ?_, fun c3 => ?_⟩
        · rw [ey3] at c3
          have m3 := zb_0 c3
          unfold tPt
          rw [if_neg m0, if_neg m1, if_neg m2, if_neg m3]
          refine (c_nt (S' := S) (hf' := hf) (hl' := hl) (p' := sk isB b n p) x2 ⟨k2, a4, a5, a6, e23⟩ (by omega) (by omega) (by omega)).mono ?_
          intro M7 k7
          exact k7.fr p2
        · rw [ey3] at c3
          have m3 := zb_n0 c3
          unfold tPt
          rw [if_neg m0, if_neg m1, if_neg m2, if_pos m3]
          have q := ts2 3 (by decide) m3
          refine (c_X7_readLaw x2 q.1 q.2 (by omega)).mono ?_
          intro M7 k7
          exact k7.fr p2
      · rw [ey2] at c2
        have m2 := zb_n0 c2
        unfold tPt
        rw [if_neg m0, if_neg m1, if_pos m2]
        have q := ts2 2 (by decide) m2
        refine (c_X7_readFee x2 q.1 q.2 (by omega)).mono ?_
        intro M7 k7
        exact k7.fr p2
    · rw [ey1] at c1
      have m1 := zb_n0 c1
      unfold tPt
      rw [if_neg m0, if_pos m1]
      have q := ts2 1 (by decide) m1
      refine (c_X7_readTrader x2 q.1 q.2 (by omega) (.inr rfl)).mono ?_
      intro M7 k7
      exact k7.fr p2
  · rw [ey0] at c0
    have m0 := zb_n0 c0
    unfold tPt
    rw [if_pos m0]
    have q := ts2 0 (by decide) m0
    refine (c_X7_readTrader x2 q.1 q.2 (by omega) (.inl rfl)).mono ?_
    intro M7 k7
    exact k7.fr p2
end

