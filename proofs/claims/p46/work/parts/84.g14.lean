/-! ===== a StringBuilder made, its text ===== -/
/-- the made text s is L -/
def stT (M : zM) (s : Nat) (L : List Int) : Prop := stW M s ∧ stN M s = (L.length : Int) ∧ ∀ j : Int, 0 ≤ j ∧ j < (L.length : Int) → stB M s j = L.getD j.toNat 0
theorem getD_mem {L : List Int} {j : Nat} (h : j < L.length) : L.getD j 0 ∈ L := by
  rw [List.getD_eq_getElem?_getD, List.getElem?_eq_getElem h]
  exact List.getElem_mem h
section
variable {l : Launch} {M : zM}
theorem vJ5_getValue_6d5f1 {l : Launch} {P : Nat → zM → Prop} {h : Nat} {M : zM}
    (H0 : ((0 ≤ M 67 h 0 ∧ M 67 h 0 < M 97 0 80) ∧ ∀ r2 : Nat, (r2 : Int) = M 67 h 0 → P r2 M)) :
    CR l m_J5_getValue_6d5f1 80 [zr 67 h] M P :=
(aw_aload_n d_J5_getValue_6d5f1_0 rfl rfl 0 rfl (by decide)
(have z1 := H0.1; aw_getE (kc := 0) d_J5_getValue_6d5f1_1 rfl flJ5_15 rfl rfl (by decide) z1
(fun r2 hqr2 => (have e3 := H0.2 r2 hqr2; (aw_rrg d_J5_getValue_6d5f1_4 rfl (Or.inr ⟨_, rfl⟩) (by decide) e3)))))
theorem vJ7_copyOfRangeByte_39247 {l : Launch} {P : Nat → zM → Prop} {s0 : Nat} {v1 : Int} {v2 : Int} {M : zM}
    (H0 : ((zI v1 ∧ zI v2 ∧ v1 ≤ v2) ∧ ((0 ≤ (v2 - v1) ∧ (v2 - v1) ≤ 1000000) ∧ ((0 + 1) ≤ 1 ∧ (0 + (v2 - v1).toNat) ≤ 400) ∧ ∀ n3 : Nat, (n3 : Int) = M 97 0 80 → ∀ M7 : zM, M7 = zmk M 80 n3 (v2 - v1) → (0 ≤ M7 80 s0 (-1) ∧ (zI ((M7 80 s0 (-1)) - v1) ∧ zI (v2 - v1) ∧ (((0 : Int) ≤ (min ((M7 80 s0 (-1)) - v1) (v2 - v1)) ∧ (0 : Int) ≤ v1 ∧ (0 : Int) ≤ 0 ∧ (v1 : Int) + (min ((M7 80 s0 (-1)) - v1) (v2 - v1)) ≤ (zln M7 80 s0 : Nat) ∧ (0 : Int) + (min ((M7 80 s0 (-1)) - v1) (v2 - v1)) ≤ (zln M7 80 n3 : Nat)) ∧ zln M7 80 s0 ≤ 1000000 ∧ zln M7 80 n3 ≤ 1000000 ∧ (∀ j : Int, v1 ≤ j → j < v1 + (min ((M7 80 s0 (-1)) - v1) (v2 - v1)) → zft 2 (M7 80 s0 j)) ∧ ∀ M18 : zM, M18 = zcq M7 80 s0 v1 80 n3 0 (min ((M7 80 s0 (-1)) - v1) (v2 - v1)) → P n3 M18)))))) :
    CRn l m_J7_copyOfRangeByte_39247 80 1 400 [zr 80 s0, zi v1, zi v2] M P :=
(aw_iload_n d_J7_copyOfRangeByte_39247_0 rfl rfl 1 rfl
(aw_iload_n d_J7_copyOfRangeByte_39247_1 rfl rfl 2 rfl
(have z1 := H0.1; aw_SV (As := [zi v1, zi v2]) (st := []) d_J7_copyOfRangeByte_39247_2 rfl csJ7_343 ⟨Nat.le_of_ble_eq_true rfl, Nat.le_of_ble_eq_true rfl⟩ rfl rfl (Nat.le_of_ble_eq_true rfl) (Nat.le_of_ble_eq_true rfl) (s_J7_checkLength_df160 z1) (fun _ hq => aw_eqM hq
(have e2 := H0.2; (aw_iload_n d_J7_copyOfRangeByte_39247_5 rfl rfl 2 rfl
(aw_iload_n d_J7_copyOfRangeByte_39247_6 rfl rfl 1 rfl
(aw_isub d_J7_copyOfRangeByte_39247_7 rfl
(aw_istore_n (lv' := [(3, zi (v2 - v1)), (0, zr 80 s0), (1, zi v1), (2, zi v2)]) d_J7_copyOfRangeByte_39247_8 rfl rfl (by decide) rfl
(aw_iload_n d_J7_copyOfRangeByte_39247_9 rfl rfl 0 rfl
(have z4 := e2.1; have z5 := e2.2.1; aw_newa (k := 80) d_J7_copyOfRangeByte_39247_10 rfl zd80 (Or.inr (Or.inr ⟨rfl, rfl⟩)) ac_byte z4 (Or.inl rfl) z5
(fun n3 hqn3 => (aw_nm fun M7 hqM7 => have e6 := e2.2.2 n3 hqn3 M7 hqM7; (aw_astore (lv' := [(4, zr 80 n3), (3, zi (v2 - v1)), (0, zr 80 s0), (1, zi v1), (2, zi v2)]) (by decide) d_J7_copyOfRangeByte_39247_12 rfl (by decide) rfl
(aw_aload_n d_J7_copyOfRangeByte_39247_14 rfl rfl 2 rfl (by decide)
(aw_iload_n d_J7_copyOfRangeByte_39247_15 rfl rfl 3 rfl
(aw_aload d_J7_copyOfRangeByte_39247_16 rfl 0 rfl (by decide)
(aw_iconst d_J7_copyOfRangeByte_39247_18 rfl
(aw_aload_n d_J7_copyOfRangeByte_39247_19 rfl rfl 2 rfl (by decide)
(have z8 := e6.1; aw_alenD d_J7_copyOfRangeByte_39247_20 rfl (by decide) z8
(have e9 := e6.2; (aw_iload_n d_J7_copyOfRangeByte_39247_21 rfl rfl 3 rfl
(aw_isub d_J7_copyOfRangeByte_39247_22 rfl
(aw_iload_n d_J7_copyOfRangeByte_39247_23 rfl rfl 1 rfl
(have z10 := e9.1; have z11 := e9.2.1; aw_min d_J7_copyOfRangeByte_39247_24 rfl cmJ7_304 ⟨Nat.le_of_ble_eq_true rfl, Nat.le_of_ble_eq_true rfl⟩ z10 z11
(have e12 := e9.2.2; (have z13 := e12.1; have z14 := e12.2.1; have z15 := e12.2.2.1; have z16 := e12.2.2.2.1; aw_copyG d_J7_copyOfRangeByte_39247_27 rfl cmJ7_150 ⟨Nat.le_of_ble_eq_true rfl, Nat.le_of_ble_eq_true rfl⟩ (by decide : 2 < 3) zd80.G zd80.G z13 z14 z15 z16
(aw_nm fun M18 hqM18 => have e17 := e12.2.2.2.2 M18 hqM18; (aw_aload d_J7_copyOfRangeByte_39247_30 rfl 0 rfl (by decide)
(aw_rrn d_J7_copyOfRangeByte_39247_32 rfl (Or.inr ⟨_, rfl⟩) (by decide) e17))))))))))))))))))))))))))))))
theorem vJ7_copyOfRange_39247 {l : Launch} {P : Nat → zM → Prop} {s0 : Nat} {v1 : Int} {v2 : Int} {M : zM}
    (H0 : (zI v1 ∧ ((v1 ≠ 0 → (CRn l m_J7_copyOfRangeByte_39247 80 1 400 [zr 80 s0, zi v1, zi v2] M (fun (x9 : Nat) M7 => P x9 M7))) ∧ (v1 = 0 → (0 ≤ M 80 s0 (-1) ∧ (zI v2 ∧ zI (M 80 s0 (-1)) ∧ ((v2 = (M 80 s0 (-1)) → False) ∧ (v2 ≠ (M 80 s0 (-1)) → (CRn l m_J7_copyOfRangeByte_39247 80 1 400 [zr 80 s0, zi v1, zi v2] M (fun (x21 : Nat) M19 => P x21 M19)))))))))) :
    CRn l m_J7_copyOfRange_39247 80 1 400 [zr 80 s0, zi v1, zi v2] M P :=
(aw_iload_n d_J7_copyOfRange_39247_0 rfl rfl 1 rfl
(have z1 := H0.1; have e2 := H0.2; aw_if_ne d_J7_copyOfRange_39247_1 rfl rfl z1 (fun c3 => have e5 := e2.1 c3; (aw_aload_n d_J7_copyOfRange_39247_10 rfl rfl 0 rfl (by decide)
(aw_iload_n d_J7_copyOfRange_39247_11 rfl rfl 1 rfl
(aw_iload_n d_J7_copyOfRange_39247_12 rfl rfl 2 rfl
(aw_SRn (As := [zr 80 s0, zi v1, zi v2]) (st := []) d_J7_copyOfRange_39247_13 rfl csJ7_339 ⟨Nat.le_of_ble_eq_true rfl, Nat.le_of_ble_eq_true rfl⟩ ⟨Nat.le_of_ble_eq_true rfl, Nat.le_of_ble_eq_true rfl⟩ rfl rfl (Nat.le_of_ble_eq_true rfl) (Nat.le_of_ble_eq_true rfl) e5 (fun x9 M7 e8 => (aw_rrn d_J7_copyOfRange_39247_16 rfl (Or.inr ⟨_, rfl⟩) (by decide) e8))))))) (fun c4 => have e6 := e2.2 c4; (aw_iload_n d_J7_copyOfRange_39247_4 rfl rfl 2 rfl
(aw_aload_n d_J7_copyOfRange_39247_5 rfl rfl 0 rfl (by decide)
(have z10 := e6.1; aw_alenD d_J7_copyOfRange_39247_6 rfl (by decide) z10
(have e11 := e6.2; (have z12 := e11.1; have z13 := e11.2.1; have e14 := e11.2.2; aw_icmp_eq d_J7_copyOfRange_39247_7 rfl rfl z12 z13 (fun c15 => have e17 := e14.1 c15; (aw_aload_n d_J7_copyOfRange_39247_17 rfl rfl 0 rfl (by decide)
(e17).elim)) (fun c16 => have e18 := e14.2 c16; (aw_aload_n d_J7_copyOfRange_39247_10 rfl rfl 0 rfl (by decide)
(aw_iload_n d_J7_copyOfRange_39247_11 rfl rfl 1 rfl
(aw_iload_n d_J7_copyOfRange_39247_12 rfl rfl 2 rfl
(aw_SRn (As := [zr 80 s0, zi v1, zi v2]) (st := []) d_J7_copyOfRange_39247_13 rfl csJ7_339 ⟨Nat.le_of_ble_eq_true rfl, Nat.le_of_ble_eq_true rfl⟩ ⟨Nat.le_of_ble_eq_true rfl, Nat.le_of_ble_eq_true rfl⟩ rfl rfl (Nat.le_of_ble_eq_true rfl) (Nat.le_of_ble_eq_true rfl) e18 (fun x21 M19 e20 => (aw_rrn d_J7_copyOfRange_39247_16 rfl (Or.inr ⟨_, rfl⟩) (by decide) e20)))))))))))))))
theorem c_getValue {b v : Nat} (h : M 67 b 0 = (v : Int)) (h2 : (v : Int) < M 97 0 80) : CR l m_J5_getValue_6d5f1 80 [zr 67 b] M (fun x M' => x = v ∧ M' = M) :=
  vJ5_getValue_6d5f1 ⟨by rw [h]; exact ⟨by omega, h2⟩, fun r hr => ⟨by omega, rfl⟩⟩
theorem c_copyOf {v : Nat} {n : Int} (h : M 80 v (-1) = 400) (hv : (v : Int) < M 97 0 80) (hn : 0 ≤ n ∧ n < 400) (hb : ∀ j, 0 ≤ j ∧ j < n → -128 ≤ M 80 v j ∧ M 80 v j < 128) : CRn l m_J7_copyOfRange_39247 80 1 400 [zr 80 v, zi 0, zi n] M (fun w M' => (w : Int) = M 97 0 80 ∧ M' = zcq (zmk M 80 w n) 80 v 0 80 w 0 n) := by
  refine vJ7_copyOfRange_39247 ⟨by omega, fun e => absurd rfl e, fun _ => ?_⟩
  rw [h]
  refine ⟨by omega, by omega, by omega, fun e => by omega, fun _ => ?_⟩
  refine vJ7_copyOfRangeByte_39247 ⟨⟨by omega, by omega, hn.1⟩, by omega, ⟨by omega, by omega⟩, fun w hw M1 hM1 => ?_⟩
  have e80 : M1 80 v = M 80 v := by rw [hM1]; exact zmk_o (by omega) (by omega)
  have z0 : zln M1 80 v = 400 := by rw [zln_d rfl, e80, h]; rfl
  have z1 : zln M1 80 w = n.toNat := by rw [zln_d rfl, hM1, zmk_l (by omega)]; omega
  rw [e80, h, z0, z1, show (n - 0 : Int) = n by omega, show (400 - 0 : Int) = 400 by omega, show min (400 : Int) n = n by omega]
  refine ⟨by omega, by omega, by omega, by omega, by omega, by omega, fun j h1 h2 => Or.inr (Or.inr ⟨rfl, hb j (by omega)⟩), fun M2 hM2 => ⟨hw, by rw [hM2, hM1, show (n - 0 : Int) = n by omega]⟩⟩
theorem vJ0_init_db425 {l : Launch} {P : zM → Prop} {h : Nat} {s1 : Nat} {M : zM}
    (H0 : (CR l m_J5_getValue_6d5f1 80 [zr 67 s1] M (fun (x3 : Nat) M1 => (M1 67 s1 1 = 0 ∧ (∀ M8 : zM, M8 = zu M1 66 h 1 0 → (CRn l m_J7_copyOfRange_39247 80 1 400 [zr 80 x3, zi 0, zi (M1 67 s1 3)] M8 (fun (x11 : Nat) M9 => (∀ M13 : zM, M13 = zu M9 66 h 0 (x11 : Int) → P M13)))))))) :
    CVn l m_J0_init_db425 1 400 [zr 66 h, zr 67 s1, zn] M P :=
(aw_aload_n d_J0_init_db425_0 rfl rfl 0 rfl (by decide)
(aw_obj d_J0_init_db425_1 rfl (by decide) obJ0_1 ⟨Nat.le_of_ble_eq_true rfl, Nat.le_of_ble_eq_true rfl⟩
(aw_aload_n d_J0_init_db425_4 rfl rfl 1 rfl (by decide)
(aw_UR (As := []) (st := []) d_J0_init_db425_5 rfl cuJ0_552 ⟨Nat.le_of_ble_eq_true rfl, Nat.le_of_ble_eq_true rfl⟩ rfl rfl (Nat.le_of_ble_eq_true rfl) (Nat.le_of_ble_eq_true rfl) H0 (fun x3 M1 e2 => (aw_astore_n (lv' := [(3, zr 80 x3), (0, zr 66 h), (1, zr 67 s1), (2, zn)]) (by decide) d_J0_init_db425_8 rfl rfl (by decide) rfl
(aw_aload_n d_J0_init_db425_9 rfl rfl 2 rfl (by decide)
(aw_UI (As := []) (st := []) d_J0_init_db425_10 rfl cuJ0_549 ⟨Nat.le_of_ble_eq_true rfl, Nat.le_of_ble_eq_true rfl⟩ rfl rfl (Nat.le_of_ble_eq_true rfl) (Nat.le_of_ble_eq_true rfl) (s_J4_length_8abf5) (fun _ _ hq => aw_eqs hq
(aw_istore (lv' := [(4, zi (M1 67 s1 3)), (3, zr 80 x3), (0, zr 66 h), (1, zr 67 s1), (2, zn)]) d_J0_init_db425_13 rfl (by decide) rfl
(aw_aload_n d_J0_init_db425_15 rfl rfl 3 rfl (by decide)
(have z4 := e2.1; aw_UI (As := []) (st := []) d_J0_init_db425_16 rfl cuJ0_1047 ⟨Nat.le_of_ble_eq_true rfl, Nat.le_of_ble_eq_true rfl⟩ rfl rfl (Nat.le_of_ble_eq_true rfl) (Nat.le_of_ble_eq_true rfl) (s_J5_isLatin1_aae02 z4) (fun _ _ hq => aw_eqs hq
(have e5 := e2.2; (aw_if_eq d_J0_init_db425_19 rfl rfl (by decide) (fun c6 => absurd c6 (by decide)) (fun _ => (aw_aload_n d_J0_init_db425_22 rfl rfl 2 rfl (by decide)
(aw_iconst d_J0_init_db425_23 rfl
(aw_putF (kc := 1) d_J0_init_db425_24 rfl ffJ0_15 rfl rfl rfl rfl (by decide)
(aw_nm fun M8 hqM8 => have e7 := e5 M8 hqM8; (aw_aload_n d_J0_init_db425_27 rfl rfl 2 rfl (by decide)
(aw_aload_n d_J0_init_db425_28 rfl rfl 1 rfl (by decide)
(aw_iconst d_J0_init_db425_29 rfl
(aw_iload d_J0_init_db425_30 rfl 0 rfl
(aw_SRn (As := [zr 80 x3, zi 0, zi (M1 67 s1 3)]) (st := [zr 66 h]) d_J0_init_db425_32 rfl csJ0_54 ⟨Nat.le_of_ble_eq_true rfl, Nat.le_of_ble_eq_true rfl⟩ ⟨Nat.le_of_ble_eq_true rfl, Nat.le_of_ble_eq_true rfl⟩ rfl rfl (Nat.le_of_ble_eq_true rfl) (Nat.le_of_ble_eq_true rfl) e7 (fun x11 M9 e10 => (aw_putD (kc := 0) d_J0_init_db425_35 rfl (.inr ⟨ffJ0_9, rfl⟩) rfl rfl (by decide) (fun _ => ⟨rfl, rfl⟩)
(aw_nm fun M13 hqM13 => have e12 := e10 M13 hqM13; (aw_goto d_J0_init_db425_38 rfl
(aw_rvn d_J0_init_db425_97 rfl e12))))))))))))))))))))))))))))))
theorem vJ0_init_81219 {l : Launch} {P : zM → Prop} {h : Nat} {s1 : Nat} {M : zM}
    (H0 : (CVn l m_J0_init_db425 1 400 [zr 66 h, zr 67 s1, zn] M (fun M1 => P M1))) :
    CVn l m_J0_init_81219 1 400 [zr 66 h, zr 67 s1] M P :=
(aw_aload_n d_J0_init_81219_0 rfl rfl 0 rfl (by decide)
(aw_aload_n d_J0_init_81219_1 rfl rfl 1 rfl (by decide)
(aw_null d_J0_init_81219_2 rfl
(aw_NVn (As := [zr 67 s1, zn]) (st := []) d_J0_init_81219_3 rfl cnJ0_489 ⟨Nat.le_of_ble_eq_true rfl, Nat.le_of_ble_eq_true rfl⟩ ⟨Nat.le_of_ble_eq_true rfl, Nat.le_of_ble_eq_true rfl⟩ rfl rfl (Nat.le_of_ble_eq_true rfl) (Nat.le_of_ble_eq_true rfl) H0 (fun M1 e2 => (aw_rvn d_J0_init_81219_6 rfl e2))))))
theorem vJ4_toString_0e30d {l : Launch} {P : Nat → zM → Prop} {h : Nat} {M : zM}
    (H0 : (∀ n1 : Nat, (n1 : Int) = M 97 0 66 → ∀ M3 : zM, M3 = zmk M 66 n1 0 → (CVn l m_J0_init_81219 1 400 [zr 66 n1, zr 67 h] M3 (fun M4 => P n1 M4)))) :
    CRn l m_J4_toString_0e30d 66 2 404 [zr 67 h] M P :=
(aw_new (k := 66) (n := 4) d_J4_toString_0e30d_0 rfl nwJ4_18 ⟨Nat.le_of_ble_eq_true rfl, Nat.le_of_ble_eq_true rfl⟩
(fun n1 hqn1 => (aw_nm fun M3 hqM3 => have e2 := H0 n1 hqn1 M3 hqM3; (aw_dup d_J4_toString_0e30d_3 rfl rfl
(aw_aload_n d_J4_toString_0e30d_4 rfl rfl 0 rfl (by decide)
(aw_NVn (As := [zr 67 h]) (st := [zr 66 n1]) d_J4_toString_0e30d_5 rfl cnJ4_137 ⟨Nat.le_of_ble_eq_true rfl, Nat.le_of_ble_eq_true rfl⟩ ⟨Nat.le_of_ble_eq_true rfl, Nat.le_of_ble_eq_true rfl⟩ rfl rfl (Nat.le_of_ble_eq_true rfl) (Nat.le_of_ble_eq_true rfl) e2 (fun M4 e5 => (aw_rrn d_J4_toString_0e30d_8 rfl (Or.inl ⟨_, rfl⟩) (by decide) e5))))))))
theorem vJ5_init_d00df {l : Launch} {P : zM → Prop} {h : Nat} {v1 : Int} {M : zM}
    (H0 : ((0 ≤ v1 ∧ v1 ≤ 1000000) ∧ ((0 + 1) ≤ 1 ∧ (0 + v1.toNat) ≤ 400) ∧ ∀ n2 : Nat, (n2 : Int) = M 97 0 80 → ∀ M6 : zM, M6 = zmk M 80 n2 v1 → (∀ M8 : zM, M8 = zu M6 67 h 0 (n2 : Int) → (∀ M10 : zM, M10 = zu M8 67 h 1 0 → P M10)))) :
    CVn l m_J5_init_d00df 1 400 [zr 67 h, zi v1] M P :=
(aw_aload_n d_J5_init_d00df_0 rfl rfl 0 rfl (by decide)
(aw_obj d_J5_init_d00df_1 rfl (by decide) obJ5_3 ⟨Nat.le_of_ble_eq_true rfl, Nat.le_of_ble_eq_true rfl⟩
(aw_compact d_J5_init_d00df_4 rfl cfJ5_18
(aw_if_eq d_J5_init_d00df_7 rfl rfl (by decide) (fun c1 => absurd c1 (by decide)) (fun _ => (aw_aload_n d_J5_init_d00df_10 rfl rfl 0 rfl (by decide)
(aw_iload_n d_J5_init_d00df_11 rfl rfl 1 rfl
(have z3 := H0.1; have z4 := H0.2.1; aw_newa (k := 80) d_J5_init_d00df_12 rfl zd80 (Or.inr (Or.inr ⟨rfl, rfl⟩)) ac_byte z3 (Or.inl rfl) z4
(fun n2 hqn2 => (aw_nm fun M6 hqM6 => have e5 := H0.2.2 n2 hqn2 M6 hqM6; (aw_putD (kc := 0) d_J5_init_d00df_14 rfl (.inl fpJ5_15) rfl rfl (by decide) (fun _ => ⟨rfl, rfl⟩)
(aw_nm fun M8 hqM8 => have e7 := e5 M8 hqM8; (aw_aload_n d_J5_init_d00df_17 rfl rfl 0 rfl (by decide)
(aw_iconst d_J5_init_d00df_18 rfl
(aw_put (kc := 1) d_J5_init_d00df_19 rfl fpJ5_22 rfl rfl rfl (by decide)
(aw_nm fun M10 hqM10 => have e9 := e7 M10 hqM10; (aw_goto d_J5_init_d00df_22 rfl
(aw_rvn d_J5_init_d00df_38 rfl e9))))))))))))))))))
theorem vJ4_init_d00df {l : Launch} {P : zM → Prop} {h : Nat} {v1 : Int} {M : zM}
    (H0 : (CVn l m_J5_init_d00df 1 400 [zr 67 h, zi v1] M (fun M1 => P M1))) :
    CVn l m_J4_init_d00df 1 400 [zr 67 h, zi v1] M P :=
(aw_aload_n d_J4_init_d00df_0 rfl rfl 0 rfl (by decide)
(aw_iload_n d_J4_init_d00df_1 rfl rfl 1 rfl
(aw_NVn (As := [zi v1]) (st := []) d_J4_init_d00df_2 rfl cnJ4_1 ⟨Nat.le_of_ble_eq_true rfl, Nat.le_of_ble_eq_true rfl⟩ ⟨Nat.le_of_ble_eq_true rfl, Nat.le_of_ble_eq_true rfl⟩ rfl rfl (Nat.le_of_ble_eq_true rfl) (Nat.le_of_ble_eq_true rfl) H0 (fun M1 e2 => (aw_rvn d_J4_init_d00df_5 rfl e2)))))
theorem c_toString {b v : Nat} {L : List Int} (h : sbt M b v L) (hb : (b : Int) < M 97 0 67) (hl : L.length < 400) : CRn l m_J4_toString_0e30d 66 2 404 [zr 67 b] M (fun s M' => Gr [66, 80] M M' ∧ M 97 0 66 ≤ (s : Int) ∧ (s : Int) < M' 97 0 66 ∧ stT M' s L) := by
  obtain ⟨h1, h2, h3, h4, h5, h6, h7, h8⟩ := h
  refine vJ4_toString_0e30d fun s hs M1 hM1 => vJ0_init_81219 (vJ0_init_db425 ?_)
  have g1 : Gr [66, 80] M M1 := by rw [hM1]; exact Gr.mk (by omega) (by simp) hs
  have e67 : M1 67 b = M 67 b := g1.2.1 67 b (by omega) hb
  have e80 : M1 80 v = M 80 v := g1.2.1 80 v (by omega) h4
  have c80 : M1 97 0 80 = M 97 0 80 := by rw [hM1]; exact zmk_n (by omega) (by omega)
  have c66 : M1 97 0 66 = (s : Int) + 1 := by rw [hM1]; exact zmk_c
  refine (c_getValue (v := v) (by rw [e67, h1]) (by rw [c80]; exact h4)).mono ?_
  rintro x M2 ⟨rfl, rfl⟩
  refine ⟨by rw [e67, h2], fun M3 hM3 => ?_⟩
  rw [e67, h3]
  have e80' : M3 80 x = M 80 x := by rw [hM3, zu_o _ _ (by omega), e80]
  have c80' : M3 97 0 80 = M 97 0 80 := by rw [hM3, zu_n (by omega), c80]
  have g3 : Gr [66, 80] M M3 := by rw [hM3]; exact g1.zu (by omega) (Int.le_of_eq hs.symm)
  refine (c_copyOf (v := x) (by rw [e80', h5]) (by rw [c80']; exact h4) (by omega) (fun j hj => ?_)).mono ?_
  · rw [e80', h7 j hj]
    have := h8 _ (getD_mem (L := L) (j := j.toNat) (by omega))
    omega
  rintro w M4 ⟨hw, hM4⟩ M5 hM5
  have hwx : ¬ ((80 : Nat) = 80 ∧ x = w) := by omega
  have g4 : Gr [66, 80] M M4 := by
    rw [hM4]
    exact (g3.tr (Gr.mk (k := 80) (by omega) (by simp) hw)).st (k := 80) (i := w) (by omega) (Int.le_of_eq (hw.trans c80').symm) zcq_o
  have g5 : Gr [66, 80] M M5 := by rw [hM5]; exact g4.zu (by omega) (Int.le_of_eq hs.symm)
  have s4 : M4 66 s = M3 66 s := by rw [hM4, zcq_o _ _ (by omega)]; exact zmk_o (by omega) (by omega)
  have e0 : M5 66 s 0 = (w : Int) := by rw [hM5, zu_s]
  have e1 : M5 66 s 1 = 0 := by rw [hM5, zu_n (by omega), s4, hM3, zu_s]
  have ew : ∀ j, M5 80 w j = M4 80 w j := fun j => by rw [hM5, zu_o _ _ (by omega)]
  have el : M5 80 w (-1) = (L.length : Int) := by
    rw [ew, hM4]
    refine (if_neg (by omega)).trans ?_
    exact zmk_l (by omega)
  have eb : ∀ j : Int, 0 ≤ j ∧ j < (L.length : Int) → M5 80 w j = L.getD j.toNat 0 := fun j hj => by
    rw [ew, hM4]
    refine (if_pos ⟨rfl, rfl, hj.1, by omega⟩).trans ?_
    rw [show (0 : Int) + (j - 0) = j by omega, zmk_o hwx (by omega), e80', h7 j hj]
  have c5 : M5 97 0 80 = (w : Int) + 1 := by
    rw [hM5, zu_n (by omega), hM4, zcq_o _ _ (by omega)]
    exact zmk_c
  have cs : M5 97 0 66 = (s : Int) + 1 := by
    rw [hM5, zu_n (by omega), hM4, zcq_o _ _ (by omega), zmk_n (by omega) (by omega), hM3, zu_n (by omega), c66]
  refine ⟨g5, by omega, by omega, ?_⟩
  have eN : stN M5 s = (L.length : Int) := by unfold stN; rw [e0, Int.toNat_natCast, el]
  have eB : ∀ j, stB M5 s j = M5 80 w j := fun j => by unfold stB; rw [e0, Int.toNat_natCast]
  refine ⟨⟨e1, by rw [e0]; omega, by omega, fun j hj => ?_⟩, eN, fun j hj => by rw [eB, eb j hj]⟩
  rw [eN] at hj
  rw [eB, eb j hj]
  exact h8 _ (getD_mem (by omega))
/-- new StringBuilder(400) -/
theorem c_J4_init {b : Nat} (hf : M 67 b 3 = 0) : CVn l m_J4_init_d00df 1 400 [zr 67 b, zi 400] M (fun M' => (∃ v : Nat, (v : Int) = M 97 0 80 ∧ sbt M' b v [] ∧ M' 97 0 80 = M 97 0 80 + 1) ∧ (∀ q : Int, q ≠ 80 → M' 97 0 q = M 97 0 q) ∧ ∀ k i, k ≠ 97 → ¬ (k = 67 ∧ i = b) → ¬ (k = 80 ∧ (i : Int) = M 97 0 80) → M' k i = M k i) := by
  refine vJ4_init_d00df (vJ5_init_d00df ⟨by omega, ⟨by omega, by decide⟩, fun v hv M1 hM1 M2 hM2 M3 hM3 => ?_⟩)
  have o : ∀ k i, ¬ (k = 67 ∧ i = b) → M3 k i = M1 k i := fun k i h => by rw [hM3, zu_o k i h, hM2, zu_o k i h]
  refine ⟨⟨v, hv, ⟨?_, ?_, ?_, ?_, ?_, by simp, rwI_nil, by simp⟩, ?_⟩, fun q hq => ?_, fun k i h1 h2 h3 => ?_⟩
  · rw [hM3, zu_n (by omega), hM2, zu_s]
  · rw [hM3, zu_s]
  · rw [hM3, zu_n (by omega), hM2, zu_n (by omega), hM1, zmk_o (by omega) (by omega), hf]; rfl
  · rw [o _ _ (by omega), hM1]
    have : zmk M 80 v 400 97 0 80 = (v : Int) + 1 := zmk_c
    omega
  · rw [o _ _ (by omega), hM1, zmk_l (by omega)]
  · rw [o _ _ (by omega), hM1]
    have : zmk M 80 v 400 97 0 80 = (v : Int) + 1 := zmk_c
    omega
  · rw [o _ _ (by omega), hM1, zmk_n (by omega) (by omega)]
  · rw [o _ _ h2, hM1, zmk_o (by omega) h1]
end
