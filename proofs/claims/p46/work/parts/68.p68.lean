/-! ===== tell: words, numbers ===== -/
def eqN (s : Nat) (b : Int → Int) (n i : Int) : Nat → Int → Bool
  | 0, _ => true
  | f + 1, k => decide (bt b n (i + k) = zsb s k) && eqN s b n i f (k + 1)
def zl_ (s : Nat) : Nat := zsLen.getD s 0
/-- the word s stands at i -/
def isWd (s : Nat) (b : Int → Int) (n i : Int) : Bool := eqN s b n i (zl_ s) 0
def dv (b : Int → Int) (i : Int) : Nat → Int
  | 0 => 0
  | k + 1 => 10 * dv b i k + (b (i + k) - 48)
section
variable {l : Launch} {M : zM} {b : Int → Int} {n : Int}
def LX7_isWord_17 (l : Launch) (P : Int → zM → Prop) (s2 : Nat) (v1 : Int) (v3 : Int) (M : zM) : Prop := AW l m_X7_isWord (zTi m_X7_isWord P) 17 [(0, zr 7 0), (1, zi v1), (2, zr 61 s2), (3, zi v3)] [] M
theorem vX7_isWord_17 {l : Launch} {P : Int → zM → Prop} {s2 : Nat} {v1 : Int} {v3 : Int} {M : zM}
    (H0 : (zI v3 ∧ zI ((zsLen.getD s2 0 : Nat) : Int) ∧ (((zsLen.getD s2 0 : Nat) : Int) ≤ v3 → P 1 M) ∧ (v3 < ((zsLen.getD s2 0 : Nat) : Int) → (CI l m_X7_byteAt [zr 7 0, zi (v1 + v3)] M (fun x18 M15 => ((s2 < 12 ∧ 0 ≤ v3 ∧ v3 < (zsLen.getD s2 0 : Nat)) ∧ (zI x18 ∧ zI (zsb s2 v3) ∧ (x18 = (zsb s2 v3) → LX7_isWord_17 l P s2 v1 (v3 + 1) M15) ∧ (x18 ≠ (zsb s2 v3) → P 0 M15)))))))) :
    LX7_isWord_17 l P s2 v1 v3 M :=
(aw_iload_n d_X7_isWord_17 rfl rfl 3 rfl
(aw_aload_n d_X7_isWord_18 rfl rfl 2 rfl (by decide)
(aw_TI (As := []) (st := [zi v3]) d_X7_isWord_19 rfl ct7_118 ⟨Nat.le_of_ble_eq_true rfl, Nat.le_of_ble_eq_true rfl⟩ rfl rfl (Nat.le_of_ble_eq_true rfl) (Nat.le_of_ble_eq_true rfl) (s_J0_length_8abf5) (fun _ _ hq => aw_eqs hq
(have z8 := H0.1; have z9 := H0.2.1; have e10 := H0.2.2; aw_icmp_ge d_X7_isWord_22 rfl rfl z8 z9 (fun c11 => have e13 := e10.1 c11; (aw_iconst d_X7_isWord_48 rfl
(aw_rz d_X7_isWord_49 rfl (by decide) e13))) (fun c12 => have e14 := e10.2 c12; (aw_aload_n d_X7_isWord_25 rfl rfl 0 rfl (by decide)
(aw_iload_n d_X7_isWord_26 rfl rfl 1 rfl
(aw_iload_n d_X7_isWord_27 rfl rfl 3 rfl
(aw_iadd d_X7_isWord_28 rfl
(aw_VI (As := [zi (v1 + v3)]) (st := []) d_X7_isWord_29 rfl cv7_48 ⟨Nat.le_of_ble_eq_true rfl, Nat.le_of_ble_eq_true rfl⟩ rfl rfl (Nat.le_of_ble_eq_true rfl) (Nat.le_of_ble_eq_true rfl) e14 (fun x18 M15 e16 => (aw_aload_n d_X7_isWord_32 rfl rfl 2 rfl (by decide)
(aw_iload_n d_X7_isWord_33 rfl rfl 3 rfl
(have z19 := e16.1; have e20 := e16.2; (aw_TI (As := [zi v3]) (st := [zi x18]) d_X7_isWord_34 rfl ct7_124 ⟨Nat.le_of_ble_eq_true rfl, Nat.le_of_ble_eq_true rfl⟩ rfl rfl (Nat.le_of_ble_eq_true rfl) (Nat.le_of_ble_eq_true rfl) (s_J0_charAt_5068e z19) (fun _ _ hq => aw_eqs hq
(have z21 := e20.1; have z22 := e20.2.1; have e23 := e20.2.2; aw_icmp_eq d_X7_isWord_37 rfl rfl z21 z22 (fun c24 => have e26 := e23.1 c24; (aw_iinc (lv' := [(3, zi (v3 + 1)), (0, zr 7 0), (1, zi v1), (2, zr 61 s2)]) (y := (v3 + 1)) d_X7_isWord_42 rfl 3 rfl (by decide) rfl rfl
(aw_goto d_X7_isWord_45 rfl
(aw_sub [1, 2, 3, 0] rfl e26)))) (fun c25 => have e27 := e23.2 c25; (aw_iconst d_X7_isWord_40 rfl
(aw_rz d_X7_isWord_41 rfl (by decide) e27)))))))))))))))))))))
theorem vX7_isWord {l : Launch} {P : Int → zM → Prop} {s2 : Nat} {v1 : Int} {M : zM}
    (H0 : (zI ((M 7 0 3) - v1) ∧ zI ((zsLen.getD s2 0 : Nat) : Int) ∧ (((M 7 0 3) - v1) = ((zsLen.getD s2 0 : Nat) : Int) → LX7_isWord_17 l P s2 v1 0 M) ∧ (((M 7 0 3) - v1) ≠ ((zsLen.getD s2 0 : Nat) : Int) → P 0 M))) :
    CI l m_X7_isWord [zr 7 0, zi v1, zr 61 s2] M P :=
(aw_aload_n d_X7_isWord_0 rfl rfl 0 rfl (by decide)
(aw_getI (kc := 3) d_X7_isWord_1 rfl fl7_29 rfl rfl
(aw_iload_n d_X7_isWord_4 rfl rfl 1 rfl
(aw_isub d_X7_isWord_5 rfl
(aw_aload_n d_X7_isWord_6 rfl rfl 2 rfl (by decide)
(aw_TI (As := []) (st := [zi ((M 7 0 3) - v1)]) d_X7_isWord_7 rfl ct7_118 ⟨Nat.le_of_ble_eq_true rfl, Nat.le_of_ble_eq_true rfl⟩ rfl rfl (Nat.le_of_ble_eq_true rfl) (Nat.le_of_ble_eq_true rfl) (s_J0_length_8abf5) (fun _ _ hq => aw_eqs hq
(have z1 := H0.1; have z2 := H0.2.1; have e3 := H0.2.2; aw_icmp_eq d_X7_isWord_10 rfl rfl z1 z2 (fun c4 => have e6 := e3.1 c4; (aw_iconst d_X7_isWord_15 rfl
(aw_istore_n (lv' := [(3, zi 0), (0, zr 7 0), (1, zi v1), (2, zr 61 s2)]) d_X7_isWord_16 rfl rfl (by decide) rfl
(aw_sub [1, 2, 3, 0] rfl e6)))) (fun c5 => have e7 := e3.2 c5; (aw_iconst d_X7_isWord_13 rfl
(aw_rz d_X7_isWord_14 rfl (by decide) e7)))))))))))
theorem vX7_note {l : Launch} {P : zM → Prop} {v1 : Int} {v2 : Int} {M : zM}
    (H0 : (∀ M1 : zM, M1 = zu M 7 0 4 ((8 * v1) + v2) → P M1)) :
    CV l m_X7_note [zr 7 0, zi v1, zi v2] M P :=
(aw_aload_n d_X7_note_0 rfl rfl 0 rfl (by decide)
(aw_bipush d_X7_note_1 rfl (by decide)
(aw_iload_n d_X7_note_3 rfl rfl 1 rfl
(aw_imul d_X7_note_4 rfl
(aw_iload_n d_X7_note_5 rfl rfl 2 rfl
(aw_iadd d_X7_note_6 rfl
(have e2 := H0 _ rfl; aw_put (kc := 4) d_X7_note_7 rfl fp7_32 rfl rfl rfl rfl
(aw_rv d_X7_note_10 rfl e2))))))))
def LX7_readNumber_11 (l : Launch) (P : Int → zM → Prop) (v1 : Int) (v2 : Int) (v3 : Int) (M : zM) : Prop := AW l m_X7_readNumber (zTi m_X7_readNumber P) 11 [(0, zr 7 0), (1, zi v1), (2, zi v2), (3, zi v3)] [] M
theorem vX7_readNumber_11 {l : Launch} {P : Int → zM → Prop} {v1 : Int} {v2 : Int} {v3 : Int} {M : zM}
    (H0 : (zI (M 7 0 3) ∧ zI (M 7 0 2) ∧ ((M 7 0 2) ≤ (M 7 0 3) → (zI v2 ∧ ((M 7 0 3) ≠ v2 → (zI v3 ∧ zI v1 ∧ (v3 ≤ v1 → P v3 M) ∧ (v1 < v3 → (CV l m_X7_note [zr 7 0, zi v2, zi 2] M (fun M24 => P v3 M24))))) ∧ ((M 7 0 3) = v2 → (CV l m_X7_note [zr 7 0, zi v2, zi 1] M (fun M27 => P v3 M27))))) ∧ ((M 7 0 3) < (M 7 0 2) → (CI l m_X7_byteAt [zr 7 0, zi (M 7 0 3)] M (fun x33 M30 => (CI l m_X7_isDigit [zi x33] M30 (fun x37 M34 => (zI x37 ∧ (x37 = 0 → (zI (M34 7 0 3) ∧ zI v2 ∧ ((M34 7 0 3) ≠ v2 → (zI v3 ∧ zI v1 ∧ (v3 ≤ v1 → P v3 M34) ∧ (v1 < v3 → (CV l m_X7_note [zr 7 0, zi v2, zi 2] M34 (fun M58 => P v3 M58))))) ∧ ((M34 7 0 3) = v2 → (CV l m_X7_note [zr 7 0, zi v2, zi 1] M34 (fun M61 => P v3 M61))))) ∧ (x37 ≠ 0 → (CI l m_X7_byteAt [zr 7 0, zi (M34 7 0 3)] M34 (fun x67 M64 => (zI (((v3 * 10) + x67) - 48) ∧ (∀ M70 : zM, M70 = zu M64 7 0 3 ((M64 7 0 3) + 1) → LX7_readNumber_11 l P v1 v2 (min (((v3 * 10) + x67) - 48) 10000) M70))))))))))))) :
    LX7_readNumber_11 l P v1 v2 v3 M :=
(aw_aload_n d_X7_readNumber_11 rfl rfl 0 rfl (by decide)
(aw_getI (kc := 3) d_X7_readNumber_12 rfl fl7_29 rfl rfl
(aw_aload_n d_X7_readNumber_15 rfl rfl 0 rfl (by decide)
(aw_getI (kc := 2) d_X7_readNumber_16 rfl fl7_22 rfl rfl
(have z4 := H0.1; have z5 := H0.2.1; have e6 := H0.2.2; aw_icmp_ge d_X7_readNumber_19 rfl rfl z4 z5 (fun c7 => have e9 := e6.1 c7; (aw_aload_n d_X7_readNumber_72 rfl rfl 0 rfl (by decide)
(aw_getI (kc := 3) d_X7_readNumber_73 rfl fl7_29 rfl rfl
(aw_iload_n d_X7_readNumber_76 rfl rfl 2 rfl
(have z11 := e9.1; have e12 := e9.2; aw_icmp_ne d_X7_readNumber_77 rfl rfl z4 z11 (fun c13 => have e15 := e12.1 c13; (aw_iload_n d_X7_readNumber_89 rfl rfl 3 rfl
(aw_iload_n d_X7_readNumber_90 rfl rfl 1 rfl
(have z17 := e15.1; have z18 := e15.2.1; have e19 := e15.2.2; aw_icmp_le d_X7_readNumber_91 rfl rfl z17 z18 (fun c20 => have e22 := e19.1 c20; (aw_iload_n d_X7_readNumber_100 rfl rfl 3 rfl
(aw_ri d_X7_readNumber_101 rfl e22))) (fun c21 => have e23 := e19.2 c21; (aw_aload_n d_X7_readNumber_94 rfl rfl 0 rfl (by decide)
(aw_iload_n d_X7_readNumber_95 rfl rfl 2 rfl
(aw_iconst d_X7_readNumber_96 rfl
(aw_VV (As := [zi v2, zi 2]) (st := []) d_X7_readNumber_97 rfl cv7_52 ⟨Nat.le_of_ble_eq_true rfl, Nat.le_of_ble_eq_true rfl⟩ rfl rfl (Nat.le_of_ble_eq_true rfl) (Nat.le_of_ble_eq_true rfl) e23 (fun M24 e25 => (aw_iload_n d_X7_readNumber_100 rfl rfl 3 rfl
(aw_ri d_X7_readNumber_101 rfl e25)))))))))))) (fun c14 => have e16 := e12.2 c14; (aw_aload_n d_X7_readNumber_80 rfl rfl 0 rfl (by decide)
(aw_iload_n d_X7_readNumber_81 rfl rfl 2 rfl
(aw_iconst d_X7_readNumber_82 rfl
(aw_VV (As := [zi v2, zi 1]) (st := []) d_X7_readNumber_83 rfl cv7_52 ⟨Nat.le_of_ble_eq_true rfl, Nat.le_of_ble_eq_true rfl⟩ rfl rfl (Nat.le_of_ble_eq_true rfl) (Nat.le_of_ble_eq_true rfl) e16 (fun M27 e28 => (aw_goto d_X7_readNumber_86 rfl
(aw_iload_n d_X7_readNumber_100 rfl rfl 3 rfl
(aw_ri d_X7_readNumber_101 rfl e28)))))))))))))) (fun c8 => have e10 := e6.2 c8; (aw_aload_n d_X7_readNumber_22 rfl rfl 0 rfl (by decide)
(aw_aload_n d_X7_readNumber_23 rfl rfl 0 rfl (by decide)
(aw_getI (kc := 3) d_X7_readNumber_24 rfl fl7_29 rfl rfl
(aw_VI (As := [zi (M 7 0 3)]) (st := []) d_X7_readNumber_27 rfl cv7_48 ⟨Nat.le_of_ble_eq_true rfl, Nat.le_of_ble_eq_true rfl⟩ rfl rfl (Nat.le_of_ble_eq_true rfl) (Nat.le_of_ble_eq_true rfl) e10 (fun x33 M30 e31 => (aw_SI (As := [zi x33]) (st := []) d_X7_readNumber_30 rfl cs7_90 ⟨Nat.le_of_ble_eq_true rfl, Nat.le_of_ble_eq_true rfl⟩ rfl rfl (Nat.le_of_ble_eq_true rfl) (Nat.le_of_ble_eq_true rfl) e31 (fun x37 M34 e35 => (have z38 := e35.1; have e39 := e35.2; aw_if_eq d_X7_readNumber_33 rfl rfl z38 (fun c40 => have e42 := e39.1 c40; (aw_aload_n d_X7_readNumber_72 rfl rfl 0 rfl (by decide)
(aw_getI (kc := 3) d_X7_readNumber_73 rfl fl7_29 rfl rfl
(aw_iload_n d_X7_readNumber_76 rfl rfl 2 rfl
(have z44 := e42.1; have z45 := e42.2.1; have e46 := e42.2.2; aw_icmp_ne d_X7_readNumber_77 rfl rfl z44 z45 (fun c47 => have e49 := e46.1 c47; (aw_iload_n d_X7_readNumber_89 rfl rfl 3 rfl
(aw_iload_n d_X7_readNumber_90 rfl rfl 1 rfl
(have z51 := e49.1; have z52 := e49.2.1; have e53 := e49.2.2; aw_icmp_le d_X7_readNumber_91 rfl rfl z51 z52 (fun c54 => have e56 := e53.1 c54; (aw_iload_n d_X7_readNumber_100 rfl rfl 3 rfl
(aw_ri d_X7_readNumber_101 rfl e56))) (fun c55 => have e57 := e53.2 c55; (aw_aload_n d_X7_readNumber_94 rfl rfl 0 rfl (by decide)
(aw_iload_n d_X7_readNumber_95 rfl rfl 2 rfl
(aw_iconst d_X7_readNumber_96 rfl
(aw_VV (As := [zi v2, zi 2]) (st := []) d_X7_readNumber_97 rfl cv7_52 ⟨Nat.le_of_ble_eq_true rfl, Nat.le_of_ble_eq_true rfl⟩ rfl rfl (Nat.le_of_ble_eq_true rfl) (Nat.le_of_ble_eq_true rfl) e57 (fun M58 e59 => (aw_iload_n d_X7_readNumber_100 rfl rfl 3 rfl
(aw_ri d_X7_readNumber_101 rfl e59)))))))))))) (fun c48 => have e50 := e46.2 c48; (aw_aload_n d_X7_readNumber_80 rfl rfl 0 rfl (by decide)
(aw_iload_n d_X7_readNumber_81 rfl rfl 2 rfl
(aw_iconst d_X7_readNumber_82 rfl
(aw_VV (As := [zi v2, zi 1]) (st := []) d_X7_readNumber_83 rfl cv7_52 ⟨Nat.le_of_ble_eq_true rfl, Nat.le_of_ble_eq_true rfl⟩ rfl rfl (Nat.le_of_ble_eq_true rfl) (Nat.le_of_ble_eq_true rfl) e50 (fun M61 e62 => (aw_goto d_X7_readNumber_86 rfl
(aw_iload_n d_X7_readNumber_100 rfl rfl 3 rfl
(aw_ri d_X7_readNumber_101 rfl e62)))))))))))))) (fun c41 => have e43 := e39.2 c41; (aw_iload_n d_X7_readNumber_36 rfl rfl 3 rfl
(aw_bipush d_X7_readNumber_37 rfl (by decide)
(aw_imul d_X7_readNumber_39 rfl
(aw_aload_n d_X7_readNumber_40 rfl rfl 0 rfl (by decide)
(aw_aload_n d_X7_readNumber_41 rfl rfl 0 rfl (by decide)
(aw_getI (kc := 3) d_X7_readNumber_42 rfl fl7_29 rfl rfl
(aw_VI (As := [zi (M34 7 0 3)]) (st := [zi (v3 * 10)]) d_X7_readNumber_45 rfl cv7_48 ⟨Nat.le_of_ble_eq_true rfl, Nat.le_of_ble_eq_true rfl⟩ rfl rfl (Nat.le_of_ble_eq_true rfl) (Nat.le_of_ble_eq_true rfl) e43 (fun x67 M64 e65 => (aw_iadd d_X7_readNumber_48 rfl
(aw_bipush d_X7_readNumber_49 rfl (by decide)
(aw_isub d_X7_readNumber_51 rfl
(aw_sipush d_X7_readNumber_52 rfl (by decide)
(have z68 := e65.1; have e69 := e65.2; (aw_min d_X7_readNumber_55 rfl cm7_110 ⟨Nat.le_of_ble_eq_true rfl, Nat.le_of_ble_eq_true rfl⟩ z68 (by decide)
(aw_istore_n (lv' := [(3, zi (min (((v3 * 10) + x67) - 48) 10000)), (0, zr 7 0), (1, zi v1), (2, zi v2)]) d_X7_readNumber_58 rfl rfl (by decide) rfl
(aw_aload_n d_X7_readNumber_59 rfl rfl 1 rfl (by decide)
(aw_dup d_X7_readNumber_60 rfl rfl
(aw_getI (kc := 3) d_X7_readNumber_61 rfl fl7_29 rfl rfl
(aw_iconst d_X7_readNumber_64 rfl
(aw_iadd d_X7_readNumber_65 rfl
(have e71 := e69 _ rfl; aw_put (kc := 3) d_X7_readNumber_66 rfl fp7_29 rfl rfl rfl rfl
(aw_goto d_X7_readNumber_69 rfl
(aw_sub [1, 2, 3, 0] rfl e71))))))))))))))))))))))))))))))))))))))
theorem vX7_readNumber {l : Launch} {P : Int → zM → Prop} {v1 : Int} {M : zM}
    (H0 : (CV l m_X7_skipBlanks [zr 7 0] M (fun M1 => LX7_readNumber_11 l P v1 (M1 7 0 3) 0 M1))) :
    CI l m_X7_readNumber [zr 7 0, zi v1] M P :=
(aw_aload_n d_X7_readNumber_0 rfl rfl 0 rfl (by decide)
(aw_VV (As := []) (st := []) d_X7_readNumber_1 rfl cv7_42 ⟨Nat.le_of_ble_eq_true rfl, Nat.le_of_ble_eq_true rfl⟩ rfl rfl (Nat.le_of_ble_eq_true rfl) (Nat.le_of_ble_eq_true rfl) H0 (fun M1 e2 => (aw_aload_n d_X7_readNumber_4 rfl rfl 0 rfl (by decide)
(aw_getI (kc := 3) d_X7_readNumber_5 rfl fl7_29 rfl rfl
(aw_istore_n (lv' := [(2, zi (M1 7 0 3)), (0, zr 7 0), (1, zi v1)]) d_X7_readNumber_8 rfl rfl (by decide) rfl
(aw_iconst d_X7_readNumber_9 rfl
(aw_istore_n (lv' := [(3, zi 0), (2, zi (M1 7 0 3)), (0, zr 7 0), (1, zi v1)]) d_X7_readNumber_10 rfl rfl (by decide) rfl
(aw_sub [2, 3, 1, 0] rfl e2)))))))))
theorem bt_b {M : zM} {b : Int → Int} {n i : Int} (h : tX M b n) : -1 ≤ bt b n i ∧ bt b n i < 256 := by
  unfold bt
  by_cases c : 0 ≤ i ∧ i < n
  · rw [if_pos c]
    have := (h.2 i c).2
    omega
  · rw [if_neg c]
    omega
theorem zl_b {s : Nat} (h : s < 12) : zl_ s ≤ 12 := by
  have : ∀ s : Fin 12, zl_ s.val ≤ 12 := by decide
  exact this ⟨s, h⟩
theorem zsb_z {s : Nat} {j : Int} : zI (zsb s j) := zI_of _
theorem c_X7_isWord {s : Nat} {i : Int} (hs : s < 12) (h : tX M b n) (hp : 0 ≤ M 7 0 3 ∧ M 7 0 3 ≤ n) (hi : 0 ≤ i ∧ i ≤ n) : CI l m_X7_isWord [zr 7 0, zi i, zr 61 s] M (fun x M' => x = zb (M 7 0 3 - i = zl_ s ∧ isWd s b n i = true) ∧ M' = M) := by
  have h1 := h.1
  have hl := zl_b hs
  have loop : ∀ (f : Nat) (k : Int), ((zl_ s : Int) - k).toNat = f → 0 ≤ k ∧ k ≤ zl_ s → LX7_isWord_17 l (fun x M' => x = zb (eqN s b n i f k = true) ∧ M' = M) s i k M := by
    intro f
    induction f with
    | zero =>
      intro k hf hk
      have e : ((zsLen.getD s 0 : Nat) : Int) = zl_ s := rfl
      refine vX7_isWord_17 ?_
      rw [e]
      exact ⟨by omega, by omega, fun _ => ⟨(zb_1 rfl).symm, rfl⟩, fun c => by omega⟩
    | succ f ih =>
      intro k hf hk
      have e : ((zsLen.getD s 0 : Nat) : Int) = zl_ s := rfl
      refine vX7_isWord_17 ?_
      rw [e]
      refine ⟨by omega, by omega, fun c => by omega, fun _ => (c_X7_byteAt h (by omega)).mono ?_⟩
      rintro x M2 ⟨ex, rfl⟩
      have bb := bt_b (i := i + k) h
      refine ⟨⟨hs, by omega, by omega⟩, by omega, zsb_z, fun c => ?_, fun c => ?_⟩
      · have e2 : eqN s b n i (f + 1) k = eqN s b n i f (k + 1) := by
          rw [eqN, decide_eq_true (by rw [← ex]; exact c), Bool.true_and]
        rw [e2]
        exact ih (k + 1) (by omega) (by omega)
      · refine ⟨(zb_f ?_).symm, rfl⟩
        rw [eqN, decide_eq_false (by rw [← ex]; exact c), Bool.false_and]
        exact Bool.false_ne_true
  have e : ((zsLen.getD s 0 : Nat) : Int) = zl_ s := rfl
  refine vX7_isWord ?_
  rw [e]
  refine ⟨by omega, by omega, fun c => ?_, fun c => ⟨(zb_f (fun q => c q.1)).symm, rfl⟩⟩
  have k := loop (zl_ s) 0 (by omega) (by omega)
  have e2 : zb (M 7 0 3 - i = zl_ s ∧ isWd s b n i = true) = zb (eqN s b n i (zl_ s) 0 = true) := by
    by_cases q : eqN s b n i (zl_ s) 0 = true
    · rw [zb_1 q, zb_1 (⟨c, q⟩ : M 7 0 3 - i = zl_ s ∧ isWd s b n i = true)]
    · rw [zb_f q, zb_f (fun r : M 7 0 3 - i = zl_ s ∧ isWd s b n i = true => q r.2)]
  rw [e2]
  exact k
end

