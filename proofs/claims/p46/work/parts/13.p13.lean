/-! ===== the class: small tests, what a hall says ===== -/
def zlw (w : Int) : Nat := if w = 1 then 5 else if w = 2 then 6 else if w = 3 then 7 else 4
theorem hS_sc (M : zM) (h : Nat) (k : Int) : qsc (hS M h) k = if 0 ≤ k ∧ k < 7 then M 1 h (6 + k) else 0 := rfl
theorem hS_sl (M : zM) (h : Nat) (t : Int) : qsl (hS M h) t = if 0 ≤ t ∧ t < M 1 h 6 then M 12 h t else 0 := rfl
theorem hS_gr (M : zM) (h : Nat) (t : Int) : qgr (hS M h) t = if 0 ≤ t ∧ t < M 1 h 6 then M 13 h t else 0 := rfl
theorem hS_un (M : zM) (h : Nat) (t : Int) : qun (hS M h) t = if 0 ≤ t ∧ t < M 1 h 6 then M 14 h t else 0 := rfl
theorem hS_sy (M : zM) (h : Nat) (t u : Int) : qsy (hS M h) t u = if hU M h t u then M 15 h (4 * t + u) else 0 := rfl
theorem hS_pu (M : zM) (h : Nat) (t : Int) : qpu (hS M h) t = if 0 ≤ t ∧ t < M 1 h 6 then M 16 h t else 0 := rfl
theorem hS_tr (M : zM) (h : Nat) (t : Int) : qtr (hS M h) t = if 0 ≤ t ∧ t < M 1 h 6 then M 17 h t else 0 := rfl
theorem hS_k (M : zM) (h : Nat) {k j : Int} (hk : 0 ≤ k ∧ k < 7) (hj : 6 + k = j) : qsc (hS M h) k = M 1 h j := by rw [hS_sc, if_pos hk, hj]
theorem hS_n (M : zM) (h : Nat) : qn (hS M h) = M 1 h 6 := hS_k M h (by omega) rfl
theorem hS_fee (M : zM) (h : Nat) : qfee (hS M h) = M 1 h 7 := hS_k M h (by omega) rfl
theorem hS_law (M : zM) (h : Nat) : qlaw (hS M h) = M 1 h 8 := hS_k M h (by omega) rfl
section
variable {l : Launch} {M : zM}
theorem vX8_isGrade {l : Launch} {P : Int → zM → Prop} {v0 : Int} {M : zM}
    (H0 : (zI v0 ∧ (v0 < 0 → P 0 M) ∧ (0 ≤ v0 → ((4 ≤ v0 → P 0 M) ∧ (v0 < 4 → P 1 M))))) :
    CI l m_X8_isGrade [zi v0] M P :=
(aw_iload_n d_X8_isGrade_0 rfl rfl 0 rfl
(have z1 := H0.1; have e2 := H0.2; aw_if_lt d_X8_isGrade_1 rfl rfl z1 (fun c3 => have e5 := e2.1 c3; (aw_iconst d_X8_isGrade_13 rfl
(aw_rz d_X8_isGrade_14 rfl (by decide) e5))) (fun c4 => have e6 := e2.2 c4; (aw_iload_n d_X8_isGrade_4 rfl rfl 0 rfl
(aw_iconst d_X8_isGrade_5 rfl
(aw_icmp_ge d_X8_isGrade_6 rfl rfl z1 (by decide) (fun c7 => have e9 := e6.1 c7; (aw_iconst d_X8_isGrade_13 rfl
(aw_rz d_X8_isGrade_14 rfl (by decide) e9))) (fun c8 => have e10 := e6.2 c8; (aw_iconst d_X8_isGrade_9 rfl
(aw_goto d_X8_isGrade_10 rfl
(aw_rz d_X8_isGrade_14 rfl (by decide) e10))))))))))
theorem vX8_isValue {l : Launch} {P : Int → zM → Prop} {v0 : Int} {M : zM}
    (H0 : (zI v0 ∧ (v0 < 0 → P 0 M) ∧ (0 ≤ v0 → ((9999 < v0 → P 0 M) ∧ (v0 ≤ 9999 → P 1 M))))) :
    CI l m_X8_isValue [zi v0] M P :=
(aw_iload_n d_X8_isValue_0 rfl rfl 0 rfl
(have z1 := H0.1; have e2 := H0.2; aw_if_lt d_X8_isValue_1 rfl rfl z1 (fun c3 => have e5 := e2.1 c3; (aw_iconst d_X8_isValue_15 rfl
(aw_rz d_X8_isValue_16 rfl (by decide) e5))) (fun c4 => have e6 := e2.2 c4; (aw_iload_n d_X8_isValue_4 rfl rfl 0 rfl
(aw_sipush d_X8_isValue_5 rfl (by decide)
(aw_icmp_gt d_X8_isValue_8 rfl rfl z1 (by decide) (fun c7 => have e9 := e6.1 c7; (aw_iconst d_X8_isValue_15 rfl
(aw_rz d_X8_isValue_16 rfl (by decide) e9))) (fun c8 => have e10 := e6.2 c8; (aw_iconst d_X8_isValue_11 rfl
(aw_goto d_X8_isValue_12 rfl
(aw_rz d_X8_isValue_16 rfl (by decide) e10))))))))))
theorem vX8_isFee {l : Launch} {P : Int → zM → Prop} {v0 : Int} {M : zM}
    (H0 : (zI v0 ∧ (v0 < 0 → P 0 M) ∧ (0 ≤ v0 → ((500 < v0 → P 0 M) ∧ (v0 ≤ 500 → P 1 M))))) :
    CI l m_X8_isFee [zi v0] M P :=
(aw_iload_n d_X8_isFee_0 rfl rfl 0 rfl
(have z1 := H0.1; have e2 := H0.2; aw_if_lt d_X8_isFee_1 rfl rfl z1 (fun c3 => have e5 := e2.1 c3; (aw_iconst d_X8_isFee_15 rfl
(aw_rz d_X8_isFee_16 rfl (by decide) e5))) (fun c4 => have e6 := e2.2 c4; (aw_iload_n d_X8_isFee_4 rfl rfl 0 rfl
(aw_sipush d_X8_isFee_5 rfl (by decide)
(aw_icmp_gt d_X8_isFee_8 rfl rfl z1 (by decide) (fun c7 => have e9 := e6.1 c7; (aw_iconst d_X8_isFee_15 rfl
(aw_rz d_X8_isFee_16 rfl (by decide) e9))) (fun c8 => have e10 := e6.2 c8; (aw_iconst d_X8_isFee_11 rfl
(aw_goto d_X8_isFee_12 rfl
(aw_rz d_X8_isFee_16 rfl (by decide) e10))))))))))
theorem vX8_isLaw {l : Launch} {P : Int → zM → Prop} {v0 : Int} {M : zM}
    (H0 : (zI v0 ∧ (v0 < 0 → P 0 M) ∧ (0 ≤ v0 → ((3 < v0 → P 0 M) ∧ (v0 ≤ 3 → P 1 M))))) :
    CI l m_X8_isLaw [zi v0] M P :=
(aw_iload_n d_X8_isLaw_0 rfl rfl 0 rfl
(have z1 := H0.1; have e2 := H0.2; aw_if_lt d_X8_isLaw_1 rfl rfl z1 (fun c3 => have e5 := e2.1 c3; (aw_iconst d_X8_isLaw_13 rfl
(aw_rz d_X8_isLaw_14 rfl (by decide) e5))) (fun c4 => have e6 := e2.2 c4; (aw_iload_n d_X8_isLaw_4 rfl rfl 0 rfl
(aw_iconst d_X8_isLaw_5 rfl
(aw_icmp_gt d_X8_isLaw_6 rfl rfl z1 (by decide) (fun c7 => have e9 := e6.1 c7; (aw_iconst d_X8_isLaw_13 rfl
(aw_rz d_X8_isLaw_14 rfl (by decide) e9))) (fun c8 => have e10 := e6.2 c8; (aw_iconst d_X8_isLaw_9 rfl
(aw_goto d_X8_isLaw_10 rfl
(aw_rz d_X8_isLaw_14 rfl (by decide) e10))))))))))
theorem vX8_isShelf {l : Launch} {P : Int → zM → Prop} {v0 : Int} {M : zM}
    (H0 : (zI v0 ∧ (v0 < 0 → P 0 M) ∧ (0 ≤ v0 → ((2 ≤ v0 → P 0 M) ∧ (v0 < 2 → P 1 M))))) :
    CI l m_X8_isShelf [zi v0] M P :=
(aw_iload_n d_X8_isShelf_0 rfl rfl 0 rfl
(have z1 := H0.1; have e2 := H0.2; aw_if_lt d_X8_isShelf_1 rfl rfl z1 (fun c3 => have e5 := e2.1 c3; (aw_iconst d_X8_isShelf_13 rfl
(aw_rz d_X8_isShelf_14 rfl (by decide) e5))) (fun c4 => have e6 := e2.2 c4; (aw_iload_n d_X8_isShelf_4 rfl rfl 0 rfl
(aw_iconst d_X8_isShelf_5 rfl
(aw_icmp_ge d_X8_isShelf_6 rfl rfl z1 (by decide) (fun c7 => have e9 := e6.1 c7; (aw_iconst d_X8_isShelf_13 rfl
(aw_rz d_X8_isShelf_14 rfl (by decide) e9))) (fun c8 => have e10 := e6.2 c8; (aw_iconst d_X8_isShelf_9 rfl
(aw_goto d_X8_isShelf_10 rfl
(aw_rz d_X8_isShelf_14 rfl (by decide) e10))))))))))
theorem vX8_bit {l : Launch} {P : Int → zM → Prop} {v0 : Int} {M : zM}
    (H0 : P (zshl 1 v0) M) :
    CI l m_X8_bit [zi v0] M P :=
(aw_iconst d_X8_bit_0 rfl
(aw_iload_n d_X8_bit_1 rfl rfl 0 rfl
(aw_ishl d_X8_bit_2 rfl zshl_h
(aw_ri d_X8_bit_3 rfl H0))))
theorem vX8_lawWord {l : Launch} {P : Nat → zM → Prop} {v0 : Int} {M : zM}
    (H0 : (zI v0 ∧ (v0 = 1 → P 5 M) ∧ (v0 = 2 → P 6 M) ∧ (v0 = 3 → P 7 M) ∧ ((v0 < 1 ∨ 3 < v0) → P 4 M))) :
    CR l m_X8_lawWord 61 [zi v0] M P :=
(aw_iload_n d_X8_lawWord_0 rfl rfl 0 rfl
(have z1 := H0.1; have e2 := H0.2; aw_table (offs := [27, 31, 35]) d_X8_lawWord_1 rfl z1 rfl ⟨fun c3 => ⟨28, rfl, have e4 := e2.1 c3; (aw_ldcSw (i := 5) (tx := "middle") d_X8_lawWord_28 rfl (by decide +kernel) (by decide)
(aw_rr d_X8_lawWord_31 rfl (by decide) e4))⟩, ⟨fun c5 => ⟨32, rfl, have e6 := e2.2.1 c5; (aw_ldcSw (i := 6) (tx := "less") d_X8_lawWord_32 rfl (by decide +kernel) (by decide)
(aw_rr d_X8_lawWord_35 rfl (by decide) e6))⟩, ⟨fun c7 => ⟨36, rfl, have e8 := e2.2.2.1 c7; (aw_ldcSw (i := 7) (tx := "apart") d_X8_lawWord_36 rfl (by decide +kernel) (by decide)
(aw_rr d_X8_lawWord_39 rfl (by decide) e8))⟩, trivial⟩⟩⟩ (fun c9 => have e10 := e2.2.2.2 c9; (aw_ldcSw (i := 4) (tx := "cut") d_X8_lawWord_40 rfl (by decide +kernel) (by decide)
(aw_rr d_X8_lawWord_43 rfl (by decide) e10)))))
theorem s_X8_isGrade {v : Int} (h : zI v) : CI l m_X8_isGrade [zi v] M (fun x M' => x = zb (0 ≤ v ∧ v < 4) ∧ M' = M) :=
  vX8_isGrade ⟨h, fun _ => ⟨(zb_f (by omega)).symm, rfl⟩, fun _ => ⟨fun _ => ⟨(zb_f (by omega)).symm, rfl⟩, fun _ => ⟨(zb_1 (by omega)).symm, rfl⟩⟩⟩
theorem s_X8_isValue {v : Int} (h : zI v) : CI l m_X8_isValue [zi v] M (fun x M' => x = zb (0 ≤ v ∧ v ≤ 9999) ∧ M' = M) :=
  vX8_isValue ⟨h, fun _ => ⟨(zb_f (by omega)).symm, rfl⟩, fun _ => ⟨fun _ => ⟨(zb_f (by omega)).symm, rfl⟩, fun _ => ⟨(zb_1 (by omega)).symm, rfl⟩⟩⟩
theorem s_X8_isFee {v : Int} (h : zI v) : CI l m_X8_isFee [zi v] M (fun x M' => x = zb (0 ≤ v ∧ v ≤ 500) ∧ M' = M) :=
  vX8_isFee ⟨h, fun _ => ⟨(zb_f (by omega)).symm, rfl⟩, fun _ => ⟨fun _ => ⟨(zb_f (by omega)).symm, rfl⟩, fun _ => ⟨(zb_1 (by omega)).symm, rfl⟩⟩⟩
theorem s_X8_isLaw {v : Int} (h : zI v) : CI l m_X8_isLaw [zi v] M (fun x M' => x = zb (0 ≤ v ∧ v ≤ 3) ∧ M' = M) :=
  vX8_isLaw ⟨h, fun _ => ⟨(zb_f (by omega)).symm, rfl⟩, fun _ => ⟨fun _ => ⟨(zb_f (by omega)).symm, rfl⟩, fun _ => ⟨(zb_1 (by omega)).symm, rfl⟩⟩⟩
theorem s_X8_isShelf {v : Int} (h : zI v) : CI l m_X8_isShelf [zi v] M (fun x M' => x = zb (0 ≤ v ∧ v < 2) ∧ M' = M) :=
  vX8_isShelf ⟨h, fun _ => ⟨(zb_f (by omega)).symm, rfl⟩, fun _ => ⟨fun _ => ⟨(zb_f (by omega)).symm, rfl⟩, fun _ => ⟨(zb_1 (by omega)).symm, rfl⟩⟩⟩
theorem s_X8_bit {v : Int} : CI l m_X8_bit [zi v] M (fun x M' => x = zshl 1 v ∧ M' = M) := vX8_bit ⟨rfl, rfl⟩
theorem s_X8_lawWord {v : Int} (h : zI v) : CR l m_X8_lawWord 61 [zi v] M (fun x M' => x = zlw v ∧ M' = M) := by
  refine vX8_lawWord ⟨h, fun e => ⟨?_, rfl⟩, fun e => ⟨?_, rfl⟩, fun e => ⟨?_, rfl⟩, fun e => ⟨?_, rfl⟩⟩
  · rw [zlw, if_pos e]
  · rw [zlw, if_neg (by omega), if_pos e]
  · rw [zlw, if_neg (by omega), if_neg (by omega), if_pos e]
  · rw [zlw, if_neg (by omega), if_neg (by omega), if_neg (by omega)]
theorem vX1_has {l : Launch} {P : Int → zM → Prop} {h : Nat} {v1 : Int} {M : zM}
    (H0 : (zI v1 ∧ (v1 < 0 → P 0 M) ∧ (0 ≤ v1 → (zI (M 1 h 6) ∧ ((M 1 h 6) ≤ v1 → P 0 M) ∧ (v1 < (M 1 h 6) → ((20 ≤ v1 → P 0 M) ∧ (v1 < 20 → P 1 M))))))) :
    CI l m_X1_has [zr 1 h, zi v1] M P :=
(aw_iload_n d_X1_has_0 rfl rfl 1 rfl
(have z1 := H0.1; have e2 := H0.2; aw_if_lt d_X1_has_1 rfl rfl z1 (fun c3 => have e5 := e2.1 c3; (aw_iconst d_X1_has_22 rfl
(aw_rz d_X1_has_23 rfl (by decide) e5))) (fun c4 => have e6 := e2.2 c4; (aw_iload_n d_X1_has_4 rfl rfl 1 rfl
(aw_aload_n d_X1_has_5 rfl rfl 0 rfl (by decide)
(aw_getI (kc := 6) d_X1_has_6 rfl fl1_31 rfl rfl
(have z7 := e6.1; have e8 := e6.2; aw_icmp_ge d_X1_has_9 rfl rfl z1 z7 (fun c9 => have e11 := e8.1 c9; (aw_iconst d_X1_has_22 rfl
(aw_rz d_X1_has_23 rfl (by decide) e11))) (fun c10 => have e12 := e8.2 c10; (aw_iload_n d_X1_has_12 rfl rfl 1 rfl
(aw_bipush d_X1_has_13 rfl (by decide)
(aw_icmp_ge d_X1_has_15 rfl rfl z1 (by decide) (fun c13 => have e15 := e12.1 c13; (aw_iconst d_X1_has_22 rfl
(aw_rz d_X1_has_23 rfl (by decide) e15))) (fun c14 => have e16 := e12.2 c14; (aw_iconst d_X1_has_18 rfl
(aw_goto d_X1_has_19 rfl
(aw_rz d_X1_has_23 rfl (by decide) e16)))))))))))))))
theorem vX1_hasUnit {l : Launch} {P : Int → zM → Prop} {h : Nat} {v1 : Int} {v2 : Int} {M : zM}
    (H0 : (zI v1 ∧ (v1 < 0 → P 0 M) ∧ (0 ≤ v1 → (zI (M 1 h 6) ∧ ((M 1 h 6) ≤ v1 → P 0 M) ∧ (v1 < (M 1 h 6) → ((20 ≤ v1 → P 0 M) ∧ (v1 < 20 → (zI v2 ∧ (v2 < 0 → P 0 M) ∧ (0 ≤ v2 → ((0 ≤ v1 ∧ v1 < 20) ∧ (zI (M 14 h v1) ∧ ((M 14 h v1) ≤ v2 → P 0 M) ∧ (v2 < (M 14 h v1) → ((4 ≤ v2 → P 0 M) ∧ (v2 < 4 → P 1 M)))))))))))))) :
    CI l m_X1_hasUnit [zr 1 h, zi v1, zi v2] M P :=
(aw_iload_n d_X1_hasUnit_0 rfl rfl 1 rfl
(have z1 := H0.1; have e2 := H0.2; aw_if_lt d_X1_hasUnit_1 rfl rfl z1 (fun c3 => have e5 := e2.1 c3; (aw_iconst d_X1_hasUnit_26 rfl
(aw_istore_n (lv' := [(3, zi 0), (0, zr 1 h), (1, zi v1), (2, zi v2)]) d_X1_hasUnit_27 rfl rfl (by decide) rfl
(aw_iload_n d_X1_hasUnit_28 rfl rfl 0 rfl
(aw_if_eq d_X1_hasUnit_29 rfl rfl (by decide) (fun _ => (aw_iconst d_X1_hasUnit_51 rfl
(aw_rz d_X1_hasUnit_52 rfl (by decide) e5))) (fun c7 => absurd c7 (by decide))))))) (fun c4 => have e6 := e2.2 c4; (aw_iload_n d_X1_hasUnit_4 rfl rfl 1 rfl
(aw_aload_n d_X1_hasUnit_5 rfl rfl 0 rfl (by decide)
(aw_getI (kc := 6) d_X1_hasUnit_6 rfl fl1_31 rfl rfl
(have z8 := e6.1; have e9 := e6.2; aw_icmp_ge d_X1_hasUnit_9 rfl rfl z1 z8 (fun c10 => have e12 := e9.1 c10; (aw_iconst d_X1_hasUnit_26 rfl
(aw_istore_n (lv' := [(3, zi 0), (0, zr 1 h), (1, zi v1), (2, zi v2)]) d_X1_hasUnit_27 rfl rfl (by decide) rfl
(aw_iload_n d_X1_hasUnit_28 rfl rfl 0 rfl
(aw_if_eq d_X1_hasUnit_29 rfl rfl (by decide) (fun _ => (aw_iconst d_X1_hasUnit_51 rfl
(aw_rz d_X1_hasUnit_52 rfl (by decide) e12))) (fun c14 => absurd c14 (by decide))))))) (fun c11 => have e13 := e9.2 c11; (aw_iload_n d_X1_hasUnit_12 rfl rfl 1 rfl
(aw_bipush d_X1_hasUnit_13 rfl (by decide)
(aw_icmp_ge d_X1_hasUnit_15 rfl rfl z1 (by decide) (fun c15 => have e17 := e13.1 c15; (aw_iconst d_X1_hasUnit_26 rfl
(aw_istore_n (lv' := [(3, zi 0), (0, zr 1 h), (1, zi v1), (2, zi v2)]) d_X1_hasUnit_27 rfl rfl (by decide) rfl
(aw_iload_n d_X1_hasUnit_28 rfl rfl 0 rfl
(aw_if_eq d_X1_hasUnit_29 rfl rfl (by decide) (fun _ => (aw_iconst d_X1_hasUnit_51 rfl
(aw_rz d_X1_hasUnit_52 rfl (by decide) e17))) (fun c19 => absurd c19 (by decide))))))) (fun c16 => have e18 := e13.2 c16; (aw_iload_n d_X1_hasUnit_18 rfl rfl 2 rfl
(have z20 := e18.1; have e21 := e18.2; aw_if_lt d_X1_hasUnit_19 rfl rfl z20 (fun c22 => have e24 := e21.1 c22; (aw_iconst d_X1_hasUnit_26 rfl
(aw_istore_n (lv' := [(3, zi 0), (0, zr 1 h), (1, zi v1), (2, zi v2)]) d_X1_hasUnit_27 rfl rfl (by decide) rfl
(aw_iload_n d_X1_hasUnit_28 rfl rfl 0 rfl
(aw_if_eq d_X1_hasUnit_29 rfl rfl (by decide) (fun _ => (aw_iconst d_X1_hasUnit_51 rfl
(aw_rz d_X1_hasUnit_52 rfl (by decide) e24))) (fun c26 => absurd c26 (by decide))))))) (fun c23 => have e25 := e21.2 c23; (aw_iconst d_X1_hasUnit_22 rfl
(aw_goto d_X1_hasUnit_23 rfl
(aw_istore_n (lv' := [(3, zi 1), (0, zr 1 h), (1, zi v1), (2, zi v2)]) d_X1_hasUnit_27 rfl rfl (by decide) rfl
(aw_iload_n d_X1_hasUnit_28 rfl rfl 0 rfl
(aw_if_eq d_X1_hasUnit_29 rfl rfl (by decide) (fun c27 => absurd c27 (by decide)) (fun _ => (aw_iload_n d_X1_hasUnit_32 rfl rfl 3 rfl
(aw_aload_n d_X1_hasUnit_33 rfl rfl 1 rfl (by decide)
(aw_getR (k' := 14) (a := 1) (b := 0) (j := h) d_X1_hasUnit_34 rfl fl1_19 rfl zj1 ⟨by decide, fun h => h⟩
(aw_iload_n d_X1_hasUnit_37 rfl rfl 2 rfl
(have z28 := e25.1; have e29 := e25.2; (aw_iald d_X1_hasUnit_38 rfl za14 z28
(have z30 := e29.1; have e31 := e29.2; aw_icmp_ge d_X1_hasUnit_39 rfl rfl z20 z30 (fun c32 => have e34 := e31.1 c32; (aw_iconst d_X1_hasUnit_51 rfl
(aw_rz d_X1_hasUnit_52 rfl (by decide) e34))) (fun c33 => have e35 := e31.2 c33; (aw_iload_n d_X1_hasUnit_42 rfl rfl 3 rfl
(aw_iconst d_X1_hasUnit_43 rfl
(aw_icmp_ge d_X1_hasUnit_44 rfl rfl z20 (by decide) (fun c36 => have e38 := e35.1 c36; (aw_iconst d_X1_hasUnit_51 rfl
(aw_rz d_X1_hasUnit_52 rfl (by decide) e38))) (fun c37 => have e39 := e35.2 c37; (aw_iconst d_X1_hasUnit_47 rfl
(aw_goto d_X1_hasUnit_48 rfl
(aw_rz d_X1_hasUnit_52 rfl (by decide) e39))))))))))))))))))))))))))))))))))))
theorem s_X1_has {h : Nat} {t : Int} (w : hW M h ∧ zI t) : CI l m_X1_has [zr 1 h, zi t] M (fun x M' => x = zb (0 ≤ t ∧ t < M 1 h 6) ∧ M' = M) := by
  obtain ⟨⟨w1, -, -⟩, w2⟩ := w
  exact vX1_has ⟨w2, fun _ => ⟨(zb_f (by omega)).symm, rfl⟩, fun _ => ⟨by omega, fun _ => ⟨(zb_f (by omega)).symm, rfl⟩, fun _ => ⟨fun _ => ⟨(zb_f (by omega)).symm, rfl⟩, fun _ => ⟨(zb_1 (by omega)).symm, rfl⟩⟩⟩⟩
theorem s_X1_hasUnit {h : Nat} {t u : Int} (w : hW M h ∧ zI t ∧ zI u) : CI l m_X1_hasUnit [zr 1 h, zi t, zi u] M (fun x M' => x = zb (hU M h t u) ∧ M' = M) := by
  obtain ⟨⟨w1, -, w3⟩, w2, w4⟩ := w
  refine vX1_hasUnit ⟨w2, fun _ => ⟨(zb_f (by unfold hU; omega)).symm, rfl⟩, fun _ => ⟨by omega, fun _ => ⟨(zb_f (by unfold hU; omega)).symm, rfl⟩, fun _ => ⟨fun _ => ⟨(zb_f (by unfold hU; omega)).symm, rfl⟩, fun _ => ⟨w4, fun _ => ⟨(zb_f (by unfold hU; omega)).symm, rfl⟩, fun _ => ⟨by omega, ?_⟩⟩⟩⟩⟩
  have h3 := w3 t (by omega)
  exact ⟨by omega, fun _ => ⟨(zb_f (by unfold hU; omega)).symm, rfl⟩, fun _ => ⟨fun _ => ⟨(zb_f (by unfold hU; omega)).symm, rfl⟩, fun _ => ⟨(zb_1 (by unfold hU; omega)).symm, rfl⟩⟩⟩
theorem vX1_isSeller {l : Launch} {P : Int → zM → Prop} {h : Nat} {v1 : Int} {M : zM}
    (H0 : ((hW M h ∧ zI v1) ∧ ((¬ (0 ≤ v1 ∧ v1 < M 1 h 6) → P 0 M) ∧ (0 ≤ v1 ∧ v1 < M 1 h 6 → ((0 ≤ v1 ∧ v1 < 20) ∧ (zI (M 12 h v1) ∧ ((M 12 h v1) = 0 → P 0 M) ∧ ((M 12 h v1) ≠ 0 → P 1 M))))))) :
    CI l m_X1_isSeller [zr 1 h, zi v1] M P :=
(aw_aload_n d_X1_isSeller_0 rfl rfl 0 rfl (by decide)
(aw_iload_n d_X1_isSeller_1 rfl rfl 1 rfl
(have z1 := H0.1; have e2 := H0.2; (aw_VI (As := [zi v1]) (st := []) d_X1_isSeller_2 rfl cv1_59 ⟨Nat.le_of_ble_eq_true rfl, Nat.le_of_ble_eq_true rfl⟩ rfl rfl (Nat.le_of_ble_eq_true rfl) (Nat.le_of_ble_eq_true rfl) (s_X1_has z1) (fun _ _ hq => aw_eqs hq
(aw_if_eq d_X1_isSeller_5 rfl rfl zb_I (fun c3 => have e5 := e2.1 (zb_0 c3); (aw_iconst d_X1_isSeller_21 rfl
(aw_rz d_X1_isSeller_22 rfl (by decide) e5))) (fun c4 => have e6 := e2.2 (zb_n0 c4); (aw_aload_n d_X1_isSeller_8 rfl rfl 0 rfl (by decide)
(aw_getR (k' := 12) (a := 1) (b := 0) (j := h) d_X1_isSeller_9 rfl fl1_9 rfl zj1 ⟨by decide, fun h => h⟩
(aw_iload_n d_X1_isSeller_12 rfl rfl 1 rfl
(have z7 := e6.1; have e8 := e6.2; (aw_zald d_X1_isSeller_13 rfl za12 z7
(have z9 := e8.1; have e10 := e8.2; aw_if_eq d_X1_isSeller_14 rfl rfl z9 (fun c11 => have e13 := e10.1 c11; (aw_iconst d_X1_isSeller_21 rfl
(aw_rz d_X1_isSeller_22 rfl (by decide) e13))) (fun c12 => have e14 := e10.2 c12; (aw_iconst d_X1_isSeller_17 rfl
(aw_goto d_X1_isSeller_18 rfl
(aw_rz d_X1_isSeller_22 rfl (by decide) e14)))))))))))))))))
theorem vX1_gradeOf {l : Launch} {P : Int → zM → Prop} {h : Nat} {v1 : Int} {M : zM}
    (H0 : ((hW M h ∧ zI v1) ∧ ((¬ (0 ≤ v1 ∧ v1 < M 1 h 6) → P (-1) M) ∧ (0 ≤ v1 ∧ v1 < M 1 h 6 → ((0 ≤ v1 ∧ v1 < 20) ∧ P (M 13 h v1) M))))) :
    CI l m_X1_gradeOf [zr 1 h, zi v1] M P :=
(aw_aload_n d_X1_gradeOf_0 rfl rfl 0 rfl (by decide)
(aw_iload_n d_X1_gradeOf_1 rfl rfl 1 rfl
(have z1 := H0.1; have e2 := H0.2; (aw_VI (As := [zi v1]) (st := []) d_X1_gradeOf_2 rfl cv1_59 ⟨Nat.le_of_ble_eq_true rfl, Nat.le_of_ble_eq_true rfl⟩ rfl rfl (Nat.le_of_ble_eq_true rfl) (Nat.le_of_ble_eq_true rfl) (s_X1_has z1) (fun _ _ hq => aw_eqs hq
(aw_if_eq d_X1_gradeOf_5 rfl rfl zb_I (fun c3 => have e5 := e2.1 (zb_0 c3); (aw_iconst d_X1_gradeOf_17 rfl
(aw_ri d_X1_gradeOf_18 rfl e5))) (fun c4 => have e6 := e2.2 (zb_n0 c4); (aw_aload_n d_X1_gradeOf_8 rfl rfl 0 rfl (by decide)
(aw_getR (k' := 13) (a := 1) (b := 0) (j := h) d_X1_gradeOf_9 rfl fl1_15 rfl zj1 ⟨by decide, fun h => h⟩
(aw_iload_n d_X1_gradeOf_12 rfl rfl 1 rfl
(have z7 := e6.1; have e8 := e6.2; (aw_iald d_X1_gradeOf_13 rfl za13 z7
(aw_goto d_X1_gradeOf_14 rfl
(aw_ri d_X1_gradeOf_18 rfl e8))))))))))))))
theorem vX1_unitsOf {l : Launch} {P : Int → zM → Prop} {h : Nat} {v1 : Int} {M : zM}
    (H0 : ((hW M h ∧ zI v1) ∧ ((¬ (0 ≤ v1 ∧ v1 < M 1 h 6) → P 0 M) ∧ (0 ≤ v1 ∧ v1 < M 1 h 6 → ((0 ≤ v1 ∧ v1 < 20) ∧ P (M 14 h v1) M))))) :
    CI l m_X1_unitsOf [zr 1 h, zi v1] M P :=
(aw_aload_n d_X1_unitsOf_0 rfl rfl 0 rfl (by decide)
(aw_iload_n d_X1_unitsOf_1 rfl rfl 1 rfl
(have z1 := H0.1; have e2 := H0.2; (aw_VI (As := [zi v1]) (st := []) d_X1_unitsOf_2 rfl cv1_59 ⟨Nat.le_of_ble_eq_true rfl, Nat.le_of_ble_eq_true rfl⟩ rfl rfl (Nat.le_of_ble_eq_true rfl) (Nat.le_of_ble_eq_true rfl) (s_X1_has z1) (fun _ _ hq => aw_eqs hq
(aw_if_eq d_X1_unitsOf_5 rfl rfl zb_I (fun c3 => have e5 := e2.1 (zb_0 c3); (aw_iconst d_X1_unitsOf_17 rfl
(aw_ri d_X1_unitsOf_18 rfl e5))) (fun c4 => have e6 := e2.2 (zb_n0 c4); (aw_aload_n d_X1_unitsOf_8 rfl rfl 0 rfl (by decide)
(aw_getR (k' := 14) (a := 1) (b := 0) (j := h) d_X1_unitsOf_9 rfl fl1_19 rfl zj1 ⟨by decide, fun h => h⟩
(aw_iload_n d_X1_unitsOf_12 rfl rfl 1 rfl
(have z7 := e6.1; have e8 := e6.2; (aw_iald d_X1_unitsOf_13 rfl za14 z7
(aw_goto d_X1_unitsOf_14 rfl
(aw_ri d_X1_unitsOf_18 rfl e8))))))))))))))
theorem vX1_purseOf {l : Launch} {P : Int → zM → Prop} {h : Nat} {v1 : Int} {M : zM}
    (H0 : ((hW M h ∧ zI v1) ∧ ((¬ (0 ≤ v1 ∧ v1 < M 1 h 6) → P 0 M) ∧ (0 ≤ v1 ∧ v1 < M 1 h 6 → ((0 ≤ v1 ∧ v1 < 20) ∧ P (M 16 h v1) M))))) :
    CI l m_X1_purseOf [zr 1 h, zi v1] M P :=
(aw_aload_n d_X1_purseOf_0 rfl rfl 0 rfl (by decide)
(aw_iload_n d_X1_purseOf_1 rfl rfl 1 rfl
(have z1 := H0.1; have e2 := H0.2; (aw_VI (As := [zi v1]) (st := []) d_X1_purseOf_2 rfl cv1_59 ⟨Nat.le_of_ble_eq_true rfl, Nat.le_of_ble_eq_true rfl⟩ rfl rfl (Nat.le_of_ble_eq_true rfl) (Nat.le_of_ble_eq_true rfl) (s_X1_has z1) (fun _ _ hq => aw_eqs hq
(aw_if_eq d_X1_purseOf_5 rfl rfl zb_I (fun c3 => have e5 := e2.1 (zb_0 c3); (aw_iconst d_X1_purseOf_17 rfl
(aw_ri d_X1_purseOf_18 rfl e5))) (fun c4 => have e6 := e2.2 (zb_n0 c4); (aw_aload_n d_X1_purseOf_8 rfl rfl 0 rfl (by decide)
(aw_getR (k' := 16) (a := 1) (b := 0) (j := h) d_X1_purseOf_9 rfl fl1_25 rfl zj1 ⟨by decide, fun h => h⟩
(aw_iload_n d_X1_purseOf_12 rfl rfl 1 rfl
(have z7 := e6.1; have e8 := e6.2; (aw_iald d_X1_purseOf_13 rfl za16 z7
(aw_goto d_X1_purseOf_14 rfl
(aw_ri d_X1_purseOf_18 rfl e8))))))))))))))
theorem vX1_tradedOf {l : Launch} {P : Int → zM → Prop} {h : Nat} {v1 : Int} {M : zM}
    (H0 : ((hW M h ∧ zI v1) ∧ ((¬ (0 ≤ v1 ∧ v1 < M 1 h 6) → P 0 M) ∧ (0 ≤ v1 ∧ v1 < M 1 h 6 → ((0 ≤ v1 ∧ v1 < 20) ∧ P (M 17 h v1) M))))) :
    CI l m_X1_tradedOf [zr 1 h, zi v1] M P :=
(aw_aload_n d_X1_tradedOf_0 rfl rfl 0 rfl (by decide)
(aw_iload_n d_X1_tradedOf_1 rfl rfl 1 rfl
(have z1 := H0.1; have e2 := H0.2; (aw_VI (As := [zi v1]) (st := []) d_X1_tradedOf_2 rfl cv1_59 ⟨Nat.le_of_ble_eq_true rfl, Nat.le_of_ble_eq_true rfl⟩ rfl rfl (Nat.le_of_ble_eq_true rfl) (Nat.le_of_ble_eq_true rfl) (s_X1_has z1) (fun _ _ hq => aw_eqs hq
(aw_if_eq d_X1_tradedOf_5 rfl rfl zb_I (fun c3 => have e5 := e2.1 (zb_0 c3); (aw_iconst d_X1_tradedOf_17 rfl
(aw_ri d_X1_tradedOf_18 rfl e5))) (fun c4 => have e6 := e2.2 (zb_n0 c4); (aw_aload_n d_X1_tradedOf_8 rfl rfl 0 rfl (by decide)
(aw_getR (k' := 17) (a := 1) (b := 0) (j := h) d_X1_tradedOf_9 rfl fl1_28 rfl zj1 ⟨by decide, fun h => h⟩
(aw_iload_n d_X1_tradedOf_12 rfl rfl 1 rfl
(have z7 := e6.1; have e8 := e6.2; (aw_iald d_X1_tradedOf_13 rfl za17 z7
(aw_goto d_X1_tradedOf_14 rfl
(aw_ri d_X1_tradedOf_18 rfl e8))))))))))))))
theorem vX1_said {l : Launch} {P : Int → zM → Prop} {h : Nat} {v1 : Int} {v2 : Int} {M : zM}
    (H0 : ((hW M h ∧ zI v1 ∧ zI v2) ∧ ((¬ (hU M h v1 v2) → P 0 M) ∧ (hU M h v1 v2 → ((0 ≤ ((v1 * 4) + v2) ∧ ((v1 * 4) + v2) < 80) ∧ P (M 15 h ((v1 * 4) + v2)) M))))) :
    CI l m_X1_said [zr 1 h, zi v1, zi v2] M P :=
(aw_aload_n d_X1_said_0 rfl rfl 0 rfl (by decide)
(aw_iload_n d_X1_said_1 rfl rfl 1 rfl
(aw_iload_n d_X1_said_2 rfl rfl 2 rfl
(have z1 := H0.1; have e2 := H0.2; (aw_VI (As := [zi v1, zi v2]) (st := []) d_X1_said_3 rfl cv1_63 ⟨Nat.le_of_ble_eq_true rfl, Nat.le_of_ble_eq_true rfl⟩ rfl rfl (Nat.le_of_ble_eq_true rfl) (Nat.le_of_ble_eq_true rfl) (s_X1_hasUnit z1) (fun _ _ hq => aw_eqs hq
(aw_if_eq d_X1_said_6 rfl rfl zb_I (fun c3 => have e5 := e2.1 (zb_0 c3); (aw_iconst d_X1_said_22 rfl
(aw_ri d_X1_said_23 rfl e5))) (fun c4 => have e6 := e2.2 (zb_n0 c4); (aw_aload_n d_X1_said_9 rfl rfl 0 rfl (by decide)
(aw_getR (k' := 15) (a := 1) (b := 0) (j := h) d_X1_said_10 rfl fl1_22 rfl zj1 ⟨by decide, fun h => h⟩
(aw_iload_n d_X1_said_13 rfl rfl 1 rfl
(aw_iconst d_X1_said_14 rfl
(aw_imul d_X1_said_15 rfl
(aw_iload_n d_X1_said_16 rfl rfl 2 rfl
(aw_iadd d_X1_said_17 rfl
(have z7 := e6.1; have e8 := e6.2; (aw_iald d_X1_said_18 rfl za15 z7
(aw_goto d_X1_said_19 rfl
(aw_ri d_X1_said_23 rfl e8)))))))))))))))))))
theorem vX1_inOrder {l : Launch} {P : Int → zM → Prop} {v0 : Int} {v1 : Int} {v2 : Int} {M : zM}
    (H0 : (zI v0 ∧ (v0 = 0 → (zI v2 ∧ zI v1 ∧ (v1 < v2 → P 0 M) ∧ (v2 ≤ v1 → P 1 M))) ∧ (v0 ≠ 0 → (zI v2 ∧ zI v1 ∧ (v2 < v1 → P 0 M) ∧ (v1 ≤ v2 → P 1 M))))) :
    CI l m_X1_inOrder [zi v0, zi v1, zi v2] M P :=
(aw_iload_n d_X1_inOrder_0 rfl rfl 0 rfl
(have z1 := H0.1; have e2 := H0.2; aw_if_eq d_X1_inOrder_1 rfl rfl z1 (fun c3 => have e5 := e2.1 c3; (aw_iload_n d_X1_inOrder_17 rfl rfl 2 rfl
(aw_iload_n d_X1_inOrder_18 rfl rfl 1 rfl
(have z7 := e5.1; have z8 := e5.2.1; have e9 := e5.2.2; aw_icmp_gt d_X1_inOrder_19 rfl rfl z7 z8 (fun c10 => have e12 := e9.1 c10; (aw_iconst d_X1_inOrder_26 rfl
(aw_rz d_X1_inOrder_27 rfl (by decide) e12))) (fun c11 => have e13 := e9.2 c11; (aw_iconst d_X1_inOrder_22 rfl
(aw_goto d_X1_inOrder_23 rfl
(aw_rz d_X1_inOrder_27 rfl (by decide) e13)))))))) (fun c4 => have e6 := e2.2 c4; (aw_iload_n d_X1_inOrder_4 rfl rfl 2 rfl
(aw_iload_n d_X1_inOrder_5 rfl rfl 1 rfl
(have z14 := e6.1; have z15 := e6.2.1; have e16 := e6.2.2; aw_icmp_lt d_X1_inOrder_6 rfl rfl z14 z15 (fun c17 => have e19 := e16.1 c17; (aw_iconst d_X1_inOrder_13 rfl
(aw_goto d_X1_inOrder_14 rfl
(aw_rz d_X1_inOrder_27 rfl (by decide) e19)))) (fun c18 => have e20 := e16.2 c18; (aw_iconst d_X1_inOrder_9 rfl
(aw_goto d_X1_inOrder_10 rfl
(aw_rz d_X1_inOrder_27 rfl (by decide) e20))))))))))
theorem s_X1_isSeller {h : Nat} {t : Int} (w : hW M h ∧ zI t) : CI l m_X1_isSeller [zr 1 h, zi t] M (fun x M' => x = zb (qsl (hS M h) t = 1) ∧ M' = M) := by
  refine vX1_isSeller ⟨w, fun e => ⟨(zb_f ?_).symm, rfl⟩, fun e => ?_⟩
  · rw [hS_sl, if_neg e]; omega
  · have h2 := w.1.2.1 t (by have := w.1.1; omega)
    refine ⟨by have := w.1.1; omega, by omega, fun h3 => ⟨(zb_f ?_).symm, rfl⟩, fun h3 => ⟨(zb_1 ?_).symm, rfl⟩⟩
    · rw [hS_sl, if_pos e]; omega
    · rw [hS_sl, if_pos e]; omega
theorem s_X1_gradeOf {h : Nat} {t : Int} (w : hW M h ∧ 0 ≤ t ∧ t < M 1 h 6) : CI l m_X1_gradeOf [zr 1 h, zi t] M (fun x M' => x = qgr (hS M h) t ∧ M' = M) := by
  have h1 := w.1.1
  refine vX1_gradeOf ⟨⟨w.1, by omega⟩, fun e => absurd w.2 e, fun e => ⟨by omega, ?_, rfl⟩⟩
  rw [hS_gr, if_pos e]
theorem s_X1_unitsOf {h : Nat} {t : Int} (w : hW M h ∧ zI t) : CI l m_X1_unitsOf [zr 1 h, zi t] M (fun x M' => x = qun (hS M h) t ∧ M' = M) := by
  have h1 := w.1.1
  refine vX1_unitsOf ⟨w, fun e => ⟨?_, rfl⟩, fun e => ⟨by omega, ?_, rfl⟩⟩
  · rw [hS_un, if_neg e]
  · rw [hS_un, if_pos e]
theorem s_X1_purseOf {h : Nat} {t : Int} (w : hW M h ∧ zI t) : CI l m_X1_purseOf [zr 1 h, zi t] M (fun x M' => x = qpu (hS M h) t ∧ M' = M) := by
  have h1 := w.1.1
  refine vX1_purseOf ⟨w, fun e => ⟨?_, rfl⟩, fun e => ⟨by omega, ?_, rfl⟩⟩
  · rw [hS_pu, if_neg e]
  · rw [hS_pu, if_pos e]
theorem s_X1_tradedOf {h : Nat} {t : Int} (w : hW M h ∧ zI t) : CI l m_X1_tradedOf [zr 1 h, zi t] M (fun x M' => x = qtr (hS M h) t ∧ M' = M) := by
  have h1 := w.1.1
  refine vX1_tradedOf ⟨w, fun e => ⟨?_, rfl⟩, fun e => ⟨by omega, ?_, rfl⟩⟩
  · rw [hS_tr, if_neg e]
  · rw [hS_tr, if_pos e]
theorem s_X1_said {h : Nat} {t u : Int} (w : hW M h ∧ zI t ∧ zI u) : CI l m_X1_said [zr 1 h, zi t, zi u] M (fun x M' => x = qsy (hS M h) t u ∧ M' = M) := by
  have h1 := w.1.1
  refine vX1_said ⟨w, fun e => ⟨?_, rfl⟩, fun e => ?_⟩
  · rw [hS_sy, if_neg e]
  · have e2 := e
    obtain ⟨e3, e4, e5, e6⟩ := e
    have h3 := w.1.2.2 t ⟨e3, e4⟩
    refine ⟨by omega, ?_, rfl⟩
    rw [hS_sy, if_pos e2]
    rw [Int.mul_comm]
theorem s_X1_inOrder {r a b : Int} (w : zI r ∧ zI a ∧ zI b) : CI l m_X1_inOrder [zi r, zi a, zi b] M (fun x M' => x = zb ((r ≠ 0 ∧ a ≤ b) ∨ (r = 0 ∧ b ≤ a)) ∧ M' = M) :=
  vX1_inOrder ⟨w.1, fun _ => ⟨w.2.2, w.2.1, fun _ => ⟨(zb_f (by omega)).symm, rfl⟩, fun _ => ⟨(zb_1 (by omega)).symm, rfl⟩⟩, fun _ => ⟨w.2.2, w.2.1, fun _ => ⟨(zb_f (by omega)).symm, rfl⟩, fun _ => ⟨(zb_1 (by omega)).symm, rfl⟩⟩⟩
end

