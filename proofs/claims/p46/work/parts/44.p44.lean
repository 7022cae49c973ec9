/-! ===== the JDK's strings; a hall as a text ===== -/
def zw (s : Nat) : List Int := (zsByt.getD s []).map Int32.toInt
def sep (L : List Int) : List Int := if L = [] then [] else [59]
def ten : Nat → Int
  | 0 => 1
  | k + 1 => ten k * 10
def dgF (v : Int) : Nat → List Int
  | 0 => [48 + v / ten 0 % 10]
  | k + 1 => (48 + v / ten (k + 1) % 10) :: dgF v k
def top (v : Int) : Nat := if v < 10 then 0 else if v < 100 then 1 else if v < 1000 then 2 else 3
def tnum (v : Int) : List Int := 32 :: dgF v (top v)
def tUn (S : zS) (t : Int) : Nat → List Int
  | 0 => []
  | u + 1 => tUn S t u ++ tnum (qsy S t u)
def tTs (S : zS) : Nat → List Int
  | 0 => []
  | t + 1 => tTs S t ++ sep (tTs S t) ++ zw (if qsl S t = 1 then 1 else 0) ++ tnum (qgr S t) ++ tUn S t (qun S t).toNat
def tFe (S : zS) : List Int := if qfee S = 0 then tTs S (qn S).toNat else tTs S (qn S).toNat ++ sep (tTs S (qn S).toNat) ++ zw 2 ++ tnum (qfee S)
def tAll (S : zS) : List Int := if qlaw S = 0 then tFe S else tFe S ++ sep (tFe S) ++ zw 3 ++ [32] ++ zw (zlw (qlaw S))
theorem zw_len : ∀ s : Fin 12, zsLen.getD s.val 0 = (zw s.val).length ∧ (zw s.val).length ≤ 7 := by decide +kernel
theorem zw_le {s : Nat} (h : s < 12) : ((zsLen.getD s 0 : Nat) : Int) = (zw s).length ∧ (zw s).length ≤ 7 := by
  have := zw_len ⟨s, h⟩
  exact ⟨by rw [this.1], this.2⟩
theorem zw_at {s : Nat} {j : Int} : zsb s j = (zw s).getD j.toNat 0 := by
  unfold zsb zw
  generalize zsByt.getD s [] = R
  rw [List.getD_eq_getElem?_getD, List.getD_eq_getElem?_getD, List.getElem?_map]
  cases R[j.toNat]? <;> rfl
theorem zw_ch : ∀ s : Fin 12, ∀ j : Fin 7, j.val < (zw s.val).length → zand ((zw s.val).getD j.val 0) 255 = (zw s.val).getD j.val 0 ∧ 0 ≤ (zw s.val).getD j.val 0 ∧ (zw s.val).getD j.val 0 < 128 := by decide +kernel
theorem zw_c {s : Nat} {j : Int} (h : s < 12) (hj : 0 ≤ j ∧ j < ((zw s).length : Int)) : zand (zsb s j) 255 = zsb s j ∧ 0 ≤ zsb s j ∧ zsb s j < 128 := by
  rw [zw_at]
  have := (zw_le h).2
  exact zw_ch ⟨s, h⟩ ⟨j.toNat, by omega⟩ (by show j.toNat < (zw s).length; omega)
theorem zshr_0 {x : Int} (h : zI x) : zshr x 0 = x := by
  have := shr_b (s := x) (k := 0) (by omega)
  rw [show (0 : Int).toNat = 0 from rfl, BitVec.sshiftRight_zero] at this
  have h2 := Int32.toBitVec_inj.mp this
  unfold zshr at h2 ⊢
  rw [Int32.ofInt_toInt] at h2
  rw [h2]
  exact Int32.toInt_ofInt_of_le (by omega) (by omega)
theorem zlen7 (s : Nat) : zsLen.getD s 0 ≤ 7 := by
  have h : ∀ n ∈ zsLen, n ≤ 7 := by decide
  rw [List.getD_eq_getElem?_getD]
  cases q : zsLen[s]? with
  | none => simp
  | some n => exact h n (List.mem_of_getElem? q)
theorem nar_ch {x : Int} (h : 0 ≤ x ∧ x < 128) : narrow .char (.int (Int32.ofInt x)) = .int (Int32.ofInt x) := by
  have key : ∀ n : Fin 128, narrow .char (.int (Int32.ofInt (n.val : Int))) = .int (Int32.ofInt (n.val : Int)) := by decide +kernel
  have := key ⟨x.toNat, by omega⟩
  rwa [show (((⟨x.toNat, by omega⟩ : Fin 128).val : Nat) : Int) = x by show ((x.toNat : Nat) : Int) = x; omega] at this
theorem ten_v : ten 0 = 1 ∧ ten 1 = 10 ∧ ten 2 = 100 ∧ ten 3 = 1000 := ⟨rfl, rfl, rfl, rfl⟩
theorem ten_b : ∀ {k : Nat}, k ≤ 3 → 1 ≤ ten k ∧ ten k ≤ 1000
  | 0, _ => by rw [ten_v.1]; omega
  | 1, _ => by rw [ten_v.2.1]; omega
  | 2, _ => by rw [ten_v.2.2.1]; omega
  | 3, _ => by rw [ten_v.2.2.2]; omega
theorem dgF_len {v : Int} : ∀ k, (dgF v k).length = k + 1
  | 0 => rfl
  | k + 1 => by rw [dgF, List.length_cons, dgF_len k]
theorem top_3 (v : Int) : top v ≤ 3 := by
  unfold top
  split
  · omega
  · split
    · omega
    · split <;> omega
theorem tnum_len (v : Int) : (tnum v).length ≤ 5 := by
  rw [tnum, List.length_cons, dgF_len]
  have := top_3 v
  omega
theorem sep_len (L : List Int) : (sep L).length ≤ 1 := by
  unfold sep
  split <;> simp
theorem tUn_len {S : zS} {t : Int} : ∀ u, (tUn S t u).length ≤ 5 * u
  | 0 => by simp [tUn]
  | u + 1 => by
    rw [tUn, List.length_append]
    have := tUn_len (S := S) (t := t) u
    have := tnum_len (qsy S t u)
    omega
theorem tnum_g {v : Int} (h : v < 10) : (tnum v).length = 2 := by
  rw [tnum, List.length_cons, dgF_len]
  unfold top
  rw [if_pos h]
theorem zw_l6 {c : Prop} [Decidable c] : (zw (if c then 1 else 0)).length ≤ 6 := by
  split
  · show (zw 1).length ≤ 6; decide
  · show (zw 0).length ≤ 6; decide
theorem tTs_len {S : zS} (h : okS S) : ∀ n : Nat, (n : Int) ≤ qn S → (tTs S n).length ≤ 29 * n
  | 0, _ => by simp [tTs]
  | t + 1, hn => by
    rw [tTs]
    simp only [List.length_append]
    have h1 := tTs_len h t (by omega)
    have h2 := sep_len (tTs S t)
    have h3 := zw_l6 (c := qsl S t = 1)
    have h4 := tnum_g (v := qgr S t) (by have := h.2.1 t (by omega); omega)
    have h5 := tUn_len (S := S) (t := (t : Int)) (qun S t).toNat
    have h6 := h.1.2.1 t (by omega)
    omega
theorem tFe_len {S : zS} (h : okS S) : (tFe S).length ≤ 589 := by
  have hn := h.1.1
  have h1 := tTs_len h (qn S).toNat (by omega)
  have h2 := sep_len (tTs S (qn S).toNat)
  have h3 : (zw 2).length = 3 := by decide
  have h4 := tnum_len (qfee S)
  unfold tFe
  split
  · omega
  · simp only [List.length_append]; omega
theorem zlw_12 {w : Int} : zlw w < 12 := by
  unfold zlw
  split
  · omega
  · split
    · omega
    · split <;> omega
theorem tAll_len {S : zS} (h : okS S) : (tAll S).length ≤ 620 := by
  have h1 := tFe_len h
  have h2 := sep_len (tFe S)
  have h3 : (zw 3).length = 3 := by decide
  have h4 := (zw_le (zlw_12 (w := qlaw S))).2
  unfold tAll
  split
  · omega
  · simp only [List.length_append, List.length_singleton]; omega
section
variable {l : Launch} {M : zM} {S : zS}
theorem vJ0_coder_7d493 {l : Launch} {P : Int → zM → Prop} {s : Nat} {M : zM}
    (H0 : P 0 M) :
    CI l m_J0_coder_7d493 [zr 61 s] M P :=
(aw_compact d_J0_coder_7d493_0 rfl cf_38
(aw_if_eq d_J0_coder_7d493_3 rfl rfl (by decide) (fun c1 => absurd c1 (by decide)) (fun _ => (aw_aload_n d_J0_coder_7d493_6 rfl rfl 0 rfl (by decide)
(aw_coder d_J0_coder_7d493_7 rfl cf_15
(aw_goto d_J0_coder_7d493_10 rfl
(aw_rb d_J0_coder_7d493_14 rfl (by decide) H0)))))))
theorem vJ0_isLatin1_aae02 {l : Launch} {P : Int → zM → Prop} {s : Nat} {M : zM}
    (H0 : P 1 M) :
    CI l m_J0_isLatin1_aae02 [zr 61 s] M P :=
(aw_compact d_J0_isLatin1_aae02_0 rfl cf_38
(aw_if_eq d_J0_isLatin1_aae02_3 rfl rfl (by decide) (fun c1 => absurd c1 (by decide)) (fun _ => (aw_aload_n d_J0_isLatin1_aae02_6 rfl rfl 0 rfl (by decide)
(aw_coder d_J0_isLatin1_aae02_7 rfl cf_15
(aw_if_ne d_J0_isLatin1_aae02_10 rfl rfl (by decide) (fun c2 => absurd c2 (by decide)) (fun _ => (aw_iconst d_J0_isLatin1_aae02_13 rfl
(aw_goto d_J0_isLatin1_aae02_14 rfl
(aw_rz d_J0_isLatin1_aae02_18 rfl (by decide) H0))))))))))
theorem vJ3_checkIndex_8e157 {l : Launch} {P : Int → zM → Prop} {v0 : Int} {v1 : Int} {M : zM}
    (H0 : (zI v0 ∧ (v0 < 0 → False) ∧ (0 ≤ v0 → (zI v1 ∧ (v0 < v1 → P v0 M) ∧ (v1 ≤ v0 → False))))) :
    CI l m_J3_checkIndex_8e157 [zi v0, zi v1, zr 63 0] M P :=
(aw_iload_n d_J3_checkIndex_8e157_0 rfl rfl 0 rfl
(have z1 := H0.1; have e2 := H0.2; aw_if_lt d_J3_checkIndex_8e157_1 rfl rfl z1 (fun c3 => have e5 := e2.1 c3; (e5).elim) (fun c4 => have e6 := e2.2 c4; (aw_iload_n d_J3_checkIndex_8e157_4 rfl rfl 0 rfl
(aw_iload_n d_J3_checkIndex_8e157_5 rfl rfl 1 rfl
(have z7 := e6.1; have e8 := e6.2; aw_icmp_lt d_J3_checkIndex_8e157_6 rfl rfl z1 z7 (fun c9 => have e11 := e8.1 c9; (aw_iload_n d_J3_checkIndex_8e157_16 rfl rfl 0 rfl
(aw_ri d_J3_checkIndex_8e157_17 rfl e11))) (fun c10 => have e12 := e8.2 c10; (e12).elim)))))))
theorem vJ0_checkIndex_df160 {l : Launch} {P : zM → Prop} {v0 : Int} {v1 : Int} {M : zM}
    (H0 : (CI l m_J3_checkIndex_8e157 [zi v0, zi v1, zr 63 0] M (fun x4 M1 => P M1))) :
    CV l m_J0_checkIndex_df160 [zi v0, zi v1] M P :=
(aw_iload_n d_J0_checkIndex_df160_0 rfl rfl 0 rfl
(aw_iload_n d_J0_checkIndex_df160_1 rfl rfl 1 rfl
(aw_former d_J0_checkIndex_df160_2 rfl cf_1053
(aw_SI (As := [zi v0, zi v1, zr 63 0]) (st := []) d_J0_checkIndex_df160_5 rfl csJ0_1059 ⟨Nat.le_of_ble_eq_true rfl, Nat.le_of_ble_eq_true rfl⟩ rfl rfl (Nat.le_of_ble_eq_true rfl) (Nat.le_of_ble_eq_true rfl) H0 (fun x4 M1 e2 => (aw_pop d_J0_checkIndex_df160_8 rfl rfl
(aw_rv d_J0_checkIndex_df160_9 rfl e2)))))))
theorem vJ1_charAt_3b067 {l : Launch} {P : Int → zM → Prop} {s0 : Nat} {v1 : Int} {M : zM}
    (H0 : (CV l m_J0_checkIndex_df160 [zi v1, zi ((zsLen.getD s0 0 : Nat) : Int)] M (fun M1 => ((0 ≤ v1 ∧ v1 < (zsLen.getD s0 0 : Nat) ∧ zsLen.getD s0 0 < 2000000000) ∧ ((0 ≤ (zand (zsb s0 v1) 255) ∧ (zand (zsb s0 v1) 255) < 65536) ∧ (narrow .char (.int (Int32.ofInt (zand (zsb s0 v1) 255))) = .int (Int32.ofInt (zand (zsb s0 v1) 255)) ∧ P (zand (zsb s0 v1) 255) M1)))))) :
    CI l m_J1_charAt_3b067 [zr 62 s0, zi v1] M P :=
(aw_iload_n d_J1_charAt_3b067_0 rfl rfl 1 rfl
(aw_aload_n d_J1_charAt_3b067_1 rfl rfl 0 rfl (by decide)
(aw_slen d_J1_charAt_3b067_2 rfl
(aw_SV (As := [zi v1, zi ((zsLen.getD s0 0 : Nat) : Int)]) (st := []) d_J1_charAt_3b067_3 rfl csJ1_9 ⟨Nat.le_of_ble_eq_true rfl, Nat.le_of_ble_eq_true rfl⟩ rfl rfl (Nat.le_of_ble_eq_true rfl) (Nat.le_of_ble_eq_true rfl) H0 (fun M1 e2 => (aw_aload_n d_J1_charAt_3b067_6 rfl rfl 0 rfl (by decide)
(aw_iload_n d_J1_charAt_3b067_7 rfl rfl 1 rfl
(have z4 := e2.1; have e7 := e2.2; (aw_sbyte d_J1_charAt_3b067_8 rfl ⟨z4.1, z4.2.1⟩ (zsb_h _ _) z4.2.2
(aw_sipush d_J1_charAt_3b067_9 rfl (by decide)
(aw_iand d_J1_charAt_3b067_12 rfl zand_h
(have z8 := e7.1; have e9 := e7.2; (aw_i2c d_J1_charAt_3b067_13 rfl z8
(aw_rc d_J1_charAt_3b067_14 rfl e9.1 e9.2))))))))))))))
theorem s_J0_coder_7d493 {s : Nat} : CI l m_J0_coder_7d493 [zr 61 s] M (fun x M' => x = 0 ∧ M' = M) := vJ0_coder_7d493 ⟨rfl, rfl⟩
theorem s_J0_isLatin1_aae02 {s : Nat} : CI l m_J0_isLatin1_aae02 [zr 61 s] M (fun x M' => x = 1 ∧ M' = M) := vJ0_isLatin1_aae02 ⟨rfl, rfl⟩
theorem c_J1_charAt {s : Nat} {j : Int} (h : s < 12 ∧ 0 ≤ j ∧ j < (zsLen.getD s 0 : Nat)) : CI l m_J1_charAt_3b067 [zr 62 s, zi j] M (fun x M' => x = zsb s j ∧ M' = M) := by
  have hl := zw_le h.1
  have hc := zw_c h.1 (j := j) (by omega)
  refine vJ1_charAt_3b067 (vJ0_checkIndex_df160 (vJ3_checkIndex_8e157 ⟨by omega, fun e => by omega, fun _ => ⟨by omega, fun _ => ?_, fun e => by omega⟩⟩))
  rw [hc.1]
  exact ⟨⟨h.2.1, h.2.2, by omega⟩, by omega, nar_ch hc.2, rfl, rfl⟩
theorem vJ0_length_8abf5 {l : Launch} {P : Int → zM → Prop} {s : Nat} {M : zM}
    (H0 : (CI l m_J0_coder_7d493 [zr 61 s] M (fun x4 M1 => P (zshr ((zsLen.getD s 0 : Nat) : Int) x4) M1))) :
    CI l m_J0_length_8abf5 [zr 61 s] M P :=
(aw_aload_n d_J0_length_8abf5_0 rfl rfl 0 rfl (by decide)
(aw_value d_J0_length_8abf5_1 rfl cf_9
(aw_slen d_J0_length_8abf5_4 rfl
(aw_aload_n d_J0_length_8abf5_5 rfl rfl 0 rfl (by decide)
(aw_TI (As := []) (st := [zi ((zsLen.getD s 0 : Nat) : Int)]) d_J0_length_8abf5_6 rfl ctJ0_335 ⟨Nat.le_of_ble_eq_true rfl, Nat.le_of_ble_eq_true rfl⟩ rfl rfl (Nat.le_of_ble_eq_true rfl) (Nat.le_of_ble_eq_true rfl) H0 (fun x4 M1 e2 => (aw_ishr d_J0_length_8abf5_9 rfl zshr_h
(aw_ri d_J0_length_8abf5_10 rfl e2))))))))
theorem vJ0_charAt_5068e {l : Launch} {P : Int → zM → Prop} {s : Nat} {v1 : Int} {M : zM}
    (H0 : (CI l m_J0_isLatin1_aae02 [zr 61 s] M (fun x4 M1 => (zI x4 ∧ (x4 = 0 → False) ∧ (x4 ≠ 0 → (CI l m_J1_charAt_3b067 [zr 62 s, zi v1] M1 (fun x14 M11 => (narrow .char (.int (Int32.ofInt x14)) = .int (Int32.ofInt x14) ∧ P x14 M11)))))))) :
    CI l m_J0_charAt_5068e [zr 61 s, zi v1] M P :=
(aw_aload_n d_J0_charAt_5068e_0 rfl rfl 0 rfl (by decide)
(aw_TI (As := []) (st := []) d_J0_charAt_5068e_1 rfl ctJ0_492 ⟨Nat.le_of_ble_eq_true rfl, Nat.le_of_ble_eq_true rfl⟩ rfl rfl (Nat.le_of_ble_eq_true rfl) (Nat.le_of_ble_eq_true rfl) H0 (fun x4 M1 e2 => (have z5 := e2.1; have e6 := e2.2; aw_if_eq d_J0_charAt_5068e_4 rfl rfl z5 (fun c7 => have e9 := e6.1 c7; (aw_aload_n d_J0_charAt_5068e_16 rfl rfl 0 rfl (by decide)
(aw_value d_J0_charAt_5068e_17 rfl cf_9
(aw_iload_n d_J0_charAt_5068e_20 rfl rfl 1 rfl
(e9).elim)))) (fun c8 => have e10 := e6.2 c8; (aw_aload_n d_J0_charAt_5068e_7 rfl rfl 0 rfl (by decide)
(aw_value d_J0_charAt_5068e_8 rfl cf_9
(aw_iload_n d_J0_charAt_5068e_11 rfl rfl 1 rfl
(aw_SI (As := [zr 62 s, zi v1]) (st := []) d_J0_charAt_5068e_12 rfl csJ0_495 ⟨Nat.le_of_ble_eq_true rfl, Nat.le_of_ble_eq_true rfl⟩ rfl rfl (Nat.le_of_ble_eq_true rfl) (Nat.le_of_ble_eq_true rfl) e10 (fun x14 M11 e12 => (aw_rc d_J0_charAt_5068e_15 rfl e12.1 e12.2)))))))))))
theorem s_J0_length_8abf5 {s : Nat} : CI l m_J0_length_8abf5 [zr 61 s] M (fun x M' => x = ((zsLen.getD s 0 : Nat) : Int) ∧ M' = M) := by
  have := zlen7 s
  exact vJ0_length_8abf5 (s_J0_coder_7d493.eq ⟨zshr_0 (by omega), rfl⟩)
theorem s_J0_charAt_5068e {s : Nat} {j : Int} (h : s < 12 ∧ 0 ≤ j ∧ j < (zsLen.getD s 0 : Nat)) : CI l m_J0_charAt_5068e [zr 61 s, zi j] M (fun x M' => x = zsb s j ∧ M' = M) := by
  have hl := zw_le h.1
  have hc := zw_c h.1 (j := j) (by omega)
  exact vJ0_charAt_5068e (s_J0_isLatin1_aae02.eq ⟨by omega, fun e => by omega, fun _ => (c_J1_charAt h).eq ⟨nar_ch hc.2, rfl, rfl⟩⟩)
/-! the class writes -/
def kLt (k : Nat) : Prop := k = 3 ∨ k = 19
def txR (M : zM) (L : List Int) : Prop := M 3 0 1 = L.length ∧ rwI M 19 0 L
theorem app_at {L : List Int} {c : Int} {j : Nat} : (L ++ [c]).getD j 0 = if j < L.length then L.getD j 0 else if j = L.length then c else 0 := by
  rw [List.getD_eq_getElem?_getD, List.getElem?_append]
  split
  · rw [List.getD_eq_getElem?_getD]
  · split
    · next h => rw [h]; simp
    · rw [List.getElem?_eq_none (by simp; omega)]; rfl
theorem vX3_put {l : Launch} {P : zM → Prop} {v1 : Int} {M : zM}
    (H0 : (zI (M 3 0 1) ∧ ((M 3 0 1) < 0 → P M) ∧ (0 ≤ (M 3 0 1) → ((640 ≤ (M 3 0 1) → P M) ∧ ((M 3 0 1) < 640 → ((0 ≤ (M 3 0 1) ∧ (M 3 0 1) < 640) ∧ ∀ M12 : zM, M12 = zu M 19 0 (M 3 0 1) v1 → (∀ M14 : zM, M14 = zu M12 3 0 1 ((M12 3 0 1) + 1) → P M14))))))) :
    CV l m_X3_put [zr 3 0, zi v1] M P :=
(aw_aload_n d_X3_put_0 rfl rfl 0 rfl (by decide)
(aw_getI (kc := 1) d_X3_put_1 rfl fl3_15 rfl rfl
(have z1 := H0.1; have e2 := H0.2; aw_if_lt d_X3_put_4 rfl rfl z1 (fun c3 => have e5 := e2.1 c3; (aw_rv d_X3_put_37 rfl e5)) (fun c4 => have e6 := e2.2 c4; (aw_aload_n d_X3_put_7 rfl rfl 0 rfl (by decide)
(aw_getI (kc := 1) d_X3_put_8 rfl fl3_15 rfl rfl
(aw_sipush d_X3_put_11 rfl (by decide)
(aw_icmp_ge d_X3_put_14 rfl rfl z1 (by decide) (fun c7 => have e9 := e6.1 c7; (aw_rv d_X3_put_37 rfl e9)) (fun c8 => have e10 := e6.2 c8; (aw_aload_n d_X3_put_17 rfl rfl 0 rfl (by decide)
(aw_getR (k' := 19) (a := 0) (b := 0) (j := 0) d_X3_put_18 rfl fl3_9 rfl zj0 ⟨by decide, fun _ => by decide⟩
(aw_aload_n d_X3_put_21 rfl rfl 0 rfl (by decide)
(aw_getI (kc := 1) d_X3_put_22 rfl fl3_15 rfl rfl
(aw_iload_n d_X3_put_25 rfl rfl 1 rfl
(have z11 := e10.1; have e13 := e10.2 _ rfl; aw_iast d_X3_put_26 rfl za19 z11
(aw_aload_n d_X3_put_27 rfl rfl 0 rfl (by decide)
(aw_dup d_X3_put_28 rfl rfl
(aw_getI (kc := 1) d_X3_put_29 rfl fl3_15 rfl rfl
(aw_iconst d_X3_put_32 rfl
(aw_iadd d_X3_put_33 rfl
(have e15 := e13 _ rfl; aw_put (kc := 1) d_X3_put_34 rfl fp3_15 rfl rfl rfl rfl
(aw_rv d_X3_put_37 rfl e15))))))))))))))))))))))
def LX3_putWord_2 (l : Launch) (P : zM → Prop) (s1 : Nat) (v2 : Int) (M : zM) : Prop := AW l m_X3_putWord (zTv m_X3_putWord P) 2 [(0, zr 3 0), (1, zr 61 s1), (2, zi v2)] [] M
theorem vX3_putWord_2 {l : Launch} {P : zM → Prop} {s1 : Nat} {v2 : Int} {M : zM}
    (H0 : (zI v2 ∧ zI ((zsLen.getD s1 0 : Nat) : Int) ∧ (((zsLen.getD s1 0 : Nat) : Int) ≤ v2 → P M) ∧ (v2 < ((zsLen.getD s1 0 : Nat) : Int) → ((s1 < 12 ∧ 0 ≤ v2 ∧ v2 < (zsLen.getD s1 0 : Nat)) ∧ (CV l m_X3_put [zr 3 0, zi (zsb s1 v2)] M (fun M10 => LX3_putWord_2 l P s1 (v2 + 1) M10)))))) :
    LX3_putWord_2 l P s1 v2 M :=
(aw_iload_n d_X3_putWord_2 rfl rfl 2 rfl
(aw_aload_n d_X3_putWord_3 rfl rfl 1 rfl (by decide)
(aw_TI (As := []) (st := [zi v2]) d_X3_putWord_4 rfl ct3_67 ⟨Nat.le_of_ble_eq_true rfl, Nat.le_of_ble_eq_true rfl⟩ rfl rfl (Nat.le_of_ble_eq_true rfl) (Nat.le_of_ble_eq_true rfl) (s_J0_length_8abf5) (fun _ _ hq => aw_eqs hq
(have z1 := H0.1; have z2 := H0.2.1; have e3 := H0.2.2; aw_icmp_ge d_X3_putWord_7 rfl rfl z1 z2 (fun c4 => have e6 := e3.1 c4; (aw_rv d_X3_putWord_25 rfl e6)) (fun c5 => have e7 := e3.2 c5; (aw_aload_n d_X3_putWord_10 rfl rfl 0 rfl (by decide)
(aw_aload_n d_X3_putWord_11 rfl rfl 1 rfl (by decide)
(aw_iload_n d_X3_putWord_12 rfl rfl 2 rfl
(have z8 := e7.1; have e9 := e7.2; (aw_TI (As := [zi v2]) (st := [zr 3 0]) d_X3_putWord_13 rfl ct3_73 ⟨Nat.le_of_ble_eq_true rfl, Nat.le_of_ble_eq_true rfl⟩ rfl rfl (Nat.le_of_ble_eq_true rfl) (Nat.le_of_ble_eq_true rfl) (s_J0_charAt_5068e z8) (fun _ _ hq => aw_eqs hq
(aw_VV (As := [zi (zsb s1 v2)]) (st := []) d_X3_putWord_16 rfl cv3_57 ⟨Nat.le_of_ble_eq_true rfl, Nat.le_of_ble_eq_true rfl⟩ rfl rfl (Nat.le_of_ble_eq_true rfl) (Nat.le_of_ble_eq_true rfl) e9 (fun M10 e11 => (aw_iinc (lv' := [(2, zi (v2 + 1)), (0, zr 3 0), (1, zr 61 s1)]) (y := (v2 + 1)) d_X3_putWord_19 rfl 2 rfl (by decide) rfl rfl
(aw_goto d_X3_putWord_22 rfl
(aw_sub [1, 2, 0] rfl e11)))))))))))))))))
theorem vX3_putWord {l : Launch} {P : zM → Prop} {s1 : Nat} {M : zM}
    (H0 : LX3_putWord_2 l P s1 0 M) :
    CV l m_X3_putWord [zr 3 0, zr 61 s1] M P :=
(aw_iconst d_X3_putWord_0 rfl
(aw_istore_n (lv' := [(2, zi 0), (0, zr 3 0), (1, zr 61 s1)]) d_X3_putWord_1 rfl rfl (by decide) rfl
(aw_sub [1, 2, 0] rfl H0)))
theorem vX3_beginPart {l : Launch} {P : zM → Prop} {s1 : Nat} {M : zM}
    (H0 : (zI (M 3 0 1) ∧ ((M 3 0 1) ≤ 0 → (CV l m_X3_putWord [zr 3 0, zr 61 s1] M (fun M7 => P M7))) ∧ (0 < (M 3 0 1) → (CV l m_X3_put [zr 3 0, zi 59] M (fun M10 => (CV l m_X3_putWord [zr 3 0, zr 61 s1] M10 (fun M13 => P M13))))))) :
    CV l m_X3_beginPart [zr 3 0, zr 61 s1] M P :=
(aw_aload_n d_X3_beginPart_0 rfl rfl 0 rfl (by decide)
(aw_getI (kc := 1) d_X3_beginPart_1 rfl fl3_15 rfl rfl
(have z1 := H0.1; have e2 := H0.2; aw_if_le d_X3_beginPart_4 rfl rfl z1 (fun c3 => have e5 := e2.1 c3; (aw_aload_n d_X3_beginPart_13 rfl rfl 0 rfl (by decide)
(aw_aload_n d_X3_beginPart_14 rfl rfl 1 rfl (by decide)
(aw_VV (As := [zr 61 s1]) (st := []) d_X3_beginPart_15 rfl cv3_64 ⟨Nat.le_of_ble_eq_true rfl, Nat.le_of_ble_eq_true rfl⟩ rfl rfl (Nat.le_of_ble_eq_true rfl) (Nat.le_of_ble_eq_true rfl) e5 (fun M7 e8 => (aw_rv d_X3_beginPart_18 rfl e8)))))) (fun c4 => have e6 := e2.2 c4; (aw_aload_n d_X3_beginPart_7 rfl rfl 0 rfl (by decide)
(aw_bipush d_X3_beginPart_8 rfl (by decide)
(aw_VV (As := [zi 59]) (st := []) d_X3_beginPart_10 rfl cv3_57 ⟨Nat.le_of_ble_eq_true rfl, Nat.le_of_ble_eq_true rfl⟩ rfl rfl (Nat.le_of_ble_eq_true rfl) (Nat.le_of_ble_eq_true rfl) e6 (fun M10 e11 => (aw_aload_n d_X3_beginPart_13 rfl rfl 0 rfl (by decide)
(aw_aload_n d_X3_beginPart_14 rfl rfl 1 rfl (by decide)
(aw_VV (As := [zr 61 s1]) (st := []) d_X3_beginPart_15 rfl cv3_64 ⟨Nat.le_of_ble_eq_true rfl, Nat.le_of_ble_eq_true rfl⟩ rfl rfl (Nat.le_of_ble_eq_true rfl) (Nat.le_of_ble_eq_true rfl) e11 (fun M13 e14 => (aw_rv d_X3_beginPart_18 rfl e14)))))))))))))
def LX3_putNumber_12 (l : Launch) (P : zM → Prop) (v1 : Int) (v2 : Int) (v3 : Int) (M : zM) : Prop := AW l m_X3_putNumber (zTv m_X3_putNumber P) 12 [(0, zr 3 0), (1, zi v1), (2, zi v2), (3, zi v3)] [] M
theorem vX3_putNumber_12 {l : Launch} {P : zM → Prop} {v1 : Int} {v2 : Int} {v3 : Int} {M : zM}
    (H0 : (zI v3 ∧ (v3 < 1 → P M) ∧ (1 ≤ v3 → (zI v2 ∧ (v2 ≠ 0 → (zI v1 ∧ v3 ≠ 0 ∧ (zI (Int.tdiv v1 v3) ∧ (CV l m_X3_put [zr 3 0, zi (48 + (Int.tmod (Int.tdiv v1 v3) 10))] M (fun M22 => LX3_putNumber_12 l P v1 1 (Int.tdiv v3 10) M22))))) ∧ (v2 = 0 → (zI v1 ∧ (v3 ≤ v1 → (v3 ≠ 0 ∧ (zI (Int.tdiv v1 v3) ∧ (CV l m_X3_put [zr 3 0, zi (48 + (Int.tmod (Int.tdiv v1 v3) 10))] M (fun M36 => LX3_putNumber_12 l P v1 1 (Int.tdiv v3 10) M36))))) ∧ (v1 < v3 → ((v3 ≠ 1 → LX3_putNumber_12 l P v1 0 (Int.tdiv v3 10) M) ∧ (v3 = 1 → (v3 ≠ 0 ∧ (zI (Int.tdiv v1 v3) ∧ (CV l m_X3_put [zr 3 0, zi (48 + (Int.tmod (Int.tdiv v1 v3) 10))] M (fun M49 => LX3_putNumber_12 l P v1 1 (Int.tdiv v3 10) M49))))))))))))) :
    LX3_putNumber_12 l P v1 v2 v3 M :=
(aw_iload_n d_X3_putNumber_12 rfl rfl 3 rfl
(aw_iconst d_X3_putNumber_13 rfl
(have z4 := H0.1; have e5 := H0.2; aw_icmp_lt d_X3_putNumber_14 rfl rfl z4 (by decide) (fun c6 => have e8 := e5.1 c6; (aw_rv d_X3_putNumber_62 rfl e8)) (fun c7 => have e9 := e5.2 c7; (aw_iload_n d_X3_putNumber_17 rfl rfl 2 rfl
(have z10 := e9.1; have e11 := e9.2; aw_if_ne d_X3_putNumber_18 rfl rfl z10 (fun c12 => have e14 := e11.1 c12; (aw_iconst d_X3_putNumber_31 rfl
(aw_goto d_X3_putNumber_32 rfl
(aw_istore_n (lv' := [(2, zi 1), (0, zr 3 0), (1, zi v1), (3, zi v3)]) d_X3_putNumber_36 rfl rfl (by decide) rfl
(aw_iload_n d_X3_putNumber_37 rfl rfl 0 rfl
(aw_if_eq d_X3_putNumber_38 rfl rfl (by decide) (fun c16 => absurd c16 (by decide)) (fun _ => (aw_aload_n d_X3_putNumber_41 rfl rfl 1 rfl (by decide)
(aw_bipush d_X3_putNumber_42 rfl (by decide)
(aw_iload_n d_X3_putNumber_44 rfl rfl 2 rfl
(aw_iload_n d_X3_putNumber_45 rfl rfl 3 rfl
(have z17 := e14.1; have z18 := e14.2.1; have e19 := e14.2.2; (aw_idiv d_X3_putNumber_46 rfl z17 z4 z18
(aw_bipush d_X3_putNumber_47 rfl (by decide)
(have z20 := e19.1; have e21 := e19.2; (aw_irem d_X3_putNumber_49 rfl z20 (by decide) (by decide)
(aw_iadd d_X3_putNumber_50 rfl
(aw_VV (As := [zi (48 + (Int.tmod (Int.tdiv v1 v3) 10))]) (st := []) d_X3_putNumber_51 rfl cv3_57 ⟨Nat.le_of_ble_eq_true rfl, Nat.le_of_ble_eq_true rfl⟩ rfl rfl (Nat.le_of_ble_eq_true rfl) (Nat.le_of_ble_eq_true rfl) e21 (fun M22 e23 => (aw_iload_n d_X3_putNumber_54 rfl rfl 3 rfl
(aw_bipush d_X3_putNumber_55 rfl (by decide)
(aw_idiv d_X3_putNumber_57 rfl z4 (by decide) (by decide)
(aw_istore_n (lv' := [(3, zi (Int.tdiv v3 10)), (2, zi 1), (0, zr 3 0), (1, zi v1)]) d_X3_putNumber_58 rfl rfl (by decide) rfl
(aw_goto d_X3_putNumber_59 rfl
(aw_sub [2, 3, 1, 0] rfl e23))))))))))))))))))))))))) (fun c13 => have e15 := e11.2 c13; (aw_iload_n d_X3_putNumber_21 rfl rfl 1 rfl
(aw_iload_n d_X3_putNumber_22 rfl rfl 3 rfl
(have z25 := e15.1; have e26 := e15.2; aw_icmp_ge d_X3_putNumber_23 rfl rfl z25 z4 (fun c27 => have e29 := e26.1 c27; (aw_iconst d_X3_putNumber_31 rfl
(aw_goto d_X3_putNumber_32 rfl
(aw_istore_n (lv' := [(2, zi 1), (0, zr 3 0), (1, zi v1), (3, zi v3)]) d_X3_putNumber_36 rfl rfl (by decide) rfl
(aw_iload_n d_X3_putNumber_37 rfl rfl 0 rfl
(aw_if_eq d_X3_putNumber_38 rfl rfl (by decide) (fun c31 => absurd c31 (by decide)) (fun _ => (aw_aload_n d_X3_putNumber_41 rfl rfl 1 rfl (by decide)
(aw_bipush d_X3_putNumber_42 rfl (by decide)
(aw_iload_n d_X3_putNumber_44 rfl rfl 2 rfl
(aw_iload_n d_X3_putNumber_45 rfl rfl 3 rfl
(have z32 := e29.1; have e33 := e29.2; (aw_idiv d_X3_putNumber_46 rfl z25 z4 z32
(aw_bipush d_X3_putNumber_47 rfl (by decide)
(have z34 := e33.1; have e35 := e33.2; (aw_irem d_X3_putNumber_49 rfl z34 (by decide) (by decide)
(aw_iadd d_X3_putNumber_50 rfl
(aw_VV (As := [zi (48 + (Int.tmod (Int.tdiv v1 v3) 10))]) (st := []) d_X3_putNumber_51 rfl cv3_57 ⟨Nat.le_of_ble_eq_true rfl, Nat.le_of_ble_eq_true rfl⟩ rfl rfl (Nat.le_of_ble_eq_true rfl) (Nat.le_of_ble_eq_true rfl) e35 (fun M36 e37 => (aw_iload_n d_X3_putNumber_54 rfl rfl 3 rfl
(aw_bipush d_X3_putNumber_55 rfl (by decide)
(aw_idiv d_X3_putNumber_57 rfl z4 (by decide) (by decide)
(aw_istore_n (lv' := [(3, zi (Int.tdiv v3 10)), (2, zi 1), (0, zr 3 0), (1, zi v1)]) d_X3_putNumber_58 rfl rfl (by decide) rfl
(aw_goto d_X3_putNumber_59 rfl
(aw_sub [2, 3, 1, 0] rfl e37))))))))))))))))))))))))) (fun c28 => have e30 := e26.2 c28; (aw_iload_n d_X3_putNumber_26 rfl rfl 3 rfl
(aw_iconst d_X3_putNumber_27 rfl
(aw_icmp_ne d_X3_putNumber_28 rfl rfl z4 (by decide) (fun c39 => have e41 := e30.1 c39; (aw_iconst d_X3_putNumber_35 rfl
(aw_istore_n (lv' := [(2, zi 0), (0, zr 3 0), (1, zi v1), (3, zi v3)]) d_X3_putNumber_36 rfl rfl (by decide) rfl
(aw_iload_n d_X3_putNumber_37 rfl rfl 0 rfl
(aw_if_eq d_X3_putNumber_38 rfl rfl (by decide) (fun _ => (aw_iload_n d_X3_putNumber_54 rfl rfl 3 rfl
(aw_bipush d_X3_putNumber_55 rfl (by decide)
(aw_idiv d_X3_putNumber_57 rfl z4 (by decide) (by decide)
(aw_istore_n (lv' := [(3, zi (Int.tdiv v3 10)), (2, zi 0), (0, zr 3 0), (1, zi v1)]) d_X3_putNumber_58 rfl rfl (by decide) rfl
(aw_goto d_X3_putNumber_59 rfl
(aw_sub [2, 3, 1, 0] rfl e41))))))) (fun c43 => absurd c43 (by decide))))))) (fun c40 => have e42 := e30.2 c40; (aw_iconst d_X3_putNumber_31 rfl
(aw_goto d_X3_putNumber_32 rfl
(aw_istore_n (lv' := [(2, zi 1), (0, zr 3 0), (1, zi v1), (3, zi v3)]) d_X3_putNumber_36 rfl rfl (by decide) rfl
(aw_iload_n d_X3_putNumber_37 rfl rfl 0 rfl
(aw_if_eq d_X3_putNumber_38 rfl rfl (by decide) (fun c44 => absurd c44 (by decide)) (fun _ => (aw_aload_n d_X3_putNumber_41 rfl rfl 1 rfl (by decide)
(aw_bipush d_X3_putNumber_42 rfl (by decide)
(aw_iload_n d_X3_putNumber_44 rfl rfl 2 rfl
(aw_iload_n d_X3_putNumber_45 rfl rfl 3 rfl
(have z45 := e42.1; have e46 := e42.2; (aw_idiv d_X3_putNumber_46 rfl z25 z4 z45
(aw_bipush d_X3_putNumber_47 rfl (by decide)
(have z47 := e46.1; have e48 := e46.2; (aw_irem d_X3_putNumber_49 rfl z47 (by decide) (by decide)
(aw_iadd d_X3_putNumber_50 rfl
(aw_VV (As := [zi (48 + (Int.tmod (Int.tdiv v1 v3) 10))]) (st := []) d_X3_putNumber_51 rfl cv3_57 ⟨Nat.le_of_ble_eq_true rfl, Nat.le_of_ble_eq_true rfl⟩ rfl rfl (Nat.le_of_ble_eq_true rfl) (Nat.le_of_ble_eq_true rfl) e48 (fun M49 e50 => (aw_iload_n d_X3_putNumber_54 rfl rfl 3 rfl
(aw_bipush d_X3_putNumber_55 rfl (by decide)
(aw_idiv d_X3_putNumber_57 rfl z4 (by decide) (by decide)
(aw_istore_n (lv' := [(3, zi (Int.tdiv v3 10)), (2, zi 1), (0, zr 3 0), (1, zi v1)]) d_X3_putNumber_58 rfl rfl (by decide) rfl
(aw_goto d_X3_putNumber_59 rfl
(aw_sub [2, 3, 1, 0] rfl e50)))))))))))))))))))))))))))))))))))))))
theorem vX3_putNumber {l : Launch} {P : zM → Prop} {v1 : Int} {M : zM}
    (H0 : (CV l m_X3_put [zr 3 0, zi 32] M (fun M1 => LX3_putNumber_12 l P v1 0 1000 M1))) :
    CV l m_X3_putNumber [zr 3 0, zi v1] M P :=
(aw_aload_n d_X3_putNumber_0 rfl rfl 0 rfl (by decide)
(aw_bipush d_X3_putNumber_1 rfl (by decide)
(aw_VV (As := [zi 32]) (st := []) d_X3_putNumber_3 rfl cv3_57 ⟨Nat.le_of_ble_eq_true rfl, Nat.le_of_ble_eq_true rfl⟩ rfl rfl (Nat.le_of_ble_eq_true rfl) (Nat.le_of_ble_eq_true rfl) H0 (fun M1 e2 => (aw_iconst d_X3_putNumber_6 rfl
(aw_istore_n (lv' := [(2, zi 0), (0, zr 3 0), (1, zi v1)]) d_X3_putNumber_7 rfl rfl (by decide) rfl
(aw_sipush d_X3_putNumber_8 rfl (by decide)
(aw_istore_n (lv' := [(3, zi 1000), (2, zi 0), (0, zr 3 0), (1, zi v1)]) d_X3_putNumber_11 rfl rfl (by decide) rfl
(aw_sub [2, 3, 1, 0] rfl e2)))))))))
theorem c_X3_put {L : List Int} {c : Int} (r : txR M L) (hl : L.length < 640) : CV l m_X3_put [zr 3 0, zi c] M (fun M' => Fr kLt M M' ∧ txR M' (L ++ [c])) := by
  refine vX3_put ?_
  rw [r.1]
  refine ⟨by omega, fun e => by omega, fun _ => ⟨fun e => by omega, fun _ => ⟨by omega, fun M1 q1 M2 q2 => ?_⟩⟩⟩
  have e3 : M1 3 = M 3 := by funext i; rw [q1, zu_k (by decide)]
  rw [e3, r.1] at q2
  refine ⟨by rw [q2, q1]; exact (Fr.zu (.inr rfl)).tr (Fr.zu (.inl rfl)), by rw [q2, zu_at, if_pos rfl, List.length_append]; simp, fun j hj => ?_⟩
  rw [q2, zu_k (by decide), q1, zu_at, app_at]
  rw [List.length_append, List.length_singleton] at hj
  by_cases e : j = (L.length : Int)
  · rw [if_pos e, if_neg (by omega), if_pos (by omega)]
  · rw [if_neg e, if_pos (by omega), r.2 j (by omega)]
theorem c_X3_putWord {L : List Int} {s : Nat} (hs : s < 12) (r : txR M L) (hl : L.length + (zw s).length ≤ 640) : CV l m_X3_putWord [zr 3 0, zr 61 s] M (fun M' => Fr kLt M M' ∧ txR M' (L ++ zw s)) := by
  have hw := zw_le hs
  have loop : ∀ (n j : Nat) (M' : zM), (zw s).length - j = n → j ≤ (zw s).length → Fr kLt M M' → txR M' (L ++ (zw s).take j) → LX3_putWord_2 l (fun M' => Fr kLt M M' ∧ txR M' (L ++ zw s)) s (j : Int) M' := by
    intro n
    induction n with
    | zero =>
      intro j M' hn hj f r
      have : j = (zw s).length := by omega
      subst this
      rw [List.take_length] at r
      exact vX3_putWord_2 ⟨by omega, by omega, fun _ => ⟨f, r⟩, fun e => by omega⟩
    | succ n ih =>
      intro j M' hn hj f r
      refine vX3_putWord_2 ⟨by omega, by omega, fun e => by omega, fun _ => ⟨⟨hs, by omega, by omega⟩, ?_⟩⟩
      refine (c_X3_put r (by rw [List.length_append, List.length_take]; omega)).mono ?_
      rintro M2 ⟨f2, r2⟩
      have := ih (j + 1) M2 (by omega) (by omega) (f.tr f2) (by
        have ht := take_at (L := zw s) (j := (j : Int)) (by omega)
        rw [show ((j : Int) + 1).toNat = j + 1 by omega, show ((j : Int)).toNat = j by omega] at ht
        rw [ht, ← List.append_assoc]
        rw [zw_at, show ((j : Int)).toNat = j by omega] at r2
        exact r2)
      rw [show ((j + 1 : Nat) : Int) = (j : Int) + 1 by omega] at this
      exact this
  exact vX3_putWord (loop _ 0 M rfl (by omega) Fr.rf (by simpa using r))
theorem c_X3_beginPart {L : List Int} {s : Nat} (hs : s < 12) (r : txR M L) (hl : L.length + 1 + (zw s).length ≤ 640) : CV l m_X3_beginPart [zr 3 0, zr 61 s] M (fun M' => Fr kLt M M' ∧ txR M' (L ++ sep L ++ zw s)) := by
  refine vX3_beginPart ?_
  rw [r.1]
  refine ⟨by omega, fun e => ?_, fun e => ?_⟩
  · have : L = [] := List.length_eq_zero_iff.mp (by omega)
    subst this
    exact c_X3_putWord (L := []) hs r (by simp only [List.length_nil] at hl ⊢; omega)
  · have hne : L ≠ [] := by intro q; rw [q] at e; simp at e
    refine (c_X3_put r (by omega)).mono ?_
    rintro M1 ⟨f1, r1⟩
    refine (c_X3_putWord hs r1 (by rw [List.length_append]; simp; omega)).mono ?_
    rintro M2 ⟨f2, r2⟩
    refine ⟨f1.tr f2, ?_⟩
    rw [sep, if_neg hne]
    exact r2
theorem c_X3_putNumber {L : List Int} {v : Int} (hv : 0 ≤ v ∧ v ≤ 9999) (r : txR M L) (hl : L.length + 5 ≤ 640) : CV l m_X3_putNumber [zr 3 0, zi v] M (fun M' => Fr kLt M M' ∧ txR M' (L ++ tnum v)) := by
  have begun : ∀ (k : Nat) (M' : zM) (L' : List Int), k ≤ 3 → L'.length + k + 1 ≤ 640 → Fr kLt M M' → txR M' L' → (∀ M'', Fr kLt M M'' → txR M'' (L' ++ dgF v k) → Fr kLt M M'' ∧ txR M'' (L ++ tnum v)) → LX3_putNumber_12 l (fun M' => Fr kLt M M' ∧ txR M' (L ++ tnum v)) v 1 (ten k) M' := by
    intro k
    induction k with
    | zero =>
      intro M' L' hk hl' f r kk
      have tb := ten_b (k := 0) (by omega)
      have hd : 0 ≤ v / ten 0 ∧ v / ten 0 ≤ v := ⟨Int.ediv_nonneg hv.1 (by omega), Int.ediv_le_self _ hv.1⟩
      refine vX3_putNumber_12 ⟨by omega, fun e => by omega, fun _ => ⟨by omega, fun _ => ⟨by omega, by omega, by rw [tdiv_n hv.1]; omega, ?_⟩, fun e => by omega⟩⟩
      rw [tdiv_n hv.1, tmod_n hd.1]
      refine (c_X3_put r (by omega)).mono ?_
      rintro M2 ⟨f2, r2⟩
      refine vX3_putNumber_12 ⟨by rw [ten_v.1]; decide, fun _ => kk M2 (f.tr f2) r2, fun e => absurd e (by rw [ten_v.1]; decide)⟩
    | succ k ih =>
      intro M' L' hk hl' f r kk
      have tb := ten_b (k := k + 1) hk
      have tb2 := ten_b (k := k) (by omega)
      have hd : 0 ≤ v / ten (k + 1) ∧ v / ten (k + 1) ≤ v := ⟨Int.ediv_nonneg hv.1 (by omega), Int.ediv_le_self _ hv.1⟩
      refine vX3_putNumber_12 ⟨by omega, fun e => by omega, fun _ => ⟨by omega, fun _ => ⟨by omega, by omega, by rw [tdiv_n hv.1]; omega, ?_⟩, fun e => by omega⟩⟩
      rw [tdiv_n hv.1, tmod_n hd.1]
      have et : Int.tdiv (ten (k + 1)) 10 = ten k := by rw [tdiv_n (by omega), ten]; omega
      rw [et]
      refine (c_X3_put r (by omega)).mono ?_
      rintro M2 ⟨f2, r2⟩
      refine ih M2 _ (by omega) (by rw [List.length_append]; simp; omega) (f.tr f2) r2 (fun M3 f3 r3 => kk M3 f3 ?_)
      rw [dgF]
      rw [List.append_assoc] at r3
      exact r3
  have first : ∀ (k : Nat) (M' : zM), k ≤ 3 → (∀ q, k < q → q ≤ 3 → v < ten q) → Fr kLt M M' → txR M' (L ++ [32]) → LX3_putNumber_12 l (fun M' => Fr kLt M M' ∧ txR M' (L ++ tnum v)) v 0 (ten k) M' := by
    intro k
    induction k with
    | zero =>
      intro M' hk hq f r
      have q1 := hq 1 (by omega) (by omega)
      rw [ten_v.2.1] at q1
      have et : top v = 0 := by unfold top; rw [if_pos q1]
      have hd : 0 ≤ v / ten 0 ∧ v / ten 0 ≤ v := ⟨Int.ediv_nonneg hv.1 (by decide), Int.ediv_le_self _ hv.1⟩
      have go : CV l m_X3_put [zr 3 0, zi (48 + (Int.tmod (Int.tdiv v (ten 0)) 10))] M' (fun M' => LX3_putNumber_12 l (fun M' => Fr kLt M M' ∧ txR M' (L ++ tnum v)) v 1 (Int.tdiv (ten 0) 10) M') := by
        rw [tdiv_n hv.1, tmod_n hd.1]
        refine (c_X3_put r (by rw [List.length_append]; simp; omega)).mono ?_
        rintro M2 ⟨f2, r2⟩
        refine vX3_putNumber_12 ⟨by rw [ten_v.1]; decide, fun _ => ⟨f.tr f2, ?_⟩, fun e => absurd e (by rw [ten_v.1]; decide)⟩
        rw [tnum, et, dgF]
        rw [List.append_assoc] at r2
        exact r2
      have z1 : zI (Int.tdiv v (ten 0)) := by rw [tdiv_n hv.1]; omega
      exact vX3_putNumber_12 ⟨by decide, fun e => absurd e (by decide), fun _ => ⟨by decide, fun e => absurd rfl e, fun _ => ⟨by omega, fun _ => ⟨by decide, z1, go⟩, fun _ => ⟨fun e => absurd rfl e, fun _ => ⟨by decide, z1, go⟩⟩⟩⟩⟩
    | succ k ih =>
      intro M' hk hq f r
      have tb := ten_b (k := k + 1) hk
      have tb2 := ten_b (k := k) (by omega)
      have hd : 0 ≤ v / ten (k + 1) ∧ v / ten (k + 1) ≤ v := ⟨Int.ediv_nonneg hv.1 (by omega), Int.ediv_le_self _ hv.1⟩
      have et : Int.tdiv (ten (k + 1)) 10 = ten k := by rw [tdiv_n (by omega), ten]; omega
      have ne1 : ten (k + 1) ≠ 1 := by
        rw [ten]
        omega
      refine vX3_putNumber_12 ⟨by omega, fun e => by omega, fun _ => ⟨by omega, fun e => absurd rfl e, fun _ => ⟨by omega, fun e => ⟨by omega, by rw [tdiv_n hv.1]; omega, ?_⟩, fun e => ⟨fun _ => ?_, fun e2 => absurd e2 ne1⟩⟩⟩⟩
      · have etop : top v = k + 1 := by
          have t1 := ten_v
          unfold top
          match k, hk with
          | 0, _ =>
            have := hq 2 (by omega) (by omega)
            rw [t1.2.2.1] at this
            rw [t1.2.1] at e
            rw [if_neg (by omega), if_pos this]
          | 1, _ =>
            have := hq 3 (by omega) (by omega)
            rw [t1.2.2.2] at this
            rw [t1.2.2.1] at e
            rw [if_neg (by omega), if_neg (by omega), if_pos this]
          | 2, _ =>
            rw [t1.2.2.2] at e
            rw [if_neg (by omega), if_neg (by omega), if_neg (by omega)]
        rw [tdiv_n hv.1, tmod_n hd.1, et]
        refine (c_X3_put r (by rw [List.length_append]; simp; omega)).mono ?_
        rintro M2 ⟨f2, r2⟩
        refine begun k M2 _ (by omega) (by simp; omega) (f.tr f2) r2 (fun M3 f3 r3 => ⟨f3, ?_⟩)
        rw [tnum, etop, dgF]
        rw [List.append_assoc, List.append_assoc] at r3
        exact r3
      · rw [et]
        refine ih M' (by omega) (fun q hq1 hq2 => ?_) f r
        by_cases c : q = k + 1
        · rw [c]; exact e
        · exact hq q (by omega) hq2
  refine vX3_putNumber ((c_X3_put r (by omega)).mono ?_)
  rintro M1 ⟨f1, r1⟩
  exact first 3 M1 (by omega) (fun q h1 h2 => by omega) f1 r1
end

