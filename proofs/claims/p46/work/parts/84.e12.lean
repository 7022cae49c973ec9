/-! ===== the JDK's texts: what is made ===== -/
theorem zwl_all : ∀ s : Fin 16, zsLen.getD s.val 0 = (zw s.val).length ∧ (zw s.val).length ≤ 7 ∧ ∀ c ∈ zw s.val, 0 ≤ c ∧ c < 128 := by decide +kernel
theorem zwl {s : Nat} (h : s < 16) : ((zsLen.getD s 0 : Nat) : Int) = (zw s).length ∧ (zw s).length ≤ 7 := by
  have := zwl_all ⟨s, h⟩
  exact ⟨by rw [this.1], this.2.1⟩
theorem zwl_c {s : Nat} (h : s < 16) : ∀ c ∈ zw s, 0 ≤ c ∧ c < 128 := (zwl_all ⟨s, h⟩).2.2
theorem CV.eq2 {l : Launch} {X : zD} {args : List zV} {M : zM} {P : zM → Prop} (k : CV l X args M (fun M' => M' = M)) (h : P M) : CV l X args M P := k.mono (by rintro _ rfl; exact h)
theorem nar_by {x : Int} (h : -128 ≤ x ∧ x < 128) : narrow .byte (.int (Int32.ofInt x)) = .int (Int32.ofInt x) := by
  have key : ∀ n : Fin 256, narrow .byte (.int (Int32.ofInt ((n.val : Int) - 128))) = .int (Int32.ofInt ((n.val : Int) - 128)) := by decide +kernel
  have := key ⟨(x + 128).toNat, by omega⟩
  rwa [show (((⟨(x + 128).toNat, by omega⟩ : Fin 256).val : Nat) : Int) - 128 = x by show (((x + 128).toNat : Nat) : Int) - 128 = x; omega] at this
theorem zand_by {x : Int} (h : 0 ≤ x ∧ x < 128) : zand x 255 = x := by
  have key : ∀ n : Fin 128, zand ((n.val : Nat) : Int) 255 = ((n.val : Nat) : Int) := by decide +kernel
  have := key ⟨x.toNat, by omega⟩
  rwa [show (((⟨x.toNat, by omega⟩ : Fin 128).val : Nat) : Int) = x by show ((x.toNat : Nat) : Int) = x; omega] at this
theorem zi2b_by {x : Int} (h : 0 ≤ x ∧ x < 128) : zi2b x = x := by
  have key : ∀ n : Fin 128, zi2b ((n.val : Nat) : Int) = ((n.val : Nat) : Int) := by decide +kernel
  have := key ⟨x.toNat, by omega⟩
  rwa [show (((⟨x.toNat, by omega⟩ : Fin 128).val : Nat) : Int) = x by show ((x.toNat : Nat) : Int) = x; omega] at this
theorem zshl_0 {x : Int} (h : zI x) : zshl x 0 = x := by
  unfold zshl
  rw [show (Int32.ofInt 0 &&& 31) = 0 by decide, show Int32.ofInt x <<< (0 : Int32) = Int32.ofInt x by apply Int32.toBitVec_inj.mp; simp]
  exact Int32.toInt_ofInt_of_le (by omega) (by omega)
/-- a made text: its bytes -/
def stN (M : zM) (s : Nat) : Int := M 80 (M 66 s 0).toNat (-1)
def stB (M : zM) (s : Nat) (j : Int) : Int := M 80 (M 66 s 0).toNat j
def stW (M : zM) (s : Nat) : Prop := M 66 s 1 = 0 ∧ (0 ≤ M 66 s 0 ∧ M 66 s 0 < M 97 0 80) ∧ (0 ≤ stN M s ∧ stN M s ≤ 1000) ∧ ∀ j, 0 ≤ j ∧ j < stN M s → 0 ≤ stB M s j ∧ stB M s j < 128
/-- a StringBuilder that holds L, in the row v -/
def sbt (M : zM) (b v : Nat) (L : List Int) : Prop := M 67 b 0 = (v : Int) ∧ M 67 b 1 = 0 ∧ M 67 b 3 = (L.length : Int) ∧ (v : Int) < M 97 0 80 ∧ M 80 v (-1) = 400 ∧ L.length ≤ 400 ∧ rwI M 80 v L ∧ ∀ c ∈ L, 0 ≤ c ∧ c < 128
def bX (M M' : zM) (b v : Nat) : Prop := ∀ k i, ¬ (k = 67 ∧ i = b) → ¬ (k = 80 ∧ i = v) → M' k i = M k i
theorem bX.rf {M : zM} {b v : Nat} : bX M M b v := fun _ _ _ _ => rfl
theorem bX.tr {M M1 M2 : zM} {b v : Nat} (a : bX M M1 b v) (c : bX M1 M2 b v) : bX M M2 b v := fun k i h1 h2 => (c k i h1 h2).trans (a k i h1 h2)
/-- room for n more -/
def bW (M : zM) (b : Nat) : Prop := M 67 b 1 = 0 ∧ (0 ≤ M 67 b 0 ∧ M 67 b 0 < M 97 0 80) ∧ M 80 (M 67 b 0).toNat (-1) = 400
theorem sbt.W {M : zM} {b v : Nat} {L : List Int} (h : sbt M b v L) : bW M b := ⟨h.2.1, by rw [h.1]; exact ⟨by omega, h.2.2.2.1⟩, by rw [h.1, Int.toNat_natCast]; exact h.2.2.2.2.1⟩
section
variable {l : Launch} {M : zM}
theorem vJ0_coder_7d493m {l : Launch} {P : Int → zM → Prop} {h : Nat} {M : zM}
    (H0 : (narrow .byte (.int (Int32.ofInt (M 66 h 1))) = .int (Int32.ofInt (M 66 h 1)) ∧ P (M 66 h 1) M)) :
    CI l m_J0_coder_7d493 [zr 66 h] M P :=
(aw_compact d_J0_coder_7d493_0 rfl cf_38
(aw_if_eq d_J0_coder_7d493_3 rfl rfl (by decide) (fun c1 => absurd c1 (by decide)) (fun _ => (aw_aload_n d_J0_coder_7d493_6 rfl rfl 0 rfl (by decide)
(aw_getI (kc := 1) d_J0_coder_7d493_7 rfl flJ0_15 rfl rfl
(aw_goto d_J0_coder_7d493_10 rfl
(aw_rb d_J0_coder_7d493_14 rfl H0.1 H0.2)))))))
theorem vJ0_isLatin1_aae02m {l : Launch} {P : Int → zM → Prop} {h : Nat} {M : zM}
    (H0 : (zI (M 66 h 1) ∧ (((M 66 h 1) ≠ 0 → P 0 M) ∧ ((M 66 h 1) = 0 → P 1 M)))) :
    CI l m_J0_isLatin1_aae02 [zr 66 h] M P :=
(aw_compact d_J0_isLatin1_aae02_0 rfl cf_38
(aw_if_eq d_J0_isLatin1_aae02_3 rfl rfl (by decide) (fun c1 => absurd c1 (by decide)) (fun _ => (aw_aload_n d_J0_isLatin1_aae02_6 rfl rfl 0 rfl (by decide)
(aw_getI (kc := 1) d_J0_isLatin1_aae02_7 rfl flJ0_15 rfl rfl
(have z2 := H0.1; have e3 := H0.2; aw_if_ne d_J0_isLatin1_aae02_10 rfl rfl z2 (fun c4 => have e6 := e3.1 c4; (aw_iconst d_J0_isLatin1_aae02_17 rfl
(aw_rz d_J0_isLatin1_aae02_18 rfl (by decide) e6))) (fun c5 => have e7 := e3.2 c5; (aw_iconst d_J0_isLatin1_aae02_13 rfl
(aw_goto d_J0_isLatin1_aae02_14 rfl
(aw_rz d_J0_isLatin1_aae02_18 rfl (by decide) e7))))))))))
theorem s_J0_coder_7d493m {s : Nat} (h : M 66 s 1 = 0) : CI l m_J0_coder_7d493 [zr 66 s] M (fun x M' => x = 0 ∧ M' = M) := vJ0_coder_7d493m ⟨by rw [h]; decide, h, rfl⟩
theorem s_J0_isLatin1_aae02m {s : Nat} (h : M 66 s 1 = 0) : CI l m_J0_isLatin1_aae02 [zr 66 s] M (fun x M' => x = 1 ∧ M' = M) := vJ0_isLatin1_aae02m ⟨by omega, fun e => absurd h e, fun _ => ⟨rfl, rfl⟩⟩
theorem vJ0_length_8abf5m {l : Launch} {P : Int → zM → Prop} {h : Nat} {M : zM}
    (H0 : ((0 ≤ M 66 h 0 ∧ M 66 h 0 < M 97 0 80) ∧ ∀ r2 : Nat, (r2 : Int) = M 66 h 0 → (0 ≤ M 80 r2 (-1) ∧ (M 66 h 1 = 0 ∧ P (zshr (M 80 r2 (-1)) 0) M)))) :
    CI l m_J0_length_8abf5 [zr 66 h] M P :=
(aw_aload_n d_J0_length_8abf5_0 rfl rfl 0 rfl (by decide)
(have z1 := H0.1; aw_getE (kc := 0) d_J0_length_8abf5_1 rfl flJ0_9 rfl rfl (by decide) z1
(fun r2 hqr2 => (have e3 := H0.2 r2 hqr2; (have z4 := e3.1; aw_alenD d_J0_length_8abf5_4 rfl (by decide) z4
(have e5 := e3.2; (aw_aload_n d_J0_length_8abf5_5 rfl rfl 0 rfl (by decide)
(have z6 := e5.1; aw_VI (As := []) (st := [zi (M 80 r2 (-1))]) d_J0_length_8abf5_6 rfl cvJ0_335 ⟨Nat.le_of_ble_eq_true rfl, Nat.le_of_ble_eq_true rfl⟩ rfl rfl (Nat.le_of_ble_eq_true rfl) (Nat.le_of_ble_eq_true rfl) (s_J0_coder_7d493m z6) (fun _ _ hq => aw_eqs hq
(have e7 := e5.2; (aw_ishr d_J0_length_8abf5_9 rfl zshr_h
(aw_ri d_J0_length_8abf5_10 rfl e7))))))))))))
theorem s_J0_length_8abf5m {s : Nat} (h : stW M s) : CI l m_J0_length_8abf5 [zr 66 s] M (fun x M' => x = stN M s ∧ M' = M) := by
  obtain ⟨h1, h2, h3, h4⟩ := h
  refine vJ0_length_8abf5m ⟨h2, fun r hr => ?_⟩
  have e : stN M s = M 80 r (-1) := by unfold stN; rw [← hr, Int.toNat_natCast]
  rw [e] at h3 ⊢
  exact ⟨h3.1, h1, zshr_0 (by omega), rfl⟩
theorem s_J0_checkIndex_df160 {a b : Int} (h : 0 ≤ a ∧ a < b ∧ b ≤ 1000000) : CV l m_J0_checkIndex_df160 [zi a, zi b] M (fun M' => M' = M) :=
  vJ0_checkIndex_df160 (vJ3_checkIndex_8e157 ⟨by omega, fun e => by omega, fun _ => ⟨by omega, fun _ => rfl, fun e => by omega⟩⟩)
theorem vJ1_charAt_3b067m {l : Launch} {P : Int → zM → Prop} {s0 : Nat} {v1 : Int} {M : zM}
    (H0 : (0 ≤ M 80 s0 (-1) ∧ ((0 ≤ v1 ∧ v1 < (M 80 s0 (-1)) ∧ (M 80 s0 (-1)) ≤ 1000000) ∧ ((0 ≤ v1 ∧ v1 < M 80 s0 (-1) ∧ M 80 s0 (-1) ≤ 1000000) ∧ ((0 ≤ (zand (M 80 s0 v1) 255) ∧ (zand (M 80 s0 v1) 255) < 65536) ∧ (narrow .char (.int (Int32.ofInt (zand (M 80 s0 v1) 255))) = .int (Int32.ofInt (zand (M 80 s0 v1) 255)) ∧ P (zand (M 80 s0 v1) 255) M)))))) :
    CI l m_J1_charAt_3b067 [zr 80 s0, zi v1] M P :=
(aw_iload_n d_J1_charAt_3b067_0 rfl rfl 1 rfl
(aw_aload_n d_J1_charAt_3b067_1 rfl rfl 0 rfl (by decide)
(have z1 := H0.1; aw_alenD d_J1_charAt_3b067_2 rfl (by decide) z1
(have e2 := H0.2; (have z3 := e2.1; aw_SV (As := [zi v1, zi (M 80 s0 (-1))]) (st := []) d_J1_charAt_3b067_3 rfl csJ1_9 ⟨Nat.le_of_ble_eq_true rfl, Nat.le_of_ble_eq_true rfl⟩ rfl rfl (Nat.le_of_ble_eq_true rfl) (Nat.le_of_ble_eq_true rfl) (s_J0_checkIndex_df160 z3) (fun _ hq => aw_eqM hq
(have e4 := e2.2; (aw_aload_n d_J1_charAt_3b067_6 rfl rfl 0 rfl (by decide)
(aw_iload_n d_J1_charAt_3b067_7 rfl rfl 1 rfl
(have z5 := e4.1; aw_baldG d_J1_charAt_3b067_8 rfl zd80.G (zix_d rfl z5)
(have e6 := e4.2; (aw_sipush d_J1_charAt_3b067_9 rfl (by decide)
(aw_iand d_J1_charAt_3b067_12 rfl zand_h
(have z7 := e6.1; aw_i2c d_J1_charAt_3b067_13 rfl z7
(have e8 := e6.2; (aw_rc d_J1_charAt_3b067_14 rfl e8.1 e8.2))))))))))))))))
theorem s_J1_charAt_3b067m {s : Nat} {j : Int} (h : (0 ≤ j ∧ j < M 80 s (-1) ∧ M 80 s (-1) ≤ 1000000) ∧ 0 ≤ M 80 s j ∧ M 80 s j < 128) : CI l m_J1_charAt_3b067 [zr 80 s, zi j] M (fun x M' => x = M 80 s j ∧ M' = M) := by
  refine vJ1_charAt_3b067m ⟨by omega, h.1, h.1, ?_⟩
  rw [zand_by h.2]
  exact ⟨by omega, nar_ch h.2, rfl, rfl⟩
theorem vJ0_charAt_5068em {l : Launch} {P : Int → zM → Prop} {h : Nat} {v1 : Int} {M : zM}
    (H0 : (M 66 h 1 = 0 ∧ ((0 ≤ M 66 h 0 ∧ M 66 h 0 < M 97 0 80) ∧ ∀ r5 : Nat, (r5 : Int) = M 66 h 0 → (((0 ≤ v1 ∧ v1 < M 80 r5 (-1) ∧ M 80 r5 (-1) ≤ 1000000) ∧ 0 ≤ M 80 r5 v1 ∧ M 80 r5 v1 < 128) ∧ (narrow .char (.int (Int32.ofInt (M 80 r5 v1))) = .int (Int32.ofInt (M 80 r5 v1)) ∧ P (M 80 r5 v1) M))))) :
    CI l m_J0_charAt_5068e [zr 66 h, zi v1] M P :=
(aw_aload_n d_J0_charAt_5068e_0 rfl rfl 0 rfl (by decide)
(have z1 := H0.1; aw_VI (As := []) (st := []) d_J0_charAt_5068e_1 rfl cvJ0_492 ⟨Nat.le_of_ble_eq_true rfl, Nat.le_of_ble_eq_true rfl⟩ rfl rfl (Nat.le_of_ble_eq_true rfl) (Nat.le_of_ble_eq_true rfl) (s_J0_isLatin1_aae02m z1) (fun _ _ hq => aw_eqs hq
(have e2 := H0.2; (aw_if_eq d_J0_charAt_5068e_4 rfl rfl (by decide) (fun c3 => absurd c3 (by decide)) (fun _ => (aw_aload_n d_J0_charAt_5068e_7 rfl rfl 0 rfl (by decide)
(have z4 := e2.1; aw_getE (kc := 0) d_J0_charAt_5068e_8 rfl flJ0_9 rfl rfl (by decide) z4
(fun r5 hqr5 => (have e6 := e2.2 r5 hqr5; (aw_iload_n d_J0_charAt_5068e_11 rfl rfl 1 rfl
(have z7 := e6.1; aw_SI (As := [zr 80 r5, zi v1]) (st := []) d_J0_charAt_5068e_12 rfl csJ0_495 ⟨Nat.le_of_ble_eq_true rfl, Nat.le_of_ble_eq_true rfl⟩ rfl rfl (Nat.le_of_ble_eq_true rfl) (Nat.le_of_ble_eq_true rfl) (s_J1_charAt_3b067m z7) (fun _ _ hq => aw_eqs hq
(have e8 := e6.2; (aw_rc d_J0_charAt_5068e_15 rfl e8.1 e8.2)))))))))))))))
theorem s_J0_charAt_5068em {s : Nat} {j : Int} (h : stW M s ∧ 0 ≤ j ∧ j < stN M s) : CI l m_J0_charAt_5068e [zr 66 s, zi j] M (fun x M' => x = stB M s j ∧ M' = M) := by
  obtain ⟨⟨h1, h2, h3, h4⟩, h5⟩ := h
  refine vJ0_charAt_5068em ⟨h1, h2, fun r hr => ?_⟩
  have e : stN M s = M 80 r (-1) := by unfold stN; rw [← hr, Int.toNat_natCast]
  have e2 : stB M s j = M 80 r j := by unfold stB; rw [← hr, Int.toNat_natCast]
  have h6 := h4 j h5
  rw [e2] at h6 ⊢
  rw [e] at h3 h5
  exact ⟨⟨⟨h5.1, h5.2, by omega⟩, h6⟩, nar_ch h6, rfl, rfl⟩
theorem vJ1_canEncode_fc78d {l : Launch} {P : Int → zM → Prop} {v0 : Int} {M : zM}
    (H0 : (zI v0 ∧ ((255 < v0 → P 0 M) ∧ (v0 ≤ 255 → P 1 M)))) :
    CI l m_J1_canEncode_fc78d [zi v0] M P :=
(aw_iload_n d_J1_canEncode_fc78d_0 rfl rfl 0 rfl
(aw_sipush d_J1_canEncode_fc78d_1 rfl (by decide)
(have z1 := H0.1; have e2 := H0.2; aw_icmp_gt d_J1_canEncode_fc78d_4 rfl rfl z1 (by decide) (fun c3 => have e5 := e2.1 c3; (aw_iconst d_J1_canEncode_fc78d_11 rfl
(aw_rz d_J1_canEncode_fc78d_12 rfl (by decide) e5))) (fun c4 => have e6 := e2.2 c4; (aw_iconst d_J1_canEncode_fc78d_7 rfl
(aw_goto d_J1_canEncode_fc78d_8 rfl
(aw_rz d_J1_canEncode_fc78d_12 rfl (by decide) e6)))))))
theorem vJ5_length_8abf5 {l : Launch} {P : Int → zM → Prop} {h : Nat} {M : zM}
    (H0 : P (M 67 h 3) M) :
    CI l m_J5_length_8abf5 [zr 67 h] M P :=
(aw_aload_n d_J5_length_8abf5_0 rfl rfl 0 rfl (by decide)
(aw_getI (kc := 3) d_J5_length_8abf5_1 rfl flJ5_79 rfl rfl
(aw_ri d_J5_length_8abf5_4 rfl H0)))
theorem s_J1_canEncode_fc78d {c : Int} (h : 0 ≤ c ∧ c < 128) : CI l m_J1_canEncode_fc78d [zi c] M (fun x M' => x = 1 ∧ M' = M) := vJ1_canEncode_fc78d ⟨by omega, fun e => by omega, fun _ => ⟨rfl, rfl⟩⟩
theorem s_J5_length_8abf5 {b : Nat} : CI l m_J5_length_8abf5 [zr 67 b] M (fun x M' => x = M 67 b 3 ∧ M' = M) := vJ5_length_8abf5 ⟨rfl, rfl⟩
theorem vJ4_length_8abf5 {l : Launch} {P : Int → zM → Prop} {h : Nat} {M : zM}
    (H0 : P (M 67 h 3) M) :
    CI l m_J4_length_8abf5 [zr 67 h] M P :=
(aw_aload_n d_J4_length_8abf5_0 rfl rfl 0 rfl (by decide)
(aw_PI (As := []) (st := []) d_J4_length_8abf5_1 rfl cpJ4_343 ⟨Nat.le_of_ble_eq_true rfl, Nat.le_of_ble_eq_true rfl⟩ rfl rfl (Nat.le_of_ble_eq_true rfl) (Nat.le_of_ble_eq_true rfl) (s_J5_length_8abf5) (fun _ _ hq => aw_eqs hq
(aw_ri d_J4_length_8abf5_4 rfl H0))))
theorem vJ5_isLatin1_aae02 {l : Launch} {P : Int → zM → Prop} {h : Nat} {M : zM}
    (H0 : (zI (M 67 h 1) ∧ (((M 67 h 1) ≠ 0 → P 0 M) ∧ ((M 67 h 1) = 0 → P 1 M)))) :
    CI l m_J5_isLatin1_aae02 [zr 67 h] M P :=
(aw_compact d_J5_isLatin1_aae02_0 rfl cfJ5_18
(aw_if_eq d_J5_isLatin1_aae02_3 rfl rfl (by decide) (fun c1 => absurd c1 (by decide)) (fun _ => (aw_aload_n d_J5_isLatin1_aae02_6 rfl rfl 0 rfl (by decide)
(aw_getI (kc := 1) d_J5_isLatin1_aae02_7 rfl flJ5_22 rfl rfl
(have z2 := H0.1; have e3 := H0.2; aw_if_ne d_J5_isLatin1_aae02_10 rfl rfl z2 (fun c4 => have e6 := e3.1 c4; (aw_iconst d_J5_isLatin1_aae02_17 rfl
(aw_rz d_J5_isLatin1_aae02_18 rfl (by decide) e6))) (fun c5 => have e7 := e3.2 c5; (aw_iconst d_J5_isLatin1_aae02_13 rfl
(aw_goto d_J5_isLatin1_aae02_14 rfl
(aw_rz d_J5_isLatin1_aae02_18 rfl (by decide) e7))))))))))
theorem s_J4_length_8abf5 {b : Nat} : CI l m_J4_length_8abf5 [zr 67 b] M (fun x M' => x = M 67 b 3 ∧ M' = M) := vJ4_length_8abf5 ⟨rfl, rfl⟩
theorem s_J5_isLatin1_aae02 {b : Nat} (h : M 67 b 1 = 0) : CI l m_J5_isLatin1_aae02 [zr 67 b] M (fun x M' => x = 1 ∧ M' = M) := vJ5_isLatin1_aae02 ⟨by omega, fun e => absurd h e, fun _ => ⟨rfl, rfl⟩⟩
theorem vJ5_ensureCapacityInternal_d00df {l : Launch} {P : zM → Prop} {h : Nat} {v1 : Int} {M : zM}
    (H0 : ((0 ≤ M 67 h 0 ∧ M 67 h 0 < M 97 0 80) ∧ ∀ r2 : Nat, (r2 : Int) = M 67 h 0 → (0 ≤ M 80 r2 (-1) ∧ (zI (v1 - (zshr (M 80 r2 (-1)) (M 67 h 1))) ∧ (((v1 - (zshr (M 80 r2 (-1)) (M 67 h 1))) ≤ 0 → P M) ∧ (0 < (v1 - (zshr (M 80 r2 (-1)) (M 67 h 1))) → False)))))) :
    CV l m_J5_ensureCapacityInternal_d00df [zr 67 h, zi v1] M P :=
(aw_aload_n d_J5_ensureCapacityInternal_d00df_0 rfl rfl 0 rfl (by decide)
(have z1 := H0.1; aw_getE (kc := 0) d_J5_ensureCapacityInternal_d00df_1 rfl flJ5_15 rfl rfl (by decide) z1
(fun r2 hqr2 => (have e3 := H0.2 r2 hqr2; (have z4 := e3.1; aw_alenD d_J5_ensureCapacityInternal_d00df_4 rfl (by decide) z4
(have e5 := e3.2; (aw_aload_n d_J5_ensureCapacityInternal_d00df_5 rfl rfl 0 rfl (by decide)
(aw_getI (kc := 1) d_J5_ensureCapacityInternal_d00df_6 rfl flJ5_22 rfl rfl
(aw_ishr d_J5_ensureCapacityInternal_d00df_9 rfl zshr_h
(aw_istore_n (lv' := [(2, zi (zshr (M 80 r2 (-1)) (M 67 h 1))), (0, zr 67 h), (1, zi v1)]) d_J5_ensureCapacityInternal_d00df_10 rfl rfl (by decide) rfl
(aw_iload_n d_J5_ensureCapacityInternal_d00df_11 rfl rfl 2 rfl
(aw_iload_n d_J5_ensureCapacityInternal_d00df_12 rfl rfl 0 rfl
(aw_isub d_J5_ensureCapacityInternal_d00df_13 rfl
(have z6 := e5.1; have e7 := e5.2; aw_if_le d_J5_ensureCapacityInternal_d00df_14 rfl rfl z6 (fun c8 => have e10 := e7.1 c8; (aw_rv d_J5_ensureCapacityInternal_d00df_38 rfl e10)) (fun c9 => have e11 := e7.2 c9; (aw_aload_n d_J5_ensureCapacityInternal_d00df_17 rfl rfl 1 rfl (by decide)
(aw_aload_n d_J5_ensureCapacityInternal_d00df_18 rfl rfl 1 rfl (by decide)
(aw_getEq (kc := 0) (r := r2) d_J5_ensureCapacityInternal_d00df_19 rfl flJ5_15 rfl rfl (by decide) z1 hqr2
(aw_aload_n d_J5_ensureCapacityInternal_d00df_22 rfl rfl 1 rfl (by decide)
(aw_iload_n d_J5_ensureCapacityInternal_d00df_23 rfl rfl 2 rfl
(e11).elim))))))))))))))))))))
theorem s_J5_ensureCapacityInternal_d00df {b : Nat} {n : Int} (h : bW M b ∧ 0 ≤ n ∧ n ≤ 400) : CV l m_J5_ensureCapacityInternal_d00df [zr 67 b, zi n] M (fun M' => M' = M) := by
  obtain ⟨⟨h1, h2, h3⟩, h4⟩ := h
  refine vJ5_ensureCapacityInternal_d00df ⟨h2, fun r hr => ?_⟩
  rw [← hr, Int.toNat_natCast] at h3
  rw [h3, h1, zshr_0 (by omega)]
  exact ⟨by omega, by omega, fun _ => rfl, fun e => by omega⟩
theorem vJ5_inflateIfNeededFor_a7421 {l : Launch} {P : zM → Prop} {h : Nat} {s1 : Nat} {M : zM}
    (H0 : (zI (M 67 h 1) ∧ (((M 67 h 1) = 0 → P M) ∧ ((M 67 h 1) ≠ 0 → False)))) :
    CV l m_J5_inflateIfNeededFor_a7421 [zr 67 h, zr 61 s1] M P :=
(aw_compact d_J5_inflateIfNeededFor_a7421_0 rfl cfJ5_18
(aw_if_eq d_J5_inflateIfNeededFor_a7421_3 rfl rfl (by decide) (fun c1 => absurd c1 (by decide)) (fun _ => (aw_aload_n d_J5_inflateIfNeededFor_a7421_6 rfl rfl 0 rfl (by decide)
(aw_getI (kc := 1) d_J5_inflateIfNeededFor_a7421_7 rfl flJ5_22 rfl rfl
(aw_aload_n d_J5_inflateIfNeededFor_a7421_10 rfl rfl 1 rfl (by decide)
(aw_TI (As := []) (st := [zi (M 67 h 1)]) d_J5_inflateIfNeededFor_a7421_11 rfl ctJ5_40 ⟨Nat.le_of_ble_eq_true rfl, Nat.le_of_ble_eq_true rfl⟩ rfl rfl (Nat.le_of_ble_eq_true rfl) (Nat.le_of_ble_eq_true rfl) (s_J0_coder_7d493) (fun _ _ hq => aw_eqs hq
(have z2 := H0.1; have e3 := H0.2; aw_icmp_eq d_J5_inflateIfNeededFor_a7421_14 rfl rfl z2 (by decide) (fun c4 => have e6 := e3.1 c4; (aw_rv d_J5_inflateIfNeededFor_a7421_21 rfl e6)) (fun c5 => have e7 := e3.2 c5; (aw_aload_n d_J5_inflateIfNeededFor_a7421_17 rfl rfl 0 rfl (by decide)
(e7).elim)))))))))))
theorem s_J5_inflateIfNeededFor_a7421 {b s : Nat} (h : M 67 b 1 = 0) : CV l m_J5_inflateIfNeededFor_a7421 [zr 67 b, zr 61 s] M (fun M' => M' = M) := vJ5_inflateIfNeededFor_a7421 ⟨by omega, fun _ => rfl, fun e => absurd h e⟩
def LJ6_stringSize_0f7a4_16 (l : Launch) (P : Int → zM → Prop) (v0 : Int) (v1 : Int) (v2 : Int) (v3 : Int) (M : zM) : Prop := AW l m_J6_stringSize_0f7a4 (zTi m_J6_stringSize_0f7a4 P) 16 [(0, zi v0), (1, zi v1), (2, zi v2), (3, zi v3)] [] M
theorem vJ6_stringSize_0f7a4_16 {l : Launch} {P : Int → zM → Prop} {v0 : Int} {v1 : Int} {v2 : Int} {v3 : Int} {M : zM}
    (H0 : (zI v3 ∧ ((10 ≤ v3 → P (10 + v1) M) ∧ (v3 < 10 → (zI v0 ∧ zI v2 ∧ ((v0 ≤ v2 → LJ6_stringSize_0f7a4_16 l P v0 v1 (10 * v2) (v3 + 1) M) ∧ (v2 < v0 → P (v3 + v1) M))))))) :
    LJ6_stringSize_0f7a4_16 l P v0 v1 v2 v3 M :=
(aw_iload_n d_J6_stringSize_0f7a4_16 rfl rfl 3 rfl
(aw_bipush d_J6_stringSize_0f7a4_17 rfl (by decide)
(have z7 := H0.1; have e8 := H0.2; aw_icmp_ge d_J6_stringSize_0f7a4_19 rfl rfl z7 (by decide) (fun c9 => have e11 := e8.1 c9; (aw_bipush d_J6_stringSize_0f7a4_42 rfl (by decide)
(aw_iload_n d_J6_stringSize_0f7a4_44 rfl rfl 1 rfl
(aw_iadd d_J6_stringSize_0f7a4_45 rfl
(aw_ri d_J6_stringSize_0f7a4_46 rfl e11))))) (fun c10 => have e12 := e8.2 c10; (aw_iload_n d_J6_stringSize_0f7a4_22 rfl rfl 0 rfl
(aw_iload_n d_J6_stringSize_0f7a4_23 rfl rfl 2 rfl
(have z13 := e12.1; have z14 := e12.2.1; have e15 := e12.2.2; aw_icmp_le d_J6_stringSize_0f7a4_24 rfl rfl z13 z14 (fun c16 => have e18 := e15.1 c16; (aw_bipush d_J6_stringSize_0f7a4_31 rfl (by decide)
(aw_iload_n d_J6_stringSize_0f7a4_33 rfl rfl 2 rfl
(aw_imul d_J6_stringSize_0f7a4_34 rfl
(aw_istore_n (lv' := [(2, zi (10 * v2)), (0, zi v0), (1, zi v1), (3, zi v3)]) d_J6_stringSize_0f7a4_35 rfl rfl (by decide) rfl
(aw_iinc (lv' := [(3, zi (v3 + 1)), (2, zi (10 * v2)), (0, zi v0), (1, zi v1)]) (y := (v3 + 1)) d_J6_stringSize_0f7a4_36 rfl 3 rfl (by decide) rfl rfl
(aw_goto d_J6_stringSize_0f7a4_39 rfl
(aw_sub [2, 3, 1, 0] rfl e18)))))))) (fun c17 => have e19 := e15.2 c17; (aw_iload_n d_J6_stringSize_0f7a4_27 rfl rfl 3 rfl
(aw_iload_n d_J6_stringSize_0f7a4_28 rfl rfl 1 rfl
(aw_iadd d_J6_stringSize_0f7a4_29 rfl
(aw_ri d_J6_stringSize_0f7a4_30 rfl e19))))))))))))
theorem vJ6_stringSize_0f7a4 {l : Launch} {P : Int → zM → Prop} {v0 : Int} {M : zM}
    (H0 : (zI v0 ∧ ((v0 < 0 → LJ6_stringSize_0f7a4_16 l P v0 1 (-10) 1 M) ∧ (0 ≤ v0 → LJ6_stringSize_0f7a4_16 l P (-v0) 0 (-10) 1 M)))) :
    CI l m_J6_stringSize_0f7a4 [zi v0] M P :=
(aw_iconst d_J6_stringSize_0f7a4_0 rfl
(aw_istore_n (lv' := [(1, zi 1), (0, zi v0)]) d_J6_stringSize_0f7a4_1 rfl rfl (by decide) rfl
(aw_iload_n d_J6_stringSize_0f7a4_2 rfl rfl 1 rfl
(have z1 := H0.1; have e2 := H0.2; aw_if_lt d_J6_stringSize_0f7a4_3 rfl rfl z1 (fun c3 => have e5 := e2.1 c3; (aw_bipush d_J6_stringSize_0f7a4_11 rfl (by decide)
(aw_istore_n (lv' := [(2, zi (-10)), (1, zi 1), (0, zi v0)]) d_J6_stringSize_0f7a4_13 rfl rfl (by decide) rfl
(aw_iconst d_J6_stringSize_0f7a4_14 rfl
(aw_istore_n (lv' := [(3, zi 1), (2, zi (-10)), (1, zi 1), (0, zi v0)]) d_J6_stringSize_0f7a4_15 rfl rfl (by decide) rfl
(aw_sub [3, 2, 1, 0] rfl e5)))))) (fun c4 => have e6 := e2.2 c4; (aw_iconst d_J6_stringSize_0f7a4_6 rfl
(aw_istore_n (lv' := [(1, zi 0), (0, zi v0)]) d_J6_stringSize_0f7a4_7 rfl rfl (by decide) rfl
(aw_iload_n d_J6_stringSize_0f7a4_8 rfl rfl 1 rfl
(aw_ineg d_J6_stringSize_0f7a4_9 rfl
(aw_istore_n (lv' := [(0, zi (-v0)), (1, zi 0)]) d_J6_stringSize_0f7a4_10 rfl rfl (by decide) rfl
(aw_bipush d_J6_stringSize_0f7a4_11 rfl (by decide)
(aw_istore_n (lv' := [(2, zi (-10)), (0, zi (-v0)), (1, zi 0)]) d_J6_stringSize_0f7a4_13 rfl rfl (by decide) rfl
(aw_iconst d_J6_stringSize_0f7a4_14 rfl
(aw_istore_n (lv' := [(3, zi 1), (2, zi (-10)), (0, zi (-v0)), (1, zi 0)]) d_J6_stringSize_0f7a4_15 rfl rfl (by decide) rfl
(aw_sub [2, 3, 1, 0] rfl e6)))))))))))))))
theorem vJ7_checkLength_df160 {l : Launch} {P : zM → Prop} {v0 : Int} {v1 : Int} {M : zM}
    (H0 : (zI v1 ∧ zI v0 ∧ ((v0 ≤ v1 → P M) ∧ (v1 < v0 → False)))) :
    CV l m_J7_checkLength_df160 [zi v0, zi v1] M P :=
(aw_iload_n d_J7_checkLength_df160_0 rfl rfl 1 rfl
(aw_iload_n d_J7_checkLength_df160_1 rfl rfl 0 rfl
(have z1 := H0.1; have z2 := H0.2.1; have e3 := H0.2.2; aw_icmp_ge d_J7_checkLength_df160_2 rfl rfl z1 z2 (fun c4 => have e6 := e3.1 c4; (aw_rv d_J7_checkLength_df160_37 rfl e6)) (fun c5 => have e7 := e3.2 c5; (e7).elim))))
theorem s_J6_stringSize_0f7a4 {x : Int} (h : 0 ≤ x ∧ x < 100) : CI l m_J6_stringSize_0f7a4 [zi x] M (fun y M' => y = (if x < 10 then (1 : Int) else 2) ∧ M' = M) := by
  refine vJ6_stringSize_0f7a4 ⟨by omega, fun e => by omega, fun _ => ?_⟩
  refine vJ6_stringSize_0f7a4_16 ⟨by omega, fun e => by omega, fun _ => ⟨by omega, by omega, fun e => ?_, fun e => ⟨by rw [if_pos (by omega)]; rfl, rfl⟩⟩⟩
  refine vJ6_stringSize_0f7a4_16 ⟨by omega, fun e => by omega, fun _ => ⟨by omega, by omega, fun e => by omega, fun e2 => ⟨by rw [if_neg (by omega)]; rfl, rfl⟩⟩⟩
theorem s_J7_checkLength_df160 {a b : Int} (h : zI a ∧ zI b ∧ a ≤ b) : CV l m_J7_checkLength_df160 [zi a, zi b] M (fun M' => M' = M) := vJ7_checkLength_df160 ⟨h.2.1, h.1, fun _ => rfl, fun e => by omega⟩
end
