/-! ===== tell: the reference's bytes ===== -/
def mtX (M : zM) (b : Int → Int) (n : Int) : Prop := (M 9 0 36 = n ∧ 0 ≤ n ∧ n ≤ 400) ∧ ∀ i, 0 ≤ i ∧ i < n → zand (M 47 0 i) 255 = b i ∧ 0 ≤ b i ∧ b i < 256
def spF (M M' : zM) : Prop := (∀ k i, k ≠ 9 → M' k i = M k i) ∧ (∀ j, j ≠ 37 → M' 9 0 j = M 9 0 j)
theorem spF.rf {M : zM} : spF M M := ⟨fun _ _ _ => rfl, fun _ _ => rfl⟩
theorem spF.tr {M M1 M2 : zM} (a : spF M M1) (b : spF M1 M2) : spF M M2 := ⟨fun k i h => (b.1 k i h).trans (a.1 k i h), fun j h => (b.2 j h).trans (a.2 j h)⟩
theorem spF.sp {M M' : zM} {x : Int} (e : M' = zu M 9 0 37 x) : spF M M' := ⟨fun k i h => by rw [e, zu_k h], fun j h => by rw [e, zu_at, if_neg h]⟩
theorem mtX.f {M M' : zM} {b : Int → Int} {n : Int} (h : mtX M b n) (f : spF M M') : mtX M' b n := by
  refine ⟨by rw [f.2 36 (by decide)]; exact h.1, fun i hi => ?_⟩
  rw [f.1 47 0 (by decide)]
  exact h.2 i hi
section
variable {l : Launch} {M : zM} {b : Int → Int} {n : Int}
theorem vX9_byteAt {l : Launch} {P : Int → zM → Prop} {v1 : Int} {M : zM}
    (H0 : (zI v1 ∧ zI (M 9 0 36) ∧ ((M 9 0 36) ≤ v1 → P (-1) M) ∧ (v1 < (M 9 0 36) → ((0 ≤ v1 ∧ v1 < 400) ∧ P (zand (M 47 0 v1) 255) M)))) :
    CI l m_X9_byteAt [zr 9 0, zi v1] M P :=
(aw_iload_n d_X9_byteAt_0 rfl rfl 1 rfl
(aw_aload_n d_X9_byteAt_1 rfl rfl 0 rfl (by decide)
(aw_getI (kc := 36) d_X9_byteAt_2 rfl fl9_297 rfl rfl
(have z1 := H0.1; have z2 := H0.2.1; have e3 := H0.2.2; aw_icmp_ge d_X9_byteAt_5 rfl rfl z1 z2 (fun c4 => have e6 := e3.1 c4; (aw_iconst d_X9_byteAt_21 rfl
(aw_ri d_X9_byteAt_22 rfl e6))) (fun c5 => have e7 := e3.2 c5; (aw_aload_n d_X9_byteAt_8 rfl rfl 0 rfl (by decide)
(aw_getR (k' := 47) (a := 0) (b := 0) (j := 0) d_X9_byteAt_9 rfl fl9_71 rfl zj0 ⟨by decide, fun _ => by decide⟩
(aw_iload_n d_X9_byteAt_12 rfl rfl 1 rfl
(have z8 := e7.1; have e9 := e7.2; (aw_bald d_X9_byteAt_13 rfl za47 z8
(aw_sipush d_X9_byteAt_14 rfl (by decide)
(aw_iand d_X9_byteAt_17 rfl zand_h
(aw_goto d_X9_byteAt_18 rfl
(aw_ri d_X9_byteAt_22 rfl e9))))))))))))))
def LX9_nextByte_0 (l : Launch) (P : Int → zM → Prop) (M : zM) : Prop := AW l m_X9_nextByte (zTi m_X9_nextByte P) 0 [(0, zr 9 0)] [] M
theorem vX9_nextByte_0 {l : Launch} {P : Int → zM → Prop} {M : zM}
    (H0 : (CI l m_X9_byteAt [zr 9 0, zi (M 9 0 37)] M (fun x4 M1 => (zI x4 ∧ (x4 ≠ 32 → (CI l m_X9_byteAt [zr 9 0, zi (M1 9 0 37)] M1 (fun x14 M11 => P x14 M11))) ∧ (x4 = 32 → (∀ M15 : zM, M15 = zu M1 9 0 37 ((M1 9 0 37) + 1) → LX9_nextByte_0 l P M15)))))) :
    LX9_nextByte_0 l P M :=
(aw_aload_n d_X9_nextByte_0 rfl rfl 0 rfl (by decide)
(aw_aload_n d_X9_nextByte_1 rfl rfl 0 rfl (by decide)
(aw_getI (kc := 37) d_X9_nextByte_2 rfl fl9_381 rfl rfl
(aw_VI (As := [zi (M 9 0 37)]) (st := []) d_X9_nextByte_5 rfl cv9_384 ⟨Nat.le_of_ble_eq_true rfl, Nat.le_of_ble_eq_true rfl⟩ rfl rfl (Nat.le_of_ble_eq_true rfl) (Nat.le_of_ble_eq_true rfl) H0 (fun x4 M1 e2 => (aw_bipush d_X9_nextByte_8 rfl (by decide)
(have z5 := e2.1; have e6 := e2.2; aw_icmp_ne d_X9_nextByte_10 rfl rfl z5 (by decide) (fun c7 => have e9 := e6.1 c7; (aw_aload_n d_X9_nextByte_26 rfl rfl 0 rfl (by decide)
(aw_aload_n d_X9_nextByte_27 rfl rfl 0 rfl (by decide)
(aw_getI (kc := 37) d_X9_nextByte_28 rfl fl9_381 rfl rfl
(aw_VI (As := [zi (M1 9 0 37)]) (st := []) d_X9_nextByte_31 rfl cv9_384 ⟨Nat.le_of_ble_eq_true rfl, Nat.le_of_ble_eq_true rfl⟩ rfl rfl (Nat.le_of_ble_eq_true rfl) (Nat.le_of_ble_eq_true rfl) e9 (fun x14 M11 e12 => (aw_ri d_X9_nextByte_34 rfl e12))))))) (fun c8 => have e10 := e6.2 c8; (aw_aload_n d_X9_nextByte_13 rfl rfl 0 rfl (by decide)
(aw_dup d_X9_nextByte_14 rfl rfl
(aw_getI (kc := 37) d_X9_nextByte_15 rfl fl9_381 rfl rfl
(aw_iconst d_X9_nextByte_18 rfl
(aw_iadd d_X9_nextByte_19 rfl
(have e16 := e10 _ rfl; aw_put (kc := 37) d_X9_nextByte_20 rfl fp9_381 rfl rfl rfl rfl
(aw_goto d_X9_nextByte_23 rfl
e16)))))))))))))))
theorem vX9_nextByte {l : Launch} {P : Int → zM → Prop}  {M : zM}
    (H0 : LX9_nextByte_0 l P M) :
    CI l m_X9_nextByte [zr 9 0] M P :=
H0
theorem vX9_isDigit {l : Launch} {P : Int → zM → Prop}  {M : zM}
    (H0 : (CI l m_X9_nextByte [zr 9 0] M (fun x4 M1 => (zI x4 ∧ ((zJ x4 ∧ zJ 48 ∧ zJ 57) ∧ P (zb (48 ≤ x4 ∧ x4 ≤ 57)) M1))))) :
    CI l m_X9_isDigit [zr 9 0] M P :=
(aw_aload_n d_X9_isDigit_0 rfl rfl 0 rfl (by decide)
(aw_VI (As := []) (st := []) d_X9_isDigit_1 rfl cv9_390 ⟨Nat.le_of_ble_eq_true rfl, Nat.le_of_ble_eq_true rfl⟩ rfl rfl (Nat.le_of_ble_eq_true rfl) (Nat.le_of_ble_eq_true rfl) H0 (fun x4 M1 e2 => (have z5 := e2.1; have e6 := e2.2; (aw_i2l d_X9_isDigit_4 rfl z5
(aw_ldc2 d_X9_isDigit_5 rfl cl9_397
(aw_ldc2 d_X9_isDigit_8 rfl cl9_399
(have z7 := e6.1; have e8 := e6.2; (aw_SI (As := [zl x4, zl 48, zl 57]) (st := []) d_X9_isDigit_11 rfl cs9_82 ⟨Nat.le_of_ble_eq_true rfl, Nat.le_of_ble_eq_true rfl⟩ rfl rfl (Nat.le_of_ble_eq_true rfl) (Nat.le_of_ble_eq_true rfl) (s_X9_in z7) (fun _ _ hq => aw_eqs hq
(aw_rz d_X9_isDigit_14 rfl zb_01 e8)))))))))))
theorem mbt_b {i : Int} (h : mtX M b n) : -1 ≤ bt b n i ∧ bt b n i < 256 := by
  unfold bt
  by_cases c : 0 ≤ i ∧ i < n
  · rw [if_pos c]
    have := (h.2 i c).2
    omega
  · rw [if_neg c]
    omega
theorem c_X9_byteAt {i : Int} (h : mtX M b n) (zi' : zI i) (hi : 0 ≤ i) : CI l m_X9_byteAt [zr 9 0, zi i] M (fun x M' => x = bt b n i ∧ M' = M) := by
  have h1 := h.1
  refine vX9_byteAt ⟨zi', by omega, fun e => ⟨by unfold bt; rw [if_neg (by omega)], rfl⟩, fun e => ⟨by omega, ?_, rfl⟩⟩
  unfold bt
  rw [if_pos (by omega)]
  exact (h.2 i (by omega)).1
theorem c_X9_nextByte (h : mtX M b n) (hp : 0 ≤ M 9 0 37 ∧ M 9 0 37 ≤ n) : CI l m_X9_nextByte [zr 9 0] M (fun x M' => x = bt b n (sk isB b n (M 9 0 37)) ∧ spF M M' ∧ M' 9 0 37 = sk isB b n (M 9 0 37)) := by
  have h1 := h.1
  have loop : ∀ (f : Nat) (M' : zM), (n - M' 9 0 37).toNat = f → 0 ≤ M' 9 0 37 ∧ M' 9 0 37 ≤ n → spF M M' → sk isB b n (M' 9 0 37) = sk isB b n (M 9 0 37) → LX9_nextByte_0 l (fun x M' => x = bt b n (sk isB b n (M 9 0 37)) ∧ spF M M' ∧ M' 9 0 37 = sk isB b n (M 9 0 37)) M' := by
    intro f
    induction f with
    | zero =>
      intro M' hf hp' fr e
      have hx := h.f fr
      have h' := hx.1
      refine vX9_nextByte_0 ((c_X9_byteAt hx (by omega) hp'.1).mono ?_)
      rintro x M2 ⟨ex, rfl⟩
      have e1 : bt b n (M2 9 0 37) = -1 := by unfold bt; rw [if_neg (by omega)]
      rw [sk_e (by omega)] at e
      refine ⟨by omega, fun c => (c_X9_byteAt hx (by omega) hp'.1).mono ?_, fun c => by omega⟩
      rintro y M3 ⟨ey, rfl⟩
      rw [← e]
      exact ⟨ey, fr, rfl⟩
    | succ f ih =>
      intro M' hf hp' fr e
      have hx := h.f fr
      have h' := hx.1
      refine vX9_nextByte_0 ((c_X9_byteAt hx (by omega) hp'.1).mono ?_)
      rintro x M2 ⟨ex, rfl⟩
      have eb : x = b (M2 9 0 37) := by rw [ex]; unfold bt; rw [if_pos (by omega)]
      have bb := (hx.2 (M2 9 0 37) (by omega)).2
      refine ⟨by omega, fun c => (c_X9_byteAt hx (by omega) hp'.1).mono ?_, fun c => ?_⟩
      · rintro y M3 ⟨ey, rfl⟩
        have nb : ¬ (M3 9 0 37 < n ∧ isB (b (M3 9 0 37)) = true) := by
          rintro ⟨-, q⟩
          unfold isB at q
          rw [decide_eq_true_eq] at q
          omega
        rw [sk_e nb] at e
        rw [← e]
        exact ⟨ey, fr, rfl⟩
      · intro M3 q3
        have e3 : M3 9 0 37 = M2 9 0 37 + 1 := by rw [q3, zu_at, if_pos rfl]
        refine ih M3 (by omega) (by omega) (fr.tr (spF.sp q3)) ?_
        rw [e3, ← e, sk_s (i := M2 9 0 37) (by omega)]
        unfold isB
        rw [decide_eq_true_eq]
        omega
  exact vX9_nextByte (loop _ M rfl hp spF.rf rfl)
theorem c_X9_isDigit (h : mtX M b n) (hp : 0 ≤ M 9 0 37 ∧ M 9 0 37 ≤ n) : CI l m_X9_isDigit [zr 9 0] M (fun x M' => x = zb (isD (bt b n (sk isB b n (M 9 0 37))) = true) ∧ spF M M' ∧ M' 9 0 37 = sk isB b n (M 9 0 37)) := by
  refine vX9_isDigit ((c_X9_nextByte h hp).mono ?_)
  rintro x M1 ⟨ex, f1, e1⟩
  have bb := mbt_b (i := sk isB b n (M 9 0 37)) h
  rw [← ex] at bb ⊢
  refine ⟨by omega, ⟨by omega, by omega, by omega⟩, ?_, f1, e1⟩
  unfold isD
  by_cases c : 48 ≤ x ∧ x ≤ 57
  · rw [zb_1 c, zb_1 (decide_eq_true c)]
  · rw [zb_f c, zb_f (by rw [decide_eq_true_eq]; exact c)]
end
