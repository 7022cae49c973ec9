/-! ===== tell: bytes, blanks, words ===== -/
def skN (p : Int → Bool) (b : Int → Int) (n : Int) : Nat → Int → Int
  | 0, i => i
  | f + 1, i => if i < n ∧ p (b i) = true then skN p b n f (i + 1) else i
def sk (p : Int → Bool) (b : Int → Int) (n i : Int) : Int := skN p b n (n - i).toNat i
theorem sk_s {p : Int → Bool} {b : Int → Int} {n i : Int} (h : i < n) (hp : p (b i) = true) : sk p b n i = sk p b n (i + 1) := by
  unfold sk
  rw [show (n - i).toNat = (n - (i + 1)).toNat + 1 by omega, skN, if_pos ⟨h, hp⟩]
theorem sk_e {p : Int → Bool} {b : Int → Int} {n i : Int} (h : ¬ (i < n ∧ p (b i) = true)) : sk p b n i = i := by
  unfold sk
  generalize (n - i).toNat = f
  cases f with
  | zero => rfl
  | succ f => rw [skN, if_neg h]
theorem sk_b {p : Int → Bool} {b : Int → Int} {n : Int} : ∀ (f : Nat) (i : Int), (n - i).toNat = f → i ≤ n → i ≤ sk p b n i ∧ sk p b n i ≤ n ∧ ¬ (sk p b n i < n ∧ p (b (sk p b n i)) = true)
  | 0, i, hf, hi => by
    rw [sk_e (by omega)]
    exact ⟨by omega, hi, by omega⟩
  | f + 1, i, hf, hi => by
    by_cases c : i < n ∧ p (b i) = true
    · rw [sk_s c.1 c.2]
      have c1 := c.1
      have := sk_b (p := p) (b := b) (n := n) f (i + 1) (by omega) (by omega)
      exact ⟨by omega, this.2⟩
    · rw [sk_e c]
      exact ⟨by omega, hi, c⟩
def isB (x : Int) : Bool := decide (x = 32)
def isL (x : Int) : Bool := decide (97 ≤ x ∧ x ≤ 122)
def isD (x : Int) : Bool := decide (48 ≤ x ∧ x ≤ 57)
def bt (b : Int → Int) (n i : Int) : Int := if 0 ≤ i ∧ i < n then b i else -1
/-- the tape as the class has it -/
def tX (M : zM) (b : Int → Int) (n : Int) : Prop := (M 7 0 2 = n ∧ 0 ≤ n ∧ n ≤ 400) ∧ ∀ i, 0 ≤ i ∧ i < n → M 24 0 i = b i ∧ 0 ≤ b i ∧ b i < 256
def tF (M M' : zM) : Prop := (∀ k i, k ≠ 7 → M' k i = M k i) ∧ (∀ j, j ≠ 3 → M' 7 0 j = M 7 0 j)
theorem tF.rf {M : zM} : tF M M := ⟨fun _ _ _ => rfl, fun _ _ => rfl⟩
theorem tF.tr {M M1 M2 : zM} (a : tF M M1) (b : tF M1 M2) : tF M M2 := ⟨fun k i h => (b.1 k i h).trans (a.1 k i h), fun j h => (b.2 j h).trans (a.2 j h)⟩
theorem tF.pl {M M' : zM} {x : Int} (e : M' = zu M 7 0 3 x) : tF M M' := ⟨fun k i h => by rw [e, zu_k h], fun j h => by rw [e, zu_at, if_neg h]⟩
theorem tX.f {M M' : zM} {b : Int → Int} {n : Int} (h : tX M b n) (f : tF M M') : tX M' b n := by
  refine ⟨by rw [f.2 2 (by decide)]; exact h.1, fun i hi => ?_⟩
  rw [f.1 24 0 (by decide)]
  exact h.2 i hi
section
variable {l : Launch} {M : zM} {b : Int → Int} {n : Int}
theorem vX7_byteAt {l : Launch} {P : Int → zM → Prop} {v1 : Int} {M : zM}
    (H0 : (zI v1 ∧ (v1 < 0 → P (-1) M) ∧ (0 ≤ v1 → (zI (M 7 0 2) ∧ ((M 7 0 2) ≤ v1 → P (-1) M) ∧ (v1 < (M 7 0 2) → ((400 ≤ v1 → P (-1) M) ∧ (v1 < 400 → ((0 ≤ v1 ∧ v1 < 400) ∧ P (M 24 0 v1) M)))))))) :
    CI l m_X7_byteAt [zr 7 0, zi v1] M P :=
(aw_iload_n d_X7_byteAt_0 rfl rfl 1 rfl
(have z1 := H0.1; have e2 := H0.2; aw_if_lt d_X7_byteAt_1 rfl rfl z1 (fun c3 => have e5 := e2.1 c3; (aw_iconst d_X7_byteAt_28 rfl
(aw_ri d_X7_byteAt_29 rfl e5))) (fun c4 => have e6 := e2.2 c4; (aw_iload_n d_X7_byteAt_4 rfl rfl 1 rfl
(aw_aload_n d_X7_byteAt_5 rfl rfl 0 rfl (by decide)
(aw_getI (kc := 2) d_X7_byteAt_6 rfl fl7_22 rfl rfl
(have z7 := e6.1; have e8 := e6.2; aw_icmp_ge d_X7_byteAt_9 rfl rfl z1 z7 (fun c9 => have e11 := e8.1 c9; (aw_iconst d_X7_byteAt_28 rfl
(aw_ri d_X7_byteAt_29 rfl e11))) (fun c10 => have e12 := e8.2 c10; (aw_iload_n d_X7_byteAt_12 rfl rfl 1 rfl
(aw_sipush d_X7_byteAt_13 rfl (by decide)
(aw_icmp_ge d_X7_byteAt_16 rfl rfl z1 (by decide) (fun c13 => have e15 := e12.1 c13; (aw_iconst d_X7_byteAt_28 rfl
(aw_ri d_X7_byteAt_29 rfl e15))) (fun c14 => have e16 := e12.2 c14; (aw_aload_n d_X7_byteAt_19 rfl rfl 0 rfl (by decide)
(aw_getR (k' := 24) (a := 0) (b := 0) (j := 0) d_X7_byteAt_20 rfl fl7_9 rfl zj0 ⟨by decide, fun _ => by decide⟩
(aw_iload_n d_X7_byteAt_23 rfl rfl 1 rfl
(have z17 := e16.1; have e18 := e16.2; (aw_iald d_X7_byteAt_24 rfl za24 z17
(aw_goto d_X7_byteAt_25 rfl
(aw_ri d_X7_byteAt_29 rfl e18)))))))))))))))))))
theorem vX7_isDigit {l : Launch} {P : Int → zM → Prop} {v0 : Int} {M : zM}
    (H0 : (zI v0 ∧ (v0 < 48 → P 0 M) ∧ (48 ≤ v0 → ((57 < v0 → P 0 M) ∧ (v0 ≤ 57 → P 1 M))))) :
    CI l m_X7_isDigit [zi v0] M P :=
(aw_iload_n d_X7_isDigit_0 rfl rfl 0 rfl
(aw_bipush d_X7_isDigit_1 rfl (by decide)
(have z1 := H0.1; have e2 := H0.2; aw_icmp_lt d_X7_isDigit_3 rfl rfl z1 (by decide) (fun c3 => have e5 := e2.1 c3; (aw_iconst d_X7_isDigit_16 rfl
(aw_rz d_X7_isDigit_17 rfl (by decide) e5))) (fun c4 => have e6 := e2.2 c4; (aw_iload_n d_X7_isDigit_6 rfl rfl 0 rfl
(aw_bipush d_X7_isDigit_7 rfl (by decide)
(aw_icmp_gt d_X7_isDigit_9 rfl rfl z1 (by decide) (fun c7 => have e9 := e6.1 c7; (aw_iconst d_X7_isDigit_16 rfl
(aw_rz d_X7_isDigit_17 rfl (by decide) e9))) (fun c8 => have e10 := e6.2 c8; (aw_iconst d_X7_isDigit_12 rfl
(aw_goto d_X7_isDigit_13 rfl
(aw_rz d_X7_isDigit_17 rfl (by decide) e10)))))))))))
theorem vX7_isSmallLetter {l : Launch} {P : Int → zM → Prop} {v0 : Int} {M : zM}
    (H0 : (zI v0 ∧ (v0 < 97 → P 0 M) ∧ (97 ≤ v0 → ((122 < v0 → P 0 M) ∧ (v0 ≤ 122 → P 1 M))))) :
    CI l m_X7_isSmallLetter [zi v0] M P :=
(aw_iload_n d_X7_isSmallLetter_0 rfl rfl 0 rfl
(aw_bipush d_X7_isSmallLetter_1 rfl (by decide)
(have z1 := H0.1; have e2 := H0.2; aw_icmp_lt d_X7_isSmallLetter_3 rfl rfl z1 (by decide) (fun c3 => have e5 := e2.1 c3; (aw_iconst d_X7_isSmallLetter_16 rfl
(aw_rz d_X7_isSmallLetter_17 rfl (by decide) e5))) (fun c4 => have e6 := e2.2 c4; (aw_iload_n d_X7_isSmallLetter_6 rfl rfl 0 rfl
(aw_bipush d_X7_isSmallLetter_7 rfl (by decide)
(aw_icmp_gt d_X7_isSmallLetter_9 rfl rfl z1 (by decide) (fun c7 => have e9 := e6.1 c7; (aw_iconst d_X7_isSmallLetter_16 rfl
(aw_rz d_X7_isSmallLetter_17 rfl (by decide) e9))) (fun c8 => have e10 := e6.2 c8; (aw_iconst d_X7_isSmallLetter_12 rfl
(aw_goto d_X7_isSmallLetter_13 rfl
(aw_rz d_X7_isSmallLetter_17 rfl (by decide) e10)))))))))))
def LX7_skipBlanks_0 (l : Launch) (P : zM → Prop) (M : zM) : Prop := AW l m_X7_skipBlanks (zTv m_X7_skipBlanks P) 0 [(0, zr 7 0)] [] M
theorem vX7_skipBlanks_0 {l : Launch} {P : zM → Prop} {M : zM}
    (H0 : (zI (M 7 0 3) ∧ zI (M 7 0 2) ∧ ((M 7 0 2) ≤ (M 7 0 3) → P M) ∧ ((M 7 0 3) < (M 7 0 2) → (CI l m_X7_byteAt [zr 7 0, zi (M 7 0 3)] M (fun x11 M8 => (zI x11 ∧ (x11 ≠ 32 → P M8) ∧ (x11 = 32 → (∀ M18 : zM, M18 = zu M8 7 0 3 ((M8 7 0 3) + 1) → LX7_skipBlanks_0 l P M18)))))))) :
    LX7_skipBlanks_0 l P M :=
(aw_aload_n d_X7_skipBlanks_0 rfl rfl 0 rfl (by decide)
(aw_getI (kc := 3) d_X7_skipBlanks_1 rfl fl7_29 rfl rfl
(aw_aload_n d_X7_skipBlanks_4 rfl rfl 0 rfl (by decide)
(aw_getI (kc := 2) d_X7_skipBlanks_5 rfl fl7_22 rfl rfl
(have z1 := H0.1; have z2 := H0.2.1; have e3 := H0.2.2; aw_icmp_ge d_X7_skipBlanks_8 rfl rfl z1 z2 (fun c4 => have e6 := e3.1 c4; (aw_rv d_X7_skipBlanks_37 rfl e6)) (fun c5 => have e7 := e3.2 c5; (aw_aload_n d_X7_skipBlanks_11 rfl rfl 0 rfl (by decide)
(aw_aload_n d_X7_skipBlanks_12 rfl rfl 0 rfl (by decide)
(aw_getI (kc := 3) d_X7_skipBlanks_13 rfl fl7_29 rfl rfl
(aw_VI (As := [zi (M 7 0 3)]) (st := []) d_X7_skipBlanks_16 rfl cv7_48 ⟨Nat.le_of_ble_eq_true rfl, Nat.le_of_ble_eq_true rfl⟩ rfl rfl (Nat.le_of_ble_eq_true rfl) (Nat.le_of_ble_eq_true rfl) e7 (fun x11 M8 e9 => (aw_bipush d_X7_skipBlanks_19 rfl (by decide)
(have z12 := e9.1; have e13 := e9.2; aw_icmp_ne d_X7_skipBlanks_21 rfl rfl z12 (by decide) (fun c14 => have e16 := e13.1 c14; (aw_rv d_X7_skipBlanks_37 rfl e16)) (fun c15 => have e17 := e13.2 c15; (aw_aload_n d_X7_skipBlanks_24 rfl rfl 0 rfl (by decide)
(aw_dup d_X7_skipBlanks_25 rfl rfl
(aw_getI (kc := 3) d_X7_skipBlanks_26 rfl fl7_29 rfl rfl
(aw_iconst d_X7_skipBlanks_29 rfl
(aw_iadd d_X7_skipBlanks_30 rfl
(have e19 := e17 _ rfl; aw_put (kc := 3) d_X7_skipBlanks_31 rfl fp7_29 rfl rfl rfl rfl
(aw_goto d_X7_skipBlanks_34 rfl
e19)))))))))))))))))))))
theorem vX7_skipBlanks {l : Launch} {P : zM → Prop}  {M : zM}
    (H0 : LX7_skipBlanks_0 l P M) :
    CV l m_X7_skipBlanks [zr 7 0] M P :=
H0
def LX7_skipWord_0 (l : Launch) (P : zM → Prop) (M : zM) : Prop := AW l m_X7_skipWord (zTv m_X7_skipWord P) 0 [(0, zr 7 0)] [] M
theorem vX7_skipWord_0 {l : Launch} {P : zM → Prop} {M : zM}
    (H0 : (zI (M 7 0 3) ∧ zI (M 7 0 2) ∧ ((M 7 0 2) ≤ (M 7 0 3) → P M) ∧ ((M 7 0 3) < (M 7 0 2) → (CI l m_X7_byteAt [zr 7 0, zi (M 7 0 3)] M (fun x11 M8 => (CI l m_X7_isSmallLetter [zi x11] M8 (fun x15 M12 => (zI x15 ∧ (x15 = 0 → P M12) ∧ (x15 ≠ 0 → (∀ M22 : zM, M22 = zu M12 7 0 3 ((M12 7 0 3) + 1) → LX7_skipWord_0 l P M22)))))))))) :
    LX7_skipWord_0 l P M :=
(aw_aload_n d_X7_skipWord_0 rfl rfl 0 rfl (by decide)
(aw_getI (kc := 3) d_X7_skipWord_1 rfl fl7_29 rfl rfl
(aw_aload_n d_X7_skipWord_4 rfl rfl 0 rfl (by decide)
(aw_getI (kc := 2) d_X7_skipWord_5 rfl fl7_22 rfl rfl
(have z1 := H0.1; have z2 := H0.2.1; have e3 := H0.2.2; aw_icmp_ge d_X7_skipWord_8 rfl rfl z1 z2 (fun c4 => have e6 := e3.1 c4; (aw_rv d_X7_skipWord_38 rfl e6)) (fun c5 => have e7 := e3.2 c5; (aw_aload_n d_X7_skipWord_11 rfl rfl 0 rfl (by decide)
(aw_aload_n d_X7_skipWord_12 rfl rfl 0 rfl (by decide)
(aw_getI (kc := 3) d_X7_skipWord_13 rfl fl7_29 rfl rfl
(aw_VI (As := [zi (M 7 0 3)]) (st := []) d_X7_skipWord_16 rfl cv7_48 ⟨Nat.le_of_ble_eq_true rfl, Nat.le_of_ble_eq_true rfl⟩ rfl rfl (Nat.le_of_ble_eq_true rfl) (Nat.le_of_ble_eq_true rfl) e7 (fun x11 M8 e9 => (aw_SI (As := [zi x11]) (st := []) d_X7_skipWord_19 rfl cs7_115 ⟨Nat.le_of_ble_eq_true rfl, Nat.le_of_ble_eq_true rfl⟩ rfl rfl (Nat.le_of_ble_eq_true rfl) (Nat.le_of_ble_eq_true rfl) e9 (fun x15 M12 e13 => (have z16 := e13.1; have e17 := e13.2; aw_if_eq d_X7_skipWord_22 rfl rfl z16 (fun c18 => have e20 := e17.1 c18; (aw_rv d_X7_skipWord_38 rfl e20)) (fun c19 => have e21 := e17.2 c19; (aw_aload_n d_X7_skipWord_25 rfl rfl 0 rfl (by decide)
(aw_dup d_X7_skipWord_26 rfl rfl
(aw_getI (kc := 3) d_X7_skipWord_27 rfl fl7_29 rfl rfl
(aw_iconst d_X7_skipWord_30 rfl
(aw_iadd d_X7_skipWord_31 rfl
(have e23 := e21 _ rfl; aw_put (kc := 3) d_X7_skipWord_32 rfl fp7_29 rfl rfl rfl rfl
(aw_goto d_X7_skipWord_35 rfl
e23))))))))))))))))))))))
theorem vX7_skipWord {l : Launch} {P : zM → Prop}  {M : zM}
    (H0 : LX7_skipWord_0 l P M) :
    CV l m_X7_skipWord [zr 7 0] M P :=
H0
theorem c_X7_byteAt {i : Int} (h : tX M b n) (zi' : zI i) : CI l m_X7_byteAt [zr 7 0, zi i] M (fun x M' => x = bt b n i ∧ M' = M) := by
  have h1 := h.1
  refine vX7_byteAt ⟨zi', fun e => ⟨by unfold bt; rw [if_neg (by omega)], rfl⟩, fun e => ⟨by omega, fun e2 => ⟨by unfold bt; rw [if_neg (by omega)], rfl⟩, fun e2 => ⟨fun e3 => by omega, fun e3 => ⟨by omega, ?_, rfl⟩⟩⟩⟩
  unfold bt
  rw [if_pos (by omega)]
  exact (h.2 i (by omega)).1
theorem c_X7_skipBlanks (h : tX M b n) (hp : 0 ≤ M 7 0 3 ∧ M 7 0 3 ≤ n) : CV l m_X7_skipBlanks [zr 7 0] M (fun M' => tF M M' ∧ M' 7 0 3 = sk isB b n (M 7 0 3)) := by
  have h1 := h.1
  have loop : ∀ (f : Nat) (M' : zM), (n - M' 7 0 3).toNat = f → 0 ≤ M' 7 0 3 ∧ M' 7 0 3 ≤ n → tF M M' → sk isB b n (M' 7 0 3) = sk isB b n (M 7 0 3) → LX7_skipBlanks_0 l (fun M' => tF M M' ∧ M' 7 0 3 = sk isB b n (M 7 0 3)) M' := by
    intro f
    induction f with
    | zero =>
      intro M' hf hp' fr e
      have h' := (h.f fr).1
      refine vX7_skipBlanks_0 ⟨by omega, by omega, fun _ => ⟨fr, by rw [← e, sk_e (by omega)]⟩, fun c => by omega⟩
    | succ f ih =>
      intro M' hf hp' fr e
      have hx := h.f fr
      have h' := hx.1
      refine vX7_skipBlanks_0 ⟨by omega, by omega, fun c => by omega, fun _ => (c_X7_byteAt hx (by omega)).mono ?_⟩
      rintro x M2 ⟨ex, rfl⟩
      have eb : x = b (M2 7 0 3) := by rw [ex]; unfold bt; rw [if_pos (by omega)]
      have bb := (hx.2 (M2 7 0 3) (by omega)).2
      refine ⟨by omega, fun c => ⟨fr, ?_⟩, fun c => ?_⟩
      · rw [← e, sk_e]
        rintro ⟨-, q⟩
        unfold isB at q
        rw [decide_eq_true_eq] at q
        omega
      · intro M3 q3
        have e3 : M3 7 0 3 = M2 7 0 3 + 1 := by rw [q3, zu_at, if_pos rfl]
        refine ih M3 (by omega) (by omega) (fr.tr (tF.pl q3)) ?_
        rw [e3, ← e, sk_s (i := M2 7 0 3) (by omega)]
        unfold isB
        rw [decide_eq_true_eq]
        omega
  exact vX7_skipBlanks (loop _ M rfl hp tF.rf rfl)
theorem c_X7_isDigit {x : Int} (zx : zI x) : CI l m_X7_isDigit [zi x] M (fun y M' => y = zb (isD x = true) ∧ M' = M) := by
  unfold isD
  refine vX7_isDigit ⟨zx, fun c => ⟨?_, rfl⟩, fun c => ⟨fun d => ⟨?_, rfl⟩, fun d => ⟨?_, rfl⟩⟩⟩
  · exact (zb_f (by rw [decide_eq_true_eq]; omega)).symm
  · exact (zb_f (by rw [decide_eq_true_eq]; omega)).symm
  · exact (zb_1 (by rw [decide_eq_true_eq]; omega)).symm
theorem c_X7_isSmallLetter {x : Int} (zx : zI x) : CI l m_X7_isSmallLetter [zi x] M (fun y M' => y = zb (isL x = true) ∧ M' = M) := by
  unfold isL
  refine vX7_isSmallLetter ⟨zx, fun c => ⟨?_, rfl⟩, fun c => ⟨fun d => ⟨?_, rfl⟩, fun d => ⟨?_, rfl⟩⟩⟩
  · exact (zb_f (by rw [decide_eq_true_eq]; omega)).symm
  · exact (zb_f (by rw [decide_eq_true_eq]; omega)).symm
  · exact (zb_1 (by rw [decide_eq_true_eq]; omega)).symm
theorem c_X7_skipWord (h : tX M b n) (hp : 0 ≤ M 7 0 3 ∧ M 7 0 3 ≤ n) : CV l m_X7_skipWord [zr 7 0] M (fun M' => tF M M' ∧ M' 7 0 3 = sk isL b n (M 7 0 3)) := by
  have h1 := h.1
  have loop : ∀ (f : Nat) (M' : zM), (n - M' 7 0 3).toNat = f → 0 ≤ M' 7 0 3 ∧ M' 7 0 3 ≤ n → tF M M' → sk isL b n (M' 7 0 3) = sk isL b n (M 7 0 3) → LX7_skipWord_0 l (fun M' => tF M M' ∧ M' 7 0 3 = sk isL b n (M 7 0 3)) M' := by
    intro f
    induction f with
    | zero =>
      intro M' hf hp' fr e
      have h' := (h.f fr).1
      refine vX7_skipWord_0 ⟨by omega, by omega, fun _ => ⟨fr, by rw [← e, sk_e (by omega)]⟩, fun c => by omega⟩
    | succ f ih =>
      intro M' hf hp' fr e
      have hx := h.f fr
      have h' := hx.1
      refine vX7_skipWord_0 ⟨by omega, by omega, fun c => by omega, fun _ => (c_X7_byteAt hx (by omega)).mono ?_⟩
      rintro x M2 ⟨ex, rfl⟩
      have eb : x = b (M2 7 0 3) := by rw [ex]; unfold bt; rw [if_pos (by omega)]
      have bb := (hx.2 (M2 7 0 3) (by omega)).2
      refine (c_X7_isSmallLetter (by omega)).mono ?_
      rintro y M4 ⟨ey, rfl⟩
      rw [eb] at ey
      refine ⟨by rw [ey]; exact zb_I, fun c => ⟨fr, ?_⟩, fun c => ?_⟩
      · rw [← e, sk_e]
        rintro ⟨-, q⟩
        rw [ey] at c
        exact zb_0 c q
      · intro M3 q3
        have e3 : M3 7 0 3 = M4 7 0 3 + 1 := by rw [q3, zu_at, if_pos rfl]
        rw [ey] at c
        refine ih M3 (by omega) (by omega) (fr.tr (tF.pl q3)) ?_
        rw [e3, ← e, sk_s (i := M4 7 0 3) (by omega) (zb_n0 c)]
  exact vX7_skipWord (loop _ M rfl hp tF.rf rfl)
end

