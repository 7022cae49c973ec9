/-! ===== share: the doubles of the class ===== -/
theorem aw_dconst1 {l : Launch} {X : zD} {T : zT} {pc pc' : Nat} {lv : List (Nat × zV)} {st : List zV} {M : zM} (hd : dec X pc = .ok (.dconst 1, 1)) (hp : pc + 1 = pc') (kk : AW l X T pc' lv (zd FP.dconst1 :: st) M) : AW l X T pc lv st M := by
  subst hp
  refine AW.go (fun h _ => zok1d h) ?_ kk
  intro g p e s m args below meth c H locs ls Q hC hW hS hlv host hk
  exact lv_dconst1 hC.1 hC.2.1 hd hk
def zdcg (x y : UInt64) : Int := (Op.cmpValue (FP.dcmp x y) .g).toInt
theorem zdcg_h {x y : UInt64} : Op.cmpValue (FP.dcmp x y) .g = Int32.ofInt (zdcg x y) := (Int32.ofInt_toInt _).symm
def zd2l (x : UInt64) : Int := (FP.d2l x).toInt
theorem zd2l_h {x : UInt64} : FP.d2l x = Int64.ofInt (zd2l x) := (Int64.ofInt_toInt _).symm
theorem b6_t : FP.Core.b64.tails = 4503599627370496 := by decide
theorem b6_e : FP.Core.b64.exps = 2048 := by decide
theorem b6_m : FP.Core.b64.qmin = -1074 := by decide
theorem b6_x : FP.Core.b64.qmax = 971 := by decide
theorem b6_p : FP.Core.b64.p = 53 := rfl
theorem fitN {c : Nat} {q : Int} (h : 4503599627370496 ≤ c ∧ c < 9007199254740992) (hq : -1074 ≤ q ∧ q ≤ 900) : FP.Core.fits FP.Core.b64 (.fin false c q) := by
  refine ⟨?_, ?_, ?_, .inr ?_⟩
  · rw [b6_p]
    exact h.2
  · rw [b6_m]
    exact hq.1
  · rw [b6_x]
    omega
  · rw [b6_t]
    exact h.1
theorem vf_of {r : UInt64} {c : Nat} {q : Int} (h : FP.Core.val64 r = .fin false c q) : vf_n64 r := by
  have hlt := r.toNat_lt
  unfold vf_n64
  rw [UInt64.le_iff_toNat_le, UInt64.toNat_and]
  refine Nat.le_trans Nat.and_le_left ?_
  show r.toNat ≤ 9218868437227405312
  unfold FP.Core.val64 FP.Core.decode at h
  rw [b6_e] at h
  have s : FP.Core.fieldS FP.Core.b64 r.toNat = false ∧ FP.Core.fieldE FP.Core.b64 r.toNat ≠ 2048 - 1 := by
    by_cases c1 : FP.Core.fieldE FP.Core.b64 r.toNat = 2048 - 1
    · rw [if_pos c1] at h
      split at h <;> cases h
    · rw [if_neg c1] at h
      refine ⟨?_, c1⟩
      split at h
      · injection h
      · injection h
  unfold FP.Core.fieldS FP.Core.fieldE at s
  rw [b6_t, b6_e] at s
  obtain ⟨s1, s2⟩ := s
  have s3 : r.toNat / 4503599627370496 / 2048 % 2 ≠ 1 := by
    intro e
    rw [e] at s1
    cases s1
  omega
theorem norm_k {k : Nat} (hk : 1 ≤ k ∧ k < 9007199254740992) : ∃ j : Nat, j ≤ 52 ∧ 4503599627370496 ≤ k * 2 ^ j ∧ k * 2 ^ j < 9007199254740992 := by
  have h0 : k ≠ 0 := by omega
  have a := Nat.log2_self_le h0
  have b := Nat.lt_log2_self (n := k)
  have c : k.log2 < 53 := (Nat.log2_lt h0).mpr hk.2
  refine ⟨52 - k.log2, by omega, ?_, ?_⟩
  · have : 2 ^ k.log2 * 2 ^ (52 - k.log2) = 4503599627370496 := by rw [← Nat.pow_add, show k.log2 + (52 - k.log2) = 52 by omega]
    rw [← this]
    exact Nat.mul_le_mul_right _ a
  · have : 2 ^ (k.log2 + 1) * 2 ^ (52 - k.log2) = 9007199254740992 := by rw [← Nat.pow_add, show k.log2 + 1 + (52 - k.log2) = 53 by omega]
    rw [← this]
    exact Nat.mul_lt_mul_of_pos_right b (Nat.two_pow_pos _)
theorem rr_k {k : Nat} {e : Int} (hk : 1 ≤ k ∧ k < 9007199254740992) (he : -200 ≤ e ∧ e ≤ 200) : ∃ j : Nat, j ≤ 52 ∧ (4503599627370496 ≤ k * 2 ^ j ∧ k * 2 ^ j < 9007199254740992) ∧ FP.Core.roundRatio FP.Core.b64 false k 1 e = .fin false (k * 2 ^ j) (e - j) := by
  obtain ⟨j, hj, hn⟩ := norm_k hk
  refine ⟨j, hj, hn, FP.Core.roundRatio_exact FP.Core.good_b64 (by decide) (fitN hn (by omega)) ?_⟩
  rw [show (e - (e - (j : Int))).toNat = j by omega, show ((e - (j : Int)) - e).toNat = 0 by omega]
  simp
theorem i2d_v {a : Nat} (h : 1 ≤ a ∧ a < 2147483648) : ∃ j : Nat, j ≤ 52 ∧ (4503599627370496 ≤ a * 2 ^ j ∧ a * 2 ^ j < 9007199254740992) ∧ FP.Core.val64 (FP.i2d (Int32.ofInt (a : Int))) = .fin false (a * 2 ^ j) (0 - j) := by
  obtain ⟨j, h1, h2, h3⟩ := rr_k (k := a) (e := 0) (by omega) (by omega)
  refine ⟨j, h1, h2, ?_⟩
  rw [← h3]
  refine (FP.Core.val64_i2d _).trans ?_
  rw [Int32.toInt_ofInt_of_le (by omega) (by omega)]
  unfold FP.Core.ofInt
  rw [show decide ((a : Int) < 0) = false from decide_eq_false (by omega)]
  rfl
/-- the significand of a quotient a/b, s the doublings that lead a to b -/
def sig (a b s : Nat) : Nat := FP.Core.nearest (a * 2 ^ (s + 52)) b
theorem sig_b {a b s : Nat} (hb : 1 ≤ b) (h : b ≤ a * 2 ^ s ∧ a * 2 ^ s < 2 * b) : 4503599627370496 ≤ sig a b s ∧ sig a b s ≤ 9007199254740992 := by
  have e : a * 2 ^ (s + 52) = a * 2 ^ s * 4503599627370496 := by rw [Nat.pow_add, Nat.mul_assoc]
  unfold sig
  rw [e]
  exact ⟨FP.Core.nearest_ge hb (by omega), FP.Core.nearest_le hb (by omega)⟩
theorem div_v {a b s : Nat} (ha : 1 ≤ a ∧ a < 2147483648) (hb : 1 ≤ b ∧ b < 2147483648) (hs : s ≤ 200) (h : b ≤ a * 2 ^ s ∧ a * 2 ^ s < 2 * b) :
    FP.Core.val64 (FP.ddiv (FP.i2d (Int32.ofInt (a : Int))) (FP.i2d (Int32.ofInt (b : Int)))) = if sig a b s < 9007199254740992 then .fin false (sig a b s) (-52 - s) else .fin false 4503599627370496 (-51 - s) := by
  obtain ⟨j, h1, h2, h3⟩ := i2d_v ha
  obtain ⟨j', k1, k2, k3⟩ := i2d_v hb
  refine (FP.Core.val64_ddiv _ _).trans ?_
  have h3' : FP.Core.val64 (FP.Core.i2d (Int32.ofInt (a : Int))) = .fin false (a * 2 ^ j) (0 - j) := h3
  have k3' : FP.Core.val64 (FP.Core.i2d (Int32.ofInt (b : Int))) = .fin false (b * 2 ^ j') (0 - j') := k3
  rw [h3, k3]
  have e1 : FP.Core.quotient FP.Core.b64 (.fin false (a * 2 ^ j) (0 - (j : Int))) (.fin false (b * 2 ^ j') (0 - (j' : Int))) = FP.Core.roundRatio FP.Core.b64 false (a * 2 ^ j) (b * 2 ^ j') ((0 - (j : Int)) - (0 - (j' : Int))) := by
    show (if b * 2 ^ j' = 0 then _ else _) = _
    rw [if_neg (by omega)]
    rfl
  rw [e1, FP.Core.roundRatio_congr (A' := a) (B' := b) (e' := 0) (by omega) (by omega) (by
    rw [show ((0 - (j : Int)) - (0 - (j' : Int)) - 0).toNat = j' - j by omega, show (0 - ((0 - (j : Int)) - (0 - (j' : Int)))).toNat = j - j' by omega]
    have c : 2 ^ j * 2 ^ (j' - j) = 2 ^ j' * 2 ^ (j - j') := by
      rw [← Nat.pow_add, ← Nat.pow_add]
      congr 1
      omega
    calc a * 2 ^ j * b * 2 ^ (j' - j) = a * b * (2 ^ j * 2 ^ (j' - j)) := by simp only [Nat.mul_assoc, Nat.mul_left_comm, Nat.mul_comm]
      _ = a * b * (2 ^ j' * 2 ^ (j - j')) := by rw [c]
      _ = a * (b * 2 ^ j') * 2 ^ (j - j') := by simp only [Nat.mul_assoc])]
  have q : FP.Core.quantum FP.Core.b64 a b 0 = -52 - s := by
    refine FP.Core.quantum_eq (by omega) (by omega) (by rw [b6_m]; omega) ?_ (.inr ?_)
    · rw [b6_p, show (-52 - (s : Int) - 0 + ((53 : Nat) : Int)) = ((1 : Nat) : Int) - ((s : Nat) : Int) by omega, FP.Core.below_iff]
      omega
    · rw [b6_p, show (-52 - (s : Int) - 0 + (((53 : Nat) : Int) - 1)) = ((0 : Nat) : Int) - ((s : Nat) : Int) by omega, FP.Core.below_iff]
      omega
  have sb := sig_b hb.1 h
  unfold FP.Core.roundRatio
  rw [if_neg (by omega), q]
  unfold FP.Core.roundAt FP.Core.unitsNum FP.Core.unitsDen
  rw [show (0 - (-52 - (s : Int))).toNat = s + 52 by omega, show ((-52 - (s : Int)) - 0).toNat = 0 by omega, Nat.pow_zero, Nat.mul_one]
  show FP.Core.settle FP.Core.b64 false (sig a b s) (-52 - s) = _
  unfold FP.Core.settle FP.Core.bound
  rw [b6_p, b6_x, b6_t]
  by_cases c : sig a b s < 9007199254740992
  · rw [if_pos c, if_pos c, if_pos (by omega)]
  · rw [if_neg c, if_neg c, if_pos (by omega), show -52 - (s : Int) + 1 = -51 - s by omega]
theorem one_v : FP.Core.val64 FP.dconst1 = .fin false 4503599627370496 (-52) := by decide +kernel
theorem two_v : FP.Core.val64 4611686018427387904 = .fin false 4503599627370496 (-51) := by decide +kernel
theorem big_v : FP.Core.val64 4841369599423283200 = .fin false 4503599627370496 0 := by decide +kernel
theorem mul2_v {r : UInt64} {c : Nat} {q : Int} (h : FP.Core.val64 r = .fin false c q) (hc : 4503599627370496 ≤ c ∧ c < 9007199254740992) (hq : -300 ≤ q ∧ q ≤ 300) : FP.Core.val64 (FP.dmul r 4611686018427387904) = .fin false c (q + 1) := by
  refine (FP.Core.val64_dmul _ _).trans ?_
  rw [h, two_v]
  show FP.Core.roundRatio FP.Core.b64 false (c * 4503599627370496) 1 (q + -51) = _
  refine FP.Core.roundRatio_exact FP.Core.good_b64 (by decide) (fitN hc (by omega)) ?_
  rw [show (q + -51 - (q + 1)).toNat = 0 by omega, show (q + 1 - (q + -51)).toNat = 52 by omega]
  omega
theorem cmp_v {r : UInt64} {c : Nat} {q : Int} (h : FP.Core.val64 r = .fin false c q) (hc : 4503599627370496 ≤ c ∧ c < 9007199254740992) (hq : q ≤ -52) : (q < -52 → zdcg r FP.dconst1 = -1) ∧ (q = -52 → 0 ≤ zdcg r FP.dconst1) := by
  have e : FP.dcmp r FP.dconst1 = some (compare (FP.Core.signed false (FP.Core.inUnits c q (min q (-52)))) (FP.Core.signed false (FP.Core.inUnits 4503599627370496 (-52) (min q (-52))))) := by
    show FP.Core.order (FP.Core.val64 r) (FP.Core.val64 FP.dconst1) = _
    rw [h, one_v]
    rfl
  unfold FP.Core.inUnits at e
  constructor
  · intro c1
    rw [show min q (-52) = q by omega, show (q - q).toNat = 0 by omega] at e
    have k : 2 ≤ 2 ^ (-52 - q).toNat := by
      have : 2 ^ 1 ≤ 2 ^ (-52 - q).toNat := Nat.pow_le_pow_right (by decide) (by omega)
      exact this
    have lt : compare (FP.Core.signed false (c * 2 ^ 0)) (FP.Core.signed false (4503599627370496 * 2 ^ (-52 - q).toNat)) = Ordering.lt := by
      show compareOfLessAndEq ((c * 2 ^ 0 : Nat) : Int) ((4503599627370496 * 2 ^ (-52 - q).toNat : Nat) : Int) = Ordering.lt
      unfold compareOfLessAndEq
      rw [if_pos (by omega)]
    rw [lt] at e
    unfold zdcg
    rw [e]
    decide
  · intro c1
    unfold zdcg
    rw [e]
    have nl : compare (FP.Core.signed false (c * 2 ^ (q - min q (-52)).toNat)) (FP.Core.signed false (4503599627370496 * 2 ^ (-52 - min q (-52)).toNat)) ≠ Ordering.lt := by
      rw [show (q - min q (-52)).toNat = 0 by omega, show (-52 - min q (-52)).toNat = 0 by omega]
      show compareOfLessAndEq ((c * 2 ^ 0 : Nat) : Int) ((4503599627370496 * 2 ^ 0 : Nat) : Int) ≠ Ordering.lt
      unfold compareOfLessAndEq
      rw [if_neg (by omega)]
      split
      · intro x
        cases x
      · intro x
        cases x
    revert nl
    generalize compare (FP.Core.signed false (c * 2 ^ (q - min q (-52)).toNat)) (FP.Core.signed false (4503599627370496 * 2 ^ (-52 - min q (-52)).toNat)) = o
    intro nl
    cases o
    · exact absurd rfl nl
    · decide
    · decide
theorem sub_v {r : UInt64} {c : Nat} (h : FP.Core.val64 r = .fin false c (-52)) (hc : 4503599627370496 ≤ c ∧ c < 9007199254740992) : FP.Core.val64 (FP.dsub r FP.dconst1) = FP.Core.roundRatio FP.Core.b64 false (c - 4503599627370496) 1 (-52) := by
  refine (FP.Core.val64_dsub _ _).trans ?_
  rw [h, one_v]
  have e : FP.Core.sumUnits false c (-52) true 4503599627370496 (-52) (-52) = ((c - 4503599627370496 : Nat) : Int) := by
    show ((c * 2 ^ 0 : Nat) : Int) + -((4503599627370496 * 2 ^ 0 : Nat) : Int) = _
    omega
  show FP.Core.roundRatio FP.Core.b64 (FP.Core.sumSign false true (FP.Core.sumUnits false c (-52) true 4503599627370496 (-52) (-52))) (FP.Core.sumUnits false c (-52) true 4503599627370496 (-52) (-52)).natAbs 1 (-52) = _
  have es : FP.Core.sumSign false true ((c - 4503599627370496 : Nat) : Int) = false := by
    unfold FP.Core.sumSign
    split
    · rfl
    · exact decide_eq_false (by omega)
  rw [e, Int.natAbs_natCast, es]
theorem last_v {r : UInt64} {c : Nat} (h : FP.Core.val64 r = .fin false c (-52)) (hc : 4503599627370496 ≤ c ∧ c < 9007199254740992) :
    vf_n64 (FP.dsub r FP.dconst1) ∧ vf_n64 (FP.dmul (FP.dsub r FP.dconst1) 4841369599423283200) ∧ zd2l (FP.dmul (FP.dsub r FP.dconst1) 4841369599423283200) = (c : Int) - 4503599627370496 := by
  have h1 := sub_v h hc
  by_cases k0 : c = 4503599627370496
  · subst k0
    have h2 : FP.Core.val64 (FP.dsub r FP.dconst1) = .fin false 0 (-1074) := h1
    have h3 : FP.Core.val64 (FP.dmul (FP.dsub r FP.dconst1) 4841369599423283200) = .fin false 0 (-1074) := by
      refine (FP.Core.val64_dmul _ _).trans ?_
      rw [h2, big_v]
      rfl
    refine ⟨vf_of h2, vf_of h3, ?_⟩
    show (FP.Core.toL (FP.Core.val64 (FP.dmul (FP.dsub r FP.dconst1) 4841369599423283200))).toInt = _
    rw [h3]
    decide +kernel
  · obtain ⟨j, j1, j2, j3⟩ := rr_k (k := c - 4503599627370496) (e := -52) (by omega) (by omega)
    have h2 := h1.trans j3
    have h3 : FP.Core.val64 (FP.dmul (FP.dsub r FP.dconst1) 4841369599423283200) = .fin false ((c - 4503599627370496) * 2 ^ j) (0 - j) := by
      refine (FP.Core.val64_dmul _ _).trans ?_
      rw [h2, big_v]
      show FP.Core.roundRatio FP.Core.b64 false ((c - 4503599627370496) * 2 ^ j * 4503599627370496) 1 (-52 - (j : Int) + 0) = _
      refine FP.Core.roundRatio_exact FP.Core.good_b64 (by decide) (fitN j2 (by omega)) ?_
      rw [show (-52 - (j : Int) + 0 - (0 - (j : Int))).toNat = 0 by omega, show (0 - (j : Int) - (-52 - (j : Int) + 0)).toNat = 52 by omega]
      omega
    refine ⟨vf_of h2, vf_of h3, ?_⟩
    show (FP.Core.toL (FP.Core.val64 (FP.dmul (FP.dsub r FP.dconst1) 4841369599423283200))).toInt = _
    rw [h3]
    unfold FP.Core.toL FP.Core.toInt FP.Core.truncate
    show (Int64.ofInt (max (-2 ^ 63) (min (2 ^ 63 - 1) (((c - 4503599627370496) * 2 ^ j * 2 ^ (0 - (j : Int)).toNat / 2 ^ (-(0 - (j : Int))).toNat : Nat) : Int)))).toInt = _
    rw [show (0 - (j : Int)).toNat = 0 by omega, show (-(0 - (j : Int))).toNat = j by omega, Nat.pow_zero, Nat.mul_one, Nat.mul_div_cancel _ (Nat.two_pow_pos _)]
    rw [Int64.toInt_ofInt_of_le (by omega) (by omega)]
    omega
