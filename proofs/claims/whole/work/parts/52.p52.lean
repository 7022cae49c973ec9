/-! ===== share: the reference ===== -/
theorem zlshl_53 (i : Fin 50) : zlshl (1024 - (i.val : Int)) 52 = (1024 - (i.val : Int)) * 4503599627370496 := by revert i; decide +kernel
theorem zlshl_f {x : Int} (h : 975 ≤ x ∧ x ≤ 1024) : zlshl x 52 = x * 4503599627370496 := by
  have := zlshl_53 ⟨(1024 - x).toNat, by omega⟩
  rw [show (1024 - (((1024 - x).toNat : Nat) : Int)) = x by omega] at this
  exact this
section
variable {l : Launch} {M : zM} {S : zS}
theorem c_X9_bitsOf {a b : Int} (h : (0 ≤ a ∧ a ≤ b) ∧ b < 2147483648) : CL l m_X9_bitsOf [zl a, zl b] M (fun x M' => x = aBits a b ∧ M' = M) := by
  refine vX9_bitsOf ⟨by omega, fun hb => ⟨by omega, fun ha => ?_, fun ha => ⟨?_, rfl⟩⟩, fun hb => ⟨?_, rfl⟩⟩
  · obtain ⟨a, rfl⟩ : ∃ n : Nat, a = n := ⟨a.toNat, by omega⟩
    obtain ⟨b, rfl⟩ : ∃ n : Nat, b = n := ⟨b.toNat, by omega⟩
    obtain ⟨k1, k2⟩ := (dbl_ok (n := 40) (a := a) (b := b) (by omega) (by omega))
    have as := (aBits_s (by omega) (by omega) (by omega) k1).2
    have sb := sig_b (by omega) k1
    generalize hs : dbl 40 a b = s at *
    have fin : ∀ c : Nat, sig a b s = c → ((c : Int) ≠ 9007199254740992 → zlshl (1023 - (s : Int)) 52 + (c : Int) - 4503599627370496 = aBits a b) ∧ ((c : Int) = 9007199254740992 → zlshl (1023 - (s : Int) + 1) 52 + Int.tdiv (c : Int) 2 - 4503599627370496 = aBits a b) := by
      intro c hc
      rw [as, hc]
      refine ⟨fun _ => ?_, fun q => ?_⟩
      · rw [zlshl_e (by omega)]
      · rw [zlshl_f (by omega), q, show Int.tdiv 9007199254740992 2 = 4503599627370496 from rfl]
        omega
    have l53 : ∀ (n k L p : Nat), 53 - k = n → k ≤ 53 → a * 2 ^ s * 2 ^ k = p * (2 * b) + L → L < 2 * b → p + 1 ≤ 2 ^ k → LX9_bitsOf_53 l (fun x M' => x = aBits a b ∧ M' = M) (b : Int) (L : Int) (1023 - (s : Int)) (p : Int) (k : Int) M := by
      intro n
      induction n with
      | zero =>
        intro k L p hn hk e hL hp
        have ek : k = 53 := by omega
        subst ek
        have e' : a * 2 ^ (s + 52) = p * b + L / 2 ∧ L % 2 = 0 := by
          have e1 : a * 2 ^ s * 2 ^ 53 = a * 2 ^ (s + 52) * 2 := by
            rw [Nat.pow_add, ← Nat.mul_assoc, Nat.mul_assoc (a * 2 ^ s) (2 ^ 52) 2]
          have e2 : p * (2 * b) = p * b * 2 := by rw [Nat.mul_comm 2 b, Nat.mul_assoc]
          rw [e1, e2] at e
          generalize p * b = y at e ⊢
          generalize a * 2 ^ (s + 52) = z at e ⊢
          omega
        have b0 : 0 < b := by omega
        have dv : a * 2 ^ (s + 52) / b = p := by
          rw [e'.1, Nat.add_comm, Nat.add_mul_div_right _ _ b0, Nat.div_eq_of_lt (by omega)]
          omega
        have md : a * 2 ^ (s + 52) % b = L / 2 := by
          rw [e'.1, Nat.add_comm, Nat.add_mul_mod_self_right, Nat.mod_eq_of_lt (by omega)]
        have sg : sig a b s = if L < b then p else if b < L then p + 1 else p + p % 2 := by
          unfold sig FP.Core.nearest
          rw [dv, md, show 2 * (L / 2) = L by omega]
        have hp' : p + 1 ≤ 9007199254740992 := hp
        refine vX9_bitsOf_53 ⟨by omega, fun _ => ⟨by omega, by omega, fun c => ⟨by omega, ?_⟩, fun c => ⟨fun d => ⟨by omega, ?_⟩, fun d => ⟨by omega, by rw [Int.tmod_eq_emod_of_nonneg (by omega)]; omega, fun q => ?_, fun q => ⟨by omega, ?_⟩⟩⟩⟩, fun c => by omega⟩
        · have f := fin (p + 1) (by rw [sg, if_neg (by omega), if_pos (by omega)])
          rw [show ((p + 1 : Nat) : Int) = (p : Int) + 1 by omega] at f
          exact ⟨fun q => ⟨by omega, f.1 q, rfl⟩, fun q => ⟨by omega, f.2 q, rfl⟩⟩
        · have f := fin p (by rw [sg, if_pos (by omega)])
          exact ⟨fun q => ⟨by omega, f.1 q, rfl⟩, fun q => ⟨by omega, f.2 q, rfl⟩⟩
        · rw [Int.tmod_eq_emod_of_nonneg (by omega)] at q
          have f := fin p (by rw [sg, if_neg (by omega), if_neg (by omega)]; omega)
          exact ⟨fun q => ⟨by omega, f.1 q, rfl⟩, fun q => ⟨by omega, f.2 q, rfl⟩⟩
        · rw [Int.tmod_eq_emod_of_nonneg (by omega)] at q
          have f := fin (p + 1) (by rw [sg, if_neg (by omega), if_neg (by omega)]; omega)
          rw [show ((p + 1 : Nat) : Int) = (p : Int) + 1 by omega] at f
          exact ⟨fun q => ⟨by omega, f.1 q, rfl⟩, fun q => ⟨by omega, f.2 q, rfl⟩⟩
      | succ n ih =>
        intro k L p hn hk e hL hp
        have p2 : (2 : Nat) ^ (k + 1) = 2 * 2 ^ k := by rw [Nat.pow_succ, Nat.mul_comm]
        have e1 : a * 2 ^ s * 2 ^ (k + 1) = (p * (2 * b) + L) * 2 := by rw [← e, Nat.pow_succ, ← Nat.mul_assoc]
        refine vX9_bitsOf_53 ⟨by omega, fun c => by omega, fun _ => ⟨by omega, by omega, fun c => ?_, fun c => ?_⟩⟩
        · have := ih (k + 1) (2 * L) (2 * p) (by omega) (by omega) (by
            rw [e1, Nat.mul_assoc 2 p]
            generalize p * (2 * b) = y
            omega) (by omega) (by omega)
          rw [show ((2 * L : Nat) : Int) = 2 * (L : Int) by omega, show ((2 * p : Nat) : Int) = 2 * (p : Int) + 0 by omega, show ((k + 1 : Nat) : Int) = (k : Int) + 1 by omega] at this
          exact this
        · have := ih (k + 1) (2 * (L - b)) (2 * p + 1) (by omega) (by omega) (by
            rw [e1, Nat.add_mul (2 * p) 1, Nat.mul_assoc 2 p]
            generalize p * (2 * b) = y
            omega) (by omega) (by omega)
          rw [show ((2 * (L - b) : Nat) : Int) = 2 * ((L : Int) - (b : Int)) by omega, show ((2 * p + 1 : Nat) : Int) = 2 * (p : Int) + 1 by omega, show ((k + 1 : Nat) : Int) = (k : Int) + 1 by omega] at this
          exact this
    have l26 : ∀ (n i : Nat), s - i = n → i ≤ s → LX9_bitsOf_26 l (fun x M' => x = aBits a b ∧ M' = M) (b : Int) ((a * 2 ^ i : Nat) : Int) (1023 - (i : Int)) M := by
      intro n
      induction n with
      | zero =>
        intro i hn hi
        have ei : i = s := by omega
        subst ei
        refine vX9_bitsOf_26 ⟨by omega, by omega, fun _ => ?_, fun c => by omega⟩
        exact l53 53 0 (a * 2 ^ i) 0 rfl (by omega) (by omega) k1.2 (by decide)
      | succ n ih =>
        intro i hn hi
        have lt : a * 2 ^ i < b := by
          have e : a * 2 ^ s = a * 2 ^ i * 2 ^ (s - i) := by rw [Nat.mul_assoc, ← Nat.pow_add, show i + (s - i) = s by omega]
          have e2 : 2 ^ 1 ≤ 2 ^ (s - i) := Nat.pow_le_pow_right (by decide) (by omega)
          have e3 : a * 2 ^ i * 2 ^ 1 ≤ a * 2 ^ i * 2 ^ (s - i) := Nat.mul_le_mul_left _ e2
          omega
        refine vX9_bitsOf_26 ⟨by omega, by omega, fun c => by omega, fun _ => ?_⟩
        have := ih (i + 1) (by omega) (by omega)
        rw [show a * 2 ^ (i + 1) = a * 2 ^ i * 2 by rw [Nat.pow_succ, Nat.mul_assoc], show ((a * 2 ^ i * 2 : Nat) : Int) = ((a * 2 ^ i : Nat) : Int) * 2 by omega, show (1023 - ((i + 1 : Nat) : Int)) = 1023 - (i : Int) - 1 by omega] at this
        exact this
    have := l26 s 0 rfl (by omega)
    rw [Nat.pow_zero, Nat.mul_one] at this
    exact this
  · unfold aBits
    rw [if_neg (by omega), if_pos (by omega)]
  · unfold aBits
    rw [if_pos (by omega)]
theorem q9_share (h : MX M S) : CL l m_X9_share [zr 9 0] M (fun x M' => x = aShare S ∧ mQ M M') := by
  have loop : ∀ (n : Nat) (g : Int) (M' : zM), (4 - g).toNat = n → 0 ≤ g ∧ g ≤ 4 → mQ M M' → LX9_share_6 l (fun x M' => x = aShare S ∧ mQ M M') (zsum (fun g => dW (qB S g) (qA S g) (qfee S) (qlaw S)) g) (zsum (fun g => tW (qfee S) (qB S g) (qA S g)) g) g M' := by
    intro n
    induction n with
    | zero =>
      intro g M' hn hg f
      have e : g = 4 := by omega
      subst e
      have b := share_b h.ok (g := 4) (by omega)
      refine vX9_share_6 ⟨by omega, fun _ => ⟨by omega, by omega, (c_X9_bitsOf ⟨b.1, by omega⟩).mono ?_⟩, fun e => by omega⟩
      rintro x M2 ⟨rfl, rfl⟩
      exact ⟨rfl, f⟩
    | succ n ih =>
      intro g M' hn hg f
      refine vX9_share_6 ⟨by omega, fun e => by omega, fun _ => (m_lays (h.q f) (by omega)).mono ?_⟩
      rintro M2 ⟨f2, ld, dn⟩
      have e17 : M2 9 0 17 = tW (qfee S) (qB S g) (qA S g) := ld.2.2.2
      refine (c_X9_doneWorth (B := qB S g) (A := qA S g) ld (gd_m h.ok.1) dn).mono ?_
      rintro x M3 ⟨ex, eM⟩
      rw [ex, eM, e17]
      have := ih (g + 1) M2 (by omega) (by omega) (f.tr f2)
      rw [zsum_s hg.1, zsum_s hg.1] at this
      exact this
  exact vX9_share (loop _ 0 M rfl (by omega) (mQ.rf h))
end
