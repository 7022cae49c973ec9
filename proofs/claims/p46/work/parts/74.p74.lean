/-! ===== tell: a word ends where its letters end ===== -/
theorem eqN_at {s : Nat} {b : Int → Int} {n i : Int} : ∀ (f : Nat) (k : Int), eqN s b n i f k = true → ∀ j, k ≤ j ∧ j < k + f → bt b n (i + j) = zsb s j
  | 0, k, _, j, hj => by omega
  | f + 1, k, h, j, hj => by
    rw [eqN, Bool.and_eq_true, decide_eq_true_eq] at h
    by_cases c : j = k
    · rw [c]
      exact h.1
    · exact eqN_at f (k + 1) h.2 j (by omega)
theorem zsb_L : ∀ s : Fin 8, ∀ j : Fin 12, j.val < zl_ s.val → isL (zsb s.val (j.val : Int)) = true := by decide +kernel
theorem sk_run {p : Int → Bool} {b : Int → Int} {n i : Int} : ∀ (f : Nat), (∀ j, 0 ≤ j ∧ j < (f : Int) → i + j < n ∧ p (b (i + j)) = true) → sk p b n i = sk p b n (i + f)
  | 0, _ => by simp
  | f + 1, h => by
    have ih := sk_run (p := p) (b := b) (n := n) (i := i) f (fun j hj => h j (by omega))
    have k := h f (by omega)
    rw [ih, sk_s k.1 k.2]
    congr 1
    omega
theorem isX_iff {s : Nat} {b : Int → Int} {n i : Int} (hs : s < 8) (hi : 0 ≤ i ∧ i ≤ n) : (sk isL b n i - i = zl_ s ∧ isWd s b n i = true) ↔ isX s b n i = true := by
  have L : isWd s b n i = true → ∀ j, 0 ≤ j ∧ j < (zl_ s : Int) → i + j < n ∧ isL (b (i + j)) = true := by
    intro w j hj
    have e := eqN_at (zl_ s) 0 w j (by omega)
    have hl := zl_b (s := s) (by omega)
    have z := zsb_L ⟨s, hs⟩ ⟨j.toNat, by omega⟩ (by show j.toNat < zl_ s; omega)
    rw [show (((⟨j.toNat, by omega⟩ : Fin 12).val : Nat) : Int) = j by show ((j.toNat : Nat) : Int) = j; omega] at z
    rw [← e] at z
    unfold bt at z
    by_cases c : 0 ≤ i + j ∧ i + j < n
    · rw [if_pos c] at z
      exact ⟨c.2, z⟩
    · rw [if_neg c] at z
      exact absurd z (by decide)
  unfold isX
  rw [Bool.and_eq_true, Bool.not_eq_true']
  constructor
  · rintro ⟨a, w⟩
    refine ⟨w, ?_⟩
    have r := sk_b (p := isL) (b := b) (n := n) _ i rfl hi.2
    have e : sk isL b n i = i + zl_ s := by omega
    rw [e] at r
    unfold bt
    by_cases c : 0 ≤ i + (zl_ s : Int) ∧ i + (zl_ s : Int) < n
    · rw [if_pos c]
      by_cases q : isL (b (i + zl_ s)) = true
      · exact absurd ⟨c.2, q⟩ r.2.2
      · exact Bool.eq_false_iff.mpr q
    · rw [if_neg c]
      decide
  · rintro ⟨w, q⟩
    refine ⟨?_, w⟩
    have e := sk_run (p := isL) (zl_ s) (L w)
    rw [e, sk_e]
    · omega
    · rintro ⟨a, c⟩
      unfold bt at q
      rw [if_pos ⟨by omega, a⟩, c] at q
      cases q

