/-! ===== tell: the class's units ===== -/
/-- the tape and the hall told change alone -/
def pF (M M' : zM) : Prop := (∀ k i, ¬ (k = 7 ∨ kH 1 k i) → M' k i = M k i) ∧ (∀ j, ¬ (3 ≤ j ∧ j ≤ 6) → M' 7 0 j = M 7 0 j)
theorem pF.rf {M : zM} : pF M M := ⟨fun _ _ _ => rfl, fun _ _ => rfl⟩
theorem pF.tr {M M1 M2 : zM} (a : pF M M1) (b : pF M1 M2) : pF M M2 := ⟨fun k i h => (b.1 k i h).trans (a.1 k i h), fun j h => (b.2 j h).trans (a.2 j h)⟩
theorem nF.p {M M' : zM} (f : nF M M') : pF M M' := ⟨fun k i h => f.1 k i (fun q => h (.inl q)), fun j h => f.2 j (by omega) (by omega)⟩
theorem Fx.p {M M' : zM} (f : Fx (kH 1) M M') : pF M M' := ⟨fun k i h => f k i (fun q => h (.inr q)), fun j _ => by rw [f 7 0 (fun q => by have := q.1; omega)]⟩
theorem tX.p {M M' : zM} {b : Int → Int} {n : Int} (h : tX M b n) (f : pF M M') : tX M' b n := by
  refine ⟨by rw [f.2 2 (by omega)]; exact h.1, fun i hi => ?_⟩
  rw [f.1 24 0 (fun q => by
    rcases q with q | q
    · omega
    · have := q.1
      omega)]
  exact h.2 i hi
/-- the hall told so far, its fault, what is told of fee and law, the place -/
def tS (M : zM) (S : zS) (e hf hl p : Int) : Prop := (hW M 1 ∧ hS M 1 = S) ∧ M 7 0 4 = e ∧ M 7 0 5 = hf ∧ M 7 0 6 = hl ∧ M 7 0 3 = p
theorem nF.h1 {M M' : zM} {S : zS} (f : nF M M') (h : hW M 1 ∧ hS M 1 = S) : hW M' 1 ∧ hS M' 1 = S := by
  have k := hall_k (M := M) (M' := M') (h := 1) (fun k hk => f.1 k 1 (by omega))
  exact ⟨k.2 h.1, k.1.trans h.2⟩

