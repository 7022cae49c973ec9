/-! ===== tell: the reference's numbers ===== -/
def rnF (M M' : zM) : Prop := (∀ k i, k ≠ 9 → M' k i = M k i) ∧ (∀ j, ¬ (37 ≤ j ∧ j ≤ 40) → M' 9 0 j = M 9 0 j)
theorem rnF.rf {M : zM} : rnF M M := ⟨fun _ _ _ => rfl, fun _ _ => rfl⟩
theorem rnF.tr {M M1 M2 : zM} (a : rnF M M1) (b : rnF M1 M2) : rnF M M2 := ⟨fun k i h => (b.1 k i h).trans (a.1 k i h), fun j h => (b.2 j h).trans (a.2 j h)⟩
theorem mtX.n {M M' : zM} {b : Int → Int} {n : Int} (h : mtX M b n) (f : rnF M M') : mtX M' b n := by
  refine ⟨by rw [f.2 36 (by omega)]; exact h.1, fun i hi => ?_⟩
  rw [f.1 47 0 (by decide)]
  exact h.2 i hi
section
variable {l : Launch} {M : zM} {b : Int → Int} {n : Int}
end

