/-! ===== tell: the reference's bytes ===== -/
def mtX (M : zM) (b : Int → Int) (n : Int) : Prop := (M 9 0 36 = n ∧ 0 ≤ n ∧ n ≤ 400) ∧ ∀ i, 0 ≤ i ∧ i < n → zand (M 47 0 i) 255 = b i ∧ 0 ≤ b i ∧ b i < 256
def spF (M M' : zM) : Prop := (∀ k i, k ≠ 9 → M' k i = M k i) ∧ (∀ j, j ≠ 37 → M' 9 0 j = M 9 0 j)
theorem spF.rf {M : zM} : spF M M := ⟨fun _ _ _ => rfl, fun _ _ => rfl⟩
theorem spF.tr {M M1 M2 : zM} (a : spF M M1) (b : spF M1 M2) : spF M M2 := ⟨fun k i h => (b.1 k i h).trans (a.1 k i h), fun j h => (b.2 j h).trans (a.2 j h)⟩
theorem mtX.f {M M' : zM} {b : Int → Int} {n : Int} (h : mtX M b n) (f : spF M M') : mtX M' b n := by
  refine ⟨by rw [f.2 36 (by decide)]; exact h.1, fun i hi => ?_⟩
  rw [f.1 47 0 (by decide)]
  exact h.2 i hi
section
variable {l : Launch} {M : zM} {b : Int → Int} {n : Int}
end

