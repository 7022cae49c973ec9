/-! ===== questions, both sides: ranked, skim, winner ===== -/
/-- what the ranking writes -/
def mFk (M M' : zM) : Prop := (∀ k i, k ≠ 9 → ¬ (37 ≤ k ∧ k ≤ 38) → M' k i = M k i) ∧ (∀ j, j ≠ 23 → M' 9 0 j = M 9 0 j)
theorem mFk.rf {M : zM} : mFk M M := ⟨fun _ _ _ _ => rfl, fun _ _ => rfl⟩
theorem mFk.q {M M' : zM} {S : zS} (h : MX M S) (f : mFk M M') : mQ M M' := ⟨fun k i h1 h2 => f.1 k i h1 (by omega), fun j hj => f.2 j (by omega), by rw [f.2 7 (by omega)]; exact h.1.1.2.2.2.2.2⟩
section
variable {l : Launch} {M : zM} {S : zS}
/-! winner -/
end

