/-! ===== close: the reference ===== -/
theorem mSy.q {M M' : zM} {A : zY} (h : mSy M A) (f : mQ M M') : mSy M' A := by
  obtain ⟨⟨⟨a1, a2⟩, ⟨b1, b2⟩, ⟨⟨c1, c1'⟩, c2, c3⟩, ⟨d1, d2⟩, e1, e2⟩, zz⟩ := h
  have o : ∀ k, k ≠ 9 → ¬ (31 ≤ k ∧ k ≤ 46) → M' k 0 = M k 0 := fun k h1 h2 => f.1 k 0 h1 h2
  have cp : ∀ k o', k ≠ 9 → ¬ (31 ≤ k ∧ k ≤ 46) → mW M k o' → mW M' k o' ∧ mV M' k o' = mV M k o' := fun k o' h1 h2 w => mV_copy (fun j _ => by rw [o k h1 h2]) w
  have n27 := cp 27 0 (by omega) (by omega) a1
  refine ⟨⟨⟨n27.1, n27.2.trans a2⟩, ⟨by rw [f.2.1 2 (by omega)]; exact b1, fun i hi => ?_⟩, ⟨⟨by rw [o 30 (by omega) (by omega)]; exact c1, by rw [o 30 (by omega) (by omega)]; exact c1'⟩, fun q => ?_, fun q => ?_⟩, ⟨by rw [f.2.1 36 (by omega)]; exact d1, fun i hi => by rw [o 47 (by omega) (by omega)]; exact d2 i hi⟩, by rw [f.2.1 5 (by omega)]; exact e1, by rw [f.2.1 6 (by omega)]; exact e2⟩, f.2.2⟩
  · have b := b2 i hi
    have c := cp 28 _ (by omega) (by omega) b.1
    exact ⟨c.1, c.2.trans b.2⟩
  · have b := c2 q
    have c := cp 29 _ (by omega) (by omega) b.1
    exact ⟨c.1, c.2.trans b.2⟩
  · have b := c3 q
    have c := cp 29 _ (by omega) (by omega) b.1
    exact ⟨c.1, c.2.trans b.2⟩
section
variable {l : Launch} {M : zM} {A : zY} {kk : Int}
end

