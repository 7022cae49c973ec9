/-! ===== tell: the reference ===== -/
section
variable {l : Launch} {M : zM} {b : Int → Int} {n kk : Int}
theorem mSt.told {M M5 : zM} {A : zY} (h : mSy M A) (f : ∀ k i, k ≠ 9 → k ≠ 48 → M5 k i = M k i) (f9 : ∀ j, ¬ (36 ≤ j ∧ j ≤ 43) → M5 9 0 j = M 9 0 j) (e : M5 9 0 36 = 0) : mSy M5 (yTape A 0 (ytb A)) := by
  obtain ⟨⟨⟨a1, a2⟩, ⟨b1, b2⟩, ⟨⟨c1, c1'⟩, c2, c3⟩, ⟨d1, d2⟩, e1, e2⟩, zz⟩ := h
  have cp : ∀ k o, k ≠ 9 → k ≠ 48 → mW M k o → mW M5 k o ∧ mV M5 k o = mV M k o := fun k o h1 h2 w => mV_copy (fun j _ => by rw [f k 0 h1 h2]) w
  have n27 := cp 27 0 (by decide) (by decide) a1
  refine ⟨⟨⟨n27.1, n27.2.trans a2⟩, ⟨by rw [f9 2 (by omega)]; exact b1, fun i hi => ?_⟩, ⟨⟨by rw [f 30 0 (by decide) (by decide)]; exact c1, by rw [f 30 0 (by decide) (by decide)]; exact c1'⟩, fun q => ?_, fun q => ?_⟩, ⟨e, fun i hi => ?_⟩, by rw [f9 5 (by omega)]; exact e1, by rw [f9 6 (by omega)]; exact e2⟩, by rw [f9 7 (by omega)]; exact zz⟩
  · have b := b2 i hi
    have c := cp 28 _ (by decide) (by decide) b.1
    exact ⟨c.1, c.2.trans b.2⟩
  · have b := c2 q
    have c := cp 29 _ (by decide) (by decide) b.1
    exact ⟨c.1, c.2.trans b.2⟩
  · have b := c3 q
    have c := cp 29 _ (by decide) (by decide) b.1
    exact ⟨c.1, c.2.trans b.2⟩
  · have hi' : 0 ≤ i ∧ i < 0 := hi
    omega
theorem mSy.forget {M' M2 : zM} {A : zY} {S : zS} (H : mSt M' (ySet A S)) (zz : -1000 ≤ M' 9 0 7 ∧ M' 9 0 7 ≤ 1000) (q2 : M2 = zu M' 9 0 2 0) : mSy M2 (yNo A S) := by
  have o : ∀ k i, k ≠ 9 → M2 k i = M' k i := fun k i hk => by rw [q2, zu_k hk]
  have e9 : ∀ j, j ≠ 2 → M2 9 0 j = M' 9 0 j := fun j hj => by rw [q2, zu_at, if_neg hj]
  have cp : ∀ k o', k ≠ 9 → mW M' k o' → mW M2 k o' ∧ mV M2 k o' = mV M' k o' := fun k o' h1 w => mV_copy (fun j _ => by rw [o k 0 h1]) w
  obtain ⟨⟨a1, a2⟩, ⟨b1, b2⟩, ⟨⟨c1, c1'⟩, c2, c3⟩, ⟨d1, d2⟩, e1, e2⟩ := H
  have n27 := cp 27 0 (by decide) a1
  refine ⟨⟨⟨n27.1, n27.2.trans a2⟩, ⟨by rw [q2, zu_at, if_pos rfl]; rfl, fun i hi => ?_⟩, ⟨⟨by rw [o 30 0 (by decide)]; exact c1, by rw [o 30 0 (by decide)]; exact c1'⟩, fun q => ?_, fun q => ?_⟩, ⟨by rw [e9 36 (by decide)]; exact d1, fun i hi => by rw [o 47 0 (by decide)]; exact d2 i hi⟩, by rw [e9 5 (by decide)]; exact e1, by rw [e9 6 (by decide)]; exact e2⟩, by rw [e9 7 (by decide)]; exact zz⟩
  · have hi' : 0 ≤ i ∧ i < 0 := hi
    omega
  · have b := c2 q
    have c := cp 29 _ (by decide) b.1
    exact ⟨c.1, c.2.trans b.2⟩
  · have b := c3 q
    have c := cp 29 _ (by decide) b.1
    exact ⟨c.1, c.2.trans b.2⟩
end

