/-! ===== acts: the reference's halls and past ===== -/
theorem mV_copy {M M' : zM} {k k' : Nat} {o o' : Int} (e : ∀ j, 0 ≤ j ∧ j < 187 → M' k' 0 (o' + j) = M k 0 (o + j)) (w : mW M k o) : mW M' k' o' ∧ mV M' k' o' = mV M k o := by
  have e0 : M' k' 0 (o' + 180) = M k 0 (o + 180) := e _ (by omega)
  have hn := w.1
  have key : ∀ (t c : Int), 0 ≤ t ∧ t < M k 0 (o + 180) → 0 ≤ c ∧ c < 9 → M' k' 0 (o' + 9 * t + c) = M k 0 (o + 9 * t + c) := fun t c h1 h2 => by
    rw [Int.add_assoc, Int.add_assoc]
    exact e _ (by omega)
  have key0 : ∀ t : Int, 0 ≤ t ∧ t < M k 0 (o + 180) → M' k' 0 (o' + 9 * t) = M k 0 (o + 9 * t) := fun t h1 => e _ (by omega)
  refine ⟨⟨by rw [e0]; exact w.1, fun t ht => ?_⟩, ?_⟩
  · rw [e0] at ht
    rw [key0 t ht, key t 2 ht (by omega)]
    exact w.2 t ht
  · unfold mV
    rw [e0]
    refine Prod.ext ?_ (Prod.ext ?_ (Prod.ext ?_ (Prod.ext ?_ (Prod.ext ?_ (Prod.ext ?_ ?_)))))
    · funext j
      dsimp only
      split
      · rw [Int.add_assoc, Int.add_assoc]
        exact e _ (by omega)
      · rfl
    · funext t
      dsimp only
      split
      · next h => exact key0 t h
      · rfl
    · funext t
      dsimp only
      split
      · next h => exact key t 1 h (by omega)
      · rfl
    · funext t
      dsimp only
      split
      · next h => exact key t 2 h (by omega)
      · rfl
    · funext t u
      dsimp only
      by_cases ht : 0 ≤ t ∧ t < M k 0 (o + 180)
      · rw [key t 2 ht (by omega)]
        split
        · next h =>
          have hu := (w.2 t ht).2
          have := key t (3 + u) ht (by omega)
          rw [← Int.add_assoc, ← Int.add_assoc] at this
          exact this
        · rfl
      · rw [if_neg (by rintro ⟨a, b, -⟩; exact ht ⟨a, b⟩), if_neg (by rintro ⟨a, b, -⟩; exact ht ⟨a, b⟩)]
    · funext t
      dsimp only
      split
      · next h => exact key t 7 h (by omega)
      · rfl
    · funext t
      dsimp only
      split
      · next h => exact key t 8 h (by omega)
      · rfl
def mSy (M : zM) (A : zY) : Prop := mSt M A ∧ (-1000 ≤ M 9 0 7 ∧ M 9 0 7 ≤ 1000)
/-- the reference's kinds beside what acts look at -/
theorem mSt.hall {M M' : zM} {A : zY} {S : zS} (h : mSt M A) (f : ∀ k i, ¬ (k = 27 ∧ i = 0) → M' k i = M k i) (w : mW M' 27 0) (e : mV M' 27 0 = S) : mSt M' (ySet A S) := by
  obtain ⟨-, ⟨b1, b2⟩, ⟨⟨c1, c1'⟩, c2, c3⟩, ⟨d1, d2⟩, e1, e2⟩ := h
  have g : ∀ k, k ≠ 27 → M' k 0 = M k 0 := fun k hk => f k 0 (fun q => hk q.1)
  have cp : ∀ k o, k ≠ 27 → mW M k o → mW M' k o ∧ mV M' k o = mV M k o := fun k o hk w => mV_copy (fun j _ => by rw [g k hk]) w
  refine ⟨⟨w, e⟩, ⟨by rw [g 9 (by decide)]; exact b1, fun i hi => ?_⟩, ⟨⟨by rw [g 30 (by decide)]; exact c1, by rw [g 30 (by decide)]; exact c1'⟩, fun q => ?_, fun q => ?_⟩, ⟨by rw [g 9 (by decide)]; exact d1, fun i hi => by rw [g 47 (by decide)]; exact d2 i hi⟩, by rw [g 9 (by decide)]; exact e1, by rw [g 9 (by decide)]; exact e2⟩
  · have b := b2 i hi
    have c := cp 28 _ (by decide) b.1
    exact ⟨c.1, c.2.trans b.2⟩
  · have b := c2 q
    have c := cp 29 _ (by decide) b.1
    exact ⟨c.1, c.2.trans b.2⟩
  · have b := c3 q
    have c := cp 29 _ (by decide) b.1
    exact ⟨c.1, c.2.trans b.2⟩
section
variable {l : Launch} {M : zM} {A : zY} {kk : Int}
end

