/-! ===== the reference: done by a law, deals, gains, takings ===== -/
def mFs (M M' : zM) : Prop := (∀ k i, k ≠ 9 → ¬ (31 ≤ k ∧ k ≤ 36) → M' k i = M k i) ∧ (∀ i j, ¬ (i = 0 ∧ (j = 11 ∨ (15 ≤ j ∧ j ≤ 20))) → M' 9 i j = M 9 i j)
theorem mFs.rf {M : zM} : mFs M M := ⟨fun _ _ _ _ => rfl, fun _ _ _ => rfl⟩
theorem mFs.tr {M M1 M2 : zM} (a : mFs M M1) (b : mFs M1 M2) : mFs M M2 := ⟨fun k i h1 h2 => (b.1 k i h1 h2).trans (a.1 k i h1 h2), fun i j h => (b.2 i j h).trans (a.2 i j h)⟩
theorem mFs.F {M M' : zM} (f : mFs M M') (j : Int) (h : ¬ (j = 11 ∨ (15 ≤ j ∧ j ≤ 20))) : M' 9 0 j = M 9 0 j := f.2 0 j (fun q => h q.2)
def mF3 (M M' : zM) : Prop := ∀ k i j, ¬ (k = 9 ∧ i = 0 ∧ 18 ≤ j ∧ j ≤ 20) → M' k i j = M k i j
theorem mF3.fld {M M' : zM} {j x : Int} (e : M' = zu M 9 0 j x) (h : 18 ≤ j ∧ j ≤ 20) : mF3 M M' := by
  intro k i j' h2
  rw [e]
  unfold zu
  rw [if_neg]
  rintro ⟨a, b, c⟩
  exact h2 ⟨a, b, by omega⟩
theorem mF3.tr {M M1 M2 : zM} (a : mF3 M M1) (b : mF3 M1 M2) : mF3 M M2 := fun k i j h => (b k i j h).trans (a k i j h)
def mDn (M : zM) (B A : List Int) (f w : Int) : Prop := M 9 0 18 = dN B A f w ∧ (tT f B A ≠ 0 → M 9 0 19 = dP B A f w ∧ M 9 0 20 = dG B A f w) ∧ (tT f B A = 0 → M 9 0 19 = 0 ∧ M 9 0 20 = 0)
theorem mDn.of {M M' : zM} {B A : List Int} {f w : Int} (h : mDn M B A f w) (e : ∀ j, 18 ≤ j ∧ j ≤ 20 → M' 9 0 j = M 9 0 j) : mDn M' B A f w := by
  unfold mDn at h ⊢
  rw [e 18 (by omega), e 19 (by omega), e 20 (by omega)]
  exact h
theorem aw_nm {l : Launch} {X : zD} {T : zT} {pc : Nat} {lv : List (Nat × zV)} {st : List zV} {M0 : zM} (h : ∀ M', M' = M0 → AW l X T pc lv st M') : AW l X T pc lv st M0 := h _ rfl
section
variable {l : Launch} {M : zM} {B A : List Int} {f : Int}
end

