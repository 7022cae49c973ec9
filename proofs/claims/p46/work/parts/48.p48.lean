/-! ===== served: the reference ===== -/
def T3 (M : zM) (A B : List Int) (le : Int) (j i : Nat) : Prop := (0 ≤ le ∧ le ≤ 80) ∧ M 40 0 le ≠ -1 ∧ j ≤ A.length ∧ le + j ≤ 80 ∧ i ≤ B.length ∧ (i : Int) ≤ le + j
def vl (fe : Int) (A B : List Int) (f : Int → Int) (le : Int) (j i : Nat) : Int := f le + pS (wA fe) j A + pS wB i B
def tR (M1 : zM) (fe : Int) (A B : List Int) (f : Int → Int) (N : Int) (Q : Int → Nat → Nat → Prop) (M' : zM) : Prop :=
  ∀ o, 0 ≤ o ∧ o ≤ 80 → (M' 42 0 o = -1 ∧ ∀ le j i, Q le j i → T3 M1 A B le j i → le + j - i ≠ o) ∨
    ((0 ≤ M' 42 0 o ∧ M' 42 0 o ≤ N) ∧ (∃ le j i, T3 M1 A B le j i ∧ le + j - i = o ∧ vl fe A B f le j i = M' 41 0 o * 128 - M' 42 0 o) ∧ ∀ le j i, Q le j i → T3 M1 A B le j i → le + j - i = o → vl fe A B f le j i ≤ M' 41 0 o * 128 - M' 42 0 o)
theorem tR.mono {M1 M' : zM} {fe N : Int} {A B : List Int} {f : Int → Int} {Q Q' : Int → Nat → Nat → Prop} (h : tR M1 fe A B f N Q M') (q : ∀ le j i, T3 M1 A B le j i → Q' le j i → Q le j i) : tR M1 fe A B f N Q' M' := by
  intro o ho
  rcases h o ho with ⟨a, b⟩ | ⟨a, b, c⟩
  · exact .inl ⟨a, fun le j i h1 h2 => b le j i (q le j i h2 h1) h2⟩
  · exact .inr ⟨a, b, fun le j i h1 h2 => c le j i (q le j i h2 h1) h2⟩
section
variable {l : Launch} {M : zM} {S : zS}
end

