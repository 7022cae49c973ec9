/-! ===== acts: the reference ===== -/
def rR (p : Int × zY) (M : zM) (x : Int) (M' : zM) : Prop := x = p.1 ∧ mSy M' p.2 ∧ ∀ k i, ¬ isMd k → M' k i = M k i
theorem rR.st {A : zY} {M : zM} {a : Int} (h : mSy M A) : rR (a, A) M a M := ⟨rfl, h, fun _ _ _ => rfl⟩
section
variable {l : Launch} {M : zM} {A : zY} {kk : Int}
end

