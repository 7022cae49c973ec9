/-! ===== the reference: a market laid ===== -/
def mRB (M : zM) (B : List Int) : Prop := M 9 0 11 = B.length ∧ ∀ j : Int, 0 ≤ j ∧ j < (B.length : Int) → M 33 0 j = gB B j ∧ M 31 0 j = ktr (B.getD j.toNat 0) ∧ M 32 0 j = kun (B.getD j.toNat 0)
def mRA (M : zM) (f : Int) (A : List Int) : Prop := M 9 0 15 = A.length ∧ ∀ j : Int, 0 ≤ j ∧ j < (A.length : Int) → M 36 0 j = gA f A j ∧ M 34 0 j = ktr (A.getD j.toNat 0) ∧ M 35 0 j = kun (A.getD j.toNat 0)
section
variable {l : Launch} {M : zM}

end

