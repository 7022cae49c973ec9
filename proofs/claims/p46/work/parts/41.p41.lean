/-! ===== questions, both sides: lively, under, feeing, bestFee ===== -/
section
variable {l : Launch} {M : zM} {S : zS}
/-! under, feeing, bestFee -/
def sSc (S : zS) (j x : Int) : zS := (upf (qsc S) j x, S.2)
end

