/-! ===== the class: beside what is done ===== -/
section
variable {l : Launch} {M : zM} {b : Nat} {B A : List Int} {f w : Int}
theorem zsum_0s {g : Int → Int} {n : Int} (hn : 0 ≤ n) (h : ∀ i, 0 ≤ i ∧ i < n → g i = 0) : zsum g n = 0 := (zsum_stop (j := 0) (by omega) h).trans zsum_0
end

