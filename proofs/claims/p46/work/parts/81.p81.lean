/-! ===== tell: the reference reads parts ===== -/
def rZ (M0 M' : zM) (x : Int) (r : zT7) : Prop := x = zb (r.1 = 0) ∧ rdF M0 M' ∧ (r.1 ≠ 0 → M' 9 0 38 = r.1) ∧ (r.1 = 0 → rdS M' r.2.1 ∧ M' 9 0 42 = r.2.2.1 ∧ M' 9 0 43 = r.2.2.2.1 ∧ M' 9 0 37 = r.2.2.2.2)
theorem rZ.fr {M M1 M2 : zM} {x : Int} {r : zT7} (f : rdF M M1) (h : rZ M1 M2 x r) : rZ M M2 x r := ⟨h.1, f.tr h.2.1, h.2.2⟩
section
variable {l : Launch} {M : zM} {b : Int → Int} {n kk : Int} {S : zS} {hf hl : Int}
end

