/-! ===== questions, both sides: ties ===== -/
theorem CL.eq {l : Launch} {X : zD} {args : List zV} {M : zM} {r : Int} {P : Int → zM → Prop} (k : CL l X args M (fun x M' => x = r ∧ M' = M)) (h : P r M) : CL l X args M P := k.mono (by rintro _ _ ⟨rfl, rfl⟩; exact h)
section
variable {l : Launch} {M : zM} {S : zS}
end

