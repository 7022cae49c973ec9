/-! ===== tell: the reference reads units ===== -/
/-- the row that is read, as if it were the hall's -/
def sw (M : zM) : zM := fun k i j => if k = 27 then M 48 i j else M k i j
theorem sw_at (M : zM) (j : Int) : sw M 27 0 j = M 48 0 j := if_pos rfl
def rdF (M M' : zM) : Prop := (∀ k i, k ≠ 9 → k ≠ 48 → M' k i = M k i) ∧ (∀ j, ¬ (37 ≤ j ∧ j ≤ 43) → M' 9 0 j = M 9 0 j)
theorem rdF.rf {M : zM} : rdF M M := ⟨fun _ _ _ _ => rfl, fun _ _ => rfl⟩
theorem rdF.tr {M M1 M2 : zM} (a : rdF M M1) (b : rdF M1 M2) : rdF M M2 := ⟨fun k i h h' => (b.1 k i h h').trans (a.1 k i h h'), fun j h => (b.2 j h).trans (a.2 j h)⟩
/-- the hall read so far -/
def rdS (M : zM) (S : zS) : Prop := (mW (sw M) 27 0 ∧ mV (sw M) 27 0 = S) ∧ ∀ j, 9 * qn S ≤ j ∧ j < 180 → M 48 0 j = 0
theorem rdS.eq {M M' : zM} {S : zS} (h : rdS M S) (e : M' 48 0 = M 48 0) : rdS M' S := by
  have c := mV_copy (M := sw M) (M' := sw M') (k := 27) (k' := 27) (o := 0) (o' := 0) (fun j _ => by rw [sw_at, sw_at, e]) h.1.1
  exact ⟨⟨c.1, c.2.trans h.1.2⟩, fun j hj => by rw [e]; exact h.2 j hj⟩
section
variable {l : Launch} {M0 : zM} {b : Int → Int} {n kk : Int}
end

