/-! ===== the law's loop: a unit said ===== -/
section
variable {l : Launch} {P : lwG} {M : zM} {A : zY} {h r : Nat} {v3 i kk v6 t is nn vv : Int} {c n : Nat}
theorem add_bad (B : zY) (t : Int) : aAdd B t 10000 = (-1, B) := by
  unfold aAdd
  by_cases c : ¬ (0 ≤ t ∧ t < qn (yS B))
  · rw [if_pos c]
  · rw [if_neg c, if_pos (by decide)]
theorem law_484n {C N : Nat} (nx : goOn l P i C N) (hC : C ≤ 400000 ∧ N ≤ 4000000) (hi : 0 ≤ i ∧ i < 26) (B : lwB M A h r v3 i kk) (T : tqS (yS A) t is nn vv) (hx0 : aAdd A t vv = ((if is = 0 then -1 else if nn = 4 then -2 else -3 : Int), A)) (hc : c + 9 ≤ C) (hn : n + 1620 ≤ N) : LL_law_484 l P c n h v3 i v6 r t is nn vv 0 M := by
  have wf := B.1.1.2.1
  have hn20 := B.1.2.1.1.n20
  have hnn : 0 ≤ nn ∧ nn ≤ 4 := by
    rcases T.2.2 with ⟨_, q, q2⟩ | ⟨_, _, q⟩
    · rw [q2]; exact B.1.2.1.1.un4 ⟨T.1.1, q⟩
    · omega
  have his : is = 0 ∨ is = 1 := by rcases T.2.2 with ⟨q, _⟩ | ⟨q, _⟩ <;> omega
  have ht := T.1
  have hv := T.2.1
  refine vL_law_484 ((a8_add B.1.1.1 wf (by omega) (by omega)).mono ?_)
  rintro x M1 ⟨hx, C1, f1⟩
  rw [hx0] at hx C1
  have hx : x = (if is = 0 then -1 else if nn = 4 then -2 else -3 : Int) := hx
  have bad : CI l m_X8_add [zr 8 0, zi t, zi 10000] M1 (fun y M2 => zI y ∧ ((y ≠ (-1) → LL_law_550 l P c n h v3 i v6 r t nn vv 0 0 M2) ∧ (y = (-1) → LL_law_553 l P c n h v3 1 i v6 r t nn vv 0 0 M2))) := by
    refine (a8_add C1 wf (by omega) (by decide)).mono ?_
    rintro y M2 ⟨hy, C2, f2⟩
    rw [add_bad] at hy C2
    have hy : y = -1 := hy
    rw [hy]
    refine ⟨by decide, fun z => absurd rfl z, fun _ => vL_law_553 ⟨by decide, fun z => absurd rfl z, fun _ => ?_⟩⟩
    have L := B.l (N := M2) (fun k i hk => (f2 k i hk).trans (f1 k i hk))
    exact law_1191 nx hC hi (L.no C2 Hx.rf L.2.2.1 L.2.1.1) (by omega) (by omega)
  refine ⟨by omega, fun z9 => ⟨by omega, fun n4 => ⟨by decide, fun _ => ?_, fun z => absurd rfl z⟩, fun n4 => ?_⟩, fun z9 => ?_⟩
  · rw [if_neg z9, if_neg n4] at hx
    rw [hx]
    exact ⟨by decide, fun z => absurd rfl z, fun _ => bad⟩
  · rw [if_neg z9, if_pos n4] at hx
    rw [hx]
    exact ⟨by decide, fun z => absurd rfl z, fun _ => bad⟩
  · rw [if_pos z9] at hx
    rw [hx]
    exact ⟨by decide, fun z => absurd rfl z, fun _ => bad⟩
theorem law_484y {C N : Nat} (nx : goOn l P i C N) (hC : C ≤ 400000 ∧ N ≤ 4000000) (hi : 0 ≤ i ∧ i < 26) (B : lwB M A h r v3 i kk) (hT : 0 ≤ t ∧ t < qn (yS A)) (h3 : qun (yS A) t < 4) (hv : 0 ≤ vv ∧ vv < 60) (fit : fitP (yS A) t (qun (yS A) t) vv) (hc : c + 9 ≤ C) (hn : n + 1620 ≤ N) : LL_law_484 l P c n h v3 i v6 r t 1 (qun (yS A) t) vv 1 M := by
  have wf := B.1.1.2.1
  have hn20 := B.1.2.1.1.n20
  have h4 := B.1.2.1.1.un4 hT
  have e : aAdd A t vv = (qun (yS A) t + 1, yPut A (sAdd (yS A) t vv)) := by
    unfold aAdd
    rw [if_neg (fun z => z hT), if_neg (by omega), if_neg (by omega), if_neg (fun z => z fit)]
  have wa := w_add (t := t) (v := vv) wf
  refine vL_law_484 ((a8_add B.1.1.1 wf (by omega) (by omega)).mono ?_)
  rintro x M1 ⟨hx, C1, f1⟩
  rw [e] at hx C1 wa
  have hx : x = qun (yS A) t + 1 := hx
  rw [hx]
  refine ⟨by decide, fun _ => ⟨by omega, fun _ => ⟨by decide, fun z => absurd z (by decide), fun _ => ⟨by omega, by omega, fun z => absurd rfl z, fun _ => (a8_add C1 wa (by omega) (by decide)).mono ?_⟩⟩, fun z => absurd z (by omega)⟩, fun z => absurd z (by decide)⟩
  rintro y M2 ⟨hy, C2, f2⟩
  rw [add_bad] at hy C2
  have hy : y = -1 := hy
  rw [hy]
  exact ⟨by decide, fun z => absurd rfl z, fun _ => law_553 nx hC hi (B.l (N := M2) (fun k i hk => (f2 k i hk).trans (f1 k i hk))) C2 wa hT h3 hv hc hn⟩
end
