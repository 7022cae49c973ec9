/-! ===== the law's loop: a hall told ===== -/
theorem sG.wf {S : zS} {m kk : Int} (g : sG S m) (hm : 0 ≤ m ∧ m ≤ 7) (hf : 0 ≤ qfee S ∧ qfee S ≤ 5) (hl : 0 ≤ qlaw S ∧ qlaw S ≤ 3) (hk : 0 ≤ kk) : wfS kk S := by
  obtain ⟨g1, g2, g3, g4, g5⟩ := g
  have q5 := g2 5 (by decide)
  have q6 := g2 6 (by decide)
  refine ⟨by omega, by omega, hl, by omega, by omega, fun t ht => ?_, fun t u ht hu => ?_, fun t u ht hu => ?_⟩
  · have := g3 t (by omega)
    omega
  · have := g4 t u (by omega) hu
    omega
  · exact g5 t u (by omega) hu
theorem sG.gH {S : zS} {m i : Int} (g : sG S m) (hm : 0 ≤ m ∧ m ≤ 7) (hf : 0 ≤ qfee S ∧ qfee S ≤ 5) (hi : 0 ≤ i) : gH S i := by
  obtain ⟨g1, g2, g3, g4, g5⟩ := g
  have q3 := g2 3 (by decide)
  have q4 := g2 4 (by decide)
  have q5 := g2 5 (by decide)
  have z := zsum_0s (g := qpu S) (n := qn S) (by omega) (fun t ht => (g3 t (by omega)).2.2.2.1)
  have u := zsum_bd (f := qun S) (n := qn S) (c := 0) (d := 3) (by omega) (fun t ht => (g3 t (by omega)).2.2.1)
  refine ⟨⟨by omega, by omega, fun t ht => ?_⟩, by omega, fun t u ht hu => ?_, ?_⟩
  · have := (g3 t (by omega)).2.2.2.2
    omega
  · have := g4 t u (by omega) hu
    omega
  · unfold pot
    omega
theorem stT_c {M : zM} {s : Nat} {L : List Int} (T : stT M s L) : ∀ c ∈ L, (0 : Int) ≤ c ∧ c < 128 := by
  intro c hc
  obtain ⟨j, hj, e⟩ := List.mem_iff_getElem.mp hc
  have a := T.2.2 (j : Int) (by omega)
  have b := T.1.2.2.2 (j : Int) (by rw [T.2.1]; omega)
  rw [a, Int.toNat_natCast, List.getD_eq_getElem?_getD, List.getElem?_eq_getElem hj] at b
  rw [← e]
  exact b
section
variable {l : Launch} {P : lwG} {M : zM} {A : zY} {h r : Nat} {v3 i kk v6 : Int} {c n : Nat}
theorem law_252 {C N : Nat} (nx : goOn l P i C N) (hC : C ≤ 400000 ∧ N ≤ 4000000) (hi : 0 ≤ i ∧ i < 26) (B : lwB M A h r v3 i kk) (hc : c + 45 ≤ C) (hn : n + 2662 ≤ N) : LL_law_252 l P c n v3 i v6 r M := by
  have wf := B.1.1.2.1
  refine vL_law_252 ⟨by omega, (c_some B.1.2.2.1 (by omega)).mono ?_⟩
  rintro a M1 ⟨S, m, I1, hm, g, hf, hl⟩
  have k1 := I1.1.ke
  have C1 : cSt M1 A := B.1.1.1.lw fun k i hk => I1.1.1 k i (by omega) (by omega)
  have w1 := I1.2.2.2.2
  have ws : wfS kk S := g.wf (by omega) hf hl B.1.1.2.2.1
  have gg : gH S (i + 1) := g.gH (by omega) hf (by omega)
  have tv := gg.tv ws (by omega)
  refine ⟨by omega, (c_told w1 tv).mono ?_⟩
  rintro s M2 ⟨G2, s0, hs, T⟩
  have C2 : cSt M2 A := C1.lw fun k i hk => G2.1 k i (by omega) (by omega)
  have cb := stT_c T
  have hlen := tv.2.2.2.2
  refine ⟨by omega, (c_says C2 wf B.1.1.2.2.2.2 T hs (by omega) cb).mono ?_⟩
  rintro x M3 ⟨hx, L3, b, C3, hb⟩
  rw [hx]
  refine ⟨by decide, fun z => absurd z (by decide), fun _ => ?_⟩
  have wt : wfY kk (yTape A (tAll S).length b) := w_tp cb wf (by omega) hb
  have rt : tRd b (tAll S).length = (0, S) := by
    refine tRd_r ⟨⟨ws, w1.zo⟩, tv, g.2.1, fun t ht => (g.2.2.1 t (by rw [← g.1]; exact ht)).2.2.2⟩ (by rw [g.1]; omega) ⟨Int.le_refl _, by omega, fun j hj => ?_⟩
    rw [Int.zero_add, hb j hj]
    unfold tF_
    rw [if_pos hj.1]
  refine (a8_tell B.1.1.2.2.1 C3 wt).mono ?_
  rintro x M4 ⟨hx, C4, f4⟩
  have wl := w_tell B.1.1.2.2.1 wt
  have e : aTell (yTape A (tAll S).length b) = (qn S, yNo (yTape (yTape A (tAll S).length b) 0 b) S) := by
    have rt' : tRd (ytb (yTape A (tAll S).length b)) (ytn (yTape A (tAll S).length b)) = (0, S) := rt
    unfold aTell
    rw [rt', if_pos rfl]
    rfl
  rw [e] at hx C4 wl
  have hx : x = qn S := hx
  have k4 : Ke M1 M4 := (G2.ke.tr L3.ke).tr (Lr.md (K := []) f4).ke
  have w4 := w1.ke k4
  have hn20 := w1.n20
  rw [hx, w4.n]
  refine ⟨by omega, by omega, fun z => absurd rfl z, fun _ => ?_⟩
  refine ((sm.count (M := M4) (M1 := M4) ⟨Lr.rf, C4⟩ wl.1.ok (by decide)).mono ?_)
  rintro x M5 ⟨hx, I5⟩
  have hx : x = 0 := hx
  rw [hx]
  refine ⟨by decide, fun z => absurd rfl z, fun _ => ?_⟩
  refine ((I5.count wl.1.ok (by decide)).mono ?_)
  rintro x M6 ⟨hx, I6⟩
  have hx : x = 0 := hx
  rw [hx]
  refine ⟨by decide, fun z => absurd rfl z, fun _ => vL_law_316 ?_⟩
  have k6 : Ke M1 M6 := k4.tr I6.1.ke
  have k06 : Ke M M6 := k1.tr k6
  have y6 : zSy M6 := by
    have q : ∀ k : Nat, k ∈ [64, 70, 71, 72, 73] → M6 97 0 k = M1 97 0 k := by
      intro k hk
      have z2 : k ∉ [66, 67, 80] := by simp only [List.mem_cons, List.not_mem_nil, or_false] at hk ⊢; omega
      have z3 : k ∉ [79] := by simp only [List.mem_cons, List.not_mem_nil, or_false] at hk ⊢; omega
      exact (((I6.1.2.2 k z2).trans ((Lr.md (K := []) f4).2.2 k (by simp))).trans (L3.2.2 k z3)).trans (G2.2.2.2 k z2)
    have q0 : M6 97 0 64 = M1 97 0 64 := q 64 (by decide)
    have q1 : M6 97 0 70 = M1 97 0 70 := q 70 (by decide)
    have q2 : M6 97 0 71 = M1 97 0 71 := q 71 (by decide)
    have q3 : M6 97 0 72 = M1 97 0 72 := q 72 (by decide)
    have q4 : M6 97 0 73 = M1 97 0 73 := q 73 (by decide)
    unfold zSy
    rw [q0, q1, q2, q3, q4]
    exact I1.2.1
  refine law_1191 nx hC hi ⟨⟨⟨I6.2, wl, B.1.1.2.2.1, by have := B.1.1.2.2.2.1; omega, rfl⟩, ⟨w1.ke k6, gg⟩, y6, ?_⟩, ⟨B.2.1.ke k06, B.1.2.1.2.le (by omega)⟩, .inl rfl, fun z => absurd z (by decide)⟩ (by omega) (by omega)
  rcases B.1.2.2.2 with q | ⟨q1, q2, q3, q4, q5⟩
  · exact .inl q
  · have ah := ap_new k1 I1.2.2.1 I1.2.2.2.1 q3 w1.1
    exact .inr ⟨q1, q2, q3.ke k06, q4.le (by omega), ah.2.ke k6 (q3.ke k1).1.1.1 w1.1.1.1⟩
end
