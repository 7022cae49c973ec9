/-! ===== the law's loop: kept, taken back ===== -/
section
variable {l : Launch} {P : lwG} {M : zM} {A : zY} {h r : Nat} {v3 i kk v6 : Int} {c n : Nat}
theorem law_1132 {C N : Nat} (nx : goOn l P i C N) (hC : C ≤ 400000 ∧ N ≤ 4000000) (hi : 0 ≤ i ∧ i < 26) (B : lwB M A h r v3 i kk) (hc : c + 15 ≤ C) (hn : n + 1754 ≤ N) : LL_law_1132 l P c n h i v6 r 0 M := by
  have w := B.1.2.1.1
  have wf := B.1.1.2.1
  have hn20 := w.n20
  refine vL_law_1132 ((a8_keep B.1.1.1 wf (by decide)).mono ?_)
  rintro x M1 ⟨hx, C1, f1⟩
  have e : aKeep A 0 = (qn (yS A), yKeep A 0) := if_neg (by decide)
  have wk := w_keep (s := 0) wf
  rw [e] at hx C1 wk
  have hx : x = qn (yS A) := hx
  have L := B.l f1
  have w1 := L.2.1.1
  rw [hx, w1.n]
  refine ⟨by omega, by omega, fun z => absurd rfl z, fun _ => vL_law_1151 ⟨by omega, (c_X9_copy w1 L.2.2.1).mono ?_⟩⟩
  rintro a M2 ⟨G, y2, ha, hu, wa⟩
  have ah := ap_new G.ke ha hu w1 wa.1
  refine law_1191 nx hC hi ⟨⟨⟨C1.lw fun k i hk => G.1 k i (by omega) (by omega), wk, B.1.1.2.2.1, by have := B.1.1.2.2.2.1; omega, B.1.1.2.2.2.2⟩, ⟨w1.ke G.ke, B.1.2.1.2.le (by omega)⟩, y2, .inr ⟨by omega, ?_, ?_⟩⟩, ⟨L.2.2.2.2.1.ke G.ke, B.1.2.1.2.le (by omega)⟩, .inl rfl, fun z => absurd z (by decide)⟩ (by omega) (by omega)
  · exact show (if (0 : Int) = 0 then (1 : Int) else ykf A 0) = 1 from if_pos rfl
  · have ek : ykh (yKeep A 0) 0 = yS A := show (if (0 : Int) = 0 then yS A else ykh A 0) = yS A from if_pos rfl
    rw [ek, Int.toNat_natCast]
    exact ⟨wa, B.1.2.1.2.le (by omega), ah.1⟩
theorem law_1159 {C N : Nat} (nx : goOn l P i C N) (hC : C ≤ 400000 ∧ N ≤ 4000000) (hi : 0 ≤ i ∧ i < 26) (B : lwB M A h r v3 i kk) (hv : 0 ≤ v3) (hc : c + 15 ≤ C) (hn : n + 1754 ≤ N) : LL_law_1159 l P c n v3.toNat i v6 r 0 M := by
  have wf := B.1.1.2.1
  rcases B.1.2.2.2 with q | ⟨q1, q2, q3, q4, q5⟩
  · omega
  have wfk : wfS kk (ykh A 0) := by
    rcases wf.2.2.2.1 0 (by decide) with z | z
    · rw [q2] at z; exact absurd z (by decide)
    · exact z.2
  have hn20 := q3.n20
  refine vL_law_1159 ((a8_back B.1.1.1 wf (by decide)).mono ?_)
  rintro x M1 ⟨hx, C1, f1⟩
  have e : aBack A 0 = (qn (ykh A 0), yNo A (ykh A 0)) := by unfold aBack; rw [if_neg (by decide), if_neg (by rw [q2]; decide)]
  have wk := w_back (s := 0) wf
  rw [e] at hx C1 wk
  have hx : x = qn (ykh A 0) := hx
  have k1 : Ke M M1 := (Lr.md (K := []) f1).ke
  have w1 := q3.ke k1
  rw [hx, w1.n]
  refine ⟨by omega, by omega, fun z => absurd rfl z, fun _ => ?_⟩
  refine ((sm.count (M := M1) (M1 := M1) (A := yNo A (ykh A 0)) ⟨Lr.rf, C1⟩ wk.1.ok (by decide)).mono ?_)
  rintro x M2 ⟨hx, L2, C2⟩
  have hx : x = 0 := hx
  rw [hx]
  have k2 : Ke M M2 := k1.tr L2.ke
  have w2 := q3.ke k2
  have y2 : zSy M2 := by
    have y1 := B.1.2.2.1.md f1
    have q : ∀ k : Nat, k ∉ sK3 → M2 97 0 k = M1 97 0 k := L2.2.2
    have q0 : M2 97 0 64 = M1 97 0 64 := q 64 (by decide)
    have q1 : M2 97 0 70 = M1 97 0 70 := q 70 (by decide)
    have q2 : M2 97 0 71 = M1 97 0 71 := q 71 (by decide)
    have q3 : M2 97 0 72 = M1 97 0 72 := q 72 (by decide)
    have q4 : M2 97 0 73 = M1 97 0 73 := q 73 (by decide)
    unfold zSy
    rw [q0, q1, q2, q3, q4]
    exact y1
  refine ⟨by decide, fun z => absurd rfl z, fun _ => vL_law_1186 ⟨by omega, (c_X9_copy w2 y2).mono ?_⟩⟩
  rintro a M3 ⟨G, y3, ha, hu, wa⟩
  have ah := ap_new G.ke ha hu w2 wa.1
  refine law_1191 nx hC hi ⟨⟨⟨C2.lw fun k i hk => G.1 k i (by omega) (by omega), wk, B.1.1.2.2.1, by have := B.1.1.2.2.2.1; omega, B.1.1.2.2.2.2⟩, ⟨wa, q4.le (by omega)⟩, y3, .inr ⟨by omega, q2, ?_⟩⟩, ⟨(B.2.1.ke k2).ke G.ke, B.1.2.1.2.le (by omega)⟩, .inl rfl, fun z => absurd z (by decide)⟩ (by omega) (by omega)
  rw [Int.toNat_natCast]
  exact ⟨w2.ke G.ke, q4.le (by omega), ah.2⟩
theorem law_1115 {C N : Nat} (nx : goOn l P i C N) (hC : C ≤ 400000 ∧ N ≤ 4000000) (hi : 0 ≤ i ∧ i < 26) (B : lwB M A h r v3 i kk) (hc : c + 15 ≤ C) (hn : n + 1754 ≤ N) : LL_law_1115 l P c n h v3 i v6 r M :=
  vL_law_1115 ⟨fun _ => law_1132 nx hC hi B hc hn, fun _ => ⟨fun z => law_1159 nx hC hi B z hc hn, fun _ => law_1132 nx hC hi B hc hn⟩⟩
end
