/-! ===== the law's loop: its head; what an act leaves ===== -/
/-- the hall before is copied -/
def lwB (M : zM) (A : zY) (h r : Nat) (v3 i kk : Int) : Prop := lwI M A h v3 i kk ∧ lH M r (yS A) ∧ ap M r h ∧ (0 ≤ v3 → ap M v3.toNat r)
/-- the trader, its number of units, the value -/
def tqS (S : zS) (t is nn vv : Int) : Prop := (0 ≤ t ∧ t ≤ 20) ∧ (0 ≤ vv ∧ vv < 60) ∧ ((is = 1 ∧ t < qn S ∧ nn = qun S t) ∨ (is = 0 ∧ qn S ≤ t ∧ nn = 0))
/-- a copy stands apart -/
theorem ap_new {M M' : zM} {a x : Nat} (k : Ke M M') (ha : (a : Int) = M 97 0 64) (hu : M 97 0 74 ≤ M' 64 a 11) {S : zS} (w : lH M x S) (wa : lW M' a) : ap M' a x ∧ ap M' x a := by
  have hx := w.1.1.1
  have h1 : a ≠ x := by
    intro z
    rw [← z, ha] at hx
    exact Int.lt_irrefl _ hx
  have h2 : lU M' a ≠ lU M' x := by
    intro z
    have e1 := lU_v wa
    have e2 := lU_v w.1
    have e3 := w.1.2.2.1.2
    rw [lU_ke k hx] at z
    rw [z] at e1
    omega
  exact ⟨⟨h1, h2⟩, ⟨h1.symm, h2.symm⟩⟩
theorem lwB.put {M M' : zM} {A : zY} {h r : Nat} {v3 i kk kk' : Int} {S' : zS} (B : lwB M A h r v3 i kk) (C : cSt M' (yPut A S')) (X : Hx M M' h) (y : zSy M') (w : lH M' h S') (g : gH S' (i + 1)) (wf : wfY kk' (yPut A S')) (hk : 0 ≤ kk' ∧ kk' ≤ i + 1) : lwJ M' (yPut A S') (yS A) h r v3 (i + 1) kk' 1 := by
  obtain ⟨I, wr, ar, ak⟩ := B
  have hh := I.2.1.1.1.1.1
  have hr := wr.1.1.1
  refine ⟨⟨⟨C, wf, hk.1, hk.2, I.1.2.2.2.2⟩, ⟨w, g⟩, y, ?_⟩, ⟨wr.hx X ar.1 ar.2, I.2.1.2.le (by omega)⟩, .inr rfl, fun _ => ⟨⟨?_, ?_⟩, ar.hx X hr hh, fun z => ?_⟩⟩
  · rcases I.2.2.2 with q | ⟨q1, q2, q3, q4, q5⟩
    · exact .inl q
    · exact .inr ⟨q1, q2, q3.hx X q5.1 q5.2, q4.le (by omega), q5.hx X q3.1.1.1 hh⟩
  · have := I.1.2.1.2.1.1
    show 0 < min (yhc A + 1) 10
    omega
  · exact show (if (0 : Int) = 0 then yS A else yhf A (0 - 1)) = yS A from if_pos rfl
  · rcases I.2.2.2 with q | ⟨q1, q2, q3, q4, q5⟩
    · omega
    · exact (ak z).hx X q3.1.1.1 hr
theorem lwB.no {M M' : zM} {A : zY} {h r : Nat} {v3 i kk : Int} (B : lwB M A h r v3 i kk) (f : ∀ k i, isMd k → M' k i = M k i) (C : cSt M' A) : lwJ M' A (yS A) h r v3 (i + 1) kk 0 := by
  obtain ⟨I, wr, ar, ak⟩ := B
  have I1 := I.go (Lr.md f) C I.1.2.1 I.1.2.2.2.2 rfl ⟨rfl, rfl⟩
  refine ⟨⟨⟨C, I.1.2.1, I.1.2.2.1, by have := I.1.2.2.2.1; omega, I.1.2.2.2.2⟩, ⟨I1.2.1.1, I1.2.1.2.le (by omega)⟩, I1.2.2.1, ?_⟩, ⟨wr.ke (Lr.md (K := []) f).ke, I.2.1.2.le (by omega)⟩, .inl rfl, fun z => absurd z (by decide)⟩
  rcases I1.2.2.2 with q | ⟨q1, q2, q3, q4, q5⟩
  · exact .inl q
  · exact .inr ⟨q1, q2, q3, q4.le (by omega), q5⟩
section
variable {l : Launch} {P : lwG}
theorem law_82 {i : Int} (hi : 0 ≤ i ∧ i < 26) {C N : Nat} (hC : C ≤ 400000 ∧ N ≤ 4000000)
    (cs : ∀ (M : zM) (A : zY) (h r : Nat) (v3 kk v6 t is nn vv : Int) (c n : Nat), lwB M A h r v3 i kk → (0 ≤ v6 ∧ zI v6) → tqS (yS A) t is nn vv → c ≤ C → n ≤ N → LL_law_182 l P c n h v3 i v6 r t is nn vv M) :
    ∀ (M : zM) (A : zY) (h : Nat) (v3 kk : Int) (c n : Nat), lwI M A h v3 i kk → c + 7 ≤ C → n + 138 ≤ N → LL_law_82 l P c n h v3 1 i M := by
  intro M A h v3 kk c n I hc hn
  refine vL_law_82 ⟨by omega, fun z => absurd z (by omega), fun _ => ⟨by decide, fun z => absurd z (by decide), fun _ => (c_L_cell (by omega)).mono ?_⟩⟩
  rintro x _ ⟨hx, rfl⟩
  refine ⟨by omega, (c_X9_copy I.2.1.1 I.2.2.1).mono ?_⟩
  rintro a M1 ⟨G, y, ha, hu, wa⟩
  have k := G.ke
  have ah := ap_new k ha hu I.2.1.1 wa.1
  have wh := I.2.1.1.ke k
  have hh := I.2.1.1.1.1.1
  have B : lwB M1 A h a v3 i kk := by
    refine ⟨⟨⟨I.1.1.lw fun k' i' hk' => G.1 k' i' (by omega) (by omega), I.1.2⟩, ⟨wh, I.2.1.2⟩, y, ?_⟩, wa, ah.1, fun z => ?_⟩
    · rcases I.2.2.2 with q | ⟨q1, q2, q3, q4, q5⟩
      · exact .inl q
      · exact .inr ⟨q1, q2, q3.ke k, q4, q5.ke k q3.1.1.1 hh⟩
    · rcases I.2.2.2 with q | ⟨q1, q2, q3, q4, q5⟩
      · omega
      · exact (ap_new k ha hu q3 wa.1).2
  have v0 : 0 ≤ zushr x 1 ∧ zI (zushr x 1) := ⟨zus_nn (k := 1) (by decide), zI_of _⟩
  have hn20 := wh.n20
  have vv := tmod_b (x := zushr (zushr x 1) 8) (m := 60) (zus_nn (k := 8) (by decide)) (by decide)
  have go : ∀ t, 0 ≤ t ∧ t ≤ qn (yS A) → LL_law_134 l P (c + 7) (n + 138) h v3 i (zushr x 1) a t M1 := by
    intro t ht
    refine vL_law_134 ?_
    rw [wh.n]
    refine ⟨by omega, by omega, fun q => ?_, fun q => ?_⟩
    · refine vL_law_150 ⟨by decide, fun _ => ?_, fun z => absurd rfl z⟩
      exact vL_law_169 (cs M1 A h a v3 kk _ t 0 0 _ _ _ B v0 ⟨by omega, vv, .inr ⟨rfl, q, rfl⟩⟩ hc hn)
    · have hT : 0 ≤ t ∧ t < qn (yS A) := ⟨ht.1, q⟩
      refine vL_law_150 ⟨by decide, fun z => absurd z (by decide), fun _ => ⟨wh.r11.1, fun U qU_ => ?_⟩⟩
      obtain rfl := wh.r11.2 U qU_
      refine ⟨wh.t21 hT, (wh.rr hT).1, fun r2 q2 => ?_⟩
      obtain rfl := (wh.rr hT).2 r2 q2
      rw [wh.un hT]
      exact ⟨(wh.un4 hT).1, vL_law_169 (cs M1 A h a v3 kk _ t 1 _ _ _ _ B v0 ⟨by omega, vv, .inl ⟨rfl, q, rfl⟩⟩ hc hn)⟩
  refine vL_law_110 ?_
  rw [wh.n]
  refine ⟨by omega, fun q => ⟨by omega, by omega, go _ ?_⟩, fun q => go 0 (by omega)⟩
  have := tmod_b (x := zushr (zushr x 1) 4) (m := qn (yS A) + 1) (zus_nn (k := 4) (by decide)) (by omega)
  omega
end
