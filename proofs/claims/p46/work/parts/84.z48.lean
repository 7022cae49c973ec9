/-! ===== the law's loop ===== -/
section
variable {l : Launch} {P : lwG}
theorem law_182 {M : zM} {A : zY} {h r : Nat} {v3 i kk v6 t is nn vv : Int} {c n C N : Nat} (nx : goOn l P i C N) (hC : C ≤ 400000 ∧ N ≤ 4000000) (hi : 0 ≤ i ∧ i < 26) (B : lwB M A h r v3 i kk) (h6 : 0 ≤ v6 ∧ zI v6) (T : tqS (yS A) t is nn vv) (hc : c + 7065 + 8 ≤ C) (hn : n + 38933 + 1616 ≤ N) : LL_law_182 l P c n h v3 i v6 r t is nn vv M := by
  have v := tmod_b (x := v6) (m := 11) h6.1 (by decide)
  have add := law_434 (v6 := v6) nx hC hi B T (c := c) (n := n) (by omega) (by omega)
  have tel := law_252 (v6 := v6) nx hC hi B (c := c) (n := n) (by omega) (by omega)
  have cl := law_1064 (v6 := v6) nx hC hi B (c := c) (n := n) (by omega) (by omega)
  exact vL_law_182 ⟨by omega, fun _ => ⟨h6.2, by omega, fun _ => tel, fun _ => law_319 nx hC hi B (by omega) (by omega), fun _ => add, fun _ => add, fun _ => law_604 nx hC hi B T (by omega) (by omega), fun _ => law_859 nx hC hi B T (by omega) (by omega), fun _ => law_916 nx hC hi B (by omega) (by omega), fun _ => law_991 nx hC hi B (by omega) (by omega), fun _ => cl, fun _ => cl, fun _ => law_1115 nx hC hi B (by omega) (by omega)⟩, fun _ => tel⟩
theorem law_lp : ∀ (f j : Nat), j + f = 26 → ∀ (M : zM) (A : zY) (h : Nat) (v3 kk : Int) (c n : Nat), lwI M A h v3 (j : Int) kk → c ≤ 200 + 7080 * j → n ≤ 20000 + 40687 * j → LL_law_82 l P c n h v3 1 (j : Int) M := by
  intro f
  induction f with
  | zero =>
    intro j hj M A h v3 kk c n I hc hn
    exact vL_law_82 ⟨by omega, fun _ => rfl, fun z => absurd z (by omega)⟩
  | succ f ih =>
    intro j hj M A h v3 kk c n I hc hn
    have ej : ((j + 1 : Nat) : Int) = (j : Int) + 1 := by omega
    have nx : goOn l P (j : Int) (200 + 7080 * (j + 1)) (20000 + 40687 * (j + 1)) := by
      intro M A h v3 kk c n I hc hn
      have := ih (j + 1) (by omega) M A h v3 kk c n (by rw [ej]; exact I) hc hn
      rw [ej] at this
      exact this
    exact law_82 (C := 200 + 7080 * j + 7) (N := 20000 + 40687 * j + 138) ⟨by omega, by omega⟩ ⟨by omega, by omega⟩ (fun M A h r v3 kk v6 t is nn vv c n B h6 T hc hn => law_182 nx ⟨by omega, by omega⟩ ⟨by omega, by omega⟩ B h6 T (by omega) (by omega)) M A h v3 kk c n I (by omega) (by omega)
/-! ===== the law's first calls ===== -/
def zM0 : zM := fun _ _ _ => 0
def zY0 : zY := (zE, (0, fun _ => zE), (fun _ => 0, fun _ => zE), (0, fun _ => 0))
theorem hW0 (h : Nat) : hW zM0 h := ⟨⟨Int.le_refl _, show (0 : Int) ≤ 20 by decide⟩, fun _ _ => .inl rfl, fun _ _ => ⟨Int.le_refl _, show (0 : Int) ≤ 4 by decide⟩⟩
theorem hS0 (h : Nat) : hS zM0 h = zE := hS_E fun _ _ => rfl
theorem cSt0 : cSt zM0 zY0 := by
  refine ⟨⟨hW0 0, hS0 0⟩, hW0 1, ⟨⟨Int.le_refl _, show (0 : Int) < 10 by decide⟩, rfl, fun i hi => ?_⟩, ⟨rfl, fun q => ?_, fun q => ?_⟩, rfl, fun i hi => ?_⟩
  · have hi' : 0 ≤ i ∧ i < 0 := hi
    omega
  · have q' : (0 : Int) = 1 := q
    omega
  · have q' : (0 : Int) = 1 := q
    omega
  · have hi' : 0 ≤ i ∧ i < 0 := hi
    omega
theorem wfY0 : wfY 0 zY0 := by
  refine ⟨zE_wf (Int.le_refl _), show (0 : Int) ≤ 0 ∧ (0 : Int) ≤ 10 by decide, fun i hi => ?_, fun s hs => .inl rfl, show (0 : Int) ≤ 0 ∧ (0 : Int) ≤ 400 by decide, fun i hi => ?_⟩
  · have hi' : 0 ≤ i ∧ i < 0 := hi
    omega
  · have hi' : 0 ≤ i ∧ i < 0 := hi
    omega
theorem clD0 {g : Int} : clD zE g = 0 := by
  have ok : okS zE := (zE_wf (k := 0) (Int.le_refl _)).ok
  have e : qB zE g = [] := by
    cases e : qB zE g with
    | nil => rfl
    | cons x L =>
      have hx : x ∈ qB zE g := by rw [e]; exact List.mem_cons_self
      obtain ⟨t, u, c, -⟩ := ((mB_ok (E := fun t => qgr zE t = g) ok.1).2 x).mp hx
      have c1 : 0 ≤ t := c.1.1
      have c2 : t < 0 := c.1.2.1
      omega
  have hd : 0 ≤ clD zE g ∧ _ := dN_b (B := qB zE g) (A := qA zE g) (f := qfee zE) (w := qlaw zE)
  have hl : clD zE g ≤ ((qB zE g).length : Int) ∧ _ := dN_l (B := qB zE g) (A := qA zE g) (f := qfee zE) (w := qlaw zE)
  have l0 : (qB zE g).length = 0 := by rw [e]; rfl
  omega
theorem gH0 : gH zE 0 := by
  have n0 : qn zE = 0 := rfl
  have f0 : qfee zE = 0 := rfl
  refine ⟨⟨?_, ?_, fun t ht => by omega⟩, by omega, fun t u ht hu => by omega, ?_⟩
  · rw [n0, zsum_0]; rfl
  · exact show (0 : Int) ≤ 0 ∧ (0 : Int) ≤ 80 * 0 by decide
  · unfold pot
    rw [n0, zsum_0]
    decide
theorem law_7 {c n : Nat} (hc : c ≤ 150) (hn : n ≤ 15000) : AW l m_L_law (lwT P c n) 7 [(0, zr 60 0)] [zr 8 0] zM0 := by
  have y : zSy zM0 := ⟨rfl, rfl, rfl, rfl⟩
  refine vL_law ⟨by omega, fun a ha M1 e1 => ⟨by omega, ?_⟩⟩
  have n1 : ∀ q : Int, q ≠ 64 → M1 97 0 q = zM0 97 0 q := fun q hq => by rw [e1]; exact zmk_n (by decide) hq
  refine (c_X9_init (h := a) ((n1 70 (by decide)).trans (y.1.trans ha.symm)) ((n1 71 (by decide)).trans (y.2.1.trans ha.symm)) ((n1 72 (by decide)).trans (y.2.2.1.trans ha.symm)) ((n1 73 (by decide)).trans (y.2.2.2.trans ha.symm))).mono ?_
  rintro M2 hi
  obtain ⟨g2, y2, u2, w2⟩ := hall_0 y ha e1 hi
  have C2 : cSt M2 zY0 := cSt0.lw fun k i hk => g2.1 k i (by omega) (by omega)
  have tv : tV zE := gH0.tv (zE_wf (k := 0) (Int.le_refl _)) (by decide)
  have wf := wfY0
  refine ⟨by omega, (c_same (A := zY0) ⟨w2, wf, by decide, tv, gH0.1⟩ C2).mono ?_⟩
  rintro x M3 ⟨hx, L3, C3⟩
  rw [hx]
  refine ⟨by decide, fun z => absurd z (by decide), fun _ => (a8_undo C3 wf).mono ?_⟩
  rintro x M4 ⟨hx, C4, f4⟩
  have e : aUndo zY0 = (-1, zY0) := if_neg (show ¬ ((0 : Int) < 0) by decide)
  rw [e] at hx C4
  have hx : x = -1 := hx
  rw [hx]
  refine ⟨by decide, fun z => absurd rfl z, fun _ => (a8_back C4 wf (by decide)).mono ?_⟩
  rintro x M5 ⟨hx, C5, f5⟩
  have e : aBack zY0 1 = (-2, zY0) := by
    unfold aBack
    rw [if_neg (by decide)]
    exact if_pos rfl
  rw [e] at hx C5
  have hx : x = -2 := hx
  rw [hx]
  refine ⟨by decide, fun z => absurd rfl z, fun _ => (a8_keep C5 wf (by decide)).mono ?_⟩
  rintro x M6 ⟨hx, C6, f6⟩
  have e : aKeep zY0 2 = (-1, zY0) := if_pos (by decide)
  rw [e] at hx C6
  have hx : x = -1 := hx
  rw [hx]
  refine ⟨by decide, fun z => absurd rfl z, fun _ => (a8_close C6 wf (by decide) (by decide)).mono ?_⟩
  rintro x M7 ⟨hx, C7, f7⟩
  have e : aClose zY0 4 = (-1, zY0) := if_pos (by decide)
  rw [e] at hx C7
  have hx : x = -1 := hx
  rw [hx]
  refine ⟨by decide, fun z => absurd rfl z, fun _ => (a8_close C7 wf (by decide) (by decide)).mono ?_⟩
  rintro x M8 ⟨hx, C8, f8⟩
  have e : aClose zY0 0 = (-2, zY0) := by
    unfold aClose
    rw [if_neg (by decide)]
    exact if_pos clD0
  rw [e] at hx C8
  have hx : x = -2 := hx
  rw [hx]
  refine ⟨by decide, fun z => absurd rfl z, fun _ => ?_⟩
  have f38 : ∀ k i, isMd k → M8 k i = M3 k i := fun k i hk => (f8 k i hk).trans ((f7 k i hk).trans ((f6 k i hk).trans ((f5 k i hk).trans (f4 k i hk))))
  have k28 : Ke M2 M8 := L3.ke.tr (Lr.md (K := []) f38).ke
  have y3 : zSy M3 := by
    have q : ∀ k : Nat, k ∉ [66, 67, 80] → M3 97 0 k = M2 97 0 k := L3.2.2
    have q0 : M3 97 0 64 = M2 97 0 64 := q 64 (by decide)
    have q1 : M3 97 0 70 = M2 97 0 70 := q 70 (by decide)
    have q2 : M3 97 0 71 = M2 97 0 71 := q 71 (by decide)
    have q3 : M3 97 0 72 = M2 97 0 72 := q 72 (by decide)
    have q4 : M3 97 0 73 = M2 97 0 73 := q 73 (by decide)
    unfold zSy
    rw [q0, q1, q2, q3, q4]
    exact y2
  have := law_lp (l := l) (P := P) 26 0 (by omega) M8 zY0 a (-1) 0 (((c + 1) + 5) + 4) (((n + 12) + 105) + 808) ⟨⟨C8, wf, Int.le_refl _, Int.le_refl _, rfl⟩, ⟨w2.ke k28, gH0⟩, y3.md f38, .inl ⟨by decide, rfl⟩⟩ (by omega) (by omega)
  exact this
end
