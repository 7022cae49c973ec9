/-! ===== a market made: the walk ===== -/
section
variable {l : Launch} {M : zM} {S : zS} {g : Int} {h s b a : Nat}
theorem init_60 {t : Int} (ok : okS S) (w : lH M s S) (hh : M 97 0 65 ≤ (h : Int)) (hba : (b ≠ a) ∧ M 97 0 76 ≤ (b : Int) ∧ M 97 0 76 ≤ (a : Int)) (ht : 0 ≤ t ∧ t < qn S) (hg : qgr S t = g) {v2 v3 : Int}
    (nx : ∀ M2 nb na KB KA (c n : Nat), bI M M2 S g h b a (4 * (t + 1)) nb na KB KA → (c : Int) = 2 + nb + na → (n : Int) = 162 + 3 * (nb + na) → LX10_init_25 l (mkP M S g h) c n h s v2 v3 (t + 1) M2) :
    ∀ (f u : Nat) (M1 : zM) (nb na : Int) (KB KA : Int → Int) (c n : Nat), (u : Int) + f = qun S t → bI M M1 S g h b a (4 * t + u) nb na KB KA → (c : Int) = 2 + nb + na → (n : Int) = 162 + 3 * (nb + na) → LX10_init_60 l (mkP M S g h) c n h s v2 v3 t u M1 := by
  have h4 := w.un4 ht
  have h01 := w.s01 ht
  have hn := w.n20
  intro f
  induction f with
  | zero =>
    intro u M1 nb na KB KA c n hu I hc hn'
    obtain ⟨w1, eU, eR⟩ := I.1.1.hl w
    refine vX10_init_60 ⟨w1.r11.1, fun U qU_ => ?_⟩
    obtain rfl := w1.r11.2 U qU_
    refine ⟨w1.t21 ht, (w1.rr ht).1, fun R qR => ?_⟩
    obtain rfl := (w1.rr ht).2 R qR
    rw [w1.un ht]
    refine ⟨h4.1, by omega, by omega, fun _ => nx M1 nb na KB KA c n (I.skip (by omega) fun t' u' q _ z => ?_) hc hn', fun q => absurd q (by omega)⟩
    have := ok.1.rng q
    have := ok.1.2.1 t' ⟨q.1, q.2.1⟩
    have : t' = t := by omega
    have q3 := q.2.2.2
    rw [this] at q3
    omega
  | succ f ih =>
    intro u M1 nb na KB KA c n hu I hc hn'
    obtain ⟨w1, eU, eR⟩ := I.1.1.hl w
    have q : qU S t u := ⟨ht.1, ht.2, by omega, by omega⟩
    have r := ok.1.rng q
    obtain ⟨⟨b0, b1⟩, a0, a1⟩ := I.2.1
    obtain ⟨n0, n1, n2, n3⟩ := I.2.2.1
    have mm := I.2.2.2.1
    refine vX10_init_60 ⟨w1.r11.1, fun U qU_ => ?_⟩
    obtain rfl := w1.r11.2 U qU_
    refine ⟨w1.t21 ht, (w1.rr ht).1, fun R qR => ?_⟩
    obtain rfl := (w1.rr ht).2 R qR
    rw [w1.un ht]
    refine ⟨h4.1, by omega, by omega, fun z => absurd z (by omega), fun _ => ⟨w1.r7.1, fun x1 q1 => ?_⟩⟩
    obtain rfl := w1.r7.2 x1 q1
    rw [w1.sl ht]
    have cst : (((c + 1 : Nat) : Int) = 2 + (nb + 1) + na) ∧ (((n + 3 : Nat) : Int) = 162 + 3 * (nb + 1 + na)) ∧ (((c + 1 : Nat) : Int) = 2 + nb + (na + 1)) ∧ (((n + 3 : Nat) : Int) = 162 + 3 * (nb + (na + 1))) := by omega
    refine ⟨by omega, fun hs => ⟨by rw [b0]; omega, fun B_ hB => ⟨by omega, fun x hx M2 e2 M3 e3 M4 e4 => ?_⟩⟩, fun hs => ⟨by rw [a0]; omega, fun A_ hA => ⟨by omega, fun x hx M2 e2 M3 e3 M4 e4 => ?_⟩⟩⟩
    · have eB : B_ = b := by omega
      subst eB
      obtain ⟨⟨G4, k4⟩, L0, -⟩ := bI.lay (M5 := zu M4 77 x 2 (qsy S t u)) (M6 := zu (zu M4 77 x 2 (qsy S t u)) 76 B_ nb (x : Int)) (M7 := zu (zu (zu M4 77 x 2 (qsy S t u)) 76 B_ nb (x : Int)) 65 h 2 (nb + 1)) ok I hh hba q hg hx e2 e3 e4
      obtain ⟨L1, L2⟩ := L0 hs rfl rfl
      obtain ⟨w4, eU4, eR4⟩ := G4.hl w
      obtain ⟨KB', I'⟩ := L2 rfl
      refine ⟨w4.r11.1, fun U qU_ => ?_⟩
      obtain rfl := w4.r11.2 U qU_
      refine ⟨(w4.rr ht).1, fun R qR => ?_⟩
      obtain rfl := (w4.rr ht).2 R qR
      rw [w4.un ht, w4.sy ht ⟨by omega, by omega⟩, n0]
      refine ⟨by omega, fun M5 e5 => ⟨by omega, fun M6 e6 M7 e7 => ?_⟩⟩
      rw [e6, e5, L1, ← e5, ← e6] at e7
      have := ih (u + 1) M7 (nb + 1) na KB' KA (c + 1) (n + 3) (by omega) (by rw [e7, e6, e5, show ((u + 1 : Nat) : Int) = (u : Int) + 1 by omega]; exact I') cst.1 cst.2.1
      rw [show ((u + 1 : Nat) : Int) = (u : Int) + 1 by omega] at this
      exact this
    · have eB : A_ = a := by omega
      subst eB
      obtain ⟨⟨G4, k4⟩, -, L0⟩ := bI.lay (M5 := zu M4 77 x 2 (qsy S t u + qfee S)) (M6 := zu (zu M4 77 x 2 (qsy S t u + qfee S)) 76 A_ na (x : Int)) (M7 := zu (zu (zu M4 77 x 2 (qsy S t u + qfee S)) 76 A_ na (x : Int)) 65 h 3 (na + 1)) ok I hh hba q hg hx e2 e3 e4
      obtain ⟨L1, L2⟩ := L0 (by omega) rfl rfl
      obtain ⟨w4, eU4, eR4⟩ := G4.hl w
      obtain ⟨KA', I'⟩ := L2 rfl
      refine ⟨w4.r11.1, fun U qU_ => ?_⟩
      obtain rfl := w4.r11.2 U qU_
      refine ⟨(w4.rr ht).1, fun R qR => ?_⟩
      obtain rfl := (w4.rr ht).2 R qR
      rw [w4.un ht, w4.sy ht ⟨by omega, by omega⟩, w4.sc (k := 1) (by decide), n1]
      refine ⟨by omega, fun M5 e5 => ⟨by omega, fun M6 e6 M7 e7 => ?_⟩⟩
      rw [e6, e5, L1, ← e5, ← e6] at e7
      have := ih (u + 1) M7 nb (na + 1) KB KA' (c + 1) (n + 3) (by omega) (by rw [e7, e6, e5, show ((u + 1 : Nat) : Int) = (u : Int) + 1 by omega]; exact I') cst.2.2.1 cst.2.2.2
      rw [show ((u + 1 : Nat) : Int) = (u : Int) + 1 by omega] at this
      exact this
theorem init_25 (ok : okS S) (w : lH M s S) (hh : M 97 0 65 ≤ (h : Int)) (hba : (b ≠ a) ∧ M 97 0 76 ≤ (b : Int) ∧ M 97 0 76 ≤ (a : Int)) (hg : 0 ≤ g ∧ g < 4) :
    ∀ (f t : Nat) (M1 : zM) (nb na : Int) (KB KA : Int → Int) (c n : Nat), (t : Int) + f = qn S → bI M M1 S g h b a (4 * (t : Int)) nb na KB KA → (c : Int) = 2 + nb + na → (n : Int) = 162 + 3 * (nb + na) → LX10_init_25 l (mkP M S g h) c n h s (zshl 1 g) (-1) t M1 := by
  have hn := w.n20
  intro f
  induction f with
  | zero =>
    intro t M1 nb na KB KA c n ht I hc hn'
    obtain ⟨w1, eU, eR⟩ := I.1.1.hl w
    obtain ⟨⟨G, hl⟩, ⟨⟨b0, b1⟩, a0, a1⟩, ⟨n0, n1, n2, n3⟩, ⟨m0, m1, m2⟩, ⟨RB, RA⟩, SB, SA⟩ := I
    have all : ∀ t' u', qU S t' u' → 4 * t' + u' < 4 * (t : Int) := fun t' u' q => by
      have := ok.1.rng q
      have := q.2.1
      omega
    have stB := SB.st (fun t' u' c => all t' u' c.1)
    have stA := SA.st (fun t' u' c => all t' u' c.1)
    have fee := ok.2.2.1
    refine vX10_init_25 ?_
    rw [w1.n]
    refine ⟨by omega, by omega, fun _ => ⟨by rw [b0]; omega, fun B_ hB => ?_⟩, fun q => absurd q (by omega)⟩
    have eB : B_ = b := by omega
    subst eB
    rw [n0]
    refine (c_orders (P := PB S (fun t => qgr S t = g) (qsy S)) (w := -1) (pr := kbv) ⟨m0, by omega⟩ (fun x y => ?_) (fun x hx => ?_) RB stB).mono ?_
    · unfold kbv; omega
    · have := PB_rng ok.1 x hx
      unfold kbv; omega
    rintro M2 ⟨F2, K2, R2, St2, Sd2⟩
    have k65 : M2 65 h = M1 65 h := F2 65 h (nk (by decide))
    rw [k65, F2 97 0 (nk (by decide)), a0, n1]
    refine ⟨by omega, fun A_ hA => ?_⟩
    have eA : A_ = a := by omega
    subst eA
    have RA2 : rK M2 A_ na KA (kav (qfee S)) := RA.keep (by rw [F2 97 0 (nk (by decide))]; exact Int.le_refl _) (fun i _ => F2 77 i (nk (by decide))) (F2 76 A_ (by rintro ⟨-, z⟩; exact hba.1 z.symm))
    refine (c_orders (P := PA S (fun t => qgr S t = g) (qsy S)) (w := 1) (pr := kav (qfee S)) ⟨m1, by omega⟩ (fun x y => ?_) (fun x hx => ?_) RA2 stA).mono ?_
    · unfold kav; omega
    · have := PA_rng ok.1 x hx
      unfold kav; omega
    rintro M3 ⟨F3, K3, R3, St3, Sd3⟩
    have e97 : M3 97 0 = M1 97 0 := (F3 97 0 (nk (by decide))).trans (F2 97 0 (nk (by decide)))
    have k65' : M3 65 h = M1 65 h := (F3 65 h (nk (by decide))).trans k65
    have RB3 : rK M3 B_ nb K2 kbv := R2.keep (by rw [F3 97 0 (nk (by decide))]; exact Int.le_refl _) (fun i _ => F3 77 i (nk (by decide))) (F3 76 B_ (by rintro ⟨-, z⟩; exact hba.1 z))
    have rB := St2.row Sd2 m0
    have rA := St3.row Sd3 m1
    have eqB : qB S g = (List.range nb.toNat).map fun j : Nat => K2 (j : Int) := rowOf_is rB
    have eqA : qA S g = (List.range na.toNat).map fun j : Nat => K3 (j : Int) := rowOf_is rA
    have lB : ((qB S g).length : Int) = nb := by rw [eqB, List.length_map, List.length_range]; omega
    have lA : ((qA S g).length : Int) = na := by rw [eqA, List.length_map, List.length_range]; omega
    have G3 : Gr mKs M M3 := (G.st (k := 76) (i := B_) (by decide) hba.2.1 F2).st (k := 76) (i := A_) (by decide) hba.2.2 F3
    have := init_220 (l := l) (M := M) (s := s) (b := B_) (a := A_) (B := qB S g) (A := qA S g) (f := qfee S) (c := c) (n := n) (gd_m ok.1) fee hh (qB S g).length 0 M3 (by omega) G3 (by rw [e97]; exact hl) ⟨by rw [k65', e97]; exact ⟨⟨b0, b1⟩, a0, a1⟩, by rw [k65', lB, lA]; exact ⟨n0, n1⟩, by rw [eqB]; exact RB3.list m0, by rw [eqA]; exact R3.list m1⟩ (by rw [k65', n2]; rfl) (by simp) (by rw [k65', n3]; simp)
    exact this
  | succ f ih =>
    intro t M1 nb na KB KA c n ht I hc hn'
    obtain ⟨w1, eU, eR⟩ := I.1.1.hl w
    have hT : 0 ≤ (t : Int) ∧ (t : Int) < qn S := by omega
    have hgr := ok.2.1 t hT
    have bg := bit_4 hg hgr
    refine vX10_init_25 ?_
    rw [w1.n]
    refine ⟨by omega, by omega, fun q => absurd q (by omega), fun _ => ⟨w1.r8.1, fun x1 q1 => ?_⟩⟩
    obtain rfl := w1.r8.2 x1 q1
    rw [w1.gr hT]
    refine ⟨w1.t21 hT, fun q => ?_, fun q => ⟨by omega, fun _ => ?_, fun z => absurd z (by omega)⟩⟩
    · have hne := bg.mp q
      have := ih (t + 1) M1 nb na KB KA c n (by omega) (by
        rw [show ((t + 1 : Nat) : Int) = (t : Int) + 1 by omega]
        refine I.skip (by omega) fun t' u' qq gg z => ?_
        have := ok.1.rng qq
        have e : t' = (t : Int) := by omega
        rw [e] at gg
        exact hne gg) hc hn'
      rw [show ((t + 1 : Nat) : Int) = (t : Int) + 1 by omega] at this
      exact this
    · have he : qgr S t = g := Classical.byContradiction fun z => q (bg.mpr z)
      refine init_60 (b := b) (a := a) ok w hh hba hT he (fun M2 nb' na' KB' KA' c' n' I' hc' hn2 => ?_) (qun S t).toNat 0 M1 nb na KB KA c n ?_ ?_ hc hn'
      · have := ih (t + 1) M2 nb' na' KB' KA' c' n' (by omega) (by rw [show ((t + 1 : Nat) : Int) = (t : Int) + 1 by omega]; exact I') hc' hn2
        rw [show ((t + 1 : Nat) : Int) = (t : Int) + 1 by omega] at this
        exact this
      · have := w.un4 hT
        omega
      · rw [show 4 * (t : Int) + ((0 : Nat) : Int) = 4 * (t : Int) by omega]
        exact I
theorem c_market {M3 : zM} (ok : okS S) (w : lH M s S) (hh : (h : Int) = M 97 0 65) (e3 : M3 = zmk M 65 h 0) (hg : 0 ≤ g ∧ g < 4) : CVn l m_X10_init 82 402 [zr 65 h, zr 64 s, zi (zshl 1 g), zi (-1)] M3 (mkP M S g h) := by
  have hge : M 97 0 65 ≤ (h : Int) := Int.le_of_eq hh.symm
  refine vX10_init fun b hb M4 e4 M5 e5 a ha M6 e6 M7 e7 => ?_
  have n3 : ∀ q : Int, q ≠ 65 → M3 97 0 q = M 97 0 q := fun q hq => by rw [e3]; exact zmk_n (by decide) hq
  have c3 : M3 97 0 65 = (h : Int) + 1 := by rw [e3]; exact zmk_c
  have G3 : Gr mKs M M3 := by rw [e3]; exact Gr.mk (by decide) (by decide) hh
  have G5 : Gr mKs M M5 := by rw [e5, e4]; exact (G3.tr (Gr.mk (by decide) (by decide) hb)).zu (by decide) hge
  have G7 : Gr mKs M M7 := by rw [e7, e6]; exact (G5.tr (Gr.mk (by decide) (by decide) ha)).zu (by decide) hge
  have c5 : M5 97 0 76 = (b : Int) + 1 := by rw [e5, zu_o _ _ (nk (by decide)), e4]; exact zmk_c
  have c7 : M7 97 0 76 = (a : Int) + 1 := by rw [e7, zu_o _ _ (nk (by decide)), e6]; exact zmk_c
  have hb0 : M 97 0 76 = (b : Int) := by rw [hb, n3 76 (by decide)]
  have l7 : M7 97 0 65 = (h : Int) + 1 := by
    rw [e7, zu_o _ _ (nk (by decide)), e6, zmk_n (by decide) (by decide), e5, zu_o _ _ (nk (by decide)), e4, zmk_n (by decide) (by decide), c3]
  have f7 : ∀ j, 0 ≤ j → M7 65 h j = if j = 1 then (a : Int) else if j = 0 then (b : Int) else zdf 65 j := fun j hj => by
    rw [e7, zu_w, e6, zmk_o (nk (by decide)) (by decide), e5, zu_w, e4, zmk_o (nk (by decide)) (by decide), e3, zmk_v (by decide) hj]
  have z2 : M7 65 h 2 = 0 ∧ M7 65 h 3 = 0 ∧ M7 65 h 4 = 0 ∧ M7 65 h 5 = 0 := by
    refine ⟨?_, ?_, ?_, ?_⟩ <;> rw [f7 _ (by decide), if_neg (by decide), if_neg (by decide)] <;> rfl
  have hab : b ≠ a := by omega
  refine init_25 (b := b) (a := a) ok w hge ⟨hab, by omega, by omega⟩ hg (qn S).toNat 0 M7 0 0 (fun _ => 0) (fun _ => 0) _ _ (by have := w.n20; omega) ⟨⟨G7, by omega⟩, ⟨⟨?_, by omega⟩, ?_, by omega⟩, z2, by omega, ⟨fun j hj => absurd hj (by omega), fun j hj => absurd hj (by omega)⟩, ?_, ?_⟩ (by omega) (by omega)
  · rw [f7 0 (by decide), if_neg (by decide), if_pos rfl]
  · rw [f7 1 (by decide), if_pos rfl]
  · exact sd.nil fun t u c => by have := c.1.1; have := c.1.2.2.1; omega
  · exact sd.nil fun t u c => by have := c.1.1; have := c.1.2.2.1; omega
end
