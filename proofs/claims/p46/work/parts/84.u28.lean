/-! ===== the law closes a grade's market ===== -/
theorem mT_0 {S : zS} {g t : Int} (ok : okS S) (h : qgr S t ≠ g) : mT S g t = 0 ∧ cT S g t = 0 := by
  have hb := dN_b (B := qB S g) (A := qA S g) (f := qfee S) (w := qlaw S)
  have hl := dN_l (B := qB S g) (A := qA S g) (f := qfee S) (w := qlaw S)
  have mn := mny_none (E := fun t => qgr S t = g) (t := t) (f := qfee S) (w := qlaw S) ok.1
  unfold mT cT
  by_cases s : qsl S t = 1
  · rw [zb_1 s, if_neg (by decide)]
    exact ⟨mn.2 (fun q => h q.2.1), cnt_none (noA (E := fun t => qgr S t = g) ok.1 (fun q => h q.2.1)) ⟨hb.1, hl.2⟩⟩
  · rw [zb_f s, if_pos rfl]
    exact ⟨mn.1 (fun q => h q.2.1), cnt_none (noB (E := fun t => qgr S t = g) ok.1 (fun q => h q.2.1)) ⟨hb.1, hl.1⟩⟩
theorem cT_2 {S : zS} {g t : Int} (ok : okS S) : cT S g t = cnt2 (qB S g) (qA S g) t (clD S g) := by
  have hl := dN_l (B := qB S g) (A := qA S g) (f := qfee S) (w := qlaw S)
  unfold cT
  by_cases s : qsl S t = 1
  · rw [zb_1 s, if_neg (by decide)]
    exact (cnt2_A (noB (E := fun t => qgr S t = g) ok.1 (fun q => q.2.2 s)) hl.1).symm
  · rw [zb_f s, if_pos rfl]
    exact (cnt2_B (noA (E := fun t => qgr S t = g) ok.1 (fun q => s q.2.2)) hl.2).symm
section
variable {l : Launch} {M : zM} {S : zS} {h : Nat} {g kk : Int}
/-- where the first half stands -/
def clI (M M1 : zM) (S : zS) (g : Int) (m a b : Nat) (n : Int) : Prop := Gr clK M M1 ∧ zSy M1 ∧ (mkt M1 m (qB S g) (qA S g) (qfee S) ∧ M1 65 m 6 = clD S g ∧ (m : Int) < M1 97 0 65) ∧ clR M1 S g a b n
theorem clI.st {M1 M2 M3 : zM} {m a b : Nat} {t x y : Int} (I : clI M M1 S g m a b t) (ha : M 97 0 78 ≤ (a : Int) ∧ M 97 0 78 ≤ (b : Int)) (e2 : M2 = zu M1 78 a t x) (e3 : M3 = zu M2 78 b t y) (hx : x = mT S g t) (hy : y = cT S g t) : clI M M3 S g m a b (t + 1) := by
  obtain ⟨G, ys, ⟨I1, I2, I3⟩, R⟩ := I
  have o : ∀ k i, k ≠ 78 → M3 k i = M1 k i := fun k i z => by rw [e3, zu_o k i (nk z), e2, zu_o k i (nk z)]
  refine ⟨by rw [e3, e2]; exact (G.zu (k := 78) (by decide) ha.1).zu (k := 78) (by decide) ha.2, ys.of (o 97 0 (by decide)), ⟨I1.of (fun j _ => by rw [o 65 m (by decide)]) (fun k i hk _ => o k i (by omega)) (by rw [o 97 0 (by decide)]; exact ⟨Int.le_refl _, Int.le_refl _⟩), by rw [o 65 m (by decide)]; exact I2, by rw [o 97 0 (by decide)]; exact I3⟩, R.1, by rw [o 97 0 (by decide)]; exact R.2.1, fun t' ht' => ?_⟩
  have va : M3 78 a t' = if t' = t then x else M1 78 a t' := by rw [e3, zu_o _ _ (by rintro ⟨-, z⟩; exact R.1 z), e2, zu_w]
  have vb : M3 78 b t' = if t' = t then y else M1 78 b t' := by rw [e3, zu_w, e2, zu_o _ _ (by rintro ⟨-, z⟩; exact R.1 z.symm)]
  rw [va, vb]
  by_cases c : t' = t
  · rw [if_pos c, if_pos c, c]
    exact ⟨hx, hy⟩
  · rw [if_neg c, if_neg c]
    exact R.2.2 t' (by omega)
theorem closes_59 {m a b : Nat} (ws : wfS kk S) (hk : kk ≤ 1000) (wl : lH M h S) (hd : clD S g ≠ 0) (hg : 0 ≤ g ∧ g < 4) (ha : M 97 0 78 ≤ (a : Int) ∧ M 97 0 78 ≤ (b : Int)) : ∀ (f t c n : Nat) (M1 : zM), (t : Int) + f = qn S → c ≤ 3565 + 174 * t → n ≤ 19653 + 960 * t → clI M M1 S g m a b t → LL_closes_59 l (clP M S g h) c n h g m (clT S g) a b t M1 := by
  have ok := ws.ok
  have hn := wl.n20
  have gdd := gd_m (E := fun x => qgr S x = g) ok.1
  have hb := dN_b (B := qB S g) (A := qA S g) (f := qfee S) (w := qlaw S)
  have hl := dN_l (B := qB S g) (A := qA S g) (f := qfee S) (w := qlaw S)
  intro f
  induction f with
  | zero =>
    intro t c n M1 ht hc hn' I
    have w1 := wl.ke I.1.ke
    refine vL_closes_59 ?_
    rw [w1.n]
    refine ⟨by omega, by omega, fun _ => ?_, fun q => absurd q (by omega)⟩
    have R := I.2.2.2
    rw [show (t : Int) = qn S by omega] at R
    have := closes_134 (l := l) (M := M) (S := S) (h := h) (g := g) (m := m) (a := a) (b := b) ws hk rfl hg hd (qn S).toNat 0 c n M1 (by omega) (by omega) (by omega) (I.1.hx wl.1.1.1) I.2.1 w1 R I.2.2.1.2.2 I.2.2.1.2.1
    exact this
  | succ f ih =>
    intro t c n M1 ht hc hn' I
    have w1 := wl.ke I.1.ke
    have hT : 0 ≤ (t : Int) ∧ (t : Int) < qn S := by omega
    have hgr := ok.2.1 t hT
    have nx : ∀ (c n : Nat) M2, c ≤ 3565 + 174 * (t + 1) → n ≤ 19653 + 960 * (t + 1) → clI M M2 S g m a b ((t : Int) + 1) → LL_closes_59 l (clP M S g h) c n h g m (clT S g) a b ((t : Int) + 1) M2 := by
      intro c n M2 h1 h2 h3
      have := ih (t + 1) c n M2 (by omega) h1 h2 (by rw [show ((t + 1 : Nat) : Int) = (t : Int) + 1 by omega]; exact h3)
      rw [show ((t + 1 : Nat) : Int) = (t : Int) + 1 by omega] at this
      exact this
    refine vL_closes_59 ?_
    rw [w1.n]
    refine ⟨by omega, by omega, fun q => absurd q (by omega), fun _ => ⟨w1.r8.1, fun r hr => ?_⟩⟩
    obtain rfl := w1.r8.2 r hr
    rw [w1.gr hT]
    refine ⟨w1.t21 hT, by omega, by omega, fun q M2 e2 => ?_, fun q => ⟨by omega, ?_⟩⟩
    · have w2 : lH M2 r S := w1.cells (by rw [e2, zu_o _ _ (nk (by decide))]) (by rw [e2, zu_o _ _ (nk (by decide))]) (by rw [e2, zu_o _ _ (nk (by decide))]) (by rw [e2, zu_o _ _ (nk (by decide))]) (by rw [e2, zu_o _ _ (nk (by decide))]) (by rw [e2, zu_o _ _ (nk (by decide))]) (fun t _ => by rw [e2, zu_o _ _ (nk (by decide))]) (fun q => by rw [e2, zu_o _ _ (nk (by decide))]; exact Int.le_refl _)
      refine ⟨w2.r8.1, fun r2 hr2 => ?_⟩
      obtain rfl := w2.r8.2 r2 hr2
      rw [w2.gr hT]
      have z := mT_0 ok q
      refine ⟨by omega, fun _ M3 e3 => nx c n M3 (by omega) (by omega) (I.st ha e2 e3 z.1.symm z.2.symm), fun q2 => absurd q2 q⟩
    · rw [show M1 64 r 2 = qlaw S from w1.sc (by decide)]
      refine (c_deal ok w1 I.2.1 hT ok.2.2.2).mono ?_
      rintro x M2 ⟨hx, G2, y2⟩ M3 e3
      have I2 : clI M M2 S g m a b t := ⟨I.1.tr (G2.mono (by decide)), y2, ⟨I.2.2.1.1.lr I.2.2.1.2.2 G2.lr, by rw [G2.2.1 65 m (by decide) I.2.2.1.2.2]; exact I.2.2.1.2.1, Int.lt_of_lt_of_le I.2.2.1.2.2 (G2.2.2.1 65)⟩, I.2.2.2.lr G2.lr⟩
      have w2 := wl.ke I2.1.ke
      have o3 : ∀ k i, k ≠ 78 → M3 k i = M2 k i := fun k i z => by rw [e3, zu_o k i (nk z)]
      have w3 : lH M3 r S := w2.cells (o3 _ _ (by decide)) (o3 _ _ (by decide)) (o3 _ _ (by decide)) (o3 _ _ (by decide)) (o3 _ _ (by decide)) (o3 _ _ (by decide)) (fun t _ => o3 _ _ (by decide)) (fun q => by rw [o3 97 0 (by decide)]; exact Int.le_refl _)
      refine ⟨w3.r8.1, fun r2 hr2 => ?_⟩
      obtain rfl := w3.r8.2 r2 hr2
      rw [w3.gr hT]
      refine ⟨by omega, fun q2 => absurd q q2, fun _ => ?_⟩
      have mk3 : mkt M3 m (qB S g) (qA S g) (qfee S) := I2.2.2.1.1.of (fun j _ => by rw [o3 65 m (by decide)]) (fun k i hk _ => o3 k i (by omega)) (by rw [o3 97 0 (by decide)]; exact ⟨Int.le_refl _, Int.le_refl _⟩)
      refine (c_doneOf gdd mk3 (by omega) (by rw [o3 65 m (by decide)]; exact I2.2.2.1.2.1) ⟨hb.1, hl.1, hl.2⟩).mono ?_
      rintro v M4 ⟨hv, e4⟩ M5 e5
      rw [e4] at e5
      refine nx _ _ M5 (by omega) (by omega) (I2.st ha e3 e5 ?_ (hv.trans (cT_2 ok).symm))
      rw [hx]
      unfold mT
      rw [q]
theorem c_closes (ws : wfS kk S) (hk : kk ≤ 1000) (wl : lH M h S) (y : zSy M) (hg : 0 ≤ g ∧ g < 4) : CIn l m_L_closes 7065 38933 [zr 64 h, zi g] M (clP M S g h) := by
  have ok := ws.ok
  have gdd := gd_m (E := fun x => qgr S x = g) ok.1
  have hb := dN_b (B := qB S g) (A := qA S g) (f := qfee S) (w := qlaw S)
  have hl := dN_l (B := qB S g) (A := qA S g) (f := qfee S) (w := qlaw S)
  have hh := wl.1.1.1
  refine vL_closes fun m hm0 M1 e1 => (c_market ok wl hm0 e1 hg).mono ?_
  rintro M2 ⟨G2, l2, I2⟩
  have w2 := wl.ke G2.ke
  rw [show M2 64 h 1 = qfee S from w2.sc (by decide), show M2 64 h 2 = qlaw S from w2.sc (by decide)]
  refine (c_by gdd ok.2.2.1 ok.2.2.2 I2).mono ?_
  rintro x M3 ⟨hx, o3, I3, d3⟩
  obtain rfl := hx.symm
  have G3 : Gr mKs M M3 := G2.st (k := 65) (i := m) (by decide) (Int.le_of_eq hm0.symm) o3
  have l3 : (m : Int) < M3 97 0 65 := by rw [o3 97 0 (nk (by decide))]; exact l2
  have w3 := wl.ke G3.ke
  have y3 : zSy M3 := y.gr G3 (by decide)
  rw [show M3 65 m 6 = clD S g from d3.1]
  have hz : zI (clD S g) := by
    have q1 : 0 ≤ clD S g := hb.1
    have q2 : clD S g ≤ ((qB S g).length : Int) := hl.1
    have q3 : (qB S g).length ≤ 80 := gdd.1.1
    omega
  refine ⟨hz, fun hd => ?_, fun hd => ⟨⟨G3.hx hh, y3⟩, fun _ => ⟨rfl, w3⟩, fun q => absurd hd q⟩⟩
  rw [show M3 64 h 2 = qlaw S from w3.sc (by decide)]
  refine (c_takings ok w3 y3 hg ok.2.2.2).mono ?_
  rintro x M4 ⟨hx, G4, y4⟩ a ha M5 e5 b hb' M6 e6
  have hx' : x = clT S g := hx
  rw [hx']
  have g5 : Gr [78] M4 M5 := by rw [e5]; exact Gr.mk (by decide) (by decide) ha
  have g6 : Gr [78] M5 M6 := by rw [e6]; exact Gr.mk (by decide) (by decide) hb'
  have c5 : M5 97 0 78 = (a : Int) + 1 := by rw [e5]; exact zmk_c
  have c6 : M6 97 0 78 = (b : Int) + 1 := by rw [e6]; exact zmk_c
  have gg : Gr clK M3 M6 := (G4.mono (by decide)).tr ((g5.tr g6).mono (by decide))
  have G6 : Gr clK M M6 := (G3.mono (by decide)).tr gg
  have h78 := (G3.mono (K' := clK) (by decide)).2.2.1 78
  have h78' := G4.2.2.1 78
  refine closes_59 (m := m) (a := a) (b := b) ws hk wl hd hg ⟨by omega, by omega⟩ (qn S).toNat 0 _ _ M6 (by have := wl.n20; omega) (by omega) (by omega) ⟨G6, (y4.gr g5 (by decide)).gr g6 (by decide), ⟨I3.lr l3 gg.lr, by rw [gg.2.1 65 m (by decide) l3]; exact d3.1, Int.lt_of_lt_of_le l3 (gg.2.2.1 65)⟩, by omega, by omega, fun t ht => absurd ht (by omega)⟩
end
