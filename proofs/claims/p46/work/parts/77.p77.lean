/-! ===== tell: what is told is well told ===== -/
theorem fld_h {M M' : zM} {h : Nat} {j x : Int} (hj : 1 ≤ j ∧ j < 7) (w : hW M h) (e : M' = zu M 1 h (6 + j) x) : Fx (kH h) M M' ∧ hW M' h ∧ hS M' h = sSc (hS M h) j x := by
  have o : ∀ k i, k ≠ 1 → M' k i = M k i := fun k i hk => by rw [e, zu_k hk]
  have a1 : ∀ i, i ≠ 6 + j → M' 1 h i = M 1 h i := fun i hi => by rw [e, zu_at, if_neg hi]
  have a2 : M' 1 h (6 + j) = x := by rw [e, zu_at, if_pos rfl]
  refine ⟨by rw [e]; exact Fx.zu Fx.rf ⟨by omega, rfl⟩, hW_rest (a1 6 (by omega)) (o _ _ (by decide)) (o _ _ (by decide)) w, ?_⟩
  refine Prod.ext ?_ (hS_rest (a1 6 (by omega)) (o _ _ (by decide)) (o _ _ (by decide)) (o _ _ (by decide)) (o _ _ (by decide)) (o _ _ (by decide)) (o _ _ (by decide)))
  funext k
  show (if 0 ≤ k ∧ k < 7 then M' 1 h (6 + k) else 0) = if k = j then x else if 0 ≤ k ∧ k < 7 then M 1 h (6 + k) else 0
  by_cases c : k = j
  · subst c
    rw [if_pos rfl, if_pos (by omega), a2]
  · rw [if_neg c]
    split
    · exact a1 _ (by omega)
    · rfl
theorem nmF_0 {b : Int → Int} {n p m : Int} (h : nmF b n p m = 0) (hp : 0 ≤ p ∧ p ≤ n) : nmQ b n p ≠ nmI b n p ∧ nmV b n p ≤ m := by
  have B := nm_b (b := b) hp.2
  unfold nmF at h
  by_cases c : nmQ b n p = nmI b n p
  · rw [if_pos c] at h
    omega
  · rw [if_neg c] at h
    by_cases d : m < nmV b n p
    · rw [if_pos d] at h
      omega
    · exact ⟨c, by omega⟩
/-- a good hall, flags, a place -/
def gdT (kk n p : Int) (S : zS) (hf hl : Int) : Prop := (wfS kk S ∧ zo S) ∧ (hf = 0 ∨ hf = 1) ∧ (hl = 0 ∨ hl = 1) ∧ (0 ≤ p ∧ p ≤ n)
section
variable {b : Int → Int} {n kk : Int}
theorem wf_tU {t : Int} : ∀ (f : Nat) (u : Int) (S : zS) (p : Int), u + f = 5 → (0 ≤ p ∧ p ≤ n) → sk isB b n p = p → (wfS kk S ∧ zo S) → (0 ≤ t ∧ t < qn S) → qun S t = u → (tU b n t f u S p).1 = 0 →
    (wfS kk (tU b n t f u S p).2.1 ∧ zo (tU b n t f u S p).2.1) ∧ p ≤ (tU b n t f u S p).2.2 ∧ (tU b n t f u S p).2.2 ≤ n := by
  intro f
  induction f with
  | zero =>
    intro u S p hu hp hb w ht hun h
    exact ⟨w, Int.le_refl _, hp.2⟩
  | succ f ih =>
    intro u S p hu hp hb w ht hun h
    have hun2 := (w.1.2.2.2.2.2.1 t ht).2.2.1
    by_cases dg : isD (bt b n p) = false
    · have e : tU b n t (f + 1) u S p = (0, S, p) := by rw [tU, if_pos dg]
      rw [e]
      exact ⟨w, Int.le_refl _, hp.2⟩
    · have N := nm_d ((Bool.not_eq_false _).mp dg) hp hb
      have V := nmV_nn (b := b) (n := n) (p := p)
      by_cases c1 : 9999 < nmV b n p
      · rw [tU, if_neg dg, if_pos c1] at h
        have h' : 8 * p + 2 = 0 := h
        omega
      · by_cases c2 : fitP S t u (nmV b n p)
        · by_cases c3 : 4 ≤ u
          · rw [tU, if_neg dg, if_neg c1, if_neg (fun q => q c2), if_pos c3] at h
            have h' : 8 * p + 3 = 0 := h
            omega
          · have e : tU b n t (f + 1) u S p = tU b n t f (u + 1) (sAdd S t (nmV b n p)) (sk isB b n (nmQ b n p)) := by rw [tU, if_neg dg, if_neg c1, if_neg (fun q => q c2), if_neg c3]
            rw [e] at h ⊢
            have B := sk_b (p := isB) (b := b) (n := n) _ (nmQ b n p) rfl N.2.2.2
            have r := ih (u + 1) (sAdd S t (nmV b n p)) (sk isB b n (nmQ b n p)) (by omega) (by omega) (sk_sk N.2.2.2) ⟨wf_add w.1 ht (by omega) (by omega) (by rw [hun]; exact c2), zo_add w.2 ht (by omega)⟩ ht (by
              show (if t = t then qun S t + 1 else qun S t) = u + 1
              rw [if_pos rfl, hun]) h
            exact ⟨r.1, by omega, r.2.2⟩
        · rw [tU, if_neg dg, if_neg c1, if_pos c2] at h
          have h' : 8 * p + 2 = 0 := h
          omega
theorem wf_tTr {S : zS} {hf hl i p s : Int} (g : gdT kk n p S hf hl) (hi : 0 ≤ i) (hs : s = 0 ∨ s = 1) (h : (tTr b n S hf hl i p s).1 = 0) :
    gdT kk n (tTr b n S hf hl i p s).2.2.2.2 (tTr b n S hf hl i p s).2.1 (tTr b n S hf hl i p s).2.2.1 (tTr b n S hf hl i p s).2.2.2.1 ∧ p ≤ (tTr b n S hf hl i p s).2.2.2.2 := by
  obtain ⟨⟨w, z⟩, g2, g3, hp⟩ := g
  have hn := w.1
  unfold tTr at h ⊢
  by_cases c1 : 20 ≤ qn S
  · rw [if_pos c1] at h
    have h' : 8 * i + 3 = 0 := h
    omega
  · rw [if_neg c1] at h ⊢
    by_cases c2 : nmF b n p 3 = 0
    · rw [if_neg (fun q => q c2)] at h ⊢
      have m := nmF_0 c2 hp
      have V := nmV_nn (b := b) (n := n) (p := p)
      have B := nm_b (b := b) hp.2
      have B2 := sk_b (p := isB) (b := b) (n := n) _ (nmQ b n p) rfl B.2.2
      have e : qn (sCome S s (nmV b n p)) = qn S + 1 := rfl
      have r := wf_tU (b := b) (n := n) (kk := kk) (t := qn S) 5 0 (sCome S s (nmV b n p)) (sk isB b n (nmQ b n p)) (by omega) (by omega) (sk_sk B.2.2) ⟨wf_come w z (by omega) hs (by omega), zo_come z hn.1⟩ (by omega) (z.2.1 (qn S) (by omega)).2.2.1 h
      refine ⟨⟨r.1, g2, g3, ?_, r.2.2⟩, ?_⟩
      · have := r.2.1
        show 0 ≤ (tU b n (qn S) 5 0 (sCome S s (nmV b n p)) (sk isB b n (nmQ b n p))).2.2
        omega
      · have := r.2.1
        show p ≤ (tU b n (qn S) 5 0 (sCome S s (nmV b n p)) (sk isB b n (nmQ b n p))).2.2
        omega
    · rw [if_pos c2] at h
      exact absurd h c2
theorem wf_tPf {S : zS} {hf hl i p : Int} (g : gdT kk n p S hf hl) (hi : 0 ≤ i) (h : (tPf b n S hf hl i p).1 = 0) :
    gdT kk n (tPf b n S hf hl i p).2.2.2.2 (tPf b n S hf hl i p).2.1 (tPf b n S hf hl i p).2.2.1 (tPf b n S hf hl i p).2.2.2.1 ∧ p ≤ (tPf b n S hf hl i p).2.2.2.2 := by
  obtain ⟨⟨w, z⟩, g2, g3, hp⟩ := g
  unfold tPf at h ⊢
  by_cases c1 : hf = 0
  · rw [if_neg (fun q => q c1)] at h ⊢
    have h' : nmF b n p 500 = 0 := h
    rw [if_pos h']
    have m := nmF_0 h' hp
    have V := nmV_nn (b := b) (n := n) (p := p)
    have B := nm_b (b := b) hp.2
    refine ⟨⟨⟨wf_fee w (by omega), zo_sc z (by omega)⟩, .inr rfl, g3, ?_, B.2.2⟩, ?_⟩
    · show 0 ≤ nmQ b n p
      omega
    · show p ≤ nmQ b n p
      omega
  · rw [if_pos c1] at h
    have h' : 8 * i + 3 = 0 := h
    omega
theorem isX_b {s : Nat} {i : Int} (hs : s < 8) (hi : 0 ≤ i ∧ i ≤ n) (h : isX s b n i = true) : i + zl_ s ≤ n := by
  have a := (isX_iff hs hi).mpr h
  have r := sk_b (p := isL) (b := b) (n := n) _ i rfl hi.2
  omega
theorem wf_tLw {S : zS} {hf hl i p : Int} (g : gdT kk n p S hf hl) (hi : 0 ≤ i) (h : (tLw b n S hf hl i p).1 = 0) :
    gdT kk n (tLw b n S hf hl i p).2.2.2.2 (tLw b n S hf hl i p).2.1 (tLw b n S hf hl i p).2.2.1 (tLw b n S hf hl i p).2.2.2.1 ∧ p ≤ (tLw b n S hf hl i p).2.2.2.2 := by
  obtain ⟨⟨w, z⟩, g2, g3, hp⟩ := g
  have B := sk_b (p := isB) (b := b) (n := n) _ p rfl hp.2
  have go : ∀ (s : Nat) (v : Int), s < 8 → 0 ≤ v ∧ v ≤ 3 → isX s b n (sk isB b n p) = true → gdT kk n (sk isB b n p + zl_ s) (sSc S 2 v) hf 1 ∧ p ≤ sk isB b n p + zl_ s := by
    intro s v hs hv hx
    have := isX_b hs (by omega) hx
    exact ⟨⟨⟨wf_law w hv, zo_sc z (by omega)⟩, g2, .inr rfl, by omega⟩, by omega⟩
  unfold tLw at h ⊢
  by_cases c1 : hl = 0
  · rw [if_neg (fun q => q c1)] at h ⊢
    by_cases x4 : isX 4 b n (sk isB b n p) = true
    · rw [if_pos x4]
      exact go 4 0 (by decide) (by decide) x4
    · rw [if_neg x4] at h ⊢
      by_cases x5 : isX 5 b n (sk isB b n p) = true
      · rw [if_pos x5]
        exact go 5 1 (by decide) (by decide) x5
      · rw [if_neg x5] at h ⊢
        by_cases x6 : isX 6 b n (sk isB b n p) = true
        · rw [if_pos x6]
          exact go 6 2 (by decide) (by decide) x6
        · rw [if_neg x6] at h ⊢
          by_cases x7 : isX 7 b n (sk isB b n p) = true
          · rw [if_pos x7]
            exact go 7 3 (by decide) (by decide) x7
          · rw [if_neg x7] at h
            have h' : 8 * sk isB b n p + 1 = 0 := h
            omega
  · rw [if_pos c1] at h
    have h' : 8 * i + 3 = 0 := h
    omega
theorem wf_tPt {S : zS} {hf hl p : Int} (g : gdT kk n p S hf hl) (h : (tPt b n S hf hl p).1 = 0) :
    gdT kk n (tPt b n S hf hl p).2.2.2.2 (tPt b n S hf hl p).2.1 (tPt b n S hf hl p).2.2.1 (tPt b n S hf hl p).2.2.2.1 ∧ p + 1 ≤ (tPt b n S hf hl p).2.2.2.2 := by
  have hp := g.2.2.2
  have B := sk_b (p := isB) (b := b) (n := n) _ p rfl hp.2
  have gg : ∀ s : Nat, s < 8 → isX s b n (sk isB b n p) = true → gdT kk n (sk isB b n p + zl_ s) S hf hl := fun s hs hx => ⟨g.1, g.2.1, g.2.2.1, by omega, isX_b hs (by omega) hx⟩
  have l0 : zl_ 0 = 5 := rfl
  have l1 : zl_ 1 = 6 := rfl
  have l2 : zl_ 2 = 3 := rfl
  have l3 : zl_ 3 = 3 := rfl
  unfold tPt at h ⊢
  by_cases x0 : isX 0 b n (sk isB b n p) = true
  · rw [if_pos x0] at h ⊢
    have r := wf_tTr (gg 0 (by decide) x0) (by omega) (.inl rfl) h
    exact ⟨r.1, by have := r.2; omega⟩
  · rw [if_neg x0] at h ⊢
    by_cases x1 : isX 1 b n (sk isB b n p) = true
    · rw [if_pos x1] at h ⊢
      have r := wf_tTr (gg 1 (by decide) x1) (by omega) (.inr rfl) h
      exact ⟨r.1, by have := r.2; omega⟩
    · rw [if_neg x1] at h ⊢
      by_cases x2 : isX 2 b n (sk isB b n p) = true
      · rw [if_pos x2] at h ⊢
        have r := wf_tPf (gg 2 (by decide) x2) (by omega) h
        exact ⟨r.1, by have := r.2; omega⟩
      · rw [if_neg x2] at h ⊢
        by_cases x3 : isX 3 b n (sk isB b n p) = true
        · rw [if_pos x3] at h ⊢
          have r := wf_tLw (gg 3 (by decide) x3) (by omega) h
          exact ⟨r.1, by have := r.2; omega⟩
        · rw [if_neg x3] at h
          have h' : 8 * sk isB b n p + 1 = 0 := h
          omega
/-- the run of parts: fault, hall -/
def tRn (b : Int → Int) (n : Int) : Nat → zS → Int → Int → Int → Int × zS
  | 0, S, _, _, _ => (0, S)
  | f + 1, S, hf, hl, p =>
    if (tPt b n S hf hl p).1 ≠ 0 then ((tPt b n S hf hl p).1, S)
    else if n ≤ sk isB b n (tPt b n S hf hl p).2.2.2.2 then (0, (tPt b n S hf hl p).2.1)
    else if b (sk isB b n (tPt b n S hf hl p).2.2.2.2) ≠ 59 then (8 * sk isB b n (tPt b n S hf hl p).2.2.2.2 + 1, S)
    else tRn b n f (tPt b n S hf hl p).2.1 (tPt b n S hf hl p).2.2.1 (tPt b n S hf hl p).2.2.2.1 (sk isB b n (tPt b n S hf hl p).2.2.2.2 + 1)
def zE : zS := (fun _ => 0, fun _ => 0, fun _ => 0, fun _ => 0, fun _ _ => 0, fun _ => 0, fun _ => 0)
def tRd (b : Int → Int) (n : Int) : Int × zS := if n ≤ sk isB b n 0 then (0, zE) else tRn b n 401 zE 0 0 (sk isB b n 0)
theorem zE_zo : zo zE := ⟨fun _ _ => rfl, fun _ _ => ⟨rfl, rfl, rfl, rfl, rfl⟩, fun _ _ _ => rfl⟩
theorem zE_wf {k : Int} (hk : 0 ≤ k) : wfS k zE := by
  have n : qn zE = 0 := rfl
  have c : qsc zE 5 = 0 := rfl
  refine ⟨by rw [n]; omega, by decide, by decide, by rw [c]; omega, by decide, fun t h => ?_, fun t u h => ?_, fun t u h => ?_⟩
  · rw [n] at h
    omega
  · rw [n] at h
    omega
  · rw [n] at h
    omega
theorem wf_tRn : ∀ (f : Nat) (S : zS) (hf hl p : Int), gdT kk n p S hf hl → (tRn b n f S hf hl p).1 = 0 → wfS kk (tRn b n f S hf hl p).2 ∧ zo (tRn b n f S hf hl p).2 := by
  intro f
  induction f with
  | zero =>
    intro S hf hl p g _
    exact g.1
  | succ f ih =>
    intro S hf hl p g h
    rw [tRn] at h ⊢
    by_cases c1 : (tPt b n S hf hl p).1 = 0
    · have r := (wf_tPt g c1).1
      rw [if_neg (fun q => q c1)] at h ⊢
      have B := sk_b (p := isB) (b := b) (n := n) _ (tPt b n S hf hl p).2.2.2.2 rfl r.2.2.2.2
      have B0 := r.2.2.2.1
      by_cases c2 : n ≤ sk isB b n (tPt b n S hf hl p).2.2.2.2
      · rw [if_pos c2]
        exact r.1
      · rw [if_neg c2] at h ⊢
        by_cases c3 : b (sk isB b n (tPt b n S hf hl p).2.2.2.2) = 59
        · rw [if_neg (fun q => q c3)] at h ⊢
          exact ih _ _ _ _ ⟨r.1, r.2.1, r.2.2.1, by omega⟩ h
        · rw [if_pos c3] at h
          have h' : 8 * sk isB b n (tPt b n S hf hl p).2.2.2.2 + 1 = 0 := h
          omega
    · rw [if_pos c1] at h
      exact absurd h c1
theorem wf_tRd (hn : 0 ≤ n) (hk : 0 ≤ kk) (h : (tRd b n).1 = 0) : wfS kk (tRd b n).2 ∧ zo (tRd b n).2 := by
  have B := sk_b (p := isB) (b := b) (n := n) _ 0 rfl hn
  unfold tRd at h ⊢
  split
  · exact ⟨zE_wf hk, zE_zo⟩
  · next c =>
    rw [if_neg c] at h
    exact wf_tRn _ _ _ _ _ ⟨⟨zE_wf hk, zE_zo⟩, .inl rfl, .inl rfl, by omega⟩ h
end

