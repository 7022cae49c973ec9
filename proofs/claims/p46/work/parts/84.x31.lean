/-! ===== what is told is read: the run of parts ===== -/
def uT (S : zS) (t : Int) (u : Nat) : Nat → List Int
  | 0 => []
  | m + 1 => tnum (qsy S t u) ++ uT S t (u + 1) m
theorem tUn_u {S : zS} {t : Int} : ∀ (m u : Nat), tUn S t (u + m) = tUn S t u ++ uT S t u m
  | 0, u => by rw [uT, List.append_nil]; rfl
  | m + 1, u => by
    have := tUn_u (S := S) (t := t) m (u + 1)
    rw [show u + (m + 1) = u + 1 + m by omega, this, tUn, uT, List.append_assoc]
def paT (S : zS) (k : Nat) : List Int := zw (if qsl S k = 1 then 1 else 0) ++ (tnum (qgr S k) ++ uT S k 0 (qun S k).toNat)
def rsT (S : zS) (F : List Int) (k : Nat) : Nat → List Int
  | 0 => F
  | m + 1 => 59 :: (paT S k ++ rsT S F (k + 1) m)
theorem tTs_p {S : zS} {k : Nat} : tTs S (k + 1) = tTs S k ++ sep (tTs S k) ++ paT S k := by
  have := tUn_u (S := S) (t := (k : Int)) (qun S k).toNat 0
  rw [Nat.zero_add] at this
  rw [tTs, paT, this]
  show _ = _
  rw [tUn]
  simp only [List.append_assoc, List.nil_append]
theorem tTs_r {S : zS} {F : List Int} : ∀ (m k : Nat), tTs S (k + 1 + m) ++ F = tTs S (k + 1) ++ rsT S F (k + 1) m
  | 0, k => by rw [rsT, Nat.add_zero]
  | m + 1, k => by
    have := tTs_r (S := S) (F := F) m (k + 1)
    rw [show k + 1 + (m + 1) = k + 1 + 1 + m by omega, this, rsT, tTs_p (k := k + 1), sep_1 tTs_pos]
    simp only [List.append_assoc, List.singleton_append, List.cons_append, List.nil_append]
def feT (S : zS) : List Int := if qfee S = 0 then [] else 59 :: (zw 2 ++ tnum (qfee S))
def laT (S : zS) : List Int := if qlaw S = 0 then [] else 59 :: (zw 3 ++ (32 :: zw (zlw (qlaw S))))
theorem tAll_r {S : zS} {m : Nat} (h : (qn S).toNat = m + 1) : tAll S = paT S 0 ++ rsT S (feT S ++ laT S) 1 m := by
  have p1 : 0 < (tTs S (m + 1)).length := tTs_pos
  have e1 : tFe S = tTs S (m + 1) ++ feT S := by
    unfold tFe feT
    rw [h]
    split
    · rw [List.append_nil]
    · rw [sep_1 p1]
      simp only [List.append_assoc, List.singleton_append, List.cons_append, List.nil_append]
  have p2 : 0 < (tFe S).length := by rw [e1, List.length_append]; omega
  have e2 : tAll S = tFe S ++ laT S := by
    unfold tAll laT
    split
    · rw [List.append_nil]
    · rw [sep_1 p2]
      simp only [List.append_assoc, List.singleton_append, List.cons_append, List.nil_append]
  have e3 := tTs_r (S := S) (F := feT S ++ laT S) m 0
  rw [e2, e1, List.append_assoc, show m + 1 = 0 + 1 + m by omega, e3, tTs_p]
  rfl
/-- behind a part: nothing, or a semicolon -/
def sE (R : List Int) : Prop := R = [] ∨ ∃ R', R = 59 :: R'
theorem sE.d {R : List Int} (h : sE R) : isD (R.headD (-1)) = false ∧ R.headD (-1) ≠ 32 ∧ isL (R.headD (-1)) = false := by
  rcases h with rfl | ⟨R', rfl⟩
  · exact ⟨rfl, by decide, rfl⟩
  · exact ⟨rfl, show (59 : Int) ≠ 32 by decide, rfl⟩
theorem rsT_E {S : zS} {F : List Int} (hF : sE F) : ∀ (k m : Nat), sE (rsT S F k m)
  | _, 0 => hF
  | _, _ + 1 => .inr ⟨_, rfl⟩
theorem laT_E (S : zS) : sE (laT S) := by
  unfold laT
  split
  · exact .inl rfl
  · exact .inr ⟨_, rfl⟩
theorem fl_E (S : zS) : sE (feT S ++ laT S) := by
  unfold feT
  split
  · exact laT_E S
  · exact .inr ⟨_, rfl⟩
section
variable {b : Int → Int} {n : Int} {S : zS} {kk : Int}
/-- small and fresh -/
def frS (S : zS) (kk : Int) : Prop := (wfS kk S ∧ zo S) ∧ tV S ∧ (∀ j, 3 ≤ j ∧ j < 7 → qsc S j = 0) ∧ ∀ t, 0 ≤ t ∧ t < qn S → qpu S t = 0 ∧ qtr S t = 0
theorem fit_cu {k : Nat} {u : Int} (w : wfS kk S) (hk : (k : Int) < qn S) (hu : 0 ≤ u ∧ u < qun S k) : fitP (cuU S k u) k u (qsy S k u) := by
  have e1 : qun (cuU S k u) k = u := if_pos rfl
  have e2 : qsl (cuU S k u) k = qsl S k := if_pos (by omega)
  refine ⟨fun q => ?_, fun q => ?_⟩
  · have h0 : 0 ≤ u - 1 := q.2.2.1
    have e3 : qsy (cuU S k u) k (u - 1) = qsy S k (u - 1) := (if_pos rfl).trans (if_pos (by omega))
    have o := w.2.2.2.2.2.2.2 k (u - 1) (by omega) (by omega)
    rw [show u - 1 + 1 = u by omega] at o
    have s := (w.2.2.2.2.2.1 k (by omega)).1
    rw [e2, e3]
    exact ⟨fun c => o.2 c, fun c => o.1 (by omega)⟩
  · have := q.2.2.2
    rw [e1] at this
    omega
theorem tU_r {k : Nat} {R : List Int} (F : frS S kk) (hk : (k : Int) < qn S) (hR : sE R) : ∀ (m u f : Nat) (q : Int), (u : Int) + m = qun S k → m < f → sf b n q (uT S k u m ++ R) → ∃ p, tU b n k f u (cuU S k u) (sk isB b n q) = (0, cuU S k (qun S k), p) ∧ sf b n p R := by
  have w := F.1.1
  have hun := (w.2.2.2.2.2.1 k (by omega)).2.2.1
  intro m
  induction m with
  | zero =>
    intro u f q hu hf h
    obtain ⟨f, rfl⟩ : ∃ g, f = g + 1 := ⟨f - 1, by omega⟩
    have h' : sf b n q R := h
    rw [h'.nb hR.d.2.1]
    refine ⟨q, ?_, h'⟩
    rw [tU, if_pos (by rw [h'.bq]; exact hR.d.1), show (u : Int) = qun S k by omega]
  | succ m ih =>
    intro u f q hu hf h
    obtain ⟨f, rfl⟩ : ∃ g, f = g + 1 := ⟨f - 1, by omega⟩
    have hv := F.2.1.2.2.2.1 k u (by omega) (by omega)
    have h1 : sf b n q (32 :: (dgF (qsy S k u) (top (qsy S k u)) ++ (uT S k (u + 1) m ++ R))) := by
      rw [uT, tnum, List.append_assoc] at h
      exact h
    have nd : isD ((uT S k (u + 1) m ++ R).headD (-1)) = false := by
      cases m with
      | zero => exact hR.d.1
      | succ m => rfl
    obtain ⟨d0, e0, eI, eQ, eV, sR⟩ := h1.hd.2.2.num hv nd
    rw [h1.b1, e0]
    obtain ⟨p, ep, sp⟩ := ih (u + 1) f (nmQ b n (q + 1)) (by omega) (by omega) sR
    refine ⟨p, ?_, sp⟩
    rw [tU, if_neg (by rw [d0]; decide), if_neg (by rw [eV]; omega), if_neg (by rw [eV]; exact fun z => z (fit_cu w hk (by omega))), if_neg (by omega), eV, cu_add (by omega)]
    exact ep
theorem nmF_r {p v m : Int} (h : nmQ b n p ≠ nmI b n p ∧ nmV b n p = v) (hm : v ≤ m) : nmF b n p m = 0 := by
  unfold nmF
  rw [if_neg h.1, if_neg (by rw [h.2]; omega)]
theorem tTr_r {k : Nat} {R : List Int} {hf hl i p : Int} (F : frS S kk) (hk : (k : Int) < qn S) (hR : sE R) (h : sf b n p (tnum (qgr S k) ++ (uT S k 0 (qun S k).toNat ++ R))) : ∃ q, tTr b n (cuS S k) hf hl i p (qsl S k) = (0, cuS S (k + 1), hf, hl, q) ∧ sf b n q R := by
  have hn := F.1.1.1
  have hg := F.2.1.2.2.1 k (by omega)
  have hun := (F.1.1.2.2.2.2.2.1 k (by omega)).2.2.1
  have e0 : qn (cuS S k) = k := show (if (0 : Int) = 0 then (k : Int) else 0) = k from if_pos rfl
  have nd : isD ((uT S k 0 (qun S k).toNat ++ R).headD (-1)) = false := by
    generalize (qun S k).toNat = m
    cases m with
    | zero => exact hR.d.1
    | succ m => rfl
  obtain ⟨eQ, eV, sR⟩ := h.tn (by omega) nd
  have f0 := nmF_r (m := 3) ⟨eQ, eV⟩ (by omega)
  obtain ⟨q, eq_, sq⟩ := tU_r (b := b) (n := n) F hk hR (qun S k).toNat 0 5 (nmQ b n p) (by omega) (by omega) sR
  refine ⟨q, ?_, sq⟩
  unfold tTr
  rw [e0, if_neg (by omega), if_neg (by rw [f0]; omega), eV, cu_come (by omega)]
  have e1 : tU b n k 5 0 (cuU S k 0) (sk isB b n (nmQ b n p)) = (0, cuU S k (qun S k), q) := eq_
  rw [e1, cu_all F.1.2 (by omega)]
theorem zw_h : (zw 0).headD (-1) = 98 ∧ (zw 1).headD (-1) = 115 ∧ (zw 2).headD (-1) = 102 ∧ (zw 3).headD (-1) = 108 ∧ (zw 4).headD (-1) = 99 ∧ (zw 5).headD (-1) = 109 ∧ (zw 6).headD (-1) = 108 ∧ (zw 7).headD (-1) = 97 := by decide +kernel
theorem hd_app {s : Nat} {R : List Int} (hs : s < 8) : (zw s ++ R).headD (-1) = (zw s).headD (-1) := by
  have z := zw_z ⟨s, hs⟩
  have z1 : zl_ s = (zw s).length := z.1
  have z2 : 0 < zl_ s := z.2.1
  cases e : zw s with
  | nil => rw [e] at z1; simp at z1; omega
  | cons c L => rfl
theorem tPt_r {k : Nat} {R : List Int} {hf hl p : Int} (F : frS S kk) (hk : (k : Int) < qn S) (hR : sE R) (h : sf b n p (paT S k ++ R)) : ∃ q, tPt b n (cuS S k) hf hl p = (0, cuS S (k + 1), hf, hl, q) ∧ sf b n q R := by
  have h01 := (F.1.1.2.2.2.2.2.1 k (by omega)).1
  obtain ⟨w0, w1, w2, w3, -⟩ := zw_h
  have bl : ∀ X : List Int, isL ((tnum (qgr S k) ++ X).headD (-1)) = false := fun X => rfl
  unfold paT at h
  rw [List.append_assoc, List.append_assoc] at h
  rcases h01 with s | s
  · rw [if_neg (by omega)] at h
    have e0 : sk isB b n p = p := h.nb (by rw [hd_app (by decide), w0]; decide)
    obtain ⟨x, sx⟩ := h.wd (by decide) (bl _)
    obtain ⟨q, e, sq⟩ := tTr_r (hf := hf) (hl := hl) (i := p) F hk hR sx
    refine ⟨q, ?_, sq⟩
    unfold tPt
    rw [e0, if_pos x, ← e, s]
  · rw [if_pos s] at h
    have e0 : sk isB b n p = p := h.nb (by rw [hd_app (by decide), w1]; decide)
    have nx := h.nw (s := 0) (by decide) (by rw [hd_app (by decide), w1, w0]; decide)
    obtain ⟨x, sx⟩ := h.wd (by decide) (bl _)
    obtain ⟨q, e, sq⟩ := tTr_r (hf := hf) (hl := hl) (i := p) F hk hR sx
    refine ⟨q, ?_, sq⟩
    unfold tPt
    rw [e0, if_neg nx, if_pos x, ← e, s]
theorem tPf_r {R : List Int} {T : zS} {p : Int} (F : frS S kk) (hR : sE R) (h : sf b n p (zw 2 ++ (tnum (qfee S) ++ R))) : ∃ q, tPt b n T 0 0 p = (0, sSc T 1 (qfee S), 1, 0, q) ∧ sf b n q R := by
  have hv := F.2.1.1
  have hl := F.1.1.2.1
  obtain ⟨w0, w1, w2, w3, -⟩ := zw_h
  have e0 : sk isB b n p = p := h.nb (by rw [hd_app (by decide), w2]; decide)
  have n0 := h.nw (s := 0) (by decide) (by rw [hd_app (by decide), w2, w0]; decide)
  have n1 := h.nw (s := 1) (by decide) (by rw [hd_app (by decide), w2, w1]; decide)
  obtain ⟨x, sx⟩ := h.wd (by decide) rfl
  obtain ⟨eQ, eV, sR⟩ := sx.tn (by omega) hR.d.1
  have f0 := nmF_r (m := 500) ⟨eQ, eV⟩ (by omega)
  refine ⟨_, ?_, sR⟩
  unfold tPt
  rw [e0, if_neg n0, if_neg n1, if_pos x]
  unfold tPf
  rw [if_neg (by decide), f0, if_pos rfl, eV]
theorem tLw_r {T : zS} {p hf : Int} (F : frS S kk) (c : qlaw S ≠ 0) (h : sf b n p (zw 3 ++ (32 :: zw (zlw (qlaw S))))) : ∃ q, tPt b n T hf 0 p = (0, sSc T 2 (qlaw S), hf, 1, q) ∧ sf b n q [] := by
  have hv := F.2.1.2.1
  obtain ⟨w0, w1, w2, w3, w4, w5, w6, w7⟩ := zw_h
  have e0 : sk isB b n p = p := h.nb (by rw [hd_app (by decide), w3]; decide)
  have n0 := h.nw (s := 0) (by decide) (by rw [hd_app (by decide), w3, w0]; decide)
  have n1 := h.nw (s := 1) (by decide) (by rw [hd_app (by decide), w3, w1]; decide)
  have n2 := h.nw (s := 2) (by decide) (by rw [hd_app (by decide), w3, w2]; decide)
  obtain ⟨x, sx⟩ := h.wd (by decide) rfl
  have s1 := sx.hd.2.2
  have eb := sx.b1
  have fin : ∀ s : Nat, s < 8 → zlw (qlaw S) = s → (zw s).headD (-1) ≠ 32 → sk isB b n (p + zl_ 3) = p + zl_ 3 + 1 ∧ isX s b n (p + zl_ 3 + 1) = true ∧ sf b n (p + zl_ 3 + 1 + zl_ s) [] ∧ ∀ s', s' < 8 → (zw s).headD (-1) ≠ (zw s').headD (-1) → isX s' b n (p + zl_ 3 + 1) ≠ true := by
    intro s hs es hb
    rw [es] at s1
    have s2 : sf b n (p + zl_ 3 + 1) (zw s ++ []) := by rw [List.append_nil]; exact s1
    obtain ⟨y, sy⟩ := s2.wd hs rfl
    exact ⟨eb.trans (s1.nb hb), y, sy, fun s' hs' z => s1.nw hs' z⟩
  have w : qlaw S = 1 ∨ qlaw S = 2 ∨ qlaw S = 3 := by omega
  rcases w with w | w | w
  · obtain ⟨a1, a2, a3, a4⟩ := fin 5 (by decide) (by rw [w]; rfl) (by rw [w5]; decide)
    refine ⟨_, ?_, a3⟩
    unfold tPt
    rw [e0, if_neg n0, if_neg n1, if_neg n2, if_pos x]
    unfold tLw
    rw [if_neg (by decide), a1, if_neg (a4 4 (by decide) (by rw [w5, w4]; decide)), if_pos a2, w]
  · obtain ⟨a1, a2, a3, a4⟩ := fin 6 (by decide) (by rw [w]; rfl) (by rw [w6]; decide)
    refine ⟨_, ?_, a3⟩
    unfold tPt
    rw [e0, if_neg n0, if_neg n1, if_neg n2, if_pos x]
    unfold tLw
    rw [if_neg (by decide), a1, if_neg (a4 4 (by decide) (by rw [w6, w4]; decide)), if_neg (a4 5 (by decide) (by rw [w6, w5]; decide)), if_pos a2, w]
  · obtain ⟨a1, a2, a3, a4⟩ := fin 7 (by decide) (by rw [w]; rfl) (by rw [w7]; decide)
    refine ⟨_, ?_, a3⟩
    unfold tPt
    rw [e0, if_neg n0, if_neg n1, if_neg n2, if_pos x]
    unfold tLw
    rw [if_neg (by decide), a1, if_neg (a4 4 (by decide) (by rw [w7, w4]; decide)), if_neg (a4 5 (by decide) (by rw [w7, w5]; decide)), if_neg (a4 6 (by decide) (by rw [w7, w6]; decide)), if_pos a2, w]
/-- a step of the run -/
theorem tRn_s {f : Nat} {T T' : zS} {hf hl hf' hl' p q : Int} {R : List Int} (e : tPt b n T hf hl p = (0, T', hf', hl', q)) (h : sf b n q R) (hR : sE R) : tRn b n (f + 1) T hf hl p = if R = [] then (0, T') else tRn b n f T' hf' hl' (q + 1) := by
  have eq_ : sk isB b n q = q := h.nb hR.d.2.1
  rw [tRn, e]
  show (if (0 : Int) ≠ 0 then ((0 : Int), T) else if n ≤ sk isB b n q then (0, T') else if b (sk isB b n q) ≠ 59 then (8 * sk isB b n q + 1, T) else tRn b n f T' hf' hl' (sk isB b n q + 1)) = _
  rw [if_neg (by decide), eq_]
  rcases hR with rfl | ⟨R', rfl⟩
  · have := h.2.1
    simp only [List.length_nil] at this
    rw [if_pos (by omega), if_pos rfl]
  · have q' := h.hd
    rw [if_neg (by omega), if_neg (by rw [q'.2.1]; decide), if_neg (by simp)]
theorem tRn_l {f : Nat} {p q hf : Int} {T T' : zS} {hl : Int} (F : frS S kk) (e : tPt b n T hf hl p = (0, T', 1, 0, q) ∨ tPt b n T hf hl p = (0, T', 0, 0, q)) (h : sf b n q (laT S)) : tRn b n (f + 2) T hf hl p = if qlaw S = 0 then (0, T') else (0, sSc T' 2 (qlaw S)) := by
  have st : ∀ hf', tPt b n T hf hl p = (0, T', hf', 0, q) → tRn b n (f + 2) T hf hl p = if qlaw S = 0 then (0, T') else (0, sSc T' 2 (qlaw S)) := by
    intro hf' e
    rw [tRn_s e h (laT_E S)]
    unfold laT at h ⊢
    by_cases c : qlaw S = 0
    · rw [if_pos c, if_pos rfl]
      exact if_pos c |>.symm
    · rw [if_neg c] at h
      rw [if_neg c, if_neg c, if_neg (by simp)]
      obtain ⟨q2, e2, s2⟩ := tLw_r (T := T') (hf := hf') F c h.hd.2.2
      rw [tRn_s e2 s2 (.inl rfl), if_pos rfl]
  rcases e with e | e
  · exact st 1 e
  · exact st 0 e
theorem sSc_i {T : zS} {j : Int} : sSc T j (qsc T j) = T := by
  unfold sSc
  refine Prod.ext ?_ rfl
  funext k
  show (if k = j then qsc T j else qsc T k) = qsc T k
  by_cases c : k = j
  · rw [if_pos c, c]
  · rw [if_neg c]
theorem tRn_r (F : frS S kk) : ∀ (m k f : Nat) (p : Int), k + m + 1 = (qn S).toNat → m + 3 ≤ f → sf b n p (paT S k ++ rsT S (feT S ++ laT S) (k + 1) m) → tRn b n f (cuS S k) 0 0 p = (0, S) := by
  have cf := cu_fin F.1.2 F.2.2.1 F.2.2.2
  intro m
  induction m with
  | zero =>
    intro k f p hk hf h
    obtain ⟨f, rfl⟩ : ∃ g, f = g + 2 + 1 := ⟨f - 3, by omega⟩
    have h' : sf b n p (paT S k ++ (feT S ++ laT S)) := h
    have en : (k : Int) + 1 = qn S := by have := F.1.1.1; omega
    obtain ⟨q, e, sq⟩ := tPt_r (hf := 0) (hl := 0) F (by omega) (fl_E S) h'
    rw [en] at e
    have q1 : qsc (cuS S (qn S)) 1 = 0 := rfl
    have q2 : ∀ x, qsc (sSc (cuS S (qn S)) 1 x) 2 = 0 := fun _ => rfl
    by_cases c : qfee S = 0
    · have e2 : feT S = [] := if_pos c
      rw [e2, List.nil_append] at sq
      rw [tRn_l (f := f + 1) F (.inr e) sq]
      have i1 : sSc (cuS S (qn S)) 1 (qfee S) = cuS S (qn S) := by rw [c, ← q1]; exact sSc_i
      rw [i1] at cf
      by_cases d : qlaw S = 0
      · rw [if_pos d]
        have i2 : sSc (cuS S (qn S)) 2 (qlaw S) = cuS S (qn S) := by
          have : qsc (cuS S (qn S)) 2 = 0 := rfl
          rw [d, ← this]; exact sSc_i
        rw [i2] at cf
        rw [cf]
      · rw [if_neg d, cf]
    · have e2 : feT S = 59 :: (zw 2 ++ tnum (qfee S)) := if_neg c
      rw [tRn_s e sq (fl_E S)]
      rw [e2] at sq
      rw [e2, if_neg (by simp)]
      have h2 : sf b n (q + 1) (zw 2 ++ (tnum (qfee S) ++ laT S)) := by
        have := sf.hd (c := 59) (R := (zw 2 ++ tnum (qfee S)) ++ laT S) sq
        rw [List.append_assoc] at this
        exact this.2.2
      obtain ⟨q3, e3, s3⟩ := tPf_r (T := cuS S (qn S)) F (laT_E S) h2
      rw [tRn_l (f := f) F (.inl e3) s3]
      by_cases d : qlaw S = 0
      · rw [if_pos d]
        have i2 : sSc (sSc (cuS S (qn S)) 1 (qfee S)) 2 (qlaw S) = sSc (cuS S (qn S)) 1 (qfee S) := by
          rw [d, ← q2 (qfee S)]; exact sSc_i
        rw [i2] at cf
        rw [cf]
      · rw [if_neg d, cf]
  | succ m ih =>
    intro k f p hk hf h
    obtain ⟨f, rfl⟩ : ∃ g, f = g + 1 := ⟨f - 1, by omega⟩
    obtain ⟨q, e, sq⟩ := tPt_r (hf := 0) (hl := 0) F (by omega) (rsT_E (fl_E S) _ _) h
    rw [tRn_s e sq (rsT_E (fl_E S) _ _)]
    rw [rsT] at sq
    rw [rsT, if_neg (by simp)]
    have := ih (k + 1) f (q + 1) (by omega) (by omega) sq.hd.2.2
    rw [show ((k + 1 : Nat) : Int) = (k : Int) + 1 by omega] at this
    exact this
theorem tRd_r (F : frS S kk) (h1 : 0 < qn S) (h : sf b n 0 (tAll S)) : tRd b n = (0, S) := by
  have hn := F.1.1.1
  obtain ⟨m, hm⟩ : ∃ m, (qn S).toNat = m + 1 := ⟨(qn S).toNat - 1, by omega⟩
  rw [tAll_r hm] at h
  obtain ⟨w0, w1, -⟩ := zw_h
  have hd : ∃ c R, paT S 0 ++ rsT S (feT S ++ laT S) 1 m = c :: R ∧ c ≠ 32 := by
    have e : (paT S 0 ++ rsT S (feT S ++ laT S) 1 m).headD (-1) = 98 ∨ (paT S 0 ++ rsT S (feT S ++ laT S) 1 m).headD (-1) = 115 := by
      unfold paT
      rw [List.append_assoc]
      split
      · rw [hd_app (by decide)]; exact .inr w1
      · rw [hd_app (by decide)]; exact .inl w0
    cases q : paT S 0 ++ rsT S (feT S ++ laT S) 1 m with
    | nil => rw [q] at e; rcases e with e | e <;> cases e
    | cons c R =>
      rw [q] at e
      refine ⟨c, R, rfl, ?_⟩
      have e' : c = 98 ∨ c = 115 := e
      omega
  obtain ⟨c, R, e, hc⟩ := hd
  have e0 : sk isB b n 0 = 0 := h.nb (by rw [e]; exact hc)
  have hp : 0 < n := by
    rw [e] at h
    exact h.hd.1
  unfold tRd
  rw [e0, if_neg (by omega), ← cu_0 (S := S)]
  exact tRn_r F m 0 401 0 (by omega) (by omega) h
end
