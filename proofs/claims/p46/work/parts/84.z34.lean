/-! ===== the law's loop: what holds ===== -/
/-- small halls -/
def pot (S : zS) : Int := 9 * qn S + 3 * zsum (qun S) (qn S)
def gH (S : zS) (i : Int) : Prop := sX S ∧ (0 ≤ qfee S ∧ qfee S < 10) ∧ (∀ t u, 0 ≤ t ∧ t < qn S → 0 ≤ u ∧ u < qun S t → 0 ≤ qsy S t u ∧ qsy S t u < 100) ∧ pot S ≤ 126 + 9 * i
theorem gH.le {S : zS} {i j : Int} (h : gH S i) (hij : i ≤ j) : gH S j := ⟨h.1, h.2.1, h.2.2.1, by have := h.2.2.2; omega⟩
theorem tnum_2 {v : Int} (h : 0 ≤ v ∧ v < 10) : (tnum v).length = 2 := by rw [tnum, List.length_cons, dg_e (by omega), if_pos h.2]; rfl
theorem tnum_3 {v : Int} (h : 0 ≤ v ∧ v < 100) : (tnum v).length ≤ 3 := by
  rw [tnum, List.length_cons, dg_e h]
  split
  · exact Nat.le_succ 2
  · exact Nat.le_refl 3
theorem tUn_3 {S : zS} {t : Int} : ∀ m : Nat, (∀ u : Int, 0 ≤ u ∧ u < (m : Int) → 0 ≤ qsy S t u ∧ qsy S t u < 100) → (tUn S t m).length ≤ 3 * m
  | 0, _ => by rw [tUn]; simp
  | m + 1, h => by
    rw [tUn, List.length_append]
    have := tUn_3 (S := S) (t := t) m (fun u hu => h u (by omega))
    have := tnum_3 (h m (by omega))
    omega
theorem zw_6 {c : Prop} [Decidable c] : (zw (if c then 1 else 0)).length ≤ 6 := by
  split
  · show (zw 1).length ≤ 6; decide +kernel
  · show (zw 0).length ≤ 6; decide +kernel
theorem tTs_9 {S : zS} (hg : ∀ t, 0 ≤ t ∧ t < qn S → 0 ≤ qgr S t ∧ qgr S t < 4) (hu : ∀ t, 0 ≤ t ∧ t < qn S → 0 ≤ qun S t) (hv : ∀ t u, 0 ≤ t ∧ t < qn S → 0 ≤ u ∧ u < qun S t → 0 ≤ qsy S t u ∧ qsy S t u < 100) : ∀ n : Nat, (n : Int) ≤ qn S → ((tTs S n).length : Int) ≤ 9 * n + 3 * zsum (qun S) n
  | 0, _ => by
    rw [tTs, show ((0 : Nat) : Int) = 0 from rfl, zsum_0]
    exact Int.le_refl _
  | t + 1, h => by
    have ih := tTs_9 hg hu hv t (by omega)
    have a := tUn_3 (S := S) (t := (t : Int)) (qun S t).toNat (fun u hu' => hv t u (by omega) (by omega))
    have b := tnum_2 (v := qgr S t) (by have := hg t (by omega); omega)
    have c := sep_len (tTs S t)
    have d := zw_6 (c := qsl S t = 1)
    have e := hu t (by omega)
    rw [tTs, show ((t + 1 : Nat) : Int) = (t : Int) + 1 by omega, zsum_s (by omega)]
    simp only [List.length_append]
    omega
theorem gH.tv {S : zS} {i kk : Int} (h : gH S i) (w : wfS kk S) (hi : i ≤ 27) : tV S := by
  have ok := w.ok
  have hn := w.1
  refine ⟨⟨h.2.1.1, by have := h.2.1.2; omega⟩, w.2.2.1, ok.2.1, h.2.2.1, ?_⟩
  have a := tTs_9 ok.2.1 (fun t ht => (ok.1.2.1 t ht).1) h.2.2.1 (qn S).toNat (by omega)
  rw [show (((qn S).toNat : Nat) : Int) = qn S by omega] at a
  have p := h.2.2.2
  unfold pot at p
  have b := tnum_2 h.2.1
  have c := sep_len (tTs S (qn S).toNat)
  have d := sep_len (tFe S)
  have e2 : (zw 2).length = 3 := by decide +kernel
  have e3 : (zw 3).length = 3 := by decide +kernel
  have e4 : (zw (zlw (qlaw S))).length ≤ 6 := by
    unfold zlw
    split
    · decide +kernel
    · split
      · decide +kernel
      · split <;> decide +kernel
  have f : (tFe S).length ≤ (tTs S (qn S).toNat).length + 6 := by
    unfold tFe
    split
    · omega
    · simp only [List.length_append]; omega
  unfold tAll
  split
  · omega
  · simp only [List.length_append, List.length_singleton]; omega
/-- two halls that share nothing that is written -/
def ap (M : zM) (x y : Nat) : Prop := x ≠ y ∧ lU M x ≠ lU M y
theorem lU_ke {M M' : zM} {x : Nat} (k : Ke M M') (hx : (x : Int) < M 97 0 64) : lU M' x = lU M x := by unfold lU; rw [k.1 64 x (by decide) hx]
theorem ap.ke {M M' : zM} {x y : Nat} (a : ap M x y) (k : Ke M M') (hx : (x : Int) < M 97 0 64) (hy : (y : Int) < M 97 0 64) : ap M' x y := ⟨a.1, by rw [lU_ke k hx, lU_ke k hy]; exact a.2⟩
theorem lU_hx {M M' : zM} {x h : Nat} (k : Hx M M' h) (hx : (x : Int) < M 97 0 64) : lU M' x = lU M x := by
  by_cases c : x = h
  · rw [c]; exact k.u
  · unfold lU; rw [k.2.1 64 x (by decide) hx (by omega) (by omega)]
theorem ap.hx {M M' : zM} {x y h : Nat} (a : ap M x y) (k : Hx M M' h) (hx : (x : Int) < M 97 0 64) (hy : (y : Int) < M 97 0 64) : ap M' x y := ⟨a.1, by rw [lU_hx k hx, lU_hx k hy]; exact a.2⟩
/-- what is kept -/
def kpI (M : zM) (A : zY) (h : Nat) (v3 i : Int) : Prop := (v3 < 0 ∧ ykf A 0 = 0) ∨ (0 ≤ v3 ∧ ykf A 0 = 1 ∧ lH M v3.toNat (ykh A 0) ∧ gH (ykh A 0) i ∧ ap M v3.toNat h)
/-- between the acts -/
def lwI (M : zM) (A : zY) (h : Nat) (v3 i kk : Int) : Prop := (cSt M A ∧ wfY kk A ∧ 0 ≤ kk ∧ kk ≤ i ∧ ytn A = 0) ∧ (lH M h (yS A) ∧ gH (yS A) i) ∧ zSy M ∧ kpI M A h v3 i
/-- behind an act: the hall before stands in r -/
def lwJ (M : zM) (A : zY) (S0 : zS) (h r : Nat) (v3 i kk d : Int) : Prop := lwI M A h v3 i kk ∧ (lH M r S0 ∧ gH S0 i) ∧ (d = 0 ∨ d = 1) ∧ (d = 1 → (0 < yhc A ∧ yhf A 0 = S0) ∧ ap M r h ∧ (0 ≤ v3 → ap M v3.toNat r))
theorem lwI.sm {M : zM} {A : zY} {h : Nat} {v3 i kk : Int} (I : lwI M A h v3 i kk) (hi : i ≤ 27) : smH M A h kk := ⟨I.2.1.1, I.1.2.1, by have := I.1.2.2.2.1; omega, I.2.1.2.tv I.1.2.1.1 hi, I.2.1.2.1⟩
/-- the class's side alone has gone on -/
theorem lwI.go {M M' : zM} {A A' : zY} {h : Nat} {v3 i kk : Int} (I : lwI M A h v3 i kk) (L : Lr [66, 67, 80] M M') (C : cSt M' A') (w : wfY kk A') (t0 : ytn A' = 0) (e : yS A' = yS A) (ek : ykf A' = ykf A ∧ ykh A' = ykh A) : lwI M' A' h v3 i kk := by
  have hh := I.2.1.1.1.1.1
  refine ⟨⟨C, w, I.1.2.2.1, I.1.2.2.2.1, t0⟩, by rw [e]; exact ⟨I.2.1.1.ke L.ke, I.2.1.2⟩, ?_, ?_⟩
  · unfold zSy
    have q : ∀ k : Nat, k ∉ [66, 67, 80] → M' 97 0 k = M 97 0 k := L.2.2
    have q0 : M' 97 0 64 = M 97 0 64 := q 64 (by decide)
    have q1 : M' 97 0 70 = M 97 0 70 := q 70 (by decide)
    have q2 : M' 97 0 71 = M 97 0 71 := q 71 (by decide)
    have q3 : M' 97 0 72 = M 97 0 72 := q 72 (by decide)
    have q4 : M' 97 0 73 = M 97 0 73 := q 73 (by decide)
    rw [q0, q1, q2, q3, q4]
    exact I.2.2.1
  · unfold kpI
    rw [ek.1, ek.2]
    rcases I.2.2.2 with q | ⟨q1, q2, q3, q4, q5⟩
    · exact .inl q
    · exact .inr ⟨q1, q2, q3.ke L.ke, q4, q5.ke L.ke q3.1.1.1 hh⟩
