/-! ===== what is told is read: words and numbers ===== -/
/-- from p on the tape says R -/
def sf (b : Int → Int) (n p : Int) (R : List Int) : Prop := 0 ≤ p ∧ p + R.length = n ∧ ∀ j : Int, 0 ≤ j ∧ j < (R.length : Int) → b (p + j) = R.getD j.toNat 0
section
variable {b : Int → Int} {n p : Int} {R X : List Int}
theorem sf.app (h : sf b n p (X ++ R)) : sf b n (p + X.length) R ∧ ∀ j : Int, 0 ≤ j ∧ j < (X.length : Int) → p + j < n ∧ b (p + j) = X.getD j.toNat 0 := by
  obtain ⟨h1, h2, h3⟩ := h
  rw [List.length_append] at h2 h3
  refine ⟨⟨by omega, by omega, fun j hj => ?_⟩, fun j hj => ⟨by omega, ?_⟩⟩
  · have := h3 ((X.length : Int) + j) (by omega)
    rw [List.getD_eq_getElem?_getD, List.getElem?_append_right (by omega), show ((X.length : Int) + j).toNat - X.length = j.toNat by omega, ← List.getD_eq_getElem?_getD] at this
    rw [← this, Int.add_assoc]
  · have := h3 j (by omega)
    rw [List.getD_eq_getElem?_getD, List.getElem?_append_left (by omega), ← List.getD_eq_getElem?_getD] at this
    exact this
theorem sf.hd {c : Int} (h : sf b n p (c :: R)) : p < n ∧ b p = c ∧ sf b n (p + 1) R := by
  have a := sf.app (X := [c]) (R := R) h
  have := a.2 0 ⟨Int.le_refl _, Int.zero_lt_one⟩
  rw [Int.add_zero] at this
  exact ⟨this.1, this.2, a.1⟩
theorem sf.bq (h : sf b n p R) : bt b n p = R.headD (-1) := by
  cases R with
  | nil =>
    have := h.2.1
    simp only [List.length_nil] at this
    unfold bt
    exact if_neg (by omega)
  | cons c R =>
    have := h.hd
    have h1 := h.1
    unfold bt
    exact (if_pos ⟨h1, this.1⟩).trans this.2.1
theorem sf.nb (h : sf b n p R) (c : R.headD (-1) ≠ 32) : sk isB b n p = p := by
  refine sk_e fun z => ?_
  cases R with
  | nil =>
    have := h.2.1
    simp only [List.length_nil] at this
    omega
  | cons d R =>
    have hd := h.hd
    have e : isB (b p) = true := z.2
    rw [hd.2.1] at e
    have : d = 32 := by simpa [isB] using e
    exact c this
theorem sf.b1 (h : sf b n p (32 :: R)) : sk isB b n p = sk isB b n (p + 1) := sk_s h.hd.1 (by rw [h.hd.2.1]; rfl)
/-! words -/
theorem eqN_y {s : Nat} : ∀ (f : Nat) (k : Int), 0 ≤ k → (∀ j, k ≤ j ∧ j < k + f → bt b n (p + j) = zsb s j) → eqN s b n p f k = true
  | 0, _, _, _ => rfl
  | f + 1, k, hk, h => by
    rw [eqN, h k (by omega), eqN_y f (k + 1) (by omega) (fun j hj => h j (by omega))]
    simp
theorem zw_z : ∀ s : Fin 8, zl_ s.val = (zw s.val).length ∧ 0 < zl_ s.val ∧ zsb s.val 0 = (zw s.val).headD (-1) := by decide +kernel
theorem sf.wd {s : Nat} (hs : s < 8) (h : sf b n p (zw s ++ R)) (c : isL (R.headD (-1)) = false) : isX s b n p = true ∧ sf b n (p + zl_ s) R := by
  have z := zw_z ⟨s, hs⟩
  have z1 : zl_ s = (zw s).length := z.1
  have a := h.app
  have h0 := h.1
  rw [← z1] at a
  refine ⟨?_, a.1⟩
  unfold isX
  rw [a.1.bq, c]
  have : isWd s b n p = true := eqN_y (zl_ s) 0 (by omega) fun j hj => by
    have q := a.2 j (by omega)
    unfold bt
    rw [if_pos (by omega), q.2, zw_at]
  rw [this]
  rfl
theorem sf.nw {s : Nat} (hs : s < 8) (h : sf b n p R) (c : R.headD (-1) ≠ (zw s).headD (-1)) : isX s b n p ≠ true := by
  have z := zw_z ⟨s, hs⟩
  have z2 : 0 < zl_ s := z.2.1
  have z3 : zsb s 0 = (zw s).headD (-1) := z.2.2
  intro e
  unfold isX isWd at e
  obtain ⟨k, ek⟩ : ∃ k, zl_ s = k + 1 := ⟨zl_ s - 1, by omega⟩
  rw [ek, eqN, Int.add_zero, h.bq, z3] at e
  simp only [Bool.and_eq_true, decide_eq_true_eq] at e
  exact c e.1.1
/-! numbers -/
theorem dg_e {v : Int} (h : 0 ≤ v ∧ v < 100) : dgF v (top v) = if v < 10 then [48 + v] else [48 + v / 10, 48 + v % 10] := by
  unfold top
  split
  · show [48 + v / 1 % 10] = _
    rw [show v / 1 % 10 = v by omega]
  · rw [if_pos h.2]
    show [48 + v / (1 * 10) % 10, 48 + v / 1 % 10] = _
    rw [show v / (1 * 10) % 10 = v / 10 by omega, show v / 1 % 10 = v % 10 by omega]
theorem sk_d0 (h : sf b n p R) (c : isD (R.headD (-1)) = false) : sk isD b n p = p := by
  refine sk_e fun z => ?_
  have e := h.bq
  unfold bt at e
  rw [if_pos ⟨h.1, z.1⟩] at e
  rw [← e, z.2] at c
  cases c
theorem isD_y {x : Int} (h : 48 ≤ x ∧ x ≤ 57) : isD x = true := decide_eq_true h
/-- a number where it begins -/
theorem sf.num {v : Int} (hv : 0 ≤ v ∧ v < 100) (h : sf b n p (dgF v (top v) ++ R)) (c : isD (R.headD (-1)) = false) :
    isD (bt b n p) = true ∧ sk isB b n p = p ∧ nmI b n p = p ∧ nmQ b n p ≠ p ∧ nmV b n p = v ∧ sf b n (nmQ b n p) R := by
  rw [dg_e hv] at h
  split at h
  · next c1 =>
    have q := sf.hd (R := R) h
    have e0 : sk isB b n p = p := sf.nb h (by show 48 + v ≠ 32; omega)
    have d0 : isD (bt b n p) = true := by rw [h.bq]; exact isD_y (by show 48 ≤ 48 + v ∧ 48 + v ≤ 57; omega)
    have eQ : nmQ b n p = p + 1 := by
      unfold nmQ
      rw [e0, sk_s q.1 (by rw [q.2.1]; exact isD_y (by omega)), sk_d0 q.2.2 c]
    have eI : nmI b n p = p := e0
    refine ⟨d0, e0, eI, by omega, ?_, by rw [eQ]; exact q.2.2⟩
    unfold nmV
    rw [eQ, eI, show (p + 1 - p).toNat = 1 by omega]
    show 10 * 0 + (b (p + ((0 : Nat) : Int)) - 48) = v
    rw [show p + ((0 : Nat) : Int) = p by omega, q.2.1]
    omega
  · next c1 =>
    have q := sf.hd (R := (48 + v % 10) :: R) h
    have q2 := q.2.2.hd
    have e0 : sk isB b n p = p := sf.nb h (by show 48 + v / 10 ≠ 32; omega)
    have d0 : isD (bt b n p) = true := by rw [h.bq]; exact isD_y (by show 48 ≤ 48 + v / 10 ∧ 48 + v / 10 ≤ 57; omega)
    have eQ : nmQ b n p = p + 1 + 1 := by
      unfold nmQ
      rw [e0, sk_s q.1 (by rw [q.2.1]; exact isD_y (by omega)), sk_s q2.1 (by rw [q2.2.1]; exact isD_y (by omega)), sk_d0 q2.2.2 c]
    have eI : nmI b n p = p := e0
    refine ⟨d0, e0, eI, by omega, ?_, by rw [eQ]; exact q2.2.2⟩
    unfold nmV
    rw [eQ, eI, show (p + 1 + 1 - p).toNat = 2 by omega]
    show 10 * (10 * 0 + (b (p + ((0 : Nat) : Int)) - 48)) + (b (p + ((1 : Nat) : Int)) - 48) = v
    rw [show p + ((0 : Nat) : Int) = p by omega, show p + ((1 : Nat) : Int) = p + 1 by omega, q.2.1, q2.2.1]
    omega
/-- a number behind a blank -/
theorem sf.tn {v : Int} (hv : 0 ≤ v ∧ v < 100) (h : sf b n p (tnum v ++ R)) (c : isD (R.headD (-1)) = false) : nmQ b n p ≠ nmI b n p ∧ nmV b n p = v ∧ sf b n (nmQ b n p) R := by
  have h' : sf b n p (32 :: (dgF v (top v) ++ R)) := h
  have q := h'.hd
  obtain ⟨d0, e0, eI, eQ, eV, sR⟩ := q.2.2.num hv c
  have eB := h'.b1
  have i1 : nmI b n p = nmI b n (p + 1) := eB
  have i2 : nmQ b n p = nmQ b n (p + 1) := by unfold nmQ; rw [eB]
  have i3 : nmV b n p = nmV b n (p + 1) := by unfold nmV; rw [i1, i2]
  rw [i1, i2, i3, eI]
  exact ⟨eQ, eV, sR⟩
/-! halls that are being read -/
def cuS (S : zS) (k : Int) : zS := (fun j => if j = 0 then k else 0, fun t => if 0 ≤ t ∧ t < k then qsl S t else 0, fun t => if 0 ≤ t ∧ t < k then qgr S t else 0, fun t => if 0 ≤ t ∧ t < k then qun S t else 0, fun t u => if 0 ≤ t ∧ t < k then qsy S t u else 0, fun _ => 0, fun _ => 0)
def cuU (S : zS) (k m : Int) : zS := (fun j => if j = 0 then k + 1 else 0, fun t => if 0 ≤ t ∧ t < k + 1 then qsl S t else 0, fun t => if 0 ≤ t ∧ t < k + 1 then qgr S t else 0, fun t => if t = k then m else if 0 ≤ t ∧ t < k then qun S t else 0, fun t u => if t = k then (if 0 ≤ u ∧ u < m then qsy S t u else 0) else if 0 ≤ t ∧ t < k then qsy S t u else 0, fun _ => 0, fun _ => 0)
theorem cu_0 {S : zS} : cuS S 0 = zE := by
  unfold cuS zE
  refine Prod.ext ?_ (Prod.ext ?_ (Prod.ext ?_ (Prod.ext ?_ (Prod.ext ?_ rfl))))
  · funext j
    show (if j = 0 then (0 : Int) else 0) = 0
    split <;> rfl
  · funext t; exact if_neg (by omega)
  · funext t; exact if_neg (by omega)
  · funext t; exact if_neg (by omega)
  · funext t u; exact if_neg (by omega)
theorem cu_come {S : zS} {k : Int} (hk : 0 ≤ k) : sCome (cuS S k) (qsl S k) (qgr S k) = cuU S k 0 := by
  have e0 : qn (cuS S k) = k := show (if (0 : Int) = 0 then k else 0) = k from if_pos rfl
  unfold sCome
  rw [e0]
  unfold cuS cuU
  refine Prod.ext ?_ (Prod.ext ?_ (Prod.ext ?_ (Prod.ext ?_ (Prod.ext ?_ rfl))))
  · funext j
    show (if j = 0 then k + 1 else if j = 0 then k else 0) = if j = 0 then k + 1 else 0
    by_cases c : j = 0
    · rw [if_pos c, if_pos c]
    · rw [if_neg c, if_neg c, if_neg c]
  · funext t
    show (if t = k then qsl S k else if 0 ≤ t ∧ t < k then qsl S t else 0) = if 0 ≤ t ∧ t < k + 1 then qsl S t else 0
    by_cases c : t = k
    · rw [if_pos c, if_pos (by omega), c]
    · rw [if_neg c]
      by_cases d : 0 ≤ t ∧ t < k
      · rw [if_pos d, if_pos (by omega)]
      · rw [if_neg d, if_neg (by omega)]
  · funext t
    show (if t = k then qgr S k else if 0 ≤ t ∧ t < k then qgr S t else 0) = if 0 ≤ t ∧ t < k + 1 then qgr S t else 0
    by_cases c : t = k
    · rw [if_pos c, if_pos (by omega), c]
    · rw [if_neg c]
      by_cases d : 0 ≤ t ∧ t < k
      · rw [if_pos d, if_pos (by omega)]
      · rw [if_neg d, if_neg (by omega)]
  · funext t
    show (if 0 ≤ t ∧ t < k then qun S t else 0) = if t = k then 0 else if 0 ≤ t ∧ t < k then qun S t else 0
    by_cases c : t = k
    · rw [if_pos c, if_neg (by omega)]
    · rw [if_neg c]
  · funext t u
    show (if 0 ≤ t ∧ t < k then qsy S t u else 0) = if t = k then (if 0 ≤ u ∧ u < 0 then qsy S t u else 0) else if 0 ≤ t ∧ t < k then qsy S t u else 0
    by_cases c : t = k
    · rw [if_pos c, if_neg (by omega), if_neg (by omega)]
    · rw [if_neg c]
theorem cu_add {S : zS} {k m : Int} (hm : 0 ≤ m) : sAdd (cuU S k m) k (qsy S k m) = cuU S k (m + 1) := by
  have e0 : qun (cuU S k m) k = m := if_pos rfl
  unfold sAdd
  rw [e0]
  unfold cuU
  refine Prod.ext rfl (Prod.ext rfl (Prod.ext rfl (Prod.ext ?_ (Prod.ext ?_ rfl))))
  · funext t
    show (if t = k then m + 1 else if t = k then m else if 0 ≤ t ∧ t < k then qun S t else 0) = if t = k then m + 1 else if 0 ≤ t ∧ t < k then qun S t else 0
    by_cases c : t = k
    · rw [if_pos c, if_pos c]
    · rw [if_neg c, if_neg c, if_neg c]
  · funext t u
    show (if t = k ∧ u = m then qsy S k m else if t = k then (if 0 ≤ u ∧ u < m then qsy S t u else 0) else if 0 ≤ t ∧ t < k then qsy S t u else 0) = if t = k then (if 0 ≤ u ∧ u < m + 1 then qsy S t u else 0) else if 0 ≤ t ∧ t < k then qsy S t u else 0
    by_cases c : t = k
    · by_cases d : u = m
      · rw [if_pos ⟨c, d⟩, if_pos c, if_pos (by omega), c, d]
      · rw [if_neg (fun z => d z.2), if_pos c, if_pos c]
        by_cases e : 0 ≤ u ∧ u < m
        · rw [if_pos e, if_pos (by omega)]
        · rw [if_neg e, if_neg (by omega)]
    · rw [if_neg (fun z => c z.1), if_neg c, if_neg c]
theorem cu_all {S : zS} {k : Int} (z : zo S) (hk : 0 ≤ k ∧ k < qn S) : cuU S k (qun S k) = cuS S (k + 1) := by
  unfold cuU cuS
  refine Prod.ext rfl (Prod.ext rfl (Prod.ext rfl (Prod.ext ?_ (Prod.ext ?_ rfl))))
  · funext t
    show (if t = k then qun S k else if 0 ≤ t ∧ t < k then qun S t else 0) = if 0 ≤ t ∧ t < k + 1 then qun S t else 0
    by_cases c : t = k
    · rw [if_pos c, if_pos (by omega), c]
    · rw [if_neg c]
      by_cases d : 0 ≤ t ∧ t < k
      · rw [if_pos d, if_pos (by omega)]
      · rw [if_neg d, if_neg (by omega)]
  · funext t u
    show (if t = k then (if 0 ≤ u ∧ u < qun S k then qsy S t u else 0) else if 0 ≤ t ∧ t < k then qsy S t u else 0) = if 0 ≤ t ∧ t < k + 1 then qsy S t u else 0
    by_cases c : t = k
    · rw [if_pos c, if_pos (show 0 ≤ t ∧ t < k + 1 by omega)]
      by_cases d : 0 ≤ u ∧ u < qun S k
      · rw [if_pos d]
      · rw [if_neg d]
        refine (z.2.2 t u fun q => d ?_).symm
        rw [← c]
        exact ⟨q.2.2.1, q.2.2.2⟩
    · rw [if_neg c]
      by_cases d : 0 ≤ t ∧ t < k
      · rw [if_pos d, if_pos (by omega)]
      · rw [if_neg d, if_neg (by omega)]
theorem cu_fin {S : zS} (z : zo S) (h0 : ∀ j, 3 ≤ j ∧ j < 7 → qsc S j = 0) (h1 : ∀ t, 0 ≤ t ∧ t < qn S → qpu S t = 0 ∧ qtr S t = 0) : sSc (sSc (cuS S (qn S)) 1 (qfee S)) 2 (qlaw S) = S := by
  unfold sSc cuS
  refine Prod.ext ?_ (Prod.ext ?_ (Prod.ext ?_ (Prod.ext ?_ (Prod.ext ?_ (Prod.ext ?_ ?_)))))
  · funext j
    show (if j = 2 then qsc S 2 else if j = 1 then qsc S 1 else if j = 0 then qsc S 0 else 0) = qsc S j
    by_cases c2 : j = 2
    · rw [if_pos c2, c2]
    · rw [if_neg c2]
      by_cases c1 : j = 1
      · rw [if_pos c1, c1]
      · rw [if_neg c1]
        by_cases c0 : j = 0
        · rw [if_pos c0, c0]
        · rw [if_neg c0]
          by_cases d : 3 ≤ j ∧ j < 7
          · exact (h0 j d).symm
          · exact (z.1 j (by omega)).symm
  · funext t
    show (if 0 ≤ t ∧ t < qn S then qsl S t else 0) = qsl S t
    by_cases d : 0 ≤ t ∧ t < qn S
    · rw [if_pos d]
    · rw [if_neg d]; exact (z.2.1 t d).1.symm
  · funext t
    show (if 0 ≤ t ∧ t < qn S then qgr S t else 0) = qgr S t
    by_cases d : 0 ≤ t ∧ t < qn S
    · rw [if_pos d]
    · rw [if_neg d]; exact (z.2.1 t d).2.1.symm
  · funext t
    show (if 0 ≤ t ∧ t < qn S then qun S t else 0) = qun S t
    by_cases d : 0 ≤ t ∧ t < qn S
    · rw [if_pos d]
    · rw [if_neg d]; exact (z.2.1 t d).2.2.1.symm
  · funext t u
    show (if 0 ≤ t ∧ t < qn S then qsy S t u else 0) = qsy S t u
    by_cases d : 0 ≤ t ∧ t < qn S
    · rw [if_pos d]
    · rw [if_neg d]; exact (z.2.2 t u (fun q => d ⟨q.1, q.2.1⟩)).symm
  · funext t
    show 0 = qpu S t
    by_cases d : 0 ≤ t ∧ t < qn S
    · exact (h1 t d).1.symm
    · exact (z.2.1 t d).2.2.2.1.symm
  · funext t
    show 0 = qtr S t
    by_cases d : 0 ≤ t ∧ t < qn S
    · exact (h1 t d).2.symm
    · exact (z.2.1 t d).2.2.2.2.symm
end
