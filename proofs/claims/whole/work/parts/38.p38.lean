/-! ===== questions, both sides: lies ===== -/
theorem gLie_congr {S : zS} {E E' : Int → Prop} {L L' : Int → Bool} {d t : Int} (h : ∀ t, 0 ≤ t ∧ t < qn S → (E t ↔ E' t)) (hL : ∀ t, 0 ≤ t ∧ t < qn S → L t = L' t) : gLie S E L d t = gLie S E' L' d t := by
  have e := m_congrE (S := S) (E := E) (E' := E') (v := vL S L d) (v' := vL S L' d) h (fun t u q _ => by unfold vL; rw [hL t ⟨q.1, q.2.1⟩])
  unfold gLie
  rw [e.1, e.2]
noncomputable def gl (S : zS) (t d : Int) : Int := gLie S (fun t' => qgr S t' = qgr S t) (fun t' => decide (t' = t)) d t
noncomputable def gp (S : zS) (a b d : Int) : Int := gLie S (fun t' => qgr S t' = qgr S a) (fun t' => decide (t' = a ∨ t' = b)) d a + gLie S (fun t' => qgr S t' = qgr S a) (fun t' => decide (t' = a ∨ t' = b)) d b
theorem gLie_b {S : zS} {E : Int → Prop} {L : Int → Bool} {d t : Int} (h : okS S) : -5000000 ≤ gLie S E L d t ∧ gLie S E L d t ≤ 5000000 := gnr_b (vL_ok h.1 L d) h.1 h.2.2.1
/-- the best of the first n steps, by how much -/
def bst (f : Int → Int) : Nat → Int × Int
  | 0 => (f 0, 0)
  | n + 1 => if (bst f n).1 < f (zntz (n + 1)) then (f (zntz (n + 1)), zntz (n + 1)) else bst f n
theorem bst_in {f : Int → Int} {c d : Int} (h : ∀ x, c ≤ f x ∧ f x ≤ d) : ∀ n, c ≤ (bst f n).1 ∧ (bst f n).1 ≤ d
  | 0 => h 0
  | n + 1 => by
    rw [bst]
    split
    · exact h _
    · exact bst_in h n
theorem zntz_b {s : Int} (h : 0 ≤ s ∧ s ≤ 400) : -200 ≤ zntz s ∧ zntz s ≤ 200 := by
  unfold zntz
  split <;> omega
theorem zntz_o {k : Int} : zntz (2 * k - 1) = -k := by
  unfold zntz
  rw [if_neg (by omega)]
  omega
theorem zntz_e {k : Int} : zntz (2 * k) = k := by
  unfold zntz
  rw [if_pos (by omega)]
  omega
section
variable {l : Launch} {M : zM} {S : zS}
/-- the class: the others are aside -/
theorem c_gl {t d : Int} (c : CX M S) (ht : 0 ≤ t ∧ t < qn S) (hd : -500 ≤ d ∧ d ≤ 500) (r : bkR M 1 (mB S (fun t' => qgr S t' = qgr S t ∧ hb (zshl 1 t) t' = false) (qsy S)) (mA S (fun t' => qgr S t' = qgr S t ∧ hb (zshl 1 t) t' = false) (qsy S))) :
    CI l m_X8_gainByLie [zr 8 0, zi t, zi d] M (fun x M' => x = gl S t d ∧ Fx (kBk 0) M M') := by
  have hn := c.2.1.1
  refine (c_gainByLie c ht (fun q => ?_) hd r).mono ?_
  · have := q.2
    rw [hb_bit (by omega) (by omega)] at this
    simp at this
  · rintro x M' ⟨rfl, f⟩
    refine ⟨gLie_congr (fun t' ht' => ?_) (fun _ _ => rfl), f⟩
    rw [hb_bit (by omega) (by omega), decide_eq_false_iff_not]
    constructor
    · rintro (q | q)
      · exact q.1
      · rw [q]
    · intro q
      by_cases c : t' = t
      · exact .inr c
      · exact .inl ⟨q, c⟩
theorem c_gp {a b d : Int} (c : CX M S) (ha : 0 ≤ a ∧ a < qn S) (hb' : 0 ≤ b ∧ b < qn S) (hab : a ≠ b) (eg : qgr S a = qgr S b) (hd : -500 ≤ d ∧ d ≤ 500) (r : bkR M 1 (mB S (fun t' => qgr S t' = qgr S a ∧ hb (zor (zshl 1 a) (zshl 1 b)) t' = false) (qsy S)) (mA S (fun t' => qgr S t' = qgr S a ∧ hb (zor (zshl 1 a) (zshl 1 b)) t' = false) (qsy S))) :
    CI l m_X8_gainByPact [zr 8 0, zi a, zi b, zi d] M (fun x M' => x = gp S a b d ∧ Fx (kBk 0) M M') := by
  have hn := c.2.1.1
  refine (c_gainByPact c ha hb' hab (fun q => ?_) (fun q => ?_) hd r).mono ?_
  · have := q.2
    rw [hb_or, hb_bit (by omega) (by omega)] at this
    simp at this
  · have := q.2
    rw [hb_or, hb_bit (j := b) (by omega) (by omega)] at this
    simp at this
  · rintro x M' ⟨rfl, f⟩
    have e : ∀ t', 0 ≤ t' ∧ t' < qn S → ((((qgr S t' = qgr S a ∧ hb (zor (zshl 1 a) (zshl 1 b)) t' = false) ∨ t' = a) ∨ t' = b) ↔ qgr S t' = qgr S a) := by
      intro t' ht'
      rw [hb_or, hb_bit (by omega) (by omega), hb_bit (by omega) (by omega)]
      simp only [Bool.or_eq_false_iff, decide_eq_false_iff_not]
      constructor
      · rintro ((q | q) | q)
        · exact q.1
        · rw [q]
        · rw [q, eg]
      · intro q
        by_cases c1 : t' = a
        · exact .inl (.inr c1)
        · by_cases c2 : t' = b
          · exact .inr c2
          · exact .inl (.inl ⟨q, c1, c2⟩)
    refine ⟨?_, f⟩
    unfold gp
    rw [gLie_congr (t := a) e (fun _ _ => rfl), gLie_congr (t := b) e (fun _ _ => rfl)]
/-- the reference: a state in which some lie -/
theorem r_lie {M' : zM} {L : Int → Bool} {d t : Int} (h : MX M S) (e27 : M' 27 0 = M 27 0) (e5 : M' 9 0 5 = 0) (e6 : ∀ t', 0 ≤ t' ∧ t' < 20 → hb (M' 9 0 6) t' = L t') (e7 : M' 9 0 7 = d) (hd : -500 ≤ d ∧ d ≤ 500) :
    RC M' ∧ rS M' = S ∧ (∀ g, rB M' g = mB S (fun t' => qgr S t' = g) (vL S L d) ∧ rA M' g = mA S (fun t' => qgr S t' = g) (vL S L d)) ∧ rGn M' t = gLie S (fun t' => qgr S t' = qgr S t) L d t := by
  have eS : rS M' = S := (rS_congr e27).trans h.1.2
  have hn := h.ok.1.1
  have eM : ∀ g, rB M' g = mB S (fun t' => qgr S t' = g) (vL S L d) ∧ rA M' g = mA S (fun t' => qgr S t' = g) (vL S L d) := by
    intro g
    have e := m_congrE (S := S) (E := rG M' g) (E' := fun t' => qgr S t' = g) (v := rV M') (v' := vL S L d) (fun t' ht' => by
      unfold rG
      rw [eS, e5, hb_0]
      simp) (fun t' u q _ => by
      unfold rV vL
      rw [eS, e6 t' (by have := q.1; have := q.2.1; omega), e7])
    unfold rB rA
    rw [eS]
    exact e
  refine ⟨?_, eS, eM, ?_⟩
  · have rc := h.1.1
    unfold RC at rc ⊢
    rw [eS, e7]
    rw [h.1.2] at rc
    exact ⟨mW_27 e27 rc.1, rc.2.1, rc.2.2.1, rc.2.2.2.1, rc.2.2.2.2.1, by omega⟩
  · unfold rGn gLie
    rw [eS, (eM _).1, (eM _).2]
theorem vX9_gainBy {l : Launch} {P : Int → zM → Prop} {v1 : Int} {v2 : Int} {M : zM}
    (H0 : (∀ M1 : zM, M1 = zu M 9 0 6 (zshl 1 v1) → (∀ M3 : zM, M3 = zu M1 9 0 7 v2 → (CI l m_X9_gainOf [zr 9 0, zi v1] M3 (fun x8 M5 => (∀ M9 : zM, M9 = zu M5 9 0 6 0 → P x8 M9)))))) :
    CI l m_X9_gainBy [zr 9 0, zi v1, zi v2] M P :=
(aw_aload_n d_X9_gainBy_0 rfl rfl 0 rfl (by decide)
(aw_iconst d_X9_gainBy_1 rfl
(aw_iload_n d_X9_gainBy_2 rfl rfl 1 rfl
(aw_ishl d_X9_gainBy_3 rfl zshl_h
(have e2 := H0 _ rfl; aw_put (kc := 6) d_X9_gainBy_4 rfl fp9_92 rfl rfl rfl rfl
(aw_aload_n d_X9_gainBy_7 rfl rfl 0 rfl (by decide)
(aw_iload_n d_X9_gainBy_8 rfl rfl 2 rfl
(have e4 := e2 _ rfl; aw_put (kc := 7) d_X9_gainBy_9 rfl fp9_100 rfl rfl rfl rfl
(aw_aload_n d_X9_gainBy_12 rfl rfl 0 rfl (by decide)
(aw_iload_n d_X9_gainBy_13 rfl rfl 1 rfl
(aw_VI (As := [zi v1]) (st := []) d_X9_gainBy_14 rfl cv9_204 ⟨Nat.le_of_ble_eq_true rfl, Nat.le_of_ble_eq_true rfl⟩ rfl rfl (Nat.le_of_ble_eq_true rfl) (Nat.le_of_ble_eq_true rfl) e4 (fun x8 M5 e6 => (aw_istore_n (lv' := [(3, zi x8), (0, zr 9 0), (1, zi v1), (2, zi v2)]) d_X9_gainBy_17 rfl rfl (by decide) rfl
(aw_aload_n d_X9_gainBy_18 rfl rfl 1 rfl (by decide)
(aw_iconst d_X9_gainBy_19 rfl
(have e10 := e6 _ rfl; aw_put (kc := 6) d_X9_gainBy_20 rfl fp9_92 rfl rfl rfl rfl
(aw_iload_n d_X9_gainBy_23 rfl rfl 0 rfl
(aw_ri d_X9_gainBy_24 rfl e10))))))))))))))))))
theorem vX9_pactBy {l : Launch} {P : Int → zM → Prop} {v1 : Int} {v2 : Int} {v3 : Int} {M : zM}
    (H0 : (∀ M1 : zM, M1 = zu M 9 0 6 (zor (zshl 1 v1) (zshl 1 v2)) → (∀ M3 : zM, M3 = zu M1 9 0 7 v3 → (CI l m_X9_gainOf [zr 9 0, zi v1] M3 (fun x8 M5 => (CI l m_X9_gainOf [zr 9 0, zi v2] M5 (fun x12 M9 => (∀ M13 : zM, M13 = zu M9 9 0 6 0 → P (x8 + x12) M13)))))))) :
    CI l m_X9_pactBy [zr 9 0, zi v1, zi v2, zi v3] M P :=
(aw_aload_n d_X9_pactBy_0 rfl rfl 0 rfl (by decide)
(aw_iconst d_X9_pactBy_1 rfl
(aw_iload_n d_X9_pactBy_2 rfl rfl 1 rfl
(aw_ishl d_X9_pactBy_3 rfl zshl_h
(aw_iconst d_X9_pactBy_4 rfl
(aw_iload_n d_X9_pactBy_5 rfl rfl 2 rfl
(aw_ishl d_X9_pactBy_6 rfl zshl_h
(aw_ior d_X9_pactBy_7 rfl zor_h
(have e2 := H0 _ rfl; aw_put (kc := 6) d_X9_pactBy_8 rfl fp9_92 rfl rfl rfl rfl
(aw_aload_n d_X9_pactBy_11 rfl rfl 0 rfl (by decide)
(aw_iload_n d_X9_pactBy_12 rfl rfl 3 rfl
(have e4 := e2 _ rfl; aw_put (kc := 7) d_X9_pactBy_13 rfl fp9_100 rfl rfl rfl rfl
(aw_aload_n d_X9_pactBy_16 rfl rfl 0 rfl (by decide)
(aw_iload_n d_X9_pactBy_17 rfl rfl 1 rfl
(aw_VI (As := [zi v1]) (st := []) d_X9_pactBy_18 rfl cv9_204 ⟨Nat.le_of_ble_eq_true rfl, Nat.le_of_ble_eq_true rfl⟩ rfl rfl (Nat.le_of_ble_eq_true rfl) (Nat.le_of_ble_eq_true rfl) e4 (fun x8 M5 e6 => (aw_aload_n d_X9_pactBy_21 rfl rfl 0 rfl (by decide)
(aw_iload_n d_X9_pactBy_22 rfl rfl 2 rfl
(aw_VI (As := [zi v2]) (st := [zi x8]) d_X9_pactBy_23 rfl cv9_204 ⟨Nat.le_of_ble_eq_true rfl, Nat.le_of_ble_eq_true rfl⟩ rfl rfl (Nat.le_of_ble_eq_true rfl) (Nat.le_of_ble_eq_true rfl) e6 (fun x12 M9 e10 => (aw_iadd d_X9_pactBy_26 rfl
(aw_istore (lv' := [(4, zi (x8 + x12)), (0, zr 9 0), (1, zi v1), (2, zi v2), (3, zi v3)]) d_X9_pactBy_27 rfl (by decide) rfl
(aw_aload_n d_X9_pactBy_29 rfl rfl 1 rfl (by decide)
(aw_iconst d_X9_pactBy_30 rfl
(have e14 := e10 _ rfl; aw_put (kc := 6) d_X9_pactBy_31 rfl fp9_92 rfl rfl rfl rfl
(aw_iload d_X9_pactBy_34 rfl 0 rfl
(aw_ri d_X9_pactBy_36 rfl e14)))))))))))))))))))))))))))
theorem c_X9_gainBy {t d : Int} (h : MX M S) (ht : 0 ≤ t ∧ t < qn S) (hd : -500 ≤ d ∧ d ≤ 500) : CI l m_X9_gainBy [zr 9 0, zi t, zi d] M (fun x M' => x = gl S t d ∧ mQ M M') := by
  have hn := h.ok.1.1
  refine vX9_gainBy ?_
  intro M1 q1 M2 q2
  have e27 : M2 27 0 = M 27 0 := by rw [q2, zu_k (by decide), q1, zu_k (by decide)]
  have e5 : M2 9 0 5 = 0 := by rw [q2, zu_at, if_neg (by decide), q1, zu_at, if_neg (by decide), h.2.1]
  have e6 : M2 9 0 6 = zshl 1 t := by rw [q2, zu_at, if_neg (by decide), q1, zu_at, if_pos rfl]
  have e7 : M2 9 0 7 = d := by rw [q2, zu_at, if_pos rfl]
  obtain ⟨rc, eS, -, eg⟩ := r_lie (t := t) (L := fun t' => decide (t' = t)) h e27 e5 (fun t' ht' => by rw [e6, hb_bit (by omega) (by omega)]) e7 hd
  refine (c_X9_gainOf rc (by rw [eS]; exact ht) (by rw [e5, hb_0])).mono ?_
  rintro x M3 ⟨rfl, f3, -, -⟩
  intro M4 q4
  refine ⟨eg, fun k i h1 h2 => ?_, fun j hj => ?_, ?_⟩
  · rw [q4, zu_k h1, f3.1 k i h1 (by omega), q2, zu_k h1, q1, zu_k h1]
  · rw [q4, zu_at]
    by_cases c : j = 6
    · rw [if_pos c, c, h.2.2]
    · rw [if_neg c, f3.F j (by omega), q2, zu_at, if_neg (by omega), q1, zu_at, if_neg c]
  · rw [q4, zu_at, if_neg (by decide), f3.F 7 (by omega), e7]
    omega
theorem c_X9_pactBy {a b d : Int} (h : MX M S) (ha : 0 ≤ a ∧ a < qn S) (hb' : 0 ≤ b ∧ b < qn S) (eab : qgr S a = qgr S b) (hd : -500 ≤ d ∧ d ≤ 500) : CI l m_X9_pactBy [zr 9 0, zi a, zi b, zi d] M (fun x M' => x = gp S a b d ∧ mQ M M') := by
  have hn := h.ok.1.1
  refine vX9_pactBy ?_
  intro M1 q1 M2 q2
  have e27 : M2 27 0 = M 27 0 := by rw [q2, zu_k (by decide), q1, zu_k (by decide)]
  have e5 : M2 9 0 5 = 0 := by rw [q2, zu_at, if_neg (by decide), q1, zu_at, if_neg (by decide), h.2.1]
  have e6 : M2 9 0 6 = zor (zshl 1 a) (zshl 1 b) := by rw [q2, zu_at, if_neg (by decide), q1, zu_at, if_pos rfl]
  have e7 : M2 9 0 7 = d := by rw [q2, zu_at, if_pos rfl]
  have hL : ∀ M' : zM, M' 9 0 6 = zor (zshl 1 a) (zshl 1 b) → ∀ t', 0 ≤ t' ∧ t' < 20 → hb (M' 9 0 6) t' = decide (t' = a ∨ t' = b) := by
    intro M' e t' ht'
    rw [e, hb_or, hb_bit (by omega) (by omega), hb_bit (by omega) (by omega)]
    simp
  obtain ⟨rc, eS, -, eg⟩ := r_lie (t := a) (L := fun t' => decide (t' = a ∨ t' = b)) h e27 e5 (hL M2 e6) e7 hd
  refine (c_X9_gainOf rc (by rw [eS]; exact ha) (by rw [e5, hb_0])).mono ?_
  rintro x M3 ⟨rfl, f3, -, -⟩
  obtain ⟨rc3, eS3, -, eg3⟩ := r_lie (M' := M3) (t := b) (L := fun t' => decide (t' = a ∨ t' = b)) h ((f3.1 27 0 (by decide) (by decide)).trans e27) (by rw [f3.F 5 (by omega)]; exact e5) (hL M3 (by rw [f3.F 6 (by omega)]; exact e6)) (by rw [f3.F 7 (by omega)]; exact e7) hd
  refine (c_X9_gainOf rc3 (by rw [eS3]; exact hb') (by rw [f3.F 5 (by omega), e5, hb_0])).mono ?_
  rintro x M4 ⟨rfl, f4, -, -⟩
  have f34 := f3.tr f4
  intro M5 q5
  refine ⟨?_, fun k i h1 h2 => ?_, fun j hj => ?_, ?_⟩
  · rw [eg, eg3, ← eab]; rfl
  · rw [q5, zu_k h1, f34.1 k i h1 (by omega), q2, zu_k h1, q1, zu_k h1]
  · rw [q5, zu_at]
    by_cases c : j = 6
    · rw [if_pos c, c, h.2.2]
    · rw [if_neg c, f34.F j (by omega), q2, zu_at, if_neg (by omega), q1, zu_at, if_neg c]
  · rw [q5, zu_at, if_neg (by decide), f34.F 7 (by omega), e7]
    omega
noncomputable def aLie (S : zS) (t d : Int) : Int := if (0 ≤ t ∧ t < qn S) ∧ -500 ≤ d ∧ d ≤ 500 then gl S t d else -2147483648
noncomputable def aTempted (S : zS) (t k : Int) : Int := if (0 ≤ t ∧ t < qn S) ∧ (k = 0 ∨ k = 1) then (if k = 0 then (bst (gl S t) 400).1 else (bst (gl S t) 400).2) else -2147483648
noncomputable def aPact (S : zS) (a b k : Int) : Int := if ((0 ≤ a ∧ a < qn S) ∧ (0 ≤ b ∧ b < qn S) ∧ a ≠ b ∧ qgr S a = qgr S b) ∧ 0 ≤ k ∧ k ≤ 2 then (if k = 0 then (bst (gp S a b) 200).1 else if k = 1 then (bst (gp S a b) 200).2 else (bst (gp S a b) 200).1 - gp S a b 0) else -2147483648
theorem vX8_lie {l : Launch} {P : Int → zM → Prop} {v1 : Int} {v2 : Int} {M : zM}
    (H0 : ((hW M 0 ∧ zI v1) ∧ ((¬ (0 ≤ v1 ∧ v1 < M 1 0 6) → P (-2147483648) M) ∧ (0 ≤ v1 ∧ v1 < M 1 0 6 → (zI v2 ∧ (v2 < (-500) → P (-2147483648) M) ∧ ((-500) ≤ v2 → ((v2 ≤ 500 → ((hW M 0 ∧ 0 ≤ v1 ∧ v1 < M 1 0 6) ∧ (CV l m_X8_setAside [zr 8 0, zi (qgr (hS M 0) v1), zi (zshl 1 v1)] M (fun M19 => (CI l m_X8_gainByLie [zr 8 0, zi v1, zi v2] M19 (fun x25 M22 => P x25 M22)))))) ∧ (500 < v2 → P (-2147483648) M)))))))) :
    CI l m_X8_lie [zr 8 0, zi v1, zi v2] M P :=
(aw_aload_n d_X8_lie_0 rfl rfl 0 rfl (by decide)
(aw_getR (k' := 1) (a := 0) (b := 0) (j := 0) d_X8_lie_1 rfl fl8_12 rfl zj0 ⟨by decide, fun _ => by decide⟩
(aw_iload_n d_X8_lie_4 rfl rfl 1 rfl
(have z1 := H0.1; have e2 := H0.2; (aw_VI (As := [zi v1]) (st := []) d_X8_lie_5 rfl cv8_110 ⟨Nat.le_of_ble_eq_true rfl, Nat.le_of_ble_eq_true rfl⟩ rfl rfl (Nat.le_of_ble_eq_true rfl) (Nat.le_of_ble_eq_true rfl) (s_X1_has z1) (fun _ _ hq => aw_eqs hq
(aw_if_eq d_X8_lie_8 rfl rfl zb_I (fun c3 => have e5 := e2.1 (zb_0 c3); (aw_ldc d_X8_lie_25 rfl ci8_195
(aw_ri d_X8_lie_27 rfl e5))) (fun c4 => have e6 := e2.2 (zb_n0 c4); (aw_iload_n d_X8_lie_11 rfl rfl 2 rfl
(aw_sipush d_X8_lie_12 rfl (by decide)
(have z7 := e6.1; have e8 := e6.2; aw_icmp_lt d_X8_lie_15 rfl rfl z7 (by decide) (fun c9 => have e11 := e8.1 c9; (aw_ldc d_X8_lie_25 rfl ci8_195
(aw_ri d_X8_lie_27 rfl e11))) (fun c10 => have e12 := e8.2 c10; (aw_iload_n d_X8_lie_18 rfl rfl 2 rfl
(aw_sipush d_X8_lie_19 rfl (by decide)
(aw_icmp_le d_X8_lie_22 rfl rfl z7 (by decide) (fun c13 => have e15 := e12.1 c13; (aw_aload_n d_X8_lie_28 rfl rfl 0 rfl (by decide)
(aw_aload_n d_X8_lie_29 rfl rfl 0 rfl (by decide)
(aw_getR (k' := 1) (a := 0) (b := 0) (j := 0) d_X8_lie_30 rfl fl8_12 rfl zj0 ⟨by decide, fun _ => by decide⟩
(aw_iload_n d_X8_lie_33 rfl rfl 1 rfl
(have z17 := e15.1; have e18 := e15.2; (aw_VI (As := [zi v1]) (st := [zr 8 0]) d_X8_lie_34 rfl cv8_196 ⟨Nat.le_of_ble_eq_true rfl, Nat.le_of_ble_eq_true rfl⟩ rfl rfl (Nat.le_of_ble_eq_true rfl) (Nat.le_of_ble_eq_true rfl) (s_X1_gradeOf z17) (fun _ _ hq => aw_eqs hq
(aw_iload_n d_X8_lie_37 rfl rfl 1 rfl
(aw_SI (As := [zi v1]) (st := [zi (qgr (hS M 0) v1), zr 8 0]) d_X8_lie_38 rfl cs8_255 ⟨Nat.le_of_ble_eq_true rfl, Nat.le_of_ble_eq_true rfl⟩ rfl rfl (Nat.le_of_ble_eq_true rfl) (Nat.le_of_ble_eq_true rfl) (s_X8_bit) (fun _ _ hq => aw_eqs hq
(aw_VV (As := [zi (qgr (hS M 0) v1), zi (zshl 1 v1)]) (st := []) d_X8_lie_41 rfl cv8_258 ⟨Nat.le_of_ble_eq_true rfl, Nat.le_of_ble_eq_true rfl⟩ rfl rfl (Nat.le_of_ble_eq_true rfl) (Nat.le_of_ble_eq_true rfl) e18 (fun M19 e20 => (aw_aload_n d_X8_lie_44 rfl rfl 0 rfl (by decide)
(aw_iload_n d_X8_lie_45 rfl rfl 1 rfl
(aw_iload_n d_X8_lie_46 rfl rfl 2 rfl
(aw_VI (As := [zi v1, zi v2]) (st := []) d_X8_lie_47 rfl cv8_261 ⟨Nat.le_of_ble_eq_true rfl, Nat.le_of_ble_eq_true rfl⟩ rfl rfl (Nat.le_of_ble_eq_true rfl) (Nat.le_of_ble_eq_true rfl) e20 (fun x25 M22 e23 => (aw_ri d_X8_lie_50 rfl e23))))))))))))))))))) (fun c14 => have e16 := e12.2 c14; (aw_ldc d_X8_lie_25 rfl ci8_195
(aw_ri d_X8_lie_27 rfl e16))))))))))))))))))
def LX8_tempted_50 (l : Launch) (P : Int → zM → Prop) (v1 : Int) (v2 : Int) (v3 : Int) (v4 : Int) (v5 : Int) (M : zM) : Prop := AW l m_X8_tempted (zTi m_X8_tempted P) 50 [(0, zr 8 0), (1, zi v1), (2, zi v2), (3, zi v3), (4, zi v4), (5, zi v5)] [] M
theorem vX8_tempted_50 {l : Launch} {P : Int → zM → Prop} {v1 : Int} {v2 : Int} {v3 : Int} {v4 : Int} {v5 : Int} {M : zM}
    (H0 : (zI v5 ∧ (400 < v5 → (zI v2 ∧ (v2 ≠ 0 → P v4 M) ∧ (v2 = 0 → P v3 M))) ∧ (v5 ≤ 400 → ((0 ≤ v5 ∧ v5 < 1000000) ∧ (CI l m_X8_gainByLie [zr 8 0, zi v1, zi (zntz v5)] M (fun x39 M36 => (zI x39 ∧ zI v3 ∧ (x39 ≤ v3 → LX8_tempted_50 l P v1 v2 v3 v4 (v5 + 1) M36) ∧ (v3 < x39 → LX8_tempted_50 l P v1 v2 x39 (zntz v5) (v5 + 1) M36)))))))) :
    LX8_tempted_50 l P v1 v2 v3 v4 v5 M :=
(aw_iload d_X8_tempted_50 rfl 5 rfl
(aw_sipush d_X8_tempted_52 rfl (by decide)
(have z22 := H0.1; have e23 := H0.2; aw_icmp_gt d_X8_tempted_55 rfl rfl z22 (by decide) (fun c24 => have e26 := e23.1 c24; (aw_iload_n d_X8_tempted_93 rfl rfl 2 rfl
(have z28 := e26.1; have e29 := e26.2; aw_if_ne d_X8_tempted_94 rfl rfl z28 (fun c30 => have e32 := e29.1 c30; (aw_iload d_X8_tempted_101 rfl 4 rfl
(aw_ri d_X8_tempted_103 rfl e32))) (fun c31 => have e33 := e29.2 c31; (aw_iload_n d_X8_tempted_97 rfl rfl 3 rfl
(aw_goto d_X8_tempted_98 rfl
(aw_ri d_X8_tempted_103 rfl e33))))))) (fun c25 => have e27 := e23.2 c25; (aw_iload d_X8_tempted_58 rfl 5 rfl
(have z34 := e27.1; have e35 := e27.2; (aw_SI (As := [zi v5]) (st := []) d_X8_tempted_60 rfl cs8_264 ⟨Nat.le_of_ble_eq_true rfl, Nat.le_of_ble_eq_true rfl⟩ rfl rfl (Nat.le_of_ble_eq_true rfl) (Nat.le_of_ble_eq_true rfl) (s_X8_nearestToZero z34) (fun _ _ hq => aw_eqs hq
(aw_istore (lv' := [(6, zi (zntz v5)), (0, zr 8 0), (1, zi v1), (2, zi v2), (3, zi v3), (4, zi v4), (5, zi v5)]) d_X8_tempted_63 rfl (by decide) rfl
(aw_aload_n d_X8_tempted_65 rfl rfl 1 rfl (by decide)
(aw_iload_n d_X8_tempted_66 rfl rfl 2 rfl
(aw_iload d_X8_tempted_67 rfl 0 rfl
(aw_VI (As := [zi v1, zi (zntz v5)]) (st := []) d_X8_tempted_69 rfl cv8_261 ⟨Nat.le_of_ble_eq_true rfl, Nat.le_of_ble_eq_true rfl⟩ rfl rfl (Nat.le_of_ble_eq_true rfl) (Nat.le_of_ble_eq_true rfl) e35 (fun x39 M36 e37 => (aw_istore (lv' := [(7, zi x39), (6, zi (zntz v5)), (0, zr 8 0), (1, zi v1), (2, zi v2), (3, zi v3), (4, zi v4), (5, zi v5)]) d_X8_tempted_72 rfl (by decide) rfl
(aw_iload d_X8_tempted_74 rfl 0 rfl
(aw_iload_n d_X8_tempted_76 rfl rfl 5 rfl
(have z40 := e37.1; have z41 := e37.2.1; have e42 := e37.2.2; aw_icmp_le d_X8_tempted_77 rfl rfl z40 z41 (fun c43 => have e45 := e42.1 c43; (aw_iinc (lv' := [(5, zi (v5 + 1)), (7, zi x39), (6, zi (zntz v5)), (0, zr 8 0), (1, zi v1), (2, zi v2), (3, zi v3), (4, zi v4)]) (y := (v5 + 1)) d_X8_tempted_87 rfl 7 rfl (by decide) rfl rfl
(aw_goto d_X8_tempted_90 rfl
(aw_sub [3, 4, 5, 6, 7, 0] rfl e45)))) (fun c44 => have e46 := e42.2 c44; (aw_iload d_X8_tempted_80 rfl 0 rfl
(aw_istore_n (lv' := [(3, zi x39), (7, zi x39), (6, zi (zntz v5)), (0, zr 8 0), (1, zi v1), (2, zi v2), (4, zi v4), (5, zi v5)]) d_X8_tempted_82 rfl rfl (by decide) rfl
(aw_iload d_X8_tempted_83 rfl 2 rfl
(aw_istore (lv' := [(4, zi (zntz v5)), (3, zi x39), (7, zi x39), (6, zi (zntz v5)), (0, zr 8 0), (1, zi v1), (2, zi v2), (5, zi v5)]) d_X8_tempted_85 rfl (by decide) rfl
(aw_iinc (lv' := [(5, zi (v5 + 1)), (4, zi (zntz v5)), (3, zi x39), (7, zi x39), (6, zi (zntz v5)), (0, zr 8 0), (1, zi v1), (2, zi v2)]) (y := (v5 + 1)) d_X8_tempted_87 rfl 7 rfl (by decide) rfl rfl
(aw_goto d_X8_tempted_90 rfl
(aw_sub [5, 6, 7, 2, 1, 0] rfl e46))))))))))))))))))))))))))
theorem vX8_tempted {l : Launch} {P : Int → zM → Prop} {v1 : Int} {v2 : Int} {M : zM}
    (H0 : ((hW M 0 ∧ zI v1) ∧ ((¬ (0 ≤ v1 ∧ v1 < M 1 0 6) → P (-2147483648) M) ∧ (0 ≤ v1 ∧ v1 < M 1 0 6 → (zI v2 ∧ ((v2 = 0 ∨ v2 = 1 → ((hW M 0 ∧ 0 ≤ v1 ∧ v1 < M 1 0 6) ∧ (CV l m_X8_setAside [zr 8 0, zi (qgr (hS M 0) v1), zi (zshl 1 v1)] M (fun M15 => (CI l m_X8_gainByLie [zr 8 0, zi v1, zi 0] M15 (fun x21 M18 => LX8_tempted_50 l P v1 v2 x21 0 1 M18)))))) ∧ (¬ (v2 = 0 ∨ v2 = 1) → P (-2147483648) M))))))) :
    CI l m_X8_tempted [zr 8 0, zi v1, zi v2] M P :=
(aw_aload_n d_X8_tempted_0 rfl rfl 0 rfl (by decide)
(aw_getR (k' := 1) (a := 0) (b := 0) (j := 0) d_X8_tempted_1 rfl fl8_12 rfl zj0 ⟨by decide, fun _ => by decide⟩
(aw_iload_n d_X8_tempted_4 rfl rfl 1 rfl
(have z1 := H0.1; have e2 := H0.2; (aw_VI (As := [zi v1]) (st := []) d_X8_tempted_5 rfl cv8_110 ⟨Nat.le_of_ble_eq_true rfl, Nat.le_of_ble_eq_true rfl⟩ rfl rfl (Nat.le_of_ble_eq_true rfl) (Nat.le_of_ble_eq_true rfl) (s_X1_has z1) (fun _ _ hq => aw_eqs hq
(aw_if_eq d_X8_tempted_8 rfl rfl zb_I (fun c3 => have e5 := e2.1 (zb_0 c3); (aw_ldc d_X8_tempted_18 rfl ci8_195
(aw_ri d_X8_tempted_20 rfl e5))) (fun c4 => have e6 := e2.2 (zb_n0 c4); (aw_iload_n d_X8_tempted_11 rfl rfl 2 rfl
(have z7 := e6.1; have e8 := e6.2; (aw_SI (As := [zi v2]) (st := []) d_X8_tempted_12 rfl cs8_248 ⟨Nat.le_of_ble_eq_true rfl, Nat.le_of_ble_eq_true rfl⟩ rfl rfl (Nat.le_of_ble_eq_true rfl) (Nat.le_of_ble_eq_true rfl) (s_X8_isZeroOrOne z7) (fun _ _ hq => aw_eqs hq
(aw_if_ne d_X8_tempted_15 rfl rfl zb_I (fun c9 => have e11 := e8.1 (zb_n0 c9); (aw_aload_n d_X8_tempted_21 rfl rfl 0 rfl (by decide)
(aw_aload_n d_X8_tempted_22 rfl rfl 0 rfl (by decide)
(aw_getR (k' := 1) (a := 0) (b := 0) (j := 0) d_X8_tempted_23 rfl fl8_12 rfl zj0 ⟨by decide, fun _ => by decide⟩
(aw_iload_n d_X8_tempted_26 rfl rfl 1 rfl
(have z13 := e11.1; have e14 := e11.2; (aw_VI (As := [zi v1]) (st := [zr 8 0]) d_X8_tempted_27 rfl cv8_196 ⟨Nat.le_of_ble_eq_true rfl, Nat.le_of_ble_eq_true rfl⟩ rfl rfl (Nat.le_of_ble_eq_true rfl) (Nat.le_of_ble_eq_true rfl) (s_X1_gradeOf z13) (fun _ _ hq => aw_eqs hq
(aw_iload_n d_X8_tempted_30 rfl rfl 1 rfl
(aw_SI (As := [zi v1]) (st := [zi (qgr (hS M 0) v1), zr 8 0]) d_X8_tempted_31 rfl cs8_255 ⟨Nat.le_of_ble_eq_true rfl, Nat.le_of_ble_eq_true rfl⟩ rfl rfl (Nat.le_of_ble_eq_true rfl) (Nat.le_of_ble_eq_true rfl) (s_X8_bit) (fun _ _ hq => aw_eqs hq
(aw_VV (As := [zi (qgr (hS M 0) v1), zi (zshl 1 v1)]) (st := []) d_X8_tempted_34 rfl cv8_258 ⟨Nat.le_of_ble_eq_true rfl, Nat.le_of_ble_eq_true rfl⟩ rfl rfl (Nat.le_of_ble_eq_true rfl) (Nat.le_of_ble_eq_true rfl) e14 (fun M15 e16 => (aw_aload_n d_X8_tempted_37 rfl rfl 0 rfl (by decide)
(aw_iload_n d_X8_tempted_38 rfl rfl 1 rfl
(aw_iconst d_X8_tempted_39 rfl
(aw_VI (As := [zi v1, zi 0]) (st := []) d_X8_tempted_40 rfl cv8_261 ⟨Nat.le_of_ble_eq_true rfl, Nat.le_of_ble_eq_true rfl⟩ rfl rfl (Nat.le_of_ble_eq_true rfl) (Nat.le_of_ble_eq_true rfl) e16 (fun x21 M18 e19 => (aw_istore_n (lv' := [(3, zi x21), (0, zr 8 0), (1, zi v1), (2, zi v2)]) d_X8_tempted_43 rfl rfl (by decide) rfl
(aw_iconst d_X8_tempted_44 rfl
(aw_istore (lv' := [(4, zi 0), (3, zi x21), (0, zr 8 0), (1, zi v1), (2, zi v2)]) d_X8_tempted_45 rfl (by decide) rfl
(aw_iconst d_X8_tempted_47 rfl
(aw_istore (lv' := [(5, zi 1), (4, zi 0), (3, zi x21), (0, zr 8 0), (1, zi v1), (2, zi v2)]) d_X8_tempted_48 rfl (by decide) rfl
(aw_sub [3, 4, 5, 2, 1, 0] rfl e19)))))))))))))))))))))))) (fun c10 => have e12 := e8.2 (zb_0 c10); (aw_ldc d_X8_tempted_18 rfl ci8_195
(aw_ri d_X8_tempted_20 rfl e12))))))))))))))))
def LX8_pact_61 (l : Launch) (P : Int → zM → Prop) (v1 : Int) (v2 : Int) (v3 : Int) (v4 : Int) (v5 : Int) (v6 : Int) (v7 : Int) (M : zM) : Prop := AW l m_X8_pact (zTi m_X8_pact P) 61 [(0, zr 8 0), (1, zi v1), (2, zi v2), (3, zi v3), (4, zi v4), (5, zi v5), (6, zi v6), (7, zi v7)] [] M
theorem vX8_pact_61 {l : Launch} {P : Int → zM → Prop} {v1 : Int} {v2 : Int} {v3 : Int} {v4 : Int} {v5 : Int} {v6 : Int} {v7 : Int} {M : zM}
    (H0 : (zI v7 ∧ (200 < v7 → (zI v3 ∧ (v3 ≠ 1 → ((v3 ≠ 0 → P (v5 - v4) M) ∧ (v3 = 0 → P v5 M))) ∧ (v3 = 1 → P v6 M))) ∧ (v7 ≤ 200 → ((0 ≤ v7 ∧ v7 < 1000000) ∧ (CI l m_X8_gainByPact [zr 8 0, zi v1, zi v2, zi (zntz v7)] M (fun x51 M48 => (zI x51 ∧ zI v5 ∧ (x51 ≤ v5 → LX8_pact_61 l P v1 v2 v3 v4 v5 v6 (v7 + 1) M48) ∧ (v5 < x51 → LX8_pact_61 l P v1 v2 v3 v4 x51 (zntz v7) (v7 + 1) M48)))))))) :
    LX8_pact_61 l P v1 v2 v3 v4 v5 v6 v7 M :=
(aw_iload d_X8_pact_61 rfl 7 rfl
(aw_sipush d_X8_pact_63 rfl (by decide)
(have z30 := H0.1; have e31 := H0.2; aw_icmp_gt d_X8_pact_66 rfl rfl z30 (by decide) (fun c32 => have e34 := e31.1 c32; (aw_iload_n d_X8_pact_107 rfl rfl 3 rfl
(aw_iconst d_X8_pact_108 rfl
(have z36 := e34.1; have e37 := e34.2; aw_icmp_ne d_X8_pact_109 rfl rfl z36 (by decide) (fun c38 => have e40 := e37.1 c38; (aw_iload_n d_X8_pact_115 rfl rfl 3 rfl
(aw_if_ne d_X8_pact_116 rfl rfl z36 (fun c42 => have e44 := e40.1 c42; (aw_iload d_X8_pact_124 rfl 5 rfl
(aw_iload d_X8_pact_126 rfl 4 rfl
(aw_isub d_X8_pact_128 rfl
(aw_ri d_X8_pact_129 rfl e44))))) (fun c43 => have e45 := e40.2 c43; (aw_iload d_X8_pact_119 rfl 5 rfl
(aw_goto d_X8_pact_121 rfl
(aw_ri d_X8_pact_129 rfl e45))))))) (fun c39 => have e41 := e37.2 c39; (aw_iload d_X8_pact_112 rfl 6 rfl
(aw_ri d_X8_pact_114 rfl e41))))))) (fun c33 => have e35 := e31.2 c33; (aw_iload d_X8_pact_69 rfl 7 rfl
(have z46 := e35.1; have e47 := e35.2; (aw_SI (As := [zi v7]) (st := []) d_X8_pact_71 rfl cs8_264 ⟨Nat.le_of_ble_eq_true rfl, Nat.le_of_ble_eq_true rfl⟩ rfl rfl (Nat.le_of_ble_eq_true rfl) (Nat.le_of_ble_eq_true rfl) (s_X8_nearestToZero z46) (fun _ _ hq => aw_eqs hq
(aw_istore (lv' := [(8, zi (zntz v7)), (0, zr 8 0), (1, zi v1), (2, zi v2), (3, zi v3), (4, zi v4), (5, zi v5), (6, zi v6), (7, zi v7)]) d_X8_pact_74 rfl (by decide) rfl
(aw_aload_n d_X8_pact_76 rfl rfl 1 rfl (by decide)
(aw_iload_n d_X8_pact_77 rfl rfl 2 rfl
(aw_iload_n d_X8_pact_78 rfl rfl 3 rfl
(aw_iload d_X8_pact_79 rfl 0 rfl
(aw_VI (As := [zi v1, zi v2, zi (zntz v7)]) (st := []) d_X8_pact_81 rfl cv8_386 ⟨Nat.le_of_ble_eq_true rfl, Nat.le_of_ble_eq_true rfl⟩ rfl rfl (Nat.le_of_ble_eq_true rfl) (Nat.le_of_ble_eq_true rfl) e47 (fun x51 M48 e49 => (aw_istore (lv' := [(9, zi x51), (8, zi (zntz v7)), (0, zr 8 0), (1, zi v1), (2, zi v2), (3, zi v3), (4, zi v4), (5, zi v5), (6, zi v6), (7, zi v7)]) d_X8_pact_84 rfl (by decide) rfl
(aw_iload d_X8_pact_86 rfl 0 rfl
(aw_iload d_X8_pact_88 rfl 7 rfl
(have z52 := e49.1; have z53 := e49.2.1; have e54 := e49.2.2; aw_icmp_le d_X8_pact_90 rfl rfl z52 z53 (fun c55 => have e57 := e54.1 c55; (aw_iinc (lv' := [(7, zi (v7 + 1)), (9, zi x51), (8, zi (zntz v7)), (0, zr 8 0), (1, zi v1), (2, zi v2), (3, zi v3), (4, zi v4), (5, zi v5), (6, zi v6)]) (y := (v7 + 1)) d_X8_pact_101 rfl 9 rfl (by decide) rfl rfl
(aw_goto d_X8_pact_104 rfl
(aw_sub [3, 4, 5, 6, 7, 8, 9, 0] rfl e57)))) (fun c56 => have e58 := e54.2 c56; (aw_iload d_X8_pact_93 rfl 0 rfl
(aw_istore (lv' := [(5, zi x51), (9, zi x51), (8, zi (zntz v7)), (0, zr 8 0), (1, zi v1), (2, zi v2), (3, zi v3), (4, zi v4), (6, zi v6), (7, zi v7)]) d_X8_pact_95 rfl (by decide) rfl
(aw_iload d_X8_pact_97 rfl 2 rfl
(aw_istore (lv' := [(6, zi (zntz v7)), (5, zi x51), (9, zi x51), (8, zi (zntz v7)), (0, zr 8 0), (1, zi v1), (2, zi v2), (3, zi v3), (4, zi v4), (7, zi v7)]) d_X8_pact_99 rfl (by decide) rfl
(aw_iinc (lv' := [(7, zi (v7 + 1)), (6, zi (zntz v7)), (5, zi x51), (9, zi x51), (8, zi (zntz v7)), (0, zr 8 0), (1, zi v1), (2, zi v2), (3, zi v3), (4, zi v4)]) (y := (v7 + 1)) d_X8_pact_101 rfl 9 rfl (by decide) rfl rfl
(aw_goto d_X8_pact_104 rfl
(aw_sub [5, 6, 7, 8, 9, 2, 1, 0] rfl e58)))))))))))))))))))))))))))
theorem vX8_pact {l : Launch} {P : Int → zM → Prop} {v1 : Int} {v2 : Int} {v3 : Int} {M : zM}
    (H0 : (CI l m_X8_areTwoOfOneGrade [zr 8 0, zi v1, zi v2] M (fun x4 M1 => (zI x4 ∧ (x4 = 0 → P (-2147483648) M1) ∧ (x4 ≠ 0 → (zI v3 ∧ (v3 < 0 → P (-2147483648) M1) ∧ (0 ≤ v3 → ((v3 ≤ 2 → ((hW M1 0 ∧ 0 ≤ v1 ∧ v1 < M1 1 0 6) ∧ (CV l m_X8_setAside [zr 8 0, zi (qgr (hS M1 0) v1), zi (zor (zshl 1 v1) (zshl 1 v2))] M1 (fun M23 => (CI l m_X8_gainByPact [zr 8 0, zi v1, zi v2, zi 0] M23 (fun x29 M26 => LX8_pact_61 l P v1 v2 v3 x29 x29 0 1 M26)))))) ∧ (2 < v3 → P (-2147483648) M1))))))))) :
    CI l m_X8_pact [zr 8 0, zi v1, zi v2, zi v3] M P :=
(aw_aload_n d_X8_pact_0 rfl rfl 0 rfl (by decide)
(aw_iload_n d_X8_pact_1 rfl rfl 1 rfl
(aw_iload_n d_X8_pact_2 rfl rfl 2 rfl
(aw_VI (As := [zi v1, zi v2]) (st := []) d_X8_pact_3 rfl cv8_360 ⟨Nat.le_of_ble_eq_true rfl, Nat.le_of_ble_eq_true rfl⟩ rfl rfl (Nat.le_of_ble_eq_true rfl) (Nat.le_of_ble_eq_true rfl) H0 (fun x4 M1 e2 => (have z5 := e2.1; have e6 := e2.2; aw_if_eq d_X8_pact_6 rfl rfl z5 (fun c7 => have e9 := e6.1 c7; (aw_ldc d_X8_pact_18 rfl ci8_195
(aw_ri d_X8_pact_20 rfl e9))) (fun c8 => have e10 := e6.2 c8; (aw_iload_n d_X8_pact_9 rfl rfl 3 rfl
(have z11 := e10.1; have e12 := e10.2; aw_if_lt d_X8_pact_10 rfl rfl z11 (fun c13 => have e15 := e12.1 c13; (aw_ldc d_X8_pact_18 rfl ci8_195
(aw_ri d_X8_pact_20 rfl e15))) (fun c14 => have e16 := e12.2 c14; (aw_iload_n d_X8_pact_13 rfl rfl 3 rfl
(aw_iconst d_X8_pact_14 rfl
(aw_icmp_le d_X8_pact_15 rfl rfl z11 (by decide) (fun c17 => have e19 := e16.1 c17; (aw_aload_n d_X8_pact_21 rfl rfl 0 rfl (by decide)
(aw_aload_n d_X8_pact_22 rfl rfl 0 rfl (by decide)
(aw_getR (k' := 1) (a := 0) (b := 0) (j := 0) d_X8_pact_23 rfl fl8_12 rfl zj0 ⟨by decide, fun _ => by decide⟩
(aw_iload_n d_X8_pact_26 rfl rfl 1 rfl
(have z21 := e19.1; have e22 := e19.2; (aw_VI (As := [zi v1]) (st := [zr 8 0]) d_X8_pact_27 rfl cv8_196 ⟨Nat.le_of_ble_eq_true rfl, Nat.le_of_ble_eq_true rfl⟩ rfl rfl (Nat.le_of_ble_eq_true rfl) (Nat.le_of_ble_eq_true rfl) (s_X1_gradeOf z21) (fun _ _ hq => aw_eqs hq
(aw_iload_n d_X8_pact_30 rfl rfl 1 rfl
(aw_SI (As := [zi v1]) (st := [zi (qgr (hS M1 0) v1), zr 8 0]) d_X8_pact_31 rfl cs8_255 ⟨Nat.le_of_ble_eq_true rfl, Nat.le_of_ble_eq_true rfl⟩ rfl rfl (Nat.le_of_ble_eq_true rfl) (Nat.le_of_ble_eq_true rfl) (s_X8_bit) (fun _ _ hq => aw_eqs hq
(aw_iload_n d_X8_pact_34 rfl rfl 2 rfl
(aw_SI (As := [zi v2]) (st := [zi (zshl 1 v1), zi (qgr (hS M1 0) v1), zr 8 0]) d_X8_pact_35 rfl cs8_255 ⟨Nat.le_of_ble_eq_true rfl, Nat.le_of_ble_eq_true rfl⟩ rfl rfl (Nat.le_of_ble_eq_true rfl) (Nat.le_of_ble_eq_true rfl) (s_X8_bit) (fun _ _ hq => aw_eqs hq
(aw_ior d_X8_pact_38 rfl zor_h
(aw_VV (As := [zi (qgr (hS M1 0) v1), zi (zor (zshl 1 v1) (zshl 1 v2))]) (st := []) d_X8_pact_39 rfl cv8_258 ⟨Nat.le_of_ble_eq_true rfl, Nat.le_of_ble_eq_true rfl⟩ rfl rfl (Nat.le_of_ble_eq_true rfl) (Nat.le_of_ble_eq_true rfl) e22 (fun M23 e24 => (aw_aload_n d_X8_pact_42 rfl rfl 0 rfl (by decide)
(aw_iload_n d_X8_pact_43 rfl rfl 1 rfl
(aw_iload_n d_X8_pact_44 rfl rfl 2 rfl
(aw_iconst d_X8_pact_45 rfl
(aw_VI (As := [zi v1, zi v2, zi 0]) (st := []) d_X8_pact_46 rfl cv8_386 ⟨Nat.le_of_ble_eq_true rfl, Nat.le_of_ble_eq_true rfl⟩ rfl rfl (Nat.le_of_ble_eq_true rfl) (Nat.le_of_ble_eq_true rfl) e24 (fun x29 M26 e27 => (aw_istore (lv' := [(4, zi x29), (0, zr 8 0), (1, zi v1), (2, zi v2), (3, zi v3)]) d_X8_pact_49 rfl (by decide) rfl
(aw_iload d_X8_pact_51 rfl 0 rfl
(aw_istore (lv' := [(5, zi x29), (4, zi x29), (0, zr 8 0), (1, zi v1), (2, zi v2), (3, zi v3)]) d_X8_pact_53 rfl (by decide) rfl
(aw_iconst d_X8_pact_55 rfl
(aw_istore (lv' := [(6, zi 0), (5, zi x29), (4, zi x29), (0, zr 8 0), (1, zi v1), (2, zi v2), (3, zi v3)]) d_X8_pact_56 rfl (by decide) rfl
(aw_iconst d_X8_pact_58 rfl
(aw_istore (lv' := [(7, zi 1), (6, zi 0), (5, zi x29), (4, zi x29), (0, zr 8 0), (1, zi v1), (2, zi v2), (3, zi v3)]) d_X8_pact_59 rfl (by decide) rfl
(aw_sub [4, 5, 6, 7, 3, 2, 1, 0] rfl e27))))))))))))))))))))))))))))))) (fun c18 => have e20 := e16.2 c18; (aw_ldc d_X8_pact_18 rfl ci8_195
(aw_ri d_X8_pact_20 rfl e20))))))))))))))))
theorem vX9_lie {l : Launch} {P : Int → zM → Prop} {v1 : Int} {v2 : Int} {M : zM}
    (H0 : ((zI v1 ∧ (0 ≤ M 27 0 180 ∧ M 27 0 180 ≤ 20)) ∧ ((¬ (0 ≤ v1 ∧ v1 < M 27 0 180) → P (-2147483648) M) ∧ (0 ≤ v1 ∧ v1 < M 27 0 180 → (zI v2 ∧ ((zJ v2 ∧ zJ (-500) ∧ zJ 500) ∧ ((¬ ((-500) ≤ v2 ∧ v2 ≤ 500) → P (-2147483648) M) ∧ ((-500) ≤ v2 ∧ v2 ≤ 500 → (CI l m_X9_gainBy [zr 9 0, zi v1, zi v2] M (fun x18 M15 => P x18 M15)))))))))) :
    CI l m_X9_lie [zr 9 0, zi v1, zi v2] M P :=
(aw_aload_n d_X9_lie_0 rfl rfl 0 rfl (by decide)
(aw_iload_n d_X9_lie_1 rfl rfl 1 rfl
(have z1 := H0.1; have e2 := H0.2; (aw_VI (As := [zi v1]) (st := []) d_X9_lie_2 rfl cv9_189 ⟨Nat.le_of_ble_eq_true rfl, Nat.le_of_ble_eq_true rfl⟩ rfl rfl (Nat.le_of_ble_eq_true rfl) (Nat.le_of_ble_eq_true rfl) (s_X9_isTrader z1) (fun _ _ hq => aw_eqs hq
(aw_if_eq d_X9_lie_5 rfl rfl zb_I (fun c3 => have e5 := e2.1 (zb_0 c3); (aw_ldc d_X9_lie_31 rfl ci9_192
(aw_ri d_X9_lie_33 rfl e5))) (fun c4 => have e6 := e2.2 (zb_n0 c4); (aw_iload_n d_X9_lie_8 rfl rfl 2 rfl
(have z7 := e6.1; have e8 := e6.2; (aw_i2l d_X9_lie_9 rfl z7
(aw_ldc2 d_X9_lie_10 rfl cl9_207
(aw_ldc2 d_X9_lie_13 rfl cl9_209
(have z9 := e8.1; have e10 := e8.2; (aw_SI (As := [zl v2, zl (-500), zl 500]) (st := []) d_X9_lie_16 rfl cs9_82 ⟨Nat.le_of_ble_eq_true rfl, Nat.le_of_ble_eq_true rfl⟩ rfl rfl (Nat.le_of_ble_eq_true rfl) (Nat.le_of_ble_eq_true rfl) (s_X9_in z9) (fun _ _ hq => aw_eqs hq
(aw_if_eq d_X9_lie_19 rfl rfl zb_I (fun c11 => have e13 := e10.1 (zb_0 c11); (aw_ldc d_X9_lie_31 rfl ci9_192
(aw_ri d_X9_lie_33 rfl e13))) (fun c12 => have e14 := e10.2 (zb_n0 c12); (aw_aload_n d_X9_lie_22 rfl rfl 0 rfl (by decide)
(aw_iload_n d_X9_lie_23 rfl rfl 1 rfl
(aw_iload_n d_X9_lie_24 rfl rfl 2 rfl
(aw_VI (As := [zi v1, zi v2]) (st := []) d_X9_lie_25 rfl cv9_211 ⟨Nat.le_of_ble_eq_true rfl, Nat.le_of_ble_eq_true rfl⟩ rfl rfl (Nat.le_of_ble_eq_true rfl) (Nat.le_of_ble_eq_true rfl) e14 (fun x18 M15 e16 => (aw_goto d_X9_lie_28 rfl
(aw_ri d_X9_lie_33 rfl e16))))))))))))))))))))))))
def LX9_tempted_34 (l : Launch) (P : Int → zM → Prop) (v1 : Int) (v2 : Int) (v3 : Int) (v4 : Int) (v5 : Int) (M : zM) : Prop := AW l m_X9_tempted (zTi m_X9_tempted P) 34 [(0, zr 9 0), (1, zi v1), (2, zi v2), (3, zi v3), (4, zi v4), (5, zi v5)] [] M
def LX9_tempted_47 (l : Launch) (P : Int → zM → Prop) (v1 : Int) (v2 : Int) (v3 : Int) (v4 : Int) (v5 : Int) (v6 : Int) (M : zM) : Prop := AW l m_X9_tempted (zTi m_X9_tempted P) 47 [(0, zr 9 0), (1, zi v1), (2, zi v2), (3, zi v3), (4, zi v4), (5, zi v5), (6, zi v6)] [] M
theorem vX9_tempted_34 {l : Launch} {P : Int → zM → Prop} {v1 : Int} {v2 : Int} {v3 : Int} {v4 : Int} {v5 : Int} {M : zM}
    (H0 : (zI v5 ∧ (200 < v5 → (zI v2 ∧ (v2 ≠ 0 → P v3 M) ∧ (v2 = 0 → P v4 M))) ∧ (v5 ≤ 200 → LX9_tempted_47 l P v1 v2 v3 v4 v5 (-v5) M))) :
    LX9_tempted_34 l P v1 v2 v3 v4 v5 M :=
(aw_iload d_X9_tempted_34 rfl 5 rfl
(aw_sipush d_X9_tempted_36 rfl (by decide)
(have z19 := H0.1; have e20 := H0.2; aw_icmp_gt d_X9_tempted_39 rfl rfl z19 (by decide) (fun c21 => have e23 := e20.1 c21; (aw_iload_n d_X9_tempted_98 rfl rfl 2 rfl
(have z25 := e23.1; have e26 := e23.2; aw_if_ne d_X9_tempted_99 rfl rfl z25 (fun c27 => have e29 := e26.1 c27; (aw_iload_n d_X9_tempted_107 rfl rfl 3 rfl
(aw_ri d_X9_tempted_108 rfl e29))) (fun c28 => have e30 := e26.2 c28; (aw_iload d_X9_tempted_102 rfl 4 rfl
(aw_goto d_X9_tempted_104 rfl
(aw_ri d_X9_tempted_108 rfl e30))))))) (fun c22 => have e24 := e20.2 c22; (aw_iload d_X9_tempted_42 rfl 5 rfl
(aw_ineg d_X9_tempted_44 rfl
(aw_istore (lv' := [(6, zi (-v5)), (0, zr 9 0), (1, zi v1), (2, zi v2), (3, zi v3), (4, zi v4), (5, zi v5)]) d_X9_tempted_45 rfl (by decide) rfl
(aw_sub [1, 2, 3, 4, 5, 6, 0] rfl e24))))))))
theorem vX9_tempted_47 {l : Launch} {P : Int → zM → Prop} {v1 : Int} {v2 : Int} {v3 : Int} {v4 : Int} {v5 : Int} {v6 : Int} {M : zM}
    (H0 : (zI v6 ∧ zI v5 ∧ (v5 < v6 → LX9_tempted_34 l P v1 v2 v3 v4 (v5 + 1) M) ∧ (v6 ≤ v5 → (CI l m_X9_gainBy [zr 9 0, zi v1, zi v6] M (fun x41 M38 => (zI x41 ∧ zI v4 ∧ (v4 < x41 → LX9_tempted_47 l P v1 v2 v6 x41 v5 (v6 + (2 * v5)) M38) ∧ (x41 ≤ v4 → LX9_tempted_47 l P v1 v2 v3 v4 v5 (v6 + (2 * v5)) M38))))))) :
    LX9_tempted_47 l P v1 v2 v3 v4 v5 v6 M :=
(aw_iload d_X9_tempted_47 rfl 6 rfl
(aw_iload d_X9_tempted_49 rfl 5 rfl
(have z31 := H0.1; have z32 := H0.2.1; have e33 := H0.2.2; aw_icmp_gt d_X9_tempted_51 rfl rfl z31 z32 (fun c34 => have e36 := e33.1 c34; (aw_iinc (lv' := [(5, zi (v5 + 1)), (0, zr 9 0), (1, zi v1), (2, zi v2), (3, zi v3), (4, zi v4), (6, zi v6)]) (y := (v5 + 1)) d_X9_tempted_92 rfl 5 rfl (by decide) rfl rfl
(aw_goto d_X9_tempted_95 rfl
(aw_sub [1, 2, 3, 4, 5, 0] rfl e36)))) (fun c35 => have e37 := e33.2 c35; (aw_aload_n d_X9_tempted_54 rfl rfl 0 rfl (by decide)
(aw_iload_n d_X9_tempted_55 rfl rfl 1 rfl
(aw_iload d_X9_tempted_56 rfl 6 rfl
(aw_VI (As := [zi v1, zi v6]) (st := []) d_X9_tempted_58 rfl cv9_211 ⟨Nat.le_of_ble_eq_true rfl, Nat.le_of_ble_eq_true rfl⟩ rfl rfl (Nat.le_of_ble_eq_true rfl) (Nat.le_of_ble_eq_true rfl) e37 (fun x41 M38 e39 => (aw_istore (lv' := [(7, zi x41), (0, zr 9 0), (1, zi v1), (2, zi v2), (3, zi v3), (4, zi v4), (5, zi v5), (6, zi v6)]) d_X9_tempted_61 rfl (by decide) rfl
(aw_iload d_X9_tempted_63 rfl 0 rfl
(aw_iload d_X9_tempted_65 rfl 5 rfl
(have z42 := e39.1; have z43 := e39.2.1; have e44 := e39.2.2; aw_icmp_gt d_X9_tempted_67 rfl rfl z42 z43 (fun c45 => have e47 := e44.1 c45; (aw_iload d_X9_tempted_73 rfl 0 rfl
(aw_istore (lv' := [(4, zi x41), (7, zi x41), (0, zr 9 0), (1, zi v1), (2, zi v2), (3, zi v3), (5, zi v5), (6, zi v6)]) d_X9_tempted_75 rfl (by decide) rfl
(aw_iload d_X9_tempted_77 rfl 7 rfl
(aw_istore_n (lv' := [(3, zi v6), (4, zi x41), (7, zi x41), (0, zr 9 0), (1, zi v1), (2, zi v2), (5, zi v5), (6, zi v6)]) d_X9_tempted_79 rfl rfl (by decide) rfl
(aw_iload d_X9_tempted_80 rfl 7 rfl
(aw_iconst d_X9_tempted_82 rfl
(aw_iload d_X9_tempted_83 rfl 6 rfl
(aw_imul d_X9_tempted_85 rfl
(aw_iadd d_X9_tempted_86 rfl
(aw_istore (lv' := [(6, zi (v6 + (2 * v5))), (3, zi v6), (4, zi x41), (7, zi x41), (0, zr 9 0), (1, zi v1), (2, zi v2), (5, zi v5)]) d_X9_tempted_87 rfl (by decide) rfl
(aw_goto d_X9_tempted_89 rfl
(aw_sub [4, 5, 6, 1, 2, 7, 0] rfl e47))))))))))))) (fun c46 => have e48 := e44.2 c46; (aw_goto d_X9_tempted_70 rfl
(aw_iload d_X9_tempted_80 rfl 7 rfl
(aw_iconst d_X9_tempted_82 rfl
(aw_iload d_X9_tempted_83 rfl 6 rfl
(aw_imul d_X9_tempted_85 rfl
(aw_iadd d_X9_tempted_86 rfl
(aw_istore (lv' := [(6, zi (v6 + (2 * v5))), (7, zi x41), (0, zr 9 0), (1, zi v1), (2, zi v2), (3, zi v3), (4, zi v4), (5, zi v5)]) d_X9_tempted_87 rfl (by decide) rfl
(aw_goto d_X9_tempted_89 rfl
(aw_sub [2, 3, 4, 5, 6, 7, 0] rfl e48)))))))))))))))))))))))
theorem vX9_tempted {l : Launch} {P : Int → zM → Prop} {v1 : Int} {v2 : Int} {M : zM}
    (H0 : ((zI v1 ∧ (0 ≤ M 27 0 180 ∧ M 27 0 180 ≤ 20)) ∧ ((¬ (0 ≤ v1 ∧ v1 < M 27 0 180) → P (-2147483648) M) ∧ (0 ≤ v1 ∧ v1 < M 27 0 180 → (zI v2 ∧ ((zJ v2 ∧ zJ 0 ∧ zJ 1) ∧ ((0 ≤ v2 ∧ v2 ≤ 1 → (CI l m_X9_gainBy [zr 9 0, zi v1, zi 0] M (fun x18 M15 => LX9_tempted_34 l P v1 v2 0 x18 1 M15))) ∧ (¬ (0 ≤ v2 ∧ v2 ≤ 1) → P (-2147483648) M)))))))) :
    CI l m_X9_tempted [zr 9 0, zi v1, zi v2] M P :=
(aw_aload_n d_X9_tempted_0 rfl rfl 0 rfl (by decide)
(aw_iload_n d_X9_tempted_1 rfl rfl 1 rfl
(have z1 := H0.1; have e2 := H0.2; (aw_VI (As := [zi v1]) (st := []) d_X9_tempted_2 rfl cv9_189 ⟨Nat.le_of_ble_eq_true rfl, Nat.le_of_ble_eq_true rfl⟩ rfl rfl (Nat.le_of_ble_eq_true rfl) (Nat.le_of_ble_eq_true rfl) (s_X9_isTrader z1) (fun _ _ hq => aw_eqs hq
(aw_if_eq d_X9_tempted_5 rfl rfl zb_I (fun c3 => have e5 := e2.1 (zb_0 c3); (aw_ldc d_X9_tempted_18 rfl ci9_192
(aw_ri d_X9_tempted_20 rfl e5))) (fun c4 => have e6 := e2.2 (zb_n0 c4); (aw_iload_n d_X9_tempted_8 rfl rfl 2 rfl
(have z7 := e6.1; have e8 := e6.2; (aw_i2l d_X9_tempted_9 rfl z7
(aw_lconst (x := 0) d_X9_tempted_10 rfl (by decide)
(aw_lconst (x := 1) d_X9_tempted_11 rfl (by decide)
(have z9 := e8.1; have e10 := e8.2; (aw_SI (As := [zl v2, zl 0, zl 1]) (st := []) d_X9_tempted_12 rfl cs9_82 ⟨Nat.le_of_ble_eq_true rfl, Nat.le_of_ble_eq_true rfl⟩ rfl rfl (Nat.le_of_ble_eq_true rfl) (Nat.le_of_ble_eq_true rfl) (s_X9_in z9) (fun _ _ hq => aw_eqs hq
(aw_if_ne d_X9_tempted_15 rfl rfl zb_I (fun c11 => have e13 := e10.1 (zb_n0 c11); (aw_iconst d_X9_tempted_21 rfl
(aw_istore_n (lv' := [(3, zi 0), (0, zr 9 0), (1, zi v1), (2, zi v2)]) d_X9_tempted_22 rfl rfl (by decide) rfl
(aw_aload_n d_X9_tempted_23 rfl rfl 1 rfl (by decide)
(aw_iload_n d_X9_tempted_24 rfl rfl 2 rfl
(aw_iconst d_X9_tempted_25 rfl
(aw_VI (As := [zi v1, zi 0]) (st := []) d_X9_tempted_26 rfl cv9_211 ⟨Nat.le_of_ble_eq_true rfl, Nat.le_of_ble_eq_true rfl⟩ rfl rfl (Nat.le_of_ble_eq_true rfl) (Nat.le_of_ble_eq_true rfl) e13 (fun x18 M15 e16 => (aw_istore (lv' := [(4, zi x18), (3, zi 0), (0, zr 9 0), (1, zi v1), (2, zi v2)]) d_X9_tempted_29 rfl (by decide) rfl
(aw_iconst d_X9_tempted_31 rfl
(aw_istore (lv' := [(5, zi 1), (4, zi x18), (3, zi 0), (0, zr 9 0), (1, zi v1), (2, zi v2)]) d_X9_tempted_32 rfl (by decide) rfl
(aw_sub [3, 4, 5, 2, 1, 0] rfl e16)))))))))))) (fun c12 => have e14 := e10.2 (zb_0 c12); (aw_ldc d_X9_tempted_18 rfl ci9_192
(aw_ri d_X9_tempted_20 rfl e14)))))))))))))))))))
def LX9_pact_70 (l : Launch) (P : Int → zM → Prop) (v1 : Int) (v2 : Int) (v3 : Int) (v4 : Int) (v5 : Int) (v6 : Int) (v7 : Int) (M : zM) : Prop := AW l m_X9_pact (zTi m_X9_pact P) 70 [(0, zr 9 0), (1, zi v1), (2, zi v2), (3, zi v3), (4, zi v4), (5, zi v5), (6, zi v6), (7, zi v7)] [] M
def LX9_pact_82 (l : Launch) (P : Int → zM → Prop) (v1 : Int) (v2 : Int) (v3 : Int) (v4 : Int) (v5 : Int) (v6 : Int) (v7 : Int) (v8 : Int) (M : zM) : Prop := AW l m_X9_pact (zTi m_X9_pact P) 82 [(0, zr 9 0), (1, zi v1), (2, zi v2), (3, zi v3), (4, zi v4), (5, zi v5), (6, zi v6), (7, zi v7), (8, zi v8)] [] M
theorem vX9_pact_70 {l : Launch} {P : Int → zM → Prop} {v1 : Int} {v2 : Int} {v3 : Int} {v4 : Int} {v5 : Int} {v6 : Int} {v7 : Int} {M : zM}
    (H0 : (zI v7 ∧ (100 < v7 → (zI v3 ∧ (v3 ≠ 0 → ((v3 ≠ 1 → P (v6 - v4) M) ∧ (v3 = 1 → P v5 M))) ∧ (v3 = 0 → P v6 M))) ∧ (v7 ≤ 100 → LX9_pact_82 l P v1 v2 v3 v4 v5 v6 v7 (-v7) M))) :
    LX9_pact_70 l P v1 v2 v3 v4 v5 v6 v7 M :=
(aw_iload d_X9_pact_70 rfl 7 rfl
(aw_bipush d_X9_pact_72 rfl (by decide)
(have z43 := H0.1; have e44 := H0.2; aw_icmp_gt d_X9_pact_74 rfl rfl z43 (by decide) (fun c45 => have e47 := e44.1 c45; (aw_iload_n d_X9_pact_135 rfl rfl 3 rfl
(have z49 := e47.1; have e50 := e47.2; aw_if_ne d_X9_pact_136 rfl rfl z49 (fun c51 => have e53 := e50.1 c51; (aw_iload_n d_X9_pact_144 rfl rfl 3 rfl
(aw_iconst d_X9_pact_145 rfl
(aw_icmp_ne d_X9_pact_146 rfl rfl z49 (by decide) (fun c55 => have e57 := e53.1 c55; (aw_iload d_X9_pact_154 rfl 6 rfl
(aw_iload d_X9_pact_156 rfl 4 rfl
(aw_isub d_X9_pact_158 rfl
(aw_ri d_X9_pact_159 rfl e57))))) (fun c56 => have e58 := e53.2 c56; (aw_iload d_X9_pact_149 rfl 5 rfl
(aw_goto d_X9_pact_151 rfl
(aw_ri d_X9_pact_159 rfl e58)))))))) (fun c52 => have e54 := e50.2 c52; (aw_iload d_X9_pact_139 rfl 6 rfl
(aw_goto d_X9_pact_141 rfl
(aw_ri d_X9_pact_159 rfl e54))))))) (fun c46 => have e48 := e44.2 c46; (aw_iload d_X9_pact_77 rfl 7 rfl
(aw_ineg d_X9_pact_79 rfl
(aw_istore (lv' := [(8, zi (-v7)), (0, zr 9 0), (1, zi v1), (2, zi v2), (3, zi v3), (4, zi v4), (5, zi v5), (6, zi v6), (7, zi v7)]) d_X9_pact_80 rfl (by decide) rfl
(aw_sub [1, 2, 3, 4, 5, 6, 7, 8, 0] rfl e48))))))))
theorem vX9_pact_82 {l : Launch} {P : Int → zM → Prop} {v1 : Int} {v2 : Int} {v3 : Int} {v4 : Int} {v5 : Int} {v6 : Int} {v7 : Int} {v8 : Int} {M : zM}
    (H0 : (zI v8 ∧ zI v7 ∧ (v7 < v8 → LX9_pact_70 l P v1 v2 v3 v4 v5 v6 (v7 + 1) M) ∧ (v8 ≤ v7 → (CI l m_X9_pactBy [zr 9 0, zi v1, zi v2, zi v8] M (fun x69 M66 => (zI x69 ∧ zI v6 ∧ (v6 < x69 → LX9_pact_82 l P v1 v2 v3 v4 v8 x69 v7 (v8 + (2 * v7)) M66) ∧ (x69 ≤ v6 → LX9_pact_82 l P v1 v2 v3 v4 v5 v6 v7 (v8 + (2 * v7)) M66))))))) :
    LX9_pact_82 l P v1 v2 v3 v4 v5 v6 v7 v8 M :=
(aw_iload d_X9_pact_82 rfl 8 rfl
(aw_iload d_X9_pact_84 rfl 7 rfl
(have z59 := H0.1; have z60 := H0.2.1; have e61 := H0.2.2; aw_icmp_gt d_X9_pact_86 rfl rfl z59 z60 (fun c62 => have e64 := e61.1 c62; (aw_iinc (lv' := [(7, zi (v7 + 1)), (0, zr 9 0), (1, zi v1), (2, zi v2), (3, zi v3), (4, zi v4), (5, zi v5), (6, zi v6), (8, zi v8)]) (y := (v7 + 1)) d_X9_pact_129 rfl 7 rfl (by decide) rfl rfl
(aw_goto d_X9_pact_132 rfl
(aw_sub [1, 2, 3, 4, 5, 6, 7, 0] rfl e64)))) (fun c63 => have e65 := e61.2 c63; (aw_aload_n d_X9_pact_89 rfl rfl 0 rfl (by decide)
(aw_iload_n d_X9_pact_90 rfl rfl 1 rfl
(aw_iload_n d_X9_pact_91 rfl rfl 2 rfl
(aw_iload d_X9_pact_92 rfl 8 rfl
(aw_VI (As := [zi v1, zi v2, zi v8]) (st := []) d_X9_pact_94 rfl cv9_219 ⟨Nat.le_of_ble_eq_true rfl, Nat.le_of_ble_eq_true rfl⟩ rfl rfl (Nat.le_of_ble_eq_true rfl) (Nat.le_of_ble_eq_true rfl) e65 (fun x69 M66 e67 => (aw_istore (lv' := [(9, zi x69), (0, zr 9 0), (1, zi v1), (2, zi v2), (3, zi v3), (4, zi v4), (5, zi v5), (6, zi v6), (7, zi v7), (8, zi v8)]) d_X9_pact_97 rfl (by decide) rfl
(aw_iload d_X9_pact_99 rfl 0 rfl
(aw_iload d_X9_pact_101 rfl 7 rfl
(have z70 := e67.1; have z71 := e67.2.1; have e72 := e67.2.2; aw_icmp_gt d_X9_pact_103 rfl rfl z70 z71 (fun c73 => have e75 := e72.1 c73; (aw_iload d_X9_pact_109 rfl 0 rfl
(aw_istore (lv' := [(6, zi x69), (9, zi x69), (0, zr 9 0), (1, zi v1), (2, zi v2), (3, zi v3), (4, zi v4), (5, zi v5), (7, zi v7), (8, zi v8)]) d_X9_pact_111 rfl (by decide) rfl
(aw_iload d_X9_pact_113 rfl 9 rfl
(aw_istore (lv' := [(5, zi v8), (6, zi x69), (9, zi x69), (0, zr 9 0), (1, zi v1), (2, zi v2), (3, zi v3), (4, zi v4), (7, zi v7), (8, zi v8)]) d_X9_pact_115 rfl (by decide) rfl
(aw_iload d_X9_pact_117 rfl 9 rfl
(aw_iconst d_X9_pact_119 rfl
(aw_iload d_X9_pact_120 rfl 8 rfl
(aw_imul d_X9_pact_122 rfl
(aw_iadd d_X9_pact_123 rfl
(aw_istore (lv' := [(8, zi (v8 + (2 * v7))), (5, zi v8), (6, zi x69), (9, zi x69), (0, zr 9 0), (1, zi v1), (2, zi v2), (3, zi v3), (4, zi v4), (7, zi v7)]) d_X9_pact_124 rfl (by decide) rfl
(aw_goto d_X9_pact_126 rfl
(aw_sub [4, 5, 6, 7, 8, 1, 2, 9, 0] rfl e75))))))))))))) (fun c74 => have e76 := e72.2 c74; (aw_goto d_X9_pact_106 rfl
(aw_iload d_X9_pact_117 rfl 9 rfl
(aw_iconst d_X9_pact_119 rfl
(aw_iload d_X9_pact_120 rfl 8 rfl
(aw_imul d_X9_pact_122 rfl
(aw_iadd d_X9_pact_123 rfl
(aw_istore (lv' := [(8, zi (v8 + (2 * v7))), (9, zi x69), (0, zr 9 0), (1, zi v1), (2, zi v2), (3, zi v3), (4, zi v4), (5, zi v5), (6, zi v6), (7, zi v7)]) d_X9_pact_124 rfl (by decide) rfl
(aw_goto d_X9_pact_126 rfl
(aw_sub [2, 3, 4, 5, 6, 7, 8, 9, 0] rfl e76))))))))))))))))))))))))
theorem vX9_pact {l : Launch} {P : Int → zM → Prop} {v1 : Int} {v2 : Int} {v3 : Int} {M : zM}
    (H0 : ((zI v1 ∧ (0 ≤ M 27 0 180 ∧ M 27 0 180 ≤ 20)) ∧ ((¬ (0 ≤ v1 ∧ v1 < M 27 0 180) → P (-2147483648) M) ∧ (0 ≤ v1 ∧ v1 < M 27 0 180 → ((zI v2 ∧ (0 ≤ M 27 0 180 ∧ M 27 0 180 ≤ 20)) ∧ ((¬ (0 ≤ v2 ∧ v2 < M 27 0 180) → P (-2147483648) M) ∧ (0 ≤ v2 ∧ v2 < M 27 0 180 → (zI v1 ∧ zI v2 ∧ (v1 = v2 → P (-2147483648) M) ∧ (v1 ≠ v2 → ((0 ≤ 9 * v1 + 1 ∧ 9 * v1 + 1 < 187) ∧ ((0 ≤ 9 * v2 + 1 ∧ 9 * v2 + 1 < 187) ∧ (zI (M 27 0 (9 * v1 + 1)) ∧ zI (M 27 0 (9 * v2 + 1)) ∧ ((M 27 0 (9 * v1 + 1)) ≠ (M 27 0 (9 * v2 + 1)) → P (-2147483648) M) ∧ ((M 27 0 (9 * v1 + 1)) = (M 27 0 (9 * v2 + 1)) → (zI v3 ∧ ((zJ v3 ∧ zJ 0 ∧ zJ 2) ∧ ((0 ≤ v3 ∧ v3 ≤ 2 → (CI l m_X9_pactBy [zr 9 0, zi v1, zi v2, zi 0] M (fun x42 M39 => LX9_pact_70 l P v1 v2 v3 x42 0 x42 1 M39))) ∧ (¬ (0 ≤ v3 ∧ v3 ≤ 2) → P (-2147483648) M))))))))))))))))) :
    CI l m_X9_pact [zr 9 0, zi v1, zi v2, zi v3] M P :=
(aw_aload_n d_X9_pact_0 rfl rfl 0 rfl (by decide)
(aw_iload_n d_X9_pact_1 rfl rfl 1 rfl
(have z1 := H0.1; have e2 := H0.2; (aw_VI (As := [zi v1]) (st := []) d_X9_pact_2 rfl cv9_189 ⟨Nat.le_of_ble_eq_true rfl, Nat.le_of_ble_eq_true rfl⟩ rfl rfl (Nat.le_of_ble_eq_true rfl) (Nat.le_of_ble_eq_true rfl) (s_X9_isTrader z1) (fun _ _ hq => aw_eqs hq
(aw_if_eq d_X9_pact_5 rfl rfl zb_I (fun c3 => have e5 := e2.1 (zb_0 c3); (aw_ldc d_X9_pact_48 rfl ci9_192
(aw_ri d_X9_pact_50 rfl e5))) (fun c4 => have e6 := e2.2 (zb_n0 c4); (aw_aload_n d_X9_pact_8 rfl rfl 0 rfl (by decide)
(aw_iload_n d_X9_pact_9 rfl rfl 2 rfl
(have z7 := e6.1; have e8 := e6.2; (aw_VI (As := [zi v2]) (st := []) d_X9_pact_10 rfl cv9_189 ⟨Nat.le_of_ble_eq_true rfl, Nat.le_of_ble_eq_true rfl⟩ rfl rfl (Nat.le_of_ble_eq_true rfl) (Nat.le_of_ble_eq_true rfl) (s_X9_isTrader z7) (fun _ _ hq => aw_eqs hq
(aw_if_eq d_X9_pact_13 rfl rfl zb_I (fun c9 => have e11 := e8.1 (zb_0 c9); (aw_ldc d_X9_pact_48 rfl ci9_192
(aw_ri d_X9_pact_50 rfl e11))) (fun c10 => have e12 := e8.2 (zb_n0 c10); (aw_iload_n d_X9_pact_16 rfl rfl 1 rfl
(aw_iload_n d_X9_pact_17 rfl rfl 2 rfl
(have z13 := e12.1; have z14 := e12.2.1; have e15 := e12.2.2; aw_icmp_eq d_X9_pact_18 rfl rfl z13 z14 (fun c16 => have e18 := e15.1 c16; (aw_ldc d_X9_pact_48 rfl ci9_192
(aw_ri d_X9_pact_50 rfl e18))) (fun c17 => have e19 := e15.2 c17; (aw_aload_n d_X9_pact_21 rfl rfl 0 rfl (by decide)
(aw_iload_n d_X9_pact_22 rfl rfl 1 rfl
(aw_iconst d_X9_pact_23 rfl
(have z20 := e19.1; have e21 := e19.2; (aw_VI (As := [zi v1, zi 1]) (st := []) d_X9_pact_24 rfl cv9_88 ⟨Nat.le_of_ble_eq_true rfl, Nat.le_of_ble_eq_true rfl⟩ rfl rfl (Nat.le_of_ble_eq_true rfl) (Nat.le_of_ble_eq_true rfl) (s_X9_of z20) (fun _ _ hq => aw_eqs hq
(aw_aload_n d_X9_pact_27 rfl rfl 0 rfl (by decide)
(aw_iload_n d_X9_pact_28 rfl rfl 2 rfl
(aw_iconst d_X9_pact_29 rfl
(have z22 := e21.1; have e23 := e21.2; (aw_VI (As := [zi v2, zi 1]) (st := [zi (M 27 0 (9 * v1 + 1))]) d_X9_pact_30 rfl cv9_88 ⟨Nat.le_of_ble_eq_true rfl, Nat.le_of_ble_eq_true rfl⟩ rfl rfl (Nat.le_of_ble_eq_true rfl) (Nat.le_of_ble_eq_true rfl) (s_X9_of z22) (fun _ _ hq => aw_eqs hq
(have z24 := e23.1; have z25 := e23.2.1; have e26 := e23.2.2; aw_icmp_ne d_X9_pact_33 rfl rfl z24 z25 (fun c27 => have e29 := e26.1 c27; (aw_ldc d_X9_pact_48 rfl ci9_192
(aw_ri d_X9_pact_50 rfl e29))) (fun c28 => have e30 := e26.2 c28; (aw_iload_n d_X9_pact_36 rfl rfl 3 rfl
(have z31 := e30.1; have e32 := e30.2; (aw_i2l d_X9_pact_37 rfl z31
(aw_lconst (x := 0) d_X9_pact_38 rfl (by decide)
(aw_ldc2 d_X9_pact_39 rfl cl9_217
(have z33 := e32.1; have e34 := e32.2; (aw_SI (As := [zl v3, zl 0, zl 2]) (st := []) d_X9_pact_42 rfl cs9_82 ⟨Nat.le_of_ble_eq_true rfl, Nat.le_of_ble_eq_true rfl⟩ rfl rfl (Nat.le_of_ble_eq_true rfl) (Nat.le_of_ble_eq_true rfl) (s_X9_in z33) (fun _ _ hq => aw_eqs hq
(aw_if_ne d_X9_pact_45 rfl rfl zb_I (fun c35 => have e37 := e34.1 (zb_n0 c35); (aw_aload_n d_X9_pact_51 rfl rfl 0 rfl (by decide)
(aw_iload_n d_X9_pact_52 rfl rfl 1 rfl
(aw_iload_n d_X9_pact_53 rfl rfl 2 rfl
(aw_iconst d_X9_pact_54 rfl
(aw_VI (As := [zi v1, zi v2, zi 0]) (st := []) d_X9_pact_55 rfl cv9_219 ⟨Nat.le_of_ble_eq_true rfl, Nat.le_of_ble_eq_true rfl⟩ rfl rfl (Nat.le_of_ble_eq_true rfl) (Nat.le_of_ble_eq_true rfl) e37 (fun x42 M39 e40 => (aw_istore (lv' := [(4, zi x42), (0, zr 9 0), (1, zi v1), (2, zi v2), (3, zi v3)]) d_X9_pact_58 rfl (by decide) rfl
(aw_iconst d_X9_pact_60 rfl
(aw_istore (lv' := [(5, zi 0), (4, zi x42), (0, zr 9 0), (1, zi v1), (2, zi v2), (3, zi v3)]) d_X9_pact_61 rfl (by decide) rfl
(aw_iload d_X9_pact_63 rfl 1 rfl
(aw_istore (lv' := [(6, zi x42), (5, zi 0), (4, zi x42), (0, zr 9 0), (1, zi v1), (2, zi v2), (3, zi v3)]) d_X9_pact_65 rfl (by decide) rfl
(aw_iconst d_X9_pact_67 rfl
(aw_istore (lv' := [(7, zi 1), (6, zi x42), (5, zi 0), (4, zi x42), (0, zr 9 0), (1, zi v1), (2, zi v2), (3, zi v3)]) d_X9_pact_68 rfl (by decide) rfl
(aw_sub [4, 5, 6, 7, 3, 2, 1, 0] rfl e40))))))))))))))) (fun c36 => have e38 := e34.2 (zb_0 c36); (aw_ldc d_X9_pact_48 rfl ci9_192
(aw_ri d_X9_pact_50 rfl e38))))))))))))))))))))))))))))))))))))))))))))
theorem q8_lie {t d : Int} (c : CX M S) (zt : zI t) (zd : zI d) : CI l m_X8_lie [zr 8 0, zi t, zi d] M (fun x M' => x = aLie S t d ∧ Fr kScr M M') := by
  have w0 := c.1.1
  refine vX8_lie ?_
  rw [c.n, c.1.2]
  refine ⟨⟨w0, zt⟩, fun a => ⟨by rw [aLie, if_neg (fun q => a q.1)], Fr.rf⟩, fun a => ⟨zd, fun b => ⟨by rw [aLie, if_neg (by omega)], Fr.rf⟩, fun b => ⟨fun b2 => ⟨⟨w0, a⟩, ?_⟩, fun b2 => ⟨by rw [aLie, if_neg (by omega)], Fr.rf⟩⟩⟩⟩
  rw [aLie, if_pos ⟨a, b, b2⟩]
  refine (c_setAside c (c.2.2.1 t a)).mono ?_
  rintro M1 ⟨f1, r1⟩
  refine (c_gl (c.bk f1) a ⟨b, b2⟩ r1).mono ?_
  rintro x M2 ⟨rfl, f2⟩
  exact ⟨rfl, f1.scr.tr f2.scr⟩
theorem q9_lie {t d : Int} (h : MX M S) (zt : zI t) (zd : zI d) : CI l m_X9_lie [zr 9 0, zi t, zi d] M (fun x M' => x = aLie S t d ∧ mQ M M') := by
  have hn := h.1.1.n
  refine vX9_lie ?_
  rw [h.n] at hn ⊢
  refine ⟨⟨zt, hn⟩, fun a => ⟨by rw [aLie, if_neg (fun q => a q.1)], mQ.rf h⟩, fun a => ⟨zd, by omega, fun b => ⟨by rw [aLie, if_neg (fun q => b q.2)], mQ.rf h⟩, fun b => ?_⟩⟩
  rw [aLie, if_pos ⟨a, b⟩]
  exact c_X9_gainBy h a b
theorem q8_tempted {t k : Int} (c : CX M S) (zt : zI t) (zk : zI k) : CI l m_X8_tempted [zr 8 0, zi t, zi k] M (fun x M' => x = aTempted S t k ∧ Fr kScr M M') := by
  have w0 := c.1.1
  refine vX8_tempted ?_
  rw [c.n, c.1.2]
  refine ⟨⟨w0, zt⟩, fun a => ⟨by rw [aTempted, if_neg (fun q => a q.1)], Fr.rf⟩, fun a => ⟨zk, fun b => ⟨⟨w0, a⟩, ?_⟩, fun b => ⟨by rw [aTempted, if_neg (fun q => b q.2)], Fr.rf⟩⟩⟩
  have ai : aTempted S t k = (if k = 0 then (bst (gl S t) 400).1 else (bst (gl S t) 400).2) := by rw [aTempted, if_pos ⟨a, b⟩]
  refine (c_setAside c (c.2.2.1 t a)).mono ?_
  rintro M1 ⟨f1, r1⟩
  refine (c_gl (c.bk f1) a (by omega) r1).mono ?_
  rintro x M2 ⟨rfl, f2⟩
  have gb : ∀ x, -5000000 ≤ gl S t x ∧ gl S t x ≤ 5000000 := fun x => gLie_b c.2
  have loop : ∀ (n s : Nat) (M' : zM), 400 - s = n → s ≤ 400 → Fx (kBk 0) M1 M' → LX8_tempted_50 l (fun x M' => x = aTempted S t k ∧ Fr kScr M M') t k (bst (gl S t) s).1 (bst (gl S t) s).2 ((s : Int) + 1) M' := by
    intro n
    induction n with
    | zero =>
      intro s M' hn hs f
      have : s = 400 := by omega
      subst this
      exact vX8_tempted_50 ⟨by omega, fun _ => ⟨zk, fun e => ⟨by rw [ai, if_neg e], f1.scr.tr f.scr⟩, fun e => ⟨by rw [ai, if_pos e], f1.scr.tr f.scr⟩⟩, fun e => by omega⟩
    | succ n ih =>
      intro s M' hn hs f
      have hz := zntz_b (s := (s : Int) + 1) (by omega)
      have hb := bst_in gb s
      have hg := gb (zntz ((s : Int) + 1))
      refine vX8_tempted_50 ⟨by omega, fun e => by omega, fun _ => ⟨by omega, ?_⟩⟩
      refine (c_gl ((c.bk f1).bk f) a (by omega) (kBk_ne f (by decide) r1)).mono ?_
      rintro x M3 ⟨rfl, f3⟩
      have := ih (s + 1) M3 (by omega) (by omega) (f.tr f3)
      have eb : bst (gl S t) (s + 1) = if (bst (gl S t) s).1 < gl S t (zntz ((s : Int) + 1)) then (gl S t (zntz ((s : Int) + 1)), zntz ((s : Int) + 1)) else bst (gl S t) s := rfl
      rw [eb, show ((s + 1 : Nat) : Int) = (s : Int) + 1 by omega] at this
      refine ⟨by omega, by omega, fun e => ?_, fun e => ?_⟩
      · rw [if_neg (by omega)] at this; exact this
      · rw [if_pos e] at this; exact this
  exact loop _ 0 M2 rfl (by omega) f2
theorem q9_tempted {t k : Int} (h : MX M S) (zt : zI t) (zk : zI k) : CI l m_X9_tempted [zr 9 0, zi t, zi k] M (fun x M' => x = aTempted S t k ∧ mQ M M') := by
  have hn := h.1.1.n
  refine vX9_tempted ?_
  rw [h.n] at hn ⊢
  refine ⟨⟨zt, hn⟩, fun a => ⟨by rw [aTempted, if_neg (fun q => a q.1)], mQ.rf h⟩, fun a => ⟨zk, by omega, fun b => ?_, fun b => ⟨by rw [aTempted, if_neg (by omega)], mQ.rf h⟩⟩⟩
  have b' : k = 0 ∨ k = 1 := by omega
  have ai : aTempted S t k = (if k = 0 then (bst (gl S t) 400).1 else (bst (gl S t) 400).2) := by rw [aTempted, if_pos ⟨a, b'⟩]
  have gb : ∀ x, -5000000 ≤ gl S t x ∧ gl S t x ≤ 5000000 := fun x => gLie_b h.ok
  refine (c_X9_gainBy h a (by omega)).mono ?_
  rintro x M2 ⟨rfl, f2⟩
  have loop : ∀ (n s : Nat) (M' : zM), 200 - s = n → s ≤ 200 → mQ M M' → LX9_tempted_34 l (fun x M' => x = aTempted S t k ∧ mQ M M') t k (bst (gl S t) (2 * s)).2 (bst (gl S t) (2 * s)).1 ((s : Int) + 1) M' := by
    intro n
    induction n with
    | zero =>
      intro s M' hn hs f
      have : s = 200 := by omega
      subst this
      exact vX9_tempted_34 ⟨by omega, fun _ => ⟨zk, fun e => ⟨by rw [ai, if_neg e], f⟩, fun e => ⟨by rw [ai, if_pos e], f⟩⟩, fun e => by omega⟩
    | succ n ih =>
      intro s M' hn hs f
      refine vX9_tempted_34 ⟨by omega, fun e => by omega, fun _ => ?_⟩
      have o1 : zntz ((2 * s : Nat) + 1) = -((s : Int) + 1) := by
        have := zntz_o (k := (s : Int) + 1)
        rw [← this]
        congr 1
        omega
      have o2 : zntz ((2 * s + 1 : Nat) + 1) = (s : Int) + 1 := by
        have := zntz_e (k := (s : Int) + 1)
        rw [show (((2 * s + 1 : Nat) : Int) + 1) = 2 * ((s : Int) + 1) by omega]
        exact this
      have b0 := bst_in gb (2 * s)
      have b1 := bst_in gb (2 * s + 1)
      have g1 := gb (-((s : Int) + 1))
      have g2 := gb ((s : Int) + 1)
      have e1 : bst (gl S t) (2 * s + 1) = if (bst (gl S t) (2 * s)).1 < gl S t (-((s : Int) + 1)) then (gl S t (-((s : Int) + 1)), -((s : Int) + 1)) else bst (gl S t) (2 * s) := by rw [bst, o1]
      have e2 : bst (gl S t) (2 * (s + 1)) = if (bst (gl S t) (2 * s + 1)).1 < gl S t ((s : Int) + 1) then (gl S t ((s : Int) + 1), (s : Int) + 1) else bst (gl S t) (2 * s + 1) := by
        show bst (gl S t) ((2 * s + 1) + 1) = _
        rw [bst, o2]
      have last : ∀ M3 : zM, mQ M M3 → LX9_tempted_47 l (fun x M' => x = aTempted S t k ∧ mQ M M') t k (bst (gl S t) (2 * (s + 1))).2 (bst (gl S t) (2 * (s + 1))).1 ((s : Int) + 1) ((s : Int) + 1 + 2 * ((s : Int) + 1)) M3 := by
        intro M3 f3
        refine vX9_tempted_47 ⟨by omega, by omega, fun _ => ?_, fun e => by omega⟩
        have := ih (s + 1) M3 (by omega) (by omega) f3
        rw [show ((s + 1 : Nat) : Int) = (s : Int) + 1 by omega] at this
        exact this
      have second : ∀ M3 : zM, mQ M M3 → LX9_tempted_47 l (fun x M' => x = aTempted S t k ∧ mQ M M') t k (bst (gl S t) (2 * s + 1)).2 (bst (gl S t) (2 * s + 1)).1 ((s : Int) + 1) (-((s : Int) + 1) + 2 * ((s : Int) + 1)) M3 := by
        intro M3 f3
        rw [show -((s : Int) + 1) + 2 * ((s : Int) + 1) = (s : Int) + 1 by omega]
        refine vX9_tempted_47 ⟨by omega, by omega, fun e => by omega, fun _ => ?_⟩
        refine (c_X9_gainBy (h.q f3) a (by omega)).mono ?_
        rintro x M4 ⟨rfl, f4⟩
        have := last M4 (f3.tr f4)
        rw [e2] at this
        refine ⟨by omega, by omega, fun e => ?_, fun e => ?_⟩
        · rw [if_pos e] at this; exact this
        · rw [if_neg (by omega)] at this; exact this
      refine vX9_tempted_47 ⟨by omega, by omega, fun e => by omega, fun _ => ?_⟩
      refine (c_X9_gainBy (h.q f) a (by omega)).mono ?_
      rintro x M3 ⟨rfl, f3⟩
      have := second M3 (f.tr f3)
      rw [e1] at this
      refine ⟨by omega, by omega, fun e => ?_, fun e => ?_⟩
      · rw [if_pos e] at this; exact this
      · rw [if_neg (by omega)] at this; exact this
  exact loop _ 0 M2 rfl (by omega) f2
theorem q8_pact {o t k : Int} (c : CX M S) (zt : zI t) (zo : zI o) (zk : zI k) : CI l m_X8_pact [zr 8 0, zi t, zi o, zi k] M (fun x M' => x = aPact S t o k ∧ Fr kScr M M') := by
  have w0 := c.1.1
  refine vX8_pact ((s_two c ⟨zt, zo⟩).eq ⟨zb_I, fun q => ⟨by rw [aPact, if_neg (fun a => zb_0 q a.1)], Fr.rf⟩, fun q => ?_⟩)
  have q := zb_n0 q
  have hgr := c.2.2.1 t q.1
  rw [c.n, c.1.2]
  refine ⟨zk, fun b => ⟨by rw [aPact, if_neg (by omega)], Fr.rf⟩, fun b => ⟨fun b2 => ⟨⟨w0, q.1⟩, ?_⟩, fun b2 => ⟨by rw [aPact, if_neg (by omega)], Fr.rf⟩⟩⟩
  have ai : aPact S t o k = (if k = 0 then (bst (gp S t o) 200).1 else if k = 1 then (bst (gp S t o) 200).2 else (bst (gp S t o) 200).1 - gp S t o 0) := by rw [aPact, if_pos ⟨q, b, b2⟩]
  refine (c_setAside c hgr).mono ?_
  rintro M1 ⟨f1, r1⟩
  refine (c_gp (c.bk f1) q.1 q.2.1 q.2.2.1 q.2.2.2 (by omega) r1).mono ?_
  rintro x M2 ⟨rfl, f2⟩
  have gb : ∀ x, -10000000 ≤ gp S t o x ∧ gp S t o x ≤ 10000000 := fun x => by
    have h1 := gLie_b (E := fun t' => qgr S t' = qgr S t) (L := fun t' => decide (t' = t ∨ t' = o)) (d := x) (t := t) c.2
    have h2 := gLie_b (E := fun t' => qgr S t' = qgr S t) (L := fun t' => decide (t' = t ∨ t' = o)) (d := x) (t := o) c.2
    unfold gp
    omega
  have loop : ∀ (n s : Nat) (M' : zM), 200 - s = n → s ≤ 200 → Fx (kBk 0) M1 M' → LX8_pact_61 l (fun x M' => x = aPact S t o k ∧ Fr kScr M M') t o k (gp S t o 0) (bst (gp S t o) s).1 (bst (gp S t o) s).2 ((s : Int) + 1) M' := by
    intro n
    induction n with
    | zero =>
      intro s M' hn hs f
      have : s = 200 := by omega
      subst this
      exact vX8_pact_61 ⟨by omega, fun _ => ⟨zk, fun e => ⟨fun e2 => ⟨by rw [ai, if_neg e2, if_neg e], f1.scr.tr f.scr⟩, fun e2 => ⟨by rw [ai, if_pos e2], f1.scr.tr f.scr⟩⟩, fun e => ⟨by rw [ai, if_neg (by omega), if_pos e], f1.scr.tr f.scr⟩⟩, fun e => by omega⟩
    | succ n ih =>
      intro s M' hn hs f
      have hz := zntz_b (s := (s : Int) + 1) (by omega)
      have hb := bst_in gb s
      have hg := gb (zntz ((s : Int) + 1))
      refine vX8_pact_61 ⟨by omega, fun e => by omega, fun _ => ⟨by omega, ?_⟩⟩
      refine (c_gp ((c.bk f1).bk f) q.1 q.2.1 q.2.2.1 q.2.2.2 (by omega) (kBk_ne f (by decide) r1)).mono ?_
      rintro x M3 ⟨rfl, f3⟩
      have := ih (s + 1) M3 (by omega) (by omega) (f.tr f3)
      have eb : bst (gp S t o) (s + 1) = if (bst (gp S t o) s).1 < gp S t o (zntz ((s : Int) + 1)) then (gp S t o (zntz ((s : Int) + 1)), zntz ((s : Int) + 1)) else bst (gp S t o) s := rfl
      rw [eb, show ((s + 1 : Nat) : Int) = (s : Int) + 1 by omega] at this
      refine ⟨by omega, by omega, fun e => ?_, fun e => ?_⟩
      · rw [if_neg (by omega)] at this; exact this
      · rw [if_pos e] at this; exact this
  exact loop _ 0 M2 rfl (by omega) f2
theorem q9_pact {o t k : Int} (h : MX M S) (zt : zI t) (zo : zI o) (zk : zI k) : CI l m_X9_pact [zr 9 0, zi t, zi o, zi k] M (fun x M' => x = aPact S t o k ∧ mQ M M') := by
  have hn := h.1.1.n
  have ok := h.ok
  refine vX9_pact ?_
  rw [h.n] at hn ⊢
  refine ⟨⟨zt, hn⟩, fun a => ⟨by rw [aPact, if_neg (fun q => a q.1.1)], mQ.rf h⟩, fun a => ⟨⟨zo, hn⟩, fun a2 => ⟨by rw [aPact, if_neg (fun q => a2 q.1.2.1)], mQ.rf h⟩, fun a2 => ⟨zt, zo, fun e => ⟨by rw [aPact, if_neg (fun q => q.1.2.2.1 e)], mQ.rf h⟩, fun e => ?_⟩⟩⟩
  have eg1 : M 27 0 (9 * t + 1) = qgr S t := by rw [← rS_gr (M := M) (t := t) (by rw [h.1.2]; exact a), h.1.2]
  have eg2 : M 27 0 (9 * o + 1) = qgr S o := by rw [← rS_gr (M := M) (t := o) (by rw [h.1.2]; exact a2), h.1.2]
  have r1 := ok.2.1 t a
  have r2 := ok.2.1 o a2
  rw [eg1, eg2]
  refine ⟨by omega, by omega, by omega, by omega, fun e2 => ⟨by rw [aPact, if_neg (fun q => e2 q.1.2.2.2)], mQ.rf h⟩, fun e2 => ⟨zk, by omega, fun b => ?_, fun b => ⟨by rw [aPact, if_neg (fun q => b q.2)], mQ.rf h⟩⟩⟩
  have ai : aPact S t o k = (if k = 0 then (bst (gp S t o) 200).1 else if k = 1 then (bst (gp S t o) 200).2 else (bst (gp S t o) 200).1 - gp S t o 0) := by rw [aPact, if_pos ⟨⟨a, a2, e, e2⟩, b⟩]
  have gb : ∀ x, -10000000 ≤ gp S t o x ∧ gp S t o x ≤ 10000000 := fun x => by
    have h1 := gLie_b (E := fun t' => qgr S t' = qgr S t) (L := fun t' => decide (t' = t ∨ t' = o)) (d := x) (t := t) ok
    have h2 := gLie_b (E := fun t' => qgr S t' = qgr S t) (L := fun t' => decide (t' = t ∨ t' = o)) (d := x) (t := o) ok
    unfold gp
    omega
  refine (c_X9_pactBy h a a2 e2 (by omega)).mono ?_
  rintro x M2 ⟨rfl, f2⟩
  have loop : ∀ (n s : Nat) (M' : zM), 100 - s = n → s ≤ 100 → mQ M M' → LX9_pact_70 l (fun x M' => x = aPact S t o k ∧ mQ M M') t o k (gp S t o 0) (bst (gp S t o) (2 * s)).2 (bst (gp S t o) (2 * s)).1 ((s : Int) + 1) M' := by
    intro n
    induction n with
    | zero =>
      intro s M' hn hs f
      have : s = 100 := by omega
      subst this
      exact vX9_pact_70 ⟨by omega, fun _ => ⟨zk, fun e => ⟨fun e2 => ⟨by rw [ai, if_neg e, if_neg e2], f⟩, fun e2 => ⟨by rw [ai, if_neg e, if_pos e2], f⟩⟩, fun e => ⟨by rw [ai, if_pos e], f⟩⟩, fun e => by omega⟩
    | succ n ih =>
      intro s M' hn hs f
      refine vX9_pact_70 ⟨by omega, fun e => by omega, fun _ => ?_⟩
      have o1 : zntz ((2 * s : Nat) + 1) = -((s : Int) + 1) := by
        have := zntz_o (k := (s : Int) + 1)
        rw [← this]
        congr 1
        omega
      have o2 : zntz ((2 * s + 1 : Nat) + 1) = (s : Int) + 1 := by
        have := zntz_e (k := (s : Int) + 1)
        rw [show (((2 * s + 1 : Nat) : Int) + 1) = 2 * ((s : Int) + 1) by omega]
        exact this
      have b0 := bst_in gb (2 * s)
      have b1 := bst_in gb (2 * s + 1)
      have g1 := gb (-((s : Int) + 1))
      have g2 := gb ((s : Int) + 1)
      have e1 : bst (gp S t o) (2 * s + 1) = if (bst (gp S t o) (2 * s)).1 < gp S t o (-((s : Int) + 1)) then (gp S t o (-((s : Int) + 1)), -((s : Int) + 1)) else bst (gp S t o) (2 * s) := by rw [bst, o1]
      have e2 : bst (gp S t o) (2 * (s + 1)) = if (bst (gp S t o) (2 * s + 1)).1 < gp S t o ((s : Int) + 1) then (gp S t o ((s : Int) + 1), (s : Int) + 1) else bst (gp S t o) (2 * s + 1) := by
        show bst (gp S t o) ((2 * s + 1) + 1) = _
        rw [bst, o2]
      have last : ∀ M3 : zM, mQ M M3 → LX9_pact_82 l (fun x M' => x = aPact S t o k ∧ mQ M M') t o k (gp S t o 0) (bst (gp S t o) (2 * (s + 1))).2 (bst (gp S t o) (2 * (s + 1))).1 ((s : Int) + 1) ((s : Int) + 1 + 2 * ((s : Int) + 1)) M3 := by
        intro M3 f3
        refine vX9_pact_82 ⟨by omega, by omega, fun _ => ?_, fun e => by omega⟩
        have := ih (s + 1) M3 (by omega) (by omega) f3
        rw [show ((s + 1 : Nat) : Int) = (s : Int) + 1 by omega] at this
        exact this
      have second : ∀ M3 : zM, mQ M M3 → LX9_pact_82 l (fun x M' => x = aPact S t o k ∧ mQ M M') t o k (gp S t o 0) (bst (gp S t o) (2 * s + 1)).2 (bst (gp S t o) (2 * s + 1)).1 ((s : Int) + 1) (-((s : Int) + 1) + 2 * ((s : Int) + 1)) M3 := by
        intro M3 f3
        rw [show -((s : Int) + 1) + 2 * ((s : Int) + 1) = (s : Int) + 1 by omega]
        refine vX9_pact_82 ⟨by omega, by omega, fun e => by omega, fun _ => ?_⟩
        refine (c_X9_pactBy (h.q f3) a a2 (by assumption) (by omega)).mono ?_
        rintro x M4 ⟨rfl, f4⟩
        have := last M4 (f3.tr f4)
        rw [e2] at this
        refine ⟨by omega, by omega, fun e => ?_, fun e => ?_⟩
        · rw [if_pos e] at this; exact this
        · rw [if_neg (by omega)] at this; exact this
      refine vX9_pact_82 ⟨by omega, by omega, fun e => by omega, fun _ => ?_⟩
      refine (c_X9_pactBy (h.q f) a a2 (by assumption) (by omega)).mono ?_
      rintro x M3 ⟨rfl, f3⟩
      have := second M3 (f.tr f3)
      rw [e1] at this
      refine ⟨by omega, by omega, fun e => ?_, fun e => ?_⟩
      · rw [if_pos e] at this; exact this
      · rw [if_neg (by omega)] at this; exact this
  exact loop _ 0 M2 rfl (by omega) f2
end
