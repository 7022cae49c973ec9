/-! ===== the reference: a market laid, traders' bits ===== -/
abbrev rS (M : zM) : zS := mV M 27 0
def rE (M : zM) (G t : Int) : Prop := hb G (qgr (rS M) t) = true ∧ hb (M 9 0 5) t = false
def rV (M : zM) (t u : Int) : Int := if hb (M 9 0 6) t = true then zhold (qsy (rS M) t u + M 9 0 7) else qsy (rS M) t u
def RC (M : zM) : Prop := mW M 27 0 ∧ okM (rS M) (qsy (rS M)) ∧ (∀ t, 0 ≤ t ∧ t < qn (rS M) → 0 ≤ qgr (rS M) t ∧ qgr (rS M) t < 4) ∧ (0 ≤ qfee (rS M) ∧ qfee (rS M) ≤ 500) ∧ (0 ≤ qlaw (rS M) ∧ qlaw (rS M) ≤ 3) ∧ (-1000 ≤ M 9 0 7 ∧ M 9 0 7 ≤ 1000)
def mFr (M M' : zM) : Prop := (∀ k i, k ≠ 9 → ¬ (31 ≤ k ∧ k ≤ 36) → M' k i = M k i) ∧ (∀ i j, ¬ (i = 0 ∧ (j = 11 ∨ (15 ≤ j ∧ j ≤ 17))) → M' 9 i j = M 9 i j)
theorem mFr.rf {M : zM} : mFr M M := ⟨fun _ _ _ _ => rfl, fun _ _ _ => rfl⟩
theorem mFr.tr {M M1 M2 : zM} (a : mFr M M1) (b : mFr M1 M2) : mFr M M2 := ⟨fun k i h1 h2 => (b.1 k i h1 h2).trans (a.1 k i h1 h2), fun i j h => (b.2 i j h).trans (a.2 i j h)⟩
theorem mFr.fld {M M' : zM} {j x : Int} (e : M' = zu M 9 0 j x) (h : j = 11 ∨ (15 ≤ j ∧ j ≤ 17)) : mFr M M' := by
  refine ⟨fun k i h1 _ => by rw [e, zu_k h1], fun i j' h2 => ?_⟩
  rw [e]
  unfold zu
  rw [if_neg]
  rintro ⟨-, a, b⟩
  exact h2 ⟨a, by omega⟩
theorem rS_n (M : zM) : qn (rS M) = M 27 0 180 := rfl
theorem rS_fee (M : zM) : qfee (rS M) = M 27 0 181 := rfl
theorem rS_law (M : zM) : qlaw (rS M) = M 27 0 182 := rfl
theorem rS_sl {M : zM} {t : Int} (h : 0 ≤ t ∧ t < qn (rS M)) : qsl (rS M) t = M 27 0 (9 * t) := by
  have h' : 0 ≤ t ∧ t < M 27 0 (0 + 180) := h
  show (if _ then _ else _) = _
  rw [if_pos h', Int.zero_add]
theorem rS_gr {M : zM} {t : Int} (h : 0 ≤ t ∧ t < qn (rS M)) : qgr (rS M) t = M 27 0 (9 * t + 1) := by
  have h' : 0 ≤ t ∧ t < M 27 0 (0 + 180) := h
  show (if _ then _ else _) = _
  rw [if_pos h', Int.zero_add]
theorem rS_un {M : zM} {t : Int} (h : 0 ≤ t ∧ t < qn (rS M)) : qun (rS M) t = M 27 0 (9 * t + 2) := by
  have h' : 0 ≤ t ∧ t < M 27 0 (0 + 180) := h
  show (if _ then _ else _) = _
  rw [if_pos h', Int.zero_add]
theorem rS_pu {M : zM} {t : Int} (h : 0 ≤ t ∧ t < qn (rS M)) : qpu (rS M) t = M 27 0 (9 * t + 7) := by
  have h' : 0 ≤ t ∧ t < M 27 0 (0 + 180) := h
  show (if _ then _ else _) = _
  rw [if_pos h', Int.zero_add]
theorem rS_tr {M : zM} {t : Int} (h : 0 ≤ t ∧ t < qn (rS M)) : qtr (rS M) t = M 27 0 (9 * t + 8) := by
  have h' : 0 ≤ t ∧ t < M 27 0 (0 + 180) := h
  show (if _ then _ else _) = _
  rw [if_pos h', Int.zero_add]
theorem rS_sy {M : zM} {t u : Int} (h : qU (rS M) t u) : qsy (rS M) t u = M 27 0 (9 * t + (3 + u)) := by
  have h1 := rS_un (M := M) (t := t) ⟨h.1, h.2.1⟩
  have h2 := h.2.2
  rw [h1] at h2
  show (if _ then _ else _) = _
  rw [Int.zero_add, Int.zero_add, if_pos ⟨h.1, h.2.1, h2.1, h2.2⟩, ← Int.add_assoc]
theorem rS_congr {M M' : zM} (e : M' 27 0 = M 27 0) : rS M' = rS M := by
  show mV M' 27 0 = mV M 27 0
  unfold mV
  rw [e]
theorem mFr.S {M M' : zM} (f : mFr M M') : rS M' = rS M := rS_congr (f.1 27 0 (by decide) (by decide))
theorem mFr.F {M M' : zM} (f : mFr M M') (j : Int) (h : ¬ (j = 11 ∨ (15 ≤ j ∧ j ≤ 17))) : M' 9 0 j = M 9 0 j := f.2 0 j (fun q => h q.2)
theorem mFr.E {M M' : zM} (f : mFr M M') {G : Int} : rE M' G = rE M G := by
  funext t
  unfold rE
  rw [f.S, f.F 5 (by omega)]
theorem mFr.V {M M' : zM} (f : mFr M M') : rV M' = rV M := by
  funext t u
  unfold rV
  rw [f.S, f.F 6 (by omega), f.F 7 (by omega)]
theorem mW_27 {M M' : zM} (e : M' 27 0 = M 27 0) (h : mW M 27 0) : mW M' 27 0 := by
  unfold mW at h ⊢
  rw [e]
  exact h
theorem mFr.rc {M M' : zM} (f : mFr M M') (rc : RC M) : RC M' := by
  unfold RC at rc ⊢
  rw [f.S, f.F 7 (by omega)]
  exact ⟨mW_27 (f.1 27 0 (by decide) (by decide)) rc.1, rc.2⟩
theorem zhold_b (x : Int) : 0 ≤ zhold x ∧ zhold x ≤ 9999 := by unfold zhold; omega
theorem okM_hold {S : zS} {v v' : Int → Int → Int} (h : okM S v) (L : Int → Bool) (d : Int) (hv : ∀ t u, qU S t u → v' t u = if L t = true then zhold (v t u + d) else v t u) : okM S v' := by
  refine ⟨h.1, h.2.1, fun t u q => ?_, fun t u q q2 => ?_⟩
  · rw [hv t u q]
    have := h.2.2.1 t u q
    have := zhold_b (v t u + d)
    split <;> assumption
  · rw [hv t u q, hv t (u + 1) q2]
    have := h.2.2.2 t u q q2
    by_cases c : L t = true
    · rw [if_pos c, if_pos c]
      unfold zhold
      refine ⟨fun e => ?_, fun e => ?_⟩
      · have := this.1 e; omega
      · have := this.2 e; omega
    · rw [if_neg c, if_neg c]; exact this
theorem RC.ok {M : zM} (rc : RC M) : okM (rS M) (rV M) := okM_hold rc.2.1 (fun t => hb (M 9 0 6) t) (M 9 0 7) (fun _ _ _ => rfl)
theorem RC.n {M : zM} (rc : RC M) : 0 ≤ M 27 0 180 ∧ M 27 0 180 ≤ 20 := rc.2.1.1
theorem RC.sl {M : zM} (rc : RC M) {t : Int} (h : 0 ≤ t ∧ t < qn (rS M)) : M 27 0 (9 * t) = 0 ∨ M 27 0 (9 * t) = 1 := by
  have := (rc.1.2 t (by rw [Int.zero_add]; exact h)).1
  rwa [Int.zero_add] at this
theorem RC.said {M : zM} (rc : RC M) {t u : Int} (h : qU (rS M) t u) : msaid M t u = rV M t u ∧ zI (M 27 0 (9 * t + (3 + u)) + M 9 0 7) ∧ (0 ≤ t ∧ t < 20) ∧ (0 ≤ u ∧ u < 4) := by
  have h1 := rc.2.1.rng h
  have h2 := rc.2.2.2.2.2
  have e := rS_sy h
  have hh := hb_has (s := M 9 0 6) (k := t) (by omega)
  refine ⟨?_, by omega, h1.1, h1.2.1⟩
  unfold msaid rV
  rw [← e]
  by_cases c : hb (M 9 0 6) t = true
  · rw [if_pos (hh.mpr c), if_pos c]
  · rw [if_neg (fun q => c (hh.mp q)), if_neg c]
theorem PB_slot {S : zS} {E : Int → Prop} {v : Int → Int → Int} {L : List Int} (h : okM S v) (r : L.Pairwise (· < ·)) (m : ∀ x ∈ L, PB S E v x) : L.Pairwise (fun a b => a % 80 ≠ b % 80) := by
  refine r.imp_of_mem ?_
  intro a b ha hb hab e
  obtain ⟨t, u, c, rfl⟩ := m a ha
  obtain ⟨t', u', c', rfl⟩ := m b hb
  have k1 := (kB_d (h.rng c.1)).2.2.2.2.2
  have k2 := (kB_d (h.rng c'.1)).2.2.2.2.2
  have h1 := h.rng c.1
  have h2 := h.rng c'.1
  have et : t = t' := by omega
  have eu : u = u' := by omega
  subst et
  subst eu
  omega
theorem PA_slot {S : zS} {E : Int → Prop} {v : Int → Int → Int} {L : List Int} (h : okM S v) (r : L.Pairwise (· < ·)) (m : ∀ x ∈ L, PA S E v x) : L.Pairwise (fun a b => a % 80 ≠ b % 80) := by
  refine r.imp_of_mem ?_
  intro a b ha hb hab e
  obtain ⟨t, u, c, rfl⟩ := m a ha
  obtain ⟨t', u', c', rfl⟩ := m b hb
  have k1 := (kA_d (h.rng c.1)).2.2.2.2.2
  have k2 := (kA_d (h.rng c'.1)).2.2.2.2.2
  have h1 := h.rng c.1
  have h2 := h.rng c'.1
  have et : t = t' := by omega
  have eu : u = u' := by omega
  subst et
  subst eu
  omega
def mLd (M : zM) (B A : List Int) (f : Int) : Prop := mRB M B ∧ mRA M f A ∧ M 9 0 16 = tT f B A ∧ M 9 0 17 = tW f B A
theorem mRB.of {M M' : zM} {B : List Int} (h : mRB M B) (e : M' 9 0 11 = M 9 0 11) (e1 : M' 33 0 = M 33 0) (e2 : M' 31 0 = M 31 0) (e3 : M' 32 0 = M 32 0) : mRB M' B := by
  unfold mRB at h ⊢
  rw [e, e1, e2, e3]
  exact h
theorem mRA.of {M M' : zM} {A : List Int} {f : Int} (h : mRA M f A) (e : M' 9 0 15 = M 9 0 15) (e1 : M' 36 0 = M 36 0) (e2 : M' 34 0 = M 34 0) (e3 : M' 35 0 = M 35 0) : mRA M' f A := by
  unfold mRA at h ⊢
  rw [e, e1, e2, e3]
  exact h
section
variable {l : Launch} {M : zM}
def LX9_laysOf_12 (l : Launch) (P : zM → Prop) (v1 : Int) (v2 : Int) (M : zM) : Prop := AW l m_X9_laysOf (zTv m_X9_laysOf P) 12 [(0, zr 9 0), (1, zi v1), (2, zi v2)] [] M
def LX9_laysOf_89 (l : Launch) (P : zM → Prop) (M : zM) : Prop := AW l m_X9_laysOf (zTv m_X9_laysOf P) 89 [(0, zr 9 0)] [] M
def LX9_laysOf_34 (l : Launch) (P : zM → Prop) (v1 : Int) (v2 : Int) (v3 : Int) (M : zM) : Prop := AW l m_X9_laysOf (zTv m_X9_laysOf P) 34 [(0, zr 9 0), (1, zi v1), (2, zi v2), (3, zi v3)] [] M
theorem vX9_laysOf_12 {l : Launch} {P : zM → Prop} {v1 : Int} {v2 : Int} {M : zM}
    (H0 : (zI v2 ∧ zI (M 27 0 180) ∧ ((M 27 0 180) ≤ v2 → (∀ M12 : zM, M12 = zu M 9 0 16 0 → (∀ M14 : zM, M14 = zu M12 9 0 17 0 → LX9_laysOf_89 l P M14))) ∧ (v2 < (M 27 0 180) → ((0 ≤ v2 ∧ v2 < 20) ∧ ((hsb v1 (M 27 0 (9 * v2 + 1)) ∧ ¬ hsb (M 9 0 5) v2 → LX9_laysOf_34 l P v1 v2 0 M) ∧ (¬ (hsb v1 (M 27 0 (9 * v2 + 1)) ∧ ¬ hsb (M 9 0 5) v2) → LX9_laysOf_12 l P v1 (v2 + 1) M)))))) :
    LX9_laysOf_12 l P v1 v2 M :=
(aw_iload_n d_X9_laysOf_12 rfl rfl 2 rfl
(aw_aload_n d_X9_laysOf_13 rfl rfl 0 rfl (by decide)
(aw_VI (As := []) (st := [zi v2]) d_X9_laysOf_14 rfl cv9_78 ⟨Nat.le_of_ble_eq_true rfl, Nat.le_of_ble_eq_true rfl⟩ rfl rfl (Nat.le_of_ble_eq_true rfl) (Nat.le_of_ble_eq_true rfl) (s_X9_traders) (fun _ _ hq => aw_eqs hq
(have z5 := H0.1; have z6 := H0.2.1; have e7 := H0.2.2; aw_icmp_ge d_X9_laysOf_17 rfl rfl z5 z6 (fun c8 => have e10 := e7.1 c8; (aw_aload_n d_X9_laysOf_79 rfl rfl 0 rfl (by decide)
(aw_iconst d_X9_laysOf_80 rfl
(have e13 := e10 _ rfl; aw_put (kc := 16) d_X9_laysOf_81 rfl fp9_133 rfl rfl rfl rfl
(aw_aload_n d_X9_laysOf_84 rfl rfl 0 rfl (by decide)
(aw_iconst d_X9_laysOf_85 rfl
(have e15 := e13 _ rfl; aw_put (kc := 17) d_X9_laysOf_86 rfl fp9_136 rfl rfl rfl rfl
(aw_sub [0] rfl e15)))))))) (fun c9 => have e11 := e7.2 c9; (aw_aload_n d_X9_laysOf_20 rfl rfl 0 rfl (by decide)
(aw_iload_n d_X9_laysOf_21 rfl rfl 2 rfl
(aw_iload_n d_X9_laysOf_22 rfl rfl 1 rfl
(have z16 := e11.1; have e17 := e11.2; (aw_VI (As := [zi v2, zi v1]) (st := []) d_X9_laysOf_23 rfl cv9_119 ⟨Nat.le_of_ble_eq_true rfl, Nat.le_of_ble_eq_true rfl⟩ rfl rfl (Nat.le_of_ble_eq_true rfl) (Nat.le_of_ble_eq_true rfl) (s_X9_isIn z16) (fun _ _ hq => aw_eqs hq
(aw_if_ne d_X9_laysOf_26 rfl rfl zb_I (fun c18 => have e20 := e17.1 (zb_n0 c18); (aw_iconst d_X9_laysOf_32 rfl
(aw_istore_n (lv' := [(3, zi 0), (0, zr 9 0), (1, zi v1), (2, zi v2)]) d_X9_laysOf_33 rfl rfl (by decide) rfl
(aw_sub [1, 2, 3, 0] rfl e20)))) (fun c19 => have e21 := e17.2 (zb_0 c19); (aw_goto d_X9_laysOf_29 rfl
(aw_iinc (lv' := [(2, zi (v2 + 1)), (0, zr 9 0), (1, zi v1)]) (y := (v2 + 1)) d_X9_laysOf_73 rfl 2 rfl (by decide) rfl rfl
(aw_goto d_X9_laysOf_76 rfl
(aw_sub [1, 2, 0] rfl e21))))))))))))))))))
theorem vX9_laysOf_89 {l : Launch} {P : zM → Prop} {M : zM}
    (H0 : (zI (M 9 0 16) ∧ zI (M 9 0 11) ∧ ((M 9 0 11) ≤ (M 9 0 16) → P M) ∧ ((M 9 0 16) < (M 9 0 11) → (zI (M 9 0 15) ∧ ((M 9 0 15) ≤ (M 9 0 16) → P M) ∧ ((M 9 0 16) < (M 9 0 15) → ((0 ≤ (M 9 0 16) ∧ (M 9 0 16) < 80) ∧ (zI (M 33 0 (M 9 0 16)) ∧ zI (M 36 0 (M 9 0 16)) ∧ ((M 33 0 (M 9 0 16)) < (M 36 0 (M 9 0 16)) → P M) ∧ ((M 36 0 (M 9 0 16)) ≤ (M 33 0 (M 9 0 16)) → (∀ M44 : zM, M44 = zu M 9 0 17 ((M 9 0 17) + ((M 33 0 (M 9 0 16)) - (M 36 0 (M 9 0 16)))) → (∀ M46 : zM, M46 = zu M44 9 0 16 ((M44 9 0 16) + 1) → LX9_laysOf_89 l P M46)))))))))) :
    LX9_laysOf_89 l P M :=
(aw_aload_n d_X9_laysOf_89 rfl rfl 0 rfl (by decide)
(aw_getI (kc := 16) d_X9_laysOf_90 rfl fl9_133 rfl rfl
(aw_aload_n d_X9_laysOf_93 rfl rfl 0 rfl (by decide)
(aw_getI (kc := 11) d_X9_laysOf_94 rfl fl9_113 rfl rfl
(have z22 := H0.1; have z23 := H0.2.1; have e24 := H0.2.2; aw_icmp_ge d_X9_laysOf_97 rfl rfl z22 z23 (fun c25 => have e27 := e24.1 c25; (aw_rv d_X9_laysOf_173 rfl e27)) (fun c26 => have e28 := e24.2 c26; (aw_aload_n d_X9_laysOf_100 rfl rfl 0 rfl (by decide)
(aw_getI (kc := 16) d_X9_laysOf_101 rfl fl9_133 rfl rfl
(aw_aload_n d_X9_laysOf_104 rfl rfl 0 rfl (by decide)
(aw_getI (kc := 15) d_X9_laysOf_105 rfl fl9_116 rfl rfl
(have z29 := e28.1; have e30 := e28.2; aw_icmp_ge d_X9_laysOf_108 rfl rfl z22 z29 (fun c31 => have e33 := e30.1 c31; (aw_rv d_X9_laysOf_173 rfl e33)) (fun c32 => have e34 := e30.2 c32; (aw_aload_n d_X9_laysOf_111 rfl rfl 0 rfl (by decide)
(aw_getR (k' := 33) (a := 0) (b := 0) (j := 0) d_X9_laysOf_112 rfl fl9_29 rfl zj0 ⟨by decide, fun _ => by decide⟩
(aw_aload_n d_X9_laysOf_115 rfl rfl 0 rfl (by decide)
(aw_getI (kc := 16) d_X9_laysOf_116 rfl fl9_133 rfl rfl
(have z35 := e34.1; have e36 := e34.2; (aw_iald d_X9_laysOf_119 rfl za33 z35
(aw_aload_n d_X9_laysOf_120 rfl rfl 0 rfl (by decide)
(aw_getR (k' := 36) (a := 0) (b := 0) (j := 0) d_X9_laysOf_121 rfl fl9_38 rfl zj0 ⟨by decide, fun _ => by decide⟩
(aw_aload_n d_X9_laysOf_124 rfl rfl 0 rfl (by decide)
(aw_getI (kc := 16) d_X9_laysOf_125 rfl fl9_133 rfl rfl
(aw_iald d_X9_laysOf_128 rfl za36 z35
(have z37 := e36.1; have z38 := e36.2.1; have e39 := e36.2.2; aw_icmp_lt d_X9_laysOf_129 rfl rfl z37 z38 (fun c40 => have e42 := e39.1 c40; (aw_rv d_X9_laysOf_173 rfl e42)) (fun c41 => have e43 := e39.2 c41; (aw_aload_n d_X9_laysOf_132 rfl rfl 0 rfl (by decide)
(aw_dup d_X9_laysOf_133 rfl rfl
(aw_getI (kc := 17) d_X9_laysOf_134 rfl fl9_136 rfl rfl
(aw_aload_n d_X9_laysOf_137 rfl rfl 0 rfl (by decide)
(aw_getR (k' := 33) (a := 0) (b := 0) (j := 0) d_X9_laysOf_138 rfl fl9_29 rfl zj0 ⟨by decide, fun _ => by decide⟩
(aw_aload_n d_X9_laysOf_141 rfl rfl 0 rfl (by decide)
(aw_getI (kc := 16) d_X9_laysOf_142 rfl fl9_133 rfl rfl
(aw_iald d_X9_laysOf_145 rfl za33 z35
(aw_aload_n d_X9_laysOf_146 rfl rfl 0 rfl (by decide)
(aw_getR (k' := 36) (a := 0) (b := 0) (j := 0) d_X9_laysOf_147 rfl fl9_38 rfl zj0 ⟨by decide, fun _ => by decide⟩
(aw_aload_n d_X9_laysOf_150 rfl rfl 0 rfl (by decide)
(aw_getI (kc := 16) d_X9_laysOf_151 rfl fl9_133 rfl rfl
(aw_iald d_X9_laysOf_154 rfl za36 z35
(aw_isub d_X9_laysOf_155 rfl
(aw_iadd d_X9_laysOf_156 rfl
(have e45 := e43 _ rfl; aw_put (kc := 17) d_X9_laysOf_157 rfl fp9_136 rfl rfl rfl rfl
(aw_aload_n d_X9_laysOf_160 rfl rfl 0 rfl (by decide)
(aw_dup d_X9_laysOf_161 rfl rfl
(aw_getI (kc := 16) d_X9_laysOf_162 rfl fl9_133 rfl rfl
(aw_iconst d_X9_laysOf_165 rfl
(aw_iadd d_X9_laysOf_166 rfl
(have e47 := e45 _ rfl; aw_put (kc := 16) d_X9_laysOf_167 rfl fp9_133 rfl rfl rfl rfl
(aw_goto d_X9_laysOf_170 rfl
e47))))))))))))))))))))))))))))))))))))))))))))))))
theorem vX9_laysOf_34 {l : Launch} {P : zM → Prop} {v1 : Int} {v2 : Int} {v3 : Int} {M : zM}
    (H0 : ((0 ≤ 9 * v2 + 2 ∧ 9 * v2 + 2 < 187) ∧ (zI v3 ∧ zI (M 27 0 (9 * v2 + 2)) ∧ ((M 27 0 (9 * v2 + 2)) ≤ v3 → LX9_laysOf_12 l P v1 (v2 + 1) M) ∧ (v3 < (M 27 0 (9 * v2 + 2)) → (((0 ≤ v2 ∧ v2 < 20) ∧ (M 27 0 (9 * v2) = 0 ∨ M 27 0 (9 * v2) = 1)) ∧ ((¬ (M 27 0 (9 * v2) = 1) → (CV l m_X9_comesBid [zr 9 0, zi v2, zi v3] M (fun M63 => LX9_laysOf_34 l P v1 v2 (v3 + 1) M63))) ∧ (M 27 0 (9 * v2) = 1 → (CV l m_X9_comesAsk [zr 9 0, zi v2, zi v3] M (fun M66 => LX9_laysOf_34 l P v1 v2 (v3 + 1) M66))))))))) :
    LX9_laysOf_34 l P v1 v2 v3 M :=
(aw_iload_n d_X9_laysOf_34 rfl rfl 3 rfl
(aw_aload_n d_X9_laysOf_35 rfl rfl 0 rfl (by decide)
(aw_iload_n d_X9_laysOf_36 rfl rfl 2 rfl
(aw_iconst d_X9_laysOf_37 rfl
(have z48 := H0.1; have e49 := H0.2; (aw_VI (As := [zi v2, zi 2]) (st := [zi v3]) d_X9_laysOf_38 rfl cv9_88 ⟨Nat.le_of_ble_eq_true rfl, Nat.le_of_ble_eq_true rfl⟩ rfl rfl (Nat.le_of_ble_eq_true rfl) (Nat.le_of_ble_eq_true rfl) (s_X9_of z48) (fun _ _ hq => aw_eqs hq
(have z50 := e49.1; have z51 := e49.2.1; have e52 := e49.2.2; aw_icmp_ge d_X9_laysOf_41 rfl rfl z50 z51 (fun c53 => have e55 := e52.1 c53; (aw_iinc (lv' := [(2, zi (v2 + 1)), (0, zr 9 0), (1, zi v1), (3, zi v3)]) (y := (v2 + 1)) d_X9_laysOf_73 rfl 2 rfl (by decide) rfl rfl
(aw_goto d_X9_laysOf_76 rfl
(aw_sub [1, 2, 0] rfl e55)))) (fun c54 => have e56 := e52.2 c54; (aw_aload_n d_X9_laysOf_44 rfl rfl 0 rfl (by decide)
(aw_iload_n d_X9_laysOf_45 rfl rfl 2 rfl
(have z57 := e56.1; have e58 := e56.2; (aw_VI (As := [zi v2]) (st := []) d_X9_laysOf_46 rfl cv9_122 ⟨Nat.le_of_ble_eq_true rfl, Nat.le_of_ble_eq_true rfl⟩ rfl rfl (Nat.le_of_ble_eq_true rfl) (Nat.le_of_ble_eq_true rfl) (s_X9_sells z57) (fun _ _ hq => aw_eqs hq
(aw_if_eq d_X9_laysOf_49 rfl rfl zb_I (fun c59 => have e61 := e58.1 (zb_0 c59); (aw_aload_n d_X9_laysOf_61 rfl rfl 0 rfl (by decide)
(aw_iload_n d_X9_laysOf_62 rfl rfl 2 rfl
(aw_iload_n d_X9_laysOf_63 rfl rfl 3 rfl
(aw_VV (As := [zi v2, zi v3]) (st := []) d_X9_laysOf_64 rfl cv9_130 ⟨Nat.le_of_ble_eq_true rfl, Nat.le_of_ble_eq_true rfl⟩ rfl rfl (Nat.le_of_ble_eq_true rfl) (Nat.le_of_ble_eq_true rfl) e61 (fun M63 e64 => (aw_iinc (lv' := [(3, zi (v3 + 1)), (0, zr 9 0), (1, zi v1), (2, zi v2)]) (y := (v3 + 1)) d_X9_laysOf_67 rfl 3 rfl (by decide) rfl rfl
(aw_goto d_X9_laysOf_70 rfl
(aw_sub [1, 2, 3, 0] rfl e64))))))))) (fun c60 => have e62 := e58.2 (zb_n0 c60); (aw_aload_n d_X9_laysOf_52 rfl rfl 0 rfl (by decide)
(aw_iload_n d_X9_laysOf_53 rfl rfl 2 rfl
(aw_iload_n d_X9_laysOf_54 rfl rfl 3 rfl
(aw_VV (As := [zi v2, zi v3]) (st := []) d_X9_laysOf_55 rfl cv9_126 ⟨Nat.le_of_ble_eq_true rfl, Nat.le_of_ble_eq_true rfl⟩ rfl rfl (Nat.le_of_ble_eq_true rfl) (Nat.le_of_ble_eq_true rfl) e62 (fun M66 e67 => (aw_goto d_X9_laysOf_58 rfl
(aw_iinc (lv' := [(3, zi (v3 + 1)), (0, zr 9 0), (1, zi v1), (2, zi v2)]) (y := (v3 + 1)) d_X9_laysOf_67 rfl 3 rfl (by decide) rfl rfl
(aw_goto d_X9_laysOf_70 rfl
(aw_sub [1, 2, 3, 0] rfl e67)))))))))))))))))))))))))
theorem vX9_laysOf {l : Launch} {P : zM → Prop} {v1 : Int} {M : zM}
    (H0 : (∀ M1 : zM, M1 = zu M 9 0 11 0 → (∀ M3 : zM, M3 = zu M1 9 0 15 0 → LX9_laysOf_12 l P v1 0 M3))) :
    CV l m_X9_laysOf [zr 9 0, zi v1] M P :=
(aw_aload_n d_X9_laysOf_0 rfl rfl 0 rfl (by decide)
(aw_iconst d_X9_laysOf_1 rfl
(have e2 := H0 _ rfl; aw_put (kc := 11) d_X9_laysOf_2 rfl fp9_113 rfl rfl rfl rfl
(aw_aload_n d_X9_laysOf_5 rfl rfl 0 rfl (by decide)
(aw_iconst d_X9_laysOf_6 rfl
(have e4 := e2 _ rfl; aw_put (kc := 15) d_X9_laysOf_7 rfl fp9_116 rfl rfl rfl rfl
(aw_iconst d_X9_laysOf_10 rfl
(aw_istore_n (lv' := [(2, zi 0), (0, zr 9 0), (1, zi v1)]) d_X9_laysOf_11 rfl rfl (by decide) rfl
(aw_sub [1, 2, 0] rfl e4)))))))))
theorem c_X9_laysOf {G : Int} (rc : RC M) : CV l m_X9_laysOf [zr 9 0, zi G] M (fun M' => mFr M M' ∧ mLd M' (mB (rS M) (rE M G) (rV M)) (mA (rS M) (rE M G) (rV M)) (qfee (rS M))) := by
  have ok := rc.ok
  have hn := rc.n
  have hf := rc.2.2.2.1
  have gdm := gd_m (E := rE M G) ok
  have hbT := tT_b (f := qfee (rS M)) (B := mB (rS M) (rE M G) (rV M)) (A := mA (rS M) (rE M G) (rV M))
  -- the last loop
  have last : ∀ (n : Nat) (k : Int) (M' : zM), (((mB (rS M) (rE M G) (rV M)).length : Int) - k).toNat = n → 0 ≤ k ∧ k ≤ tT (qfee (rS M)) (mB (rS M) (rE M G) (rV M)) (mA (rS M) (rE M G) (rV M)) → mFr M M' → mRB M' (mB (rS M) (rE M G) (rV M)) → mRA M' (qfee (rS M)) (mA (rS M) (rE M G) (rV M)) → M' 9 0 16 = k →
      M' 9 0 17 + tW (qfee (rS M)) ((mB (rS M) (rE M G) (rV M)).drop k.toNat) ((mA (rS M) (rE M G) (rV M)).drop k.toNat) = tW (qfee (rS M)) (mB (rS M) (rE M G) (rV M)) (mA (rS M) (rE M G) (rV M)) → k + tT (qfee (rS M)) ((mB (rS M) (rE M G) (rV M)).drop k.toNat) ((mA (rS M) (rE M G) (rV M)).drop k.toNat) = tT (qfee (rS M)) (mB (rS M) (rE M G) (rV M)) (mA (rS M) (rE M G) (rV M)) →
      LX9_laysOf_89 l (fun M' => mFr M M' ∧ mLd M' (mB (rS M) (rE M G) (rV M)) (mA (rS M) (rE M G) (rV M)) (qfee (rS M))) M' := by
    generalize mB (rS M) (rE M G) (rV M) = B at *
    generalize mA (rS M) (rE M G) (rV M) = A at *
    generalize qfee (rS M) = f at *
    have hl := gdm.1
    intro n
    induction n with
    | zero =>
      intro k M' hn' hk f0 r1 r2 e6 e7 e8
      have hs := tT_stop (f := f) (B := B) (A := A) (k := k) hk.1 (fun h1 => by omega)
      rw [hs.1] at e8
      rw [hs.2] at e7
      refine vX9_laysOf_89 ⟨by omega, by rw [r1.1]; omega, fun _ => ⟨f0, r1, r2, by omega, by omega⟩, fun c => ?_⟩
      rw [r1.1, e6] at c
      omega
    | succ n ih =>
      intro k M' hn' hk f0 r1 r2 e6 e7 e8
      have stop : ((k < (B.length : Int) → k < (A.length : Int) → gB B k < gA f A k)) → mFr M M' ∧ mLd M' B A f := by
        intro hs
        have hs := tT_stop (f := f) (B := B) (A := A) hk.1 hs
        rw [hs.1] at e8
        rw [hs.2] at e7
        exact ⟨f0, r1, r2, by omega, by omega⟩
      refine vX9_laysOf_89 ?_
      rw [e6, r1.1]
      refine ⟨by omega, by omega, fun c => stop (by omega), fun c => ?_⟩
      rw [r2.1]
      refine ⟨by omega, fun c2 => stop (by omega), fun c2 => ?_⟩
      have q3 := gB_in gdm (k := k) (by omega)
      have q4 := gA_in gdm (f := f) (k := k) (by omega)
      rw [(r1.2 k (by omega)).1, (r2.2 k (by omega)).1]
      refine ⟨by omega, by omega, by omega, fun c3 => stop (fun _ _ => c3), fun c3 M2 p2 M3 p3 => ?_⟩
      have hs := tT_step (f := f) (B := B) (A := A) hk.1 c c2 c3
      have d6 : M2 9 0 16 = k := by rw [p2, zu_at, if_neg (by decide), e6]
      rw [d6] at p3
      have hbd := tT_b (f := f) (B := B.drop (k + 1).toNat) (A := A.drop (k + 1).toNat)
      have o9 : ∀ k, k ≠ 9 → M3 k 0 = M' k 0 := fun k hk => by rw [p3, zu_k hk, p2, zu_k hk]
      refine ih (k + 1) M3 (by omega) (by omega) ((f0.tr (mFr.fld p2 (by omega))).tr (mFr.fld p3 (by omega))) (r1.of ?_ (o9 _ (by decide)) (o9 _ (by decide)) (o9 _ (by decide))) (r2.of ?_ (o9 _ (by decide)) (o9 _ (by decide)) (o9 _ (by decide))) ?_ ?_ (by omega)
      · rw [p3, zu_at, if_neg (by decide), p2, zu_at, if_neg (by decide)]
      · rw [p3, zu_at, if_neg (by decide), p2, zu_at, if_neg (by decide)]
      · rw [p3, zu_at, if_pos rfl]
      · rw [p3, zu_at, if_neg (by decide), p2, zu_at, if_pos rfl]; omega
  have outer : ∀ (n : Nat) (t : Int) (M' : zM), (qn (rS M) - t).toNat = n → 0 ≤ t ∧ t ≤ qn (rS M) → mFr M M' → (∃ B A, mRB M' B ∧ mRA M' (qfee (rS M)) A ∧ isRow B (PB (rS M) (fun t' => t' < t ∧ rE M G t') (rV M)) ∧ isRow A (PA (rS M) (fun t' => t' < t ∧ rE M G t') (rV M))) →
      LX9_laysOf_12 l (fun M' => mFr M M' ∧ mLd M' (mB (rS M) (rE M G) (rV M)) (mA (rS M) (rE M G) (rV M)) (qfee (rS M))) G t M' := by
    intro n
    induction n with
    | zero =>
      intro t M' hn' ht f0 hx
      obtain ⟨B, A, r1, r2, hB, hA⟩ := hx
      have e180 : M' 27 0 180 = qn (rS M) := by rw [← rS_n M', f0.S]
      have hnS : qn (rS M) = M 27 0 180 := rfl
      refine vX9_laysOf_12 ⟨by omega, by omega, fun _ M1 q1 M2 q2 => ?_, fun c => by omega⟩
      have eB : mB (rS M) (rE M G) (rV M) = B := rowOf_is (hB.to fun x => ⟨fun ⟨t1, u1, c, q⟩ => ⟨t1, u1, ⟨c.1, c.2.1.2, c.2.2⟩, q⟩, fun ⟨t1, u1, c, q⟩ => ⟨t1, u1, ⟨c.1, ⟨by have := c.1.2.1; omega, c.2.1⟩, c.2.2⟩, q⟩⟩)
      have eA : mA (rS M) (rE M G) (rV M) = A := rowOf_is (hA.to fun x => ⟨fun ⟨t1, u1, c, q⟩ => ⟨t1, u1, ⟨c.1, c.2.1.2, c.2.2⟩, q⟩, fun ⟨t1, u1, c, q⟩ => ⟨t1, u1, ⟨c.1, ⟨by have := c.1.2.1; omega, c.2.1⟩, c.2.2⟩, q⟩⟩)
      have o9 : ∀ k, k ≠ 9 → M2 k 0 = M' k 0 := fun k hk => by rw [q2, zu_k hk, q1, zu_k hk]
      have := last _ 0 M2 rfl (by omega) ((f0.tr (mFr.fld q1 (by omega))).tr (mFr.fld q2 (by omega))) (by rw [eB]; exact r1.of (by rw [q2, zu_at, if_neg (by decide), q1, zu_at, if_neg (by decide)]) (o9 _ (by decide)) (o9 _ (by decide)) (o9 _ (by decide))) (by rw [eA]; exact r2.of (by rw [q2, zu_at, if_neg (by decide), q1, zu_at, if_neg (by decide)]) (o9 _ (by decide)) (o9 _ (by decide)) (o9 _ (by decide)))
        (by rw [q2, zu_at, if_neg (by decide), q1, zu_at, if_pos rfl])
      refine this ?_ ?_
      · rw [q2, zu_at, if_pos rfl]
        rw [Int.zero_add]
        rfl
      · rw [Int.zero_add]
        rfl
    | succ n ih =>
      intro t M' hn' ht f0 hx
      have hnS : qn (rS M) = M 27 0 180 := rfl
      have e180 : M' 27 0 180 = qn (rS M) := by rw [← rS_n M', f0.S]
      have ht' : 0 ≤ t ∧ t < qn (rS M) := by omega
      have rc' := f0.rc rc
      have ht2 : 0 ≤ t ∧ t < qn (rS M') := by rw [f0.S]; exact ht'
      have egr : M' 27 0 (9 * t + 1) = qgr (rS M) t := by rw [← rS_gr ht2, f0.S]
      have eun : M' 27 0 (9 * t + 2) = qun (rS M) t := by rw [← rS_un ht2, f0.S]
      have esl : M' 27 0 (9 * t) = qsl (rS M) t := by rw [← rS_sl ht2, f0.S]
      have hgr := rc.2.2.1 t ht'
      have h1 := hb_has (s := G) (k := qgr (rS M) t) (by omega)
      have h2 := hb_has (s := M' 9 0 5) (k := t) (by omega)
      have hu4 := ok.2.1 t ht'
      rw [f0.F 5 (by omega)] at h2
      refine vX9_laysOf_12 ⟨by omega, by omega, fun e => by omega, fun _ => ⟨by omega, ?_⟩⟩
      rw [egr, f0.F 5 (by omega)]
      refine ⟨fun c => ?_, fun c => ?_⟩
      · have hE : rE M G t := ⟨h1.mp c.1, by
          cases q : hb (M 9 0 5) t with
          | false => rfl
          | true => exact absurd (h2.mpr q) c.2⟩
        have inner : ∀ (m : Nat) (u : Int) (M' : zM), (qun (rS M) t - u).toNat = m → 0 ≤ u ∧ u ≤ qun (rS M) t → mFr M M' →
            (∃ B A, mRB M' B ∧ mRA M' (qfee (rS M)) A ∧ isRow B (fun x => PB (rS M) (fun t' => t' < t ∧ rE M G t') (rV M) x ∨ ∃ u', (0 ≤ u' ∧ u' < u) ∧ ¬ qsl (rS M) t = 1 ∧ x = kB (rV M) t u') ∧ isRow A (fun x => PA (rS M) (fun t' => t' < t ∧ rE M G t') (rV M) x ∨ ∃ u', (0 ≤ u' ∧ u' < u) ∧ qsl (rS M) t = 1 ∧ x = kA (rV M) t u')) →
            LX9_laysOf_34 l (fun M' => mFr M M' ∧ mLd M' (mB (rS M) (rE M G) (rV M)) (mA (rS M) (rE M G) (rV M)) (qfee (rS M))) G t u M' := by
          intro m
          induction m with
          | zero =>
            intro u M' hm hu f0 hx
            obtain ⟨B, A, r1, r2, hB, hA⟩ := hx
            have ht2 : 0 ≤ t ∧ t < qn (rS M') := by rw [f0.S]; exact ht'
            have eun : M' 27 0 (9 * t + 2) = qun (rS M) t := by rw [← rS_un ht2, f0.S]
            refine vX9_laysOf_34 ⟨by omega, by omega, by omega, fun _ => ?_, fun e => by omega⟩
            refine ih (t + 1) M' (by omega) (by omega) f0 ⟨B, A, r1, r2, hB.to fun x => ⟨?_, ?_⟩, hA.to fun x => ⟨?_, ?_⟩⟩
            · rintro (⟨t1, u1, c, rfl⟩ | ⟨u1, h1, h2, rfl⟩)
              · exact ⟨t1, u1, ⟨c.1, ⟨by have := c.2.1.1; omega, c.2.1.2⟩, c.2.2⟩, rfl⟩
              · exact ⟨t, u1, ⟨⟨ht'.1, ht'.2, h1.1, by omega⟩, ⟨by omega, hE⟩, h2⟩, rfl⟩
            · rintro ⟨t1, u1, c, rfl⟩
              by_cases q : t1 = t
              · subst q; exact .inr ⟨u1, by have := c.1; unfold qU at this; omega, c.2.2, rfl⟩
              · exact .inl ⟨t1, u1, ⟨c.1, ⟨by have := c.2.1.1; omega, c.2.1.2⟩, c.2.2⟩, rfl⟩
            · rintro (⟨t1, u1, c, rfl⟩ | ⟨u1, h1, h2, rfl⟩)
              · exact ⟨t1, u1, ⟨c.1, ⟨by have := c.2.1.1; omega, c.2.1.2⟩, c.2.2⟩, rfl⟩
              · exact ⟨t, u1, ⟨⟨ht'.1, ht'.2, h1.1, by omega⟩, ⟨by omega, hE⟩, h2⟩, rfl⟩
            · rintro ⟨t1, u1, c, rfl⟩
              by_cases q : t1 = t
              · subst q; exact .inr ⟨u1, by have := c.1; unfold qU at this; omega, c.2.2, rfl⟩
              · exact .inl ⟨t1, u1, ⟨c.1, ⟨by have := c.2.1.1; omega, c.2.1.2⟩, c.2.2⟩, rfl⟩
          | succ m ihm =>
            intro u M' hm hu f0 hx
            obtain ⟨B, A, r1, r2, hB, hA⟩ := hx
            have rc' := f0.rc rc
            have ht2 : 0 ≤ t ∧ t < qn (rS M') := by rw [f0.S]; exact ht'
            have eun : M' 27 0 (9 * t + 2) = qun (rS M) t := by rw [← rS_un ht2, f0.S]
            have esl : M' 27 0 (9 * t) = qsl (rS M) t := by rw [← rS_sl ht2, f0.S]
            have hqu : qU (rS M) t u := ⟨ht'.1, ht'.2, hu.1, by omega⟩
            have hsd := rc'.said (t := t) (u := u) (by rw [f0.S]; exact hqu)
            rw [f0.V] at hsd
            have rg := ok.rng hqu
            have dB := kB_d rg
            have dA := kA_d rg
            have rB : ∀ x, (PB (rS M) (fun t' => t' < t ∧ rE M G t') (rV M) x ∨ ∃ u', (0 ≤ u' ∧ u' < u) ∧ ¬ qsl (rS M) t = 1 ∧ x = kB (rV M) t u') → PB (rS M) (fun _ => True) (rV M) x ∧ x % 80 < 4 * t + u := by
              rintro x (⟨t1, u1, c, rfl⟩ | ⟨u1, h1, h2, rfl⟩)
              · have := (kB_d (ok.rng c.1)).2.2.2.2.2
                have := c.2.1.1
                have := ok.rng c.1
                exact ⟨⟨t1, u1, ⟨c.1, trivial, c.2.2⟩, rfl⟩, by omega⟩
              · have hq1 : qU (rS M) t u1 := ⟨ht'.1, ht'.2, h1.1, by omega⟩
                have := (kB_d (ok.rng hq1)).2.2.2.2.2
                exact ⟨⟨t, u1, ⟨hq1, trivial, h2⟩, rfl⟩, by omega⟩
            have rA : ∀ x, (PA (rS M) (fun t' => t' < t ∧ rE M G t') (rV M) x ∨ ∃ u', (0 ≤ u' ∧ u' < u) ∧ qsl (rS M) t = 1 ∧ x = kA (rV M) t u') → PA (rS M) (fun _ => True) (rV M) x ∧ x % 80 < 4 * t + u := by
              rintro x (⟨t1, u1, c, rfl⟩ | ⟨u1, h1, h2, rfl⟩)
              · have := (kA_d (ok.rng c.1)).2.2.2.2.2
                have := c.2.1.1
                have := ok.rng c.1
                exact ⟨⟨t1, u1, ⟨c.1, trivial, c.2.2⟩, rfl⟩, by omega⟩
              · have hq1 : qU (rS M) t u1 := ⟨ht'.1, ht'.2, h1.1, by omega⟩
                have := (kA_d (ok.rng hq1)).2.2.2.2.2
                exact ⟨⟨t, u1, ⟨hq1, trivial, h2⟩, rfl⟩, by omega⟩
            have lB : B.length < 80 := by
              have := len_slots (fun x => x % 80) (4 * t + u).toNat B (PB_slot ok hB.1 fun x hx => (rB x ((hB.2 x).mp hx)).1) (fun x hx => by
                have := (rB x ((hB.2 x).mp hx)).2
                omega)
              omega
            have lA : A.length < 80 := by
              have := len_slots (fun x => x % 80) (4 * t + u).toNat A (PA_slot ok hA.1 fun x hx => (rA x ((hA.2 x).mp hx)).1) (fun x hx => by
                have := (rA x ((hA.2 x).mp hx)).2
                omega)
              omega
            refine vX9_laysOf_34 ⟨by omega, by omega, by omega, fun e => by omega, fun _ => ⟨⟨by omega, rc'.sl ht2⟩, fun c => ?_, fun c => ?_⟩⟩
            · rw [esl] at c
              refine (c_X9_comesBid (x := kB (rV M) t u) hB r1 (fun y hy => by have := (rB y ((hB.2 y).mp hy)).2; omega) (by omega) (fun y hy => by have := PB_rng ok y (rB y ((hB.2 y).mp hy)).1; omega) lB ⟨hsd.2.2.1, hsd.2.2.2, hsd.2.1⟩ dB.1 dB.2.1 (by rw [hsd.1]; exact dB.2.2.1)).mono ?_
              rintro M2 ⟨f2, f3, R', hR', hl', r'⟩
              have fr : mFr M' M2 := ⟨fun k i h1 h2 => f2 k i h1 (by omega), fun i j h => f3 i j (by omega)⟩
              refine ihm (u + 1) M2 (by omega) (by omega) (f0.tr fr) ⟨R', A, r', ?_, hR'.to fun x => ⟨?_, ?_⟩, hA.to fun x => ⟨?_, ?_⟩⟩
              · exact r2.of (f3 _ _ (by omega)) (f2 _ _ (by decide) (by decide)) (f2 _ _ (by decide) (by decide)) (f2 _ _ (by decide) (by decide))
              · rintro ((q | ⟨u1, h1, h2, q⟩) | q)
                · exact .inl q
                · exact .inr ⟨u1, by omega, h2, q⟩
                · exact .inr ⟨u, by omega, c, q⟩
              · rintro (q | ⟨u1, h1, h2, q⟩)
                · exact .inl (.inl q)
                · by_cases c : u1 = u
                  · subst c; exact .inr q
                  · exact .inl (.inr ⟨u1, by omega, h2, q⟩)
              · rintro (q | ⟨u1, h1, h2, q⟩)
                · exact .inl q
                · exact absurd h2 c
              · rintro (q | ⟨u1, h1, h2, q⟩)
                · exact .inl q
                · exact absurd h2 c
            · rw [esl] at c
              have efee : M' 27 0 181 = qfee (rS M) := by rw [← rS_fee M', f0.S]
              refine (c_X9_comesAsk (x := kA (rV M) t u) (f := qfee (rS M)) hA r2 (fun y hy => by have := (rA y ((hA.2 y).mp hy)).2; omega) (by omega) (fun y hy => by have := PA_rng ok y (rA y ((hA.2 y).mp hy)).1; omega) lA ⟨hsd.2.2.1, hsd.2.2.2, hsd.2.1⟩ hf dA.1 dA.2.1 (by rw [hsd.1, efee]; exact dA.2.2.1 _)).mono ?_
              rintro M2 ⟨f2, f3, R', hR', hl', r'⟩
              have fr : mFr M' M2 := ⟨fun k i h1 h2 => f2 k i h1 (by omega), fun i j h => f3 i j (by omega)⟩
              refine ihm (u + 1) M2 (by omega) (by omega) (f0.tr fr) ⟨B, R', ?_, r', hB.to fun x => ⟨?_, ?_⟩, hR'.to fun x => ⟨?_, ?_⟩⟩
              · exact r1.of (f3 _ _ (by omega)) (f2 _ _ (by decide) (by decide)) (f2 _ _ (by decide) (by decide)) (f2 _ _ (by decide) (by decide))
              · rintro (q | ⟨u1, h1, h2, q⟩)
                · exact .inl q
                · exact absurd c h2
              · rintro (q | ⟨u1, h1, h2, q⟩)
                · exact .inl q
                · exact absurd c h2
              · rintro ((q | ⟨u1, h1, h2, q⟩) | q)
                · exact .inl q
                · exact .inr ⟨u1, by omega, h2, q⟩
                · exact .inr ⟨u, by omega, c, q⟩
              · rintro (q | ⟨u1, h1, h2, q⟩)
                · exact .inl (.inl q)
                · by_cases c : u1 = u
                  · subst c; exact .inr q
                  · exact .inl (.inr ⟨u1, by omega, h2, q⟩)
        obtain ⟨B, A, r1, r2, hB, hA⟩ := hx
        refine inner _ 0 M' rfl (by omega) f0 ⟨B, A, r1, r2, hB.to fun x => ⟨.inl, ?_⟩, hA.to fun x => ⟨.inl, ?_⟩⟩
        · rintro (q | ⟨u1, h1, -⟩)
          · exact q
          · omega
        · rintro (q | ⟨u1, h1, -⟩)
          · exact q
          · omega
      · have hE : ¬ rE M G t := by
          rintro ⟨q1, q2⟩
          exact c ⟨h1.mpr q1, fun q => by rw [h2.mp q] at q2; cases q2⟩
        obtain ⟨B, A, r1, r2, hB, hA⟩ := hx
        have sk : ∀ t1, (t1 < t ∧ rE M G t1) ↔ (t1 < t + 1 ∧ rE M G t1) := fun t1 => ⟨fun q => ⟨by omega, q.2⟩, fun q => ⟨by
          by_cases e : t1 = t
          · subst e; exact absurd q.2 hE
          · omega, q.2⟩⟩
        refine ih (t + 1) M' (by omega) (by omega) f0 ⟨B, A, r1, r2, hB.to fun x => ⟨?_, ?_⟩, hA.to fun x => ⟨?_, ?_⟩⟩
        · rintro ⟨t1, u1, c, q⟩; exact ⟨t1, u1, ⟨c.1, (sk t1).mp c.2.1, c.2.2⟩, q⟩
        · rintro ⟨t1, u1, c, q⟩; exact ⟨t1, u1, ⟨c.1, (sk t1).mpr c.2.1, c.2.2⟩, q⟩
        · rintro ⟨t1, u1, c, q⟩; exact ⟨t1, u1, ⟨c.1, (sk t1).mp c.2.1, c.2.2⟩, q⟩
        · rintro ⟨t1, u1, c, q⟩; exact ⟨t1, u1, ⟨c.1, (sk t1).mpr c.2.1, c.2.2⟩, q⟩
  refine vX9_laysOf ?_
  intro M1 q1 M2 q2
  have hnS : qn (rS M) = M 27 0 180 := rfl
  refine outer _ 0 M2 rfl (by omega) ((mFr.fld q1 (by omega)).tr (mFr.fld q2 (by omega))) ⟨[], [], ⟨by rw [q2, zu_at, if_neg (by decide), q1, zu_at, if_pos rfl]; rfl, fun j hj => by simp at hj; omega⟩, ⟨by rw [q2, zu_at, if_pos rfl]; rfl, fun j hj => by simp at hj; omega⟩, ⟨List.Pairwise.nil, fun x => ⟨fun q => absurd q List.not_mem_nil, ?_⟩⟩, ⟨List.Pairwise.nil, fun x => ⟨fun q => absurd q List.not_mem_nil, ?_⟩⟩⟩
  · rintro ⟨t1, u1, c, -⟩
    have := c.2.1.1
    have := c.1.1
    omega
  · rintro ⟨t1, u1, c, -⟩
    have := c.2.1.1
    have := c.1.1
    omega
end
