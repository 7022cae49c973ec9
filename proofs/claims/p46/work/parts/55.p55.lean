/-! ===== acts: the class, shelves and tape ===== -/
theorem cSt.tape {M M' : zM} {A : zY} {n : Int} {b : Int → Int} (h : cSt M A) (o : ∀ k i, k ≠ 24 → k ≠ 7 → M' k i = M k i) (en : M' 7 0 2 = n) (eb : ∀ i, 0 ≤ i ∧ i < n → M' 24 0 i = b i) : cSt M' (yTape A n b) := by
  obtain ⟨⟨a1, a2⟩, bb, ⟨c1, c2, c3⟩, ⟨d1, d2, d3⟩, e1, e2⟩ := h
  have g : ∀ i k, (k = 1 ∨ (12 ≤ k ∧ k ≤ 17)) → M' k i = M k i := fun i k hk => o k i (by omega) (by omega)
  refine ⟨⟨(hall_k (g 0)).2 a1, (hall_k (g 0)).1.trans a2⟩, (hall_k (g 1)).2 bb, ⟨by rw [o 2 0 (by decide) (by decide)]; exact c1, by rw [o 2 0 (by decide) (by decide)]; exact c2, fun i hi => ?_⟩, ⟨by rw [o 6 0 (by decide) (by decide)]; exact d1, fun q => ⟨(hall_k (g 12)).2 (d2 q).1, (hall_k (g 12)).1.trans (d2 q).2⟩, fun q => ⟨(hall_k (g 13)).2 (d3 q).1, (hall_k (g 13)).1.trans (d3 q).2⟩⟩, en, eb⟩
  rw [o 2 0 (by decide) (by decide)]
  exact ⟨(hall_k (g _)).2 (c3 i hi).1, (hall_k (g _)).1.trans (c3 i hi).2⟩
theorem kf_or {a b s : Int} (ha : a = 0 ∨ a = 1) (hb : b = 0 ∨ b = 1) (hs : s = 0 ∨ s = 1) : zor (a + 2 * b) (zshl 1 s) = (if 0 = s then 1 else a) + 2 * (if 1 = s then 1 else b) := by
  rcases ha with rfl | rfl <;> rcases hb with rfl | rfl <;> rcases hs with rfl | rfl <;> decide +kernel
theorem kf_and {a b s : Int} (ha : a = 0 ∨ a = 1) (hb : b = 0 ∨ b = 1) (hs : s = 0 ∨ s = 1) : zI (zand (a + 2 * b) (zshl 1 s)) ∧ (zand (a + 2 * b) (zshl 1 s) = 0 ↔ (if s = 0 then a else b) = 0) := by
  rcases ha with rfl | rfl <;> rcases hb with rfl | rfl <;> rcases hs with rfl | rfl <;> decide +kernel
section
variable {l : Launch} {M : zM} {A : zY} {kk : Int}
def LX7_append_3 (l : Launch) (P : zM → Prop) (v1 : Int) (v2 : Int) (M : zM) : Prop := AW l m_X7_append (zTv m_X7_append P) 3 [(0, zr 7 0), (1, zi v1), (2, zi v2)] [] M
theorem vX7_append_3 {l : Launch} {P : zM → Prop} {v1 : Int} {v2 : Int} {M : zM}
    (H0 : (zI v2 ∧ (v2 < 0 → P M) ∧ (0 ≤ v2 → (zI (M 7 0 2) ∧ ((M 7 0 2) < 0 → LX7_append_3 l P v1 (v2 - 8) M) ∧ (0 ≤ (M 7 0 2) → ((400 ≤ (M 7 0 2) → LX7_append_3 l P v1 (v2 - 8) M) ∧ ((M 7 0 2) < 400 → ((0 ≤ (M 7 0 2) ∧ (M 7 0 2) < 400) ∧ ∀ M18 : zM, M18 = zu M 24 0 (M 7 0 2) (zand (zushr v1 v2) 255) → (∀ M20 : zM, M20 = zu M18 7 0 2 ((M18 7 0 2) + 1) → LX7_append_3 l P v1 (v2 - 8) M20))))))))) :
    LX7_append_3 l P v1 v2 M :=
(aw_iload_n d_X7_append_3 rfl rfl 2 rfl
(have z1 := H0.1; have e2 := H0.2; aw_if_lt d_X7_append_4 rfl rfl z1 (fun c3 => have e5 := e2.1 c3; (aw_rv d_X7_append_56 rfl e5)) (fun c4 => have e6 := e2.2 c4; (aw_aload_n d_X7_append_7 rfl rfl 0 rfl (by decide)
(aw_getI (kc := 2) d_X7_append_8 rfl fl7_22 rfl rfl
(have z7 := e6.1; have e8 := e6.2; aw_if_lt d_X7_append_11 rfl rfl z7 (fun c9 => have e11 := e8.1 c9; (aw_iinc (lv' := [(2, zi (v2 - 8)), (0, zr 7 0), (1, zi v1)]) (y := (v2 - 8)) d_X7_append_50 rfl 2 rfl (by decide) rfl rfl
(aw_goto d_X7_append_53 rfl
(aw_sub [1, 2, 0] rfl e11)))) (fun c10 => have e12 := e8.2 c10; (aw_aload_n d_X7_append_14 rfl rfl 0 rfl (by decide)
(aw_getI (kc := 2) d_X7_append_15 rfl fl7_22 rfl rfl
(aw_sipush d_X7_append_18 rfl (by decide)
(aw_icmp_ge d_X7_append_21 rfl rfl z7 (by decide) (fun c13 => have e15 := e12.1 c13; (aw_iinc (lv' := [(2, zi (v2 - 8)), (0, zr 7 0), (1, zi v1)]) (y := (v2 - 8)) d_X7_append_50 rfl 2 rfl (by decide) rfl rfl
(aw_goto d_X7_append_53 rfl
(aw_sub [1, 2, 0] rfl e15)))) (fun c14 => have e16 := e12.2 c14; (aw_aload_n d_X7_append_24 rfl rfl 0 rfl (by decide)
(aw_getR (k' := 24) (a := 0) (b := 0) (j := 0) d_X7_append_25 rfl fl7_9 rfl zj0 ⟨by decide, fun _ => by decide⟩
(aw_aload_n d_X7_append_28 rfl rfl 0 rfl (by decide)
(aw_getI (kc := 2) d_X7_append_29 rfl fl7_22 rfl rfl
(aw_iload_n d_X7_append_32 rfl rfl 1 rfl
(aw_iload_n d_X7_append_33 rfl rfl 2 rfl
(aw_iushr d_X7_append_34 rfl zushr_h
(aw_sipush d_X7_append_35 rfl (by decide)
(aw_iand d_X7_append_38 rfl zand_h
(have z17 := e16.1; have e19 := e16.2 _ rfl; aw_iast d_X7_append_39 rfl za24 z17
(aw_aload_n d_X7_append_40 rfl rfl 0 rfl (by decide)
(aw_dup d_X7_append_41 rfl rfl
(aw_getI (kc := 2) d_X7_append_42 rfl fl7_22 rfl rfl
(aw_iconst d_X7_append_45 rfl
(aw_iadd d_X7_append_46 rfl
(have e21 := e19 _ rfl; aw_put (kc := 2) d_X7_append_47 rfl fp7_22 rfl rfl rfl rfl
(aw_iinc (lv' := [(2, zi (v2 - 8)), (0, zr 7 0), (1, zi v1)]) (y := (v2 - 8)) d_X7_append_50 rfl 2 rfl (by decide) rfl rfl
(aw_goto d_X7_append_53 rfl
(aw_sub [1, 2, 0] rfl e21)))))))))))))))))))))))))))))))
theorem vX7_append {l : Launch} {P : zM → Prop} {v1 : Int} {M : zM}
    (H0 : LX7_append_3 l P v1 24 M) :
    CV l m_X7_append [zr 7 0, zi v1] M P :=
(aw_bipush d_X7_append_0 rfl (by decide)
(aw_istore_n (lv' := [(2, zi 24), (0, zr 7 0), (1, zi v1)]) d_X7_append_2 rfl rfl (by decide) rfl
(aw_sub [1, 2, 0] rfl H0)))
theorem vX8_feed {l : Launch} {P : Int → zM → Prop} {v1 : Int} {v2 : Int} {v3 : Int} {v4 : Int} {v5 : Int} {M : zM}
    (H0 : (zI ((M 7 0 2) + 20) ∧ (((M 7 0 2) + 20) ≤ 400 → (CV l m_X7_append [zr 7 0, zi v1] M (fun M7 => (CV l m_X7_append [zr 7 0, zi v2] M7 (fun M10 => (CV l m_X7_append [zr 7 0, zi v3] M10 (fun M13 => (CV l m_X7_append [zr 7 0, zi v4] M13 (fun M16 => (CV l m_X7_append [zr 7 0, zi v5] M16 (fun M19 => P (M19 7 0 2) M19))))))))))) ∧ (400 < ((M 7 0 2) + 20) → P (-1) M))) :
    CI l m_X8_feed [zr 8 0, zi v1, zi v2, zi v3, zi v4, zi v5] M P :=
(aw_aload_n d_X8_feed_0 rfl rfl 0 rfl (by decide)
(aw_getR (k' := 7) (a := 0) (b := 0) (j := 0) d_X8_feed_1 rfl fl8_19 rfl zj0 ⟨by decide, fun _ => by decide⟩
(aw_getI (kc := 2) d_X8_feed_4 rfl fl8_76 rfl rfl
(aw_bipush d_X8_feed_7 rfl (by decide)
(aw_iadd d_X8_feed_9 rfl
(aw_sipush d_X8_feed_10 rfl (by decide)
(have z1 := H0.1; have e2 := H0.2; aw_icmp_le d_X8_feed_13 rfl rfl z1 (by decide) (fun c3 => have e5 := e2.1 c3; (aw_aload_n d_X8_feed_18 rfl rfl 0 rfl (by decide)
(aw_getR (k' := 7) (a := 0) (b := 0) (j := 0) d_X8_feed_19 rfl fl8_19 rfl zj0 ⟨by decide, fun _ => by decide⟩
(aw_iload_n d_X8_feed_22 rfl rfl 1 rfl
(aw_VV (As := [zi v1]) (st := []) d_X8_feed_23 rfl cv8_80 ⟨Nat.le_of_ble_eq_true rfl, Nat.le_of_ble_eq_true rfl⟩ rfl rfl (Nat.le_of_ble_eq_true rfl) (Nat.le_of_ble_eq_true rfl) e5 (fun M7 e8 => (aw_aload_n d_X8_feed_26 rfl rfl 0 rfl (by decide)
(aw_getR (k' := 7) (a := 0) (b := 0) (j := 0) d_X8_feed_27 rfl fl8_19 rfl zj0 ⟨by decide, fun _ => by decide⟩
(aw_iload_n d_X8_feed_30 rfl rfl 2 rfl
(aw_VV (As := [zi v2]) (st := []) d_X8_feed_31 rfl cv8_80 ⟨Nat.le_of_ble_eq_true rfl, Nat.le_of_ble_eq_true rfl⟩ rfl rfl (Nat.le_of_ble_eq_true rfl) (Nat.le_of_ble_eq_true rfl) e8 (fun M10 e11 => (aw_aload_n d_X8_feed_34 rfl rfl 0 rfl (by decide)
(aw_getR (k' := 7) (a := 0) (b := 0) (j := 0) d_X8_feed_35 rfl fl8_19 rfl zj0 ⟨by decide, fun _ => by decide⟩
(aw_iload_n d_X8_feed_38 rfl rfl 3 rfl
(aw_VV (As := [zi v3]) (st := []) d_X8_feed_39 rfl cv8_80 ⟨Nat.le_of_ble_eq_true rfl, Nat.le_of_ble_eq_true rfl⟩ rfl rfl (Nat.le_of_ble_eq_true rfl) (Nat.le_of_ble_eq_true rfl) e11 (fun M13 e14 => (aw_aload_n d_X8_feed_42 rfl rfl 0 rfl (by decide)
(aw_getR (k' := 7) (a := 0) (b := 0) (j := 0) d_X8_feed_43 rfl fl8_19 rfl zj0 ⟨by decide, fun _ => by decide⟩
(aw_iload d_X8_feed_46 rfl 4 rfl
(aw_VV (As := [zi v4]) (st := []) d_X8_feed_48 rfl cv8_80 ⟨Nat.le_of_ble_eq_true rfl, Nat.le_of_ble_eq_true rfl⟩ rfl rfl (Nat.le_of_ble_eq_true rfl) (Nat.le_of_ble_eq_true rfl) e14 (fun M16 e17 => (aw_aload_n d_X8_feed_51 rfl rfl 0 rfl (by decide)
(aw_getR (k' := 7) (a := 0) (b := 0) (j := 0) d_X8_feed_52 rfl fl8_19 rfl zj0 ⟨by decide, fun _ => by decide⟩
(aw_iload d_X8_feed_55 rfl 5 rfl
(aw_VV (As := [zi v5]) (st := []) d_X8_feed_57 rfl cv8_80 ⟨Nat.le_of_ble_eq_true rfl, Nat.le_of_ble_eq_true rfl⟩ rfl rfl (Nat.le_of_ble_eq_true rfl) (Nat.le_of_ble_eq_true rfl) e17 (fun M19 e20 => (aw_aload_n d_X8_feed_60 rfl rfl 0 rfl (by decide)
(aw_getR (k' := 7) (a := 0) (b := 0) (j := 0) d_X8_feed_61 rfl fl8_19 rfl zj0 ⟨by decide, fun _ => by decide⟩
(aw_getI (kc := 2) d_X8_feed_64 rfl fl8_76 rfl rfl
(aw_ri d_X8_feed_67 rfl e20)))))))))))))))))))))))))))))) (fun c4 => have e6 := e2.2 c4; (aw_iconst d_X8_feed_16 rfl
(aw_ri d_X8_feed_17 rfl e6))))))))))
theorem wfY.kf {A : zY} (w : wfY kk A) : (ykf A 0 = 0 ∨ ykf A 0 = 1) ∧ (ykf A 1 = 0 ∨ ykf A 1 = 1) := by
  have a := w.2.2.2.1 0 (by omega)
  have b := w.2.2.2.1 1 (by omega)
  exact ⟨a.imp id (fun q => q.1), b.imp id (fun q => q.1)⟩
theorem a8_keep {s : Int} (h : cSt M A) (w : wfY kk A) (zs : zI s) : CI l m_X8_keep [zr 8 0, zi s] M (rC (aKeep A s) M) := by
  have wk := w.kf
  refine vX8_keep ⟨zs, fun a => ?_, fun a => ?_⟩
  · have hn := h.n
    obtain ⟨⟨a1, a2⟩, b, ⟨c1, c2, c3⟩, ⟨d1, d2, d3⟩, e1, e2⟩ := h
    refine vX6_put (c_X6_at a ?_)
    refine (c_X1_copyFrom (h := s.toNat + 12) a1 (by omega)).mono ?_
    rintro M1 ⟨f1, w1, s1⟩ M2 q2
    have n1 : ∀ k, k ≠ 1 → ¬ (12 ≤ k ∧ k ≤ 17) → M1 k = M k := fun k h1 h2 => by
      funext i
      exact f1 k i (fun q => by have := q.1; omega)
    have o : ∀ k i, k ≠ 6 → M2 k i = M1 k i := fun k i hk => by rw [q2, zu_k hk]
    have g : ∀ i, i ≠ s.toNat + 12 → ∀ k, (k = 1 ∨ (12 ≤ k ∧ k ≤ 17)) → M2 k i = M k i := fun i hi k hk => by
      rw [o k i (by omega)]
      exact f1 k i (fun q => hi q.2)
    have n : ∀ k i, k ≠ 6 → k ≠ 1 → ¬ (12 ≤ k ∧ k ≤ 17) → M2 k i = M k i := fun k i h0 h1 h2 => by rw [o k i h0, n1 k h1 h2]
    have e6 : M2 6 0 1 = (if 0 = s then 1 else ykf A 0) + 2 * (if 1 = s then 1 else ykf A 1) := by
      rw [q2, zu_at, if_pos rfl, n1 6 (by omega) (by omega), d1]
      exact kf_or wk.1 wk.2 (by omega)
    have K := hall_k (M := M1) (M' := M2) (h := s.toNat + 12) (fun k hk => o k _ (by omega))
    have K0 := hall_k (g 0 (by omega))
    unfold aKeep
    rw [if_neg (by omega)]
    refine ⟨?_, ⟨⟨K0.2 a1, K0.1.trans a2⟩, (hall_k (g 1 (by omega))).2 b, ⟨by rw [n 2 0 (by omega) (by omega) (by omega)]; exact c1, by rw [n 2 0 (by omega) (by omega) (by omega)]; exact c2, fun i hi => ?_⟩, ⟨e6, fun q => ?_, fun q => ?_⟩, by rw [n 7 0 (by omega) (by omega) (by omega)]; exact e1, fun i hi => by rw [n 24 0 (by omega) (by omega) (by omega)]; exact e2 i hi⟩, fun k i hk => n k i (by unfold isMd at hk; omega) (by unfold isMd at hk; omega) (by unfold isMd at hk; omega)⟩
    · rw [g 0 (by omega) 1 (by omega)]
      exact hn
    · rw [n 2 0 (by omega) (by omega) (by omega)]
      have hb := hix_b (M 2 0 1) i
      have k := hall_k (g (hix (M 2 0 1) i) (by omega))
      exact ⟨k.2 (c3 i hi).1, k.1.trans (c3 i hi).2⟩
    · show hW M2 12 ∧ hS M2 12 = if 0 = s then yS A else ykh A 0
      by_cases z : 0 = s
      · subst z
        rw [if_pos rfl]
        exact ⟨K.2 w1, K.1.trans (s1.trans a2)⟩
      · rw [if_neg z]
        have q' : (if 0 = s then 1 else ykf A 0) = 1 := q
        rw [if_neg z] at q'
        have k := hall_k (g 12 (by omega))
        exact ⟨k.2 (d2 q').1, k.1.trans (d2 q').2⟩
    · show hW M2 13 ∧ hS M2 13 = if 1 = s then yS A else ykh A 1
      by_cases z : 1 = s
      · subst z
        rw [if_pos rfl]
        exact ⟨K.2 w1, K.1.trans (s1.trans a2)⟩
      · rw [if_neg z]
        have q' : (if 1 = s then 1 else ykf A 1) = 1 := q
        rw [if_neg z] at q'
        have k := hall_k (g 13 (by omega))
        exact ⟨k.2 (d3 q').1, k.1.trans (d3 q').2⟩
  · unfold aKeep
    rw [if_pos a]
    exact rC.st h
theorem a8_back {s : Int} (h : cSt M A) (w : wfY kk A) (zs : zI s) : CI l m_X8_back [zr 8 0, zi s] M (rC (aBack A s) M) := by
  have wk := w.kf
  refine vX8_back ⟨zs, fun a => ?_, fun a => ?_⟩
  · have h' := h
    have hn := h.n
    obtain ⟨⟨a1, a2⟩, b, ⟨c1, c2, c3⟩, ⟨d1, d2, d3⟩, e1, e2⟩ := h
    have ks : (if s = 0 then ykf A 0 else ykf A 1) = ykf A s := by
      by_cases z : s = 0
      · rw [if_pos z, z]
      · rw [if_neg z, show s = 1 by omega]
    have ka := kf_and wk.1 wk.2 (s := s) (by omega)
    rw [ks] at ka
    refine vX6_holds ?_
    rw [d1]
    refine ⟨ka.1, fun z => ⟨by decide, fun q => absurd rfl q, fun _ => ?_⟩, fun z => ⟨by decide, fun _ => ?_, fun q => absurd q (by decide)⟩⟩
    · unfold aBack
      rw [if_neg (by omega), if_pos (ka.2.mp z)]
      exact rC.st h'
    · have k1 : ykf A s ≠ 0 := fun q => z (ka.2.mpr q)
      have S1 : hW M (s.toNat + 12) ∧ hS M (s.toNat + 12) = ykh A s := by
        by_cases z : s = 0
        · subst z
          exact d2 (by omega)
        · have z1 : s = 1 := by omega
          subst z1
          exact d3 (by omega)
      refine vX6_fetch (c_X6_at a ?_)
      refine (c_X1_copyFrom (h := 0) S1.1 (by omega)).mono ?_
      rintro M1 ⟨f1, w1, s1⟩
      refine vX2_forget ?_
      intro M2 q2
      have H := h'.hall f1 w1 (s1.trans S1.2)
      have o : ∀ k i, k ≠ 2 → M2 k i = M1 k i := fun k i hk => by rw [q2, zu_k hk]
      obtain ⟨⟨a1, a2⟩, b, ⟨c1, c2, c3⟩, ⟨d1, d2, d3⟩, e1, e2⟩ := H
      have g : ∀ i k, (k = 1 ∨ (12 ≤ k ∧ k ≤ 17)) → M2 k i = M1 k i := fun i k hk => o k i (by omega)
      unfold aBack
      rw [if_neg (by omega), if_neg k1]
      refine ⟨?_, ⟨⟨(hall_k (g 0)).2 a1, (hall_k (g 0)).1.trans a2⟩, (hall_k (g 1)).2 b, ⟨by rw [q2, zu_at, if_neg (by decide)]; exact c1, by rw [q2, zu_at, if_pos rfl]; rfl, fun i hi => ?_⟩, ⟨by rw [o 6 0 (by decide)]; exact d1, fun q => ⟨(hall_k (g 12)).2 (d2 q).1, (hall_k (g 12)).1.trans (d2 q).2⟩, fun q => ⟨(hall_k (g 13)).2 (d3 q).1, (hall_k (g 13)).1.trans (d3 q).2⟩⟩, by rw [o 7 0 (by decide)]; exact e1, fun i hi => by rw [o 24 0 (by decide)]; exact e2 i hi⟩, fun k i hk => by rw [o k i (by unfold isMd at hk; omega)]; exact md_H f1 k i hk⟩
      · rw [o 1 0 (by decide), ← S1.2, ← s1]
        exact (hS_n M1 0).symm
      · have hi' : 0 ≤ i ∧ i < 0 := hi
        omega
  · unfold aBack
    rw [if_pos a]
    exact rC.st h
theorem tp_1 {P : zM → Prop} {v s : Int} (hs : 0 ≤ s ∧ s ≤ 24) (hn : 0 ≤ M 7 0 2 ∧ M 7 0 2 < 400)
    (K : ∀ M', (∀ k i, k ≠ 24 → k ≠ 7 → M' k i = M k i) → M' 7 0 2 = M 7 0 2 + 1 → (∀ i, M' 24 0 i = if i = M 7 0 2 then zand (zushr v s) 255 else M 24 0 i) → LX7_append_3 l P v (s - 8) M') : LX7_append_3 l P v s M := by
  refine vX7_append_3 ⟨by omega, fun e => by omega, fun _ => ⟨by omega, fun e => by omega, fun _ => ⟨fun e => by omega, fun _ => ⟨hn, ?_⟩⟩⟩⟩
  intro M1 q1 M2 q2
  have e1 : M1 7 0 2 = M 7 0 2 := by rw [q1, zu_k (by decide)]
  refine K M2 (fun k i h1 h2 => by rw [q2, zu_k h2, q1, zu_k h1]) (by rw [q2, zu_at, if_pos rfl, e1]) (fun i => by rw [q2, zu_k (by decide), q1, zu_at])
theorem c_X7_append {v : Int} (h : cSt M A) (w : 0 ≤ ytn A ∧ ytn A + 4 ≤ 400) : CV l m_X7_append [zr 7 0, zi v] M (fun M' => cSt M' (yB A v) ∧ ∀ k i, isMd k → M' k i = M k i) := by
  have e0 : M 7 0 2 = ytn A := h.2.2.2.2.1
  have b0 : ∀ i, 0 ≤ i ∧ i < ytn A → M 24 0 i = ytb A i := h.2.2.2.2.2
  refine vX7_append (tp_1 (by omega) (by omega) ?_)
  intro M1 f1 n1 b1
  refine tp_1 (by omega) (by omega) ?_
  intro M2 f2 n2 b2
  refine tp_1 (by omega) (by omega) ?_
  intro M3 f3 n3 b3
  refine tp_1 (by omega) (by omega) ?_
  intro M4 f4 n4 b4
  have F : ∀ k i, k ≠ 24 → k ≠ 7 → M4 k i = M k i := fun k i h1 h2 => (((f4 k i h1 h2).trans (f3 k i h1 h2)).trans (f2 k i h1 h2)).trans (f1 k i h1 h2)
  refine vX7_append_3 ⟨by omega, fun _ => ⟨h.tape F (by omega) fun i hi => ?_, fun k i hk => F k i (by unfold isMd at hk; omega) (by unfold isMd at hk; omega)⟩, fun e => by omega⟩
  rw [b4, b3, b2, b1, n3, n2, n1, e0]
  by_cases c0 : i = ytn A
  · rw [if_neg (by omega), if_neg (by omega), if_neg (by omega), if_pos c0, if_pos c0]
  · by_cases c1 : i = ytn A + 1
    · rw [if_neg (by omega), if_neg (by omega), if_pos c1, if_neg c0, if_pos c1]
      rfl
    · by_cases c2 : i = ytn A + 2
      · rw [if_neg (by omega), if_pos (by omega), if_neg c0, if_neg c1, if_pos c2]
        rfl
      · by_cases c3 : i = ytn A + 3
        · rw [if_pos (by omega), if_neg c0, if_neg c1, if_neg c2, if_pos c3]
          rfl
        · rw [if_neg (by omega), if_neg (by omega), if_neg (by omega), if_neg c0, if_neg c0, if_neg c1, if_neg c2, if_neg c3]
          exact b0 i (by omega)
theorem a8_feed {a b c d e : Int} (h : cSt M A) (w : wfY kk A) : CI l m_X8_feed [zr 8 0, zi a, zi b, zi c, zi d, zi e] M (rC (aFeed A a b c d e) M) := by
  have e0 : M 7 0 2 = ytn A := h.2.2.2.2.1
  have ht := w.2.2.2.2.1
  have nx : ∀ (A : zY) (v : Int), ytn (yB A v) = ytn A + 4 := fun _ _ => rfl
  refine vX8_feed ?_
  rw [e0]
  refine ⟨by omega, fun q => ?_, fun q => ?_⟩
  · refine (c_X7_append h (by omega)).mono ?_
    rintro M1 ⟨h1, f1⟩
    have n1 := nx A a
    refine (c_X7_append h1 (by omega)).mono ?_
    rintro M2 ⟨h2, f2⟩
    have n2 := nx (yB A a) b
    refine (c_X7_append h2 (by omega)).mono ?_
    rintro M3 ⟨h3, f3⟩
    have n3 := nx (yB (yB A a) b) c
    refine (c_X7_append h3 (by omega)).mono ?_
    rintro M4 ⟨h4, f4⟩
    have n4 := nx (yB (yB (yB A a) b) c) d
    refine (c_X7_append h4 (by omega)).mono ?_
    rintro M5 ⟨h5, f5⟩
    have n5 := nx (yB (yB (yB (yB A a) b) c) d) e
    unfold aFeed
    rw [if_neg (by omega)]
    refine ⟨?_, h5, fun k i hk => ((((f5 k i hk).trans (f4 k i hk)).trans (f3 k i hk)).trans (f2 k i hk)).trans (f1 k i hk)⟩
    have e5 : M5 7 0 2 = ytn (yB (yB (yB (yB (yB A a) b) c) d) e) := h5.2.2.2.2.1
    rw [e5]
    show _ = ytn A + 20
    omega
  · unfold aFeed
    rw [if_pos q]
    exact rC.st h
end

