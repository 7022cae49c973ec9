/-! ===== tell: the class ===== -/
section
variable {b : Int → Int} {n : Int}
theorem bd_tU {t : Int} : ∀ (f : Nat) (u : Int) (S : zS) (p : Int), (0 ≤ p ∧ p ≤ n) → 0 ≤ (tU b n t f u S p).1 ∧ (tU b n t f u S p).1 ≤ 8 * n + 3 := by
  intro f
  induction f with
  | zero =>
    intro u S p hp
    rw [tU]
    show (0 : Int) ≤ 0 ∧ (0 : Int) ≤ 8 * n + 3
    omega
  | succ f ih =>
    intro u S p hp
    have B := nm_b (b := b) hp.2
    have B2 := sk_b (p := isB) (b := b) (n := n) _ (nmQ b n p) rfl B.2.2
    rw [tU]
    split
    · show (0 : Int) ≤ 0 ∧ (0 : Int) ≤ 8 * n + 3
      omega
    · split
      · show 0 ≤ 8 * p + 2 ∧ 8 * p + 2 ≤ 8 * n + 3
        omega
      · split
        · show 0 ≤ 8 * p + 2 ∧ 8 * p + 2 ≤ 8 * n + 3
          omega
        · split
          · show 0 ≤ 8 * p + 3 ∧ 8 * p + 3 ≤ 8 * n + 3
            omega
          · exact ih _ _ _ (by omega)
theorem bd_nmF {p m : Int} (hp : 0 ≤ p ∧ p ≤ n) : 0 ≤ nmF b n p m ∧ nmF b n p m ≤ 8 * n + 3 := by
  have B := nm_b (b := b) hp.2
  unfold nmF
  split
  · omega
  · split
    · omega
    · omega
theorem bd_tPt {S : zS} {hf hl p : Int} (hp : 0 ≤ p ∧ p ≤ n) : 0 ≤ (tPt b n S hf hl p).1 ∧ (tPt b n S hf hl p).1 ≤ 8 * n + 3 := by
  have B := sk_b (p := isB) (b := b) (n := n) _ p rfl hp.2
  have tr : ∀ q s : Int, 0 ≤ q ∧ q ≤ n → 0 ≤ (tTr b n S hf hl (sk isB b n p) q s).1 ∧ (tTr b n S hf hl (sk isB b n p) q s).1 ≤ 8 * n + 3 := by
    intro q s hq
    have N := nm_b (b := b) hq.2
    have N2 := sk_b (p := isB) (b := b) (n := n) _ (nmQ b n q) rfl N.2.2
    unfold tTr
    split
    · show 0 ≤ 8 * sk isB b n p + 3 ∧ 8 * sk isB b n p + 3 ≤ 8 * n + 3
      omega
    · split
      · exact bd_nmF hq
      · exact bd_tU 5 0 _ _ (by omega)
  unfold tPt
  split
  · next x => exact tr _ _ (by have := isX_b (s := 0) (by decide) (by omega) x; omega)
  · split
    · next x => exact tr _ _ (by have := isX_b (s := 1) (by decide) (by omega) x; omega)
    · split
      · next x =>
        have q := isX_b (s := 2) (by decide) (by omega) x
        unfold tPf
        split
        · show 0 ≤ 8 * sk isB b n p + 3 ∧ 8 * sk isB b n p + 3 ≤ 8 * n + 3
          omega
        · exact bd_nmF (by omega)
      · split
        · next x =>
          have q := isX_b (s := 3) (by decide) (by omega) x
          have C := sk_b (p := isB) (b := b) (n := n) _ (sk isB b n p + zl_ 3) rfl q
          have z : (0 : Int) ≤ 0 ∧ (0 : Int) ≤ 8 * n + 3 := by omega
          unfold tLw
          split
          · show 0 ≤ 8 * sk isB b n p + 3 ∧ 8 * sk isB b n p + 3 ≤ 8 * n + 3
            omega
          · split
            · exact z
            · split
              · exact z
              · split
                · exact z
                · split
                  · exact z
                  · show 0 ≤ 8 * sk isB b n (sk isB b n p + zl_ 3) + 1 ∧ 8 * sk isB b n (sk isB b n p + zl_ 3) + 1 ≤ 8 * n + 3
                    omega
        · show 0 ≤ 8 * sk isB b n p + 1 ∧ 8 * sk isB b n p + 1 ≤ 8 * n + 3
          omega
end
theorem hS_E {M : zM} {h : Nat} (e : ∀ j, 6 ≤ j ∧ j ≤ 12 → M 1 h j = 0) : hS M h = zE := by
  have n := e 6 (by omega)
  refine hS_is (fun k hk => e _ (by omega)) (fun _ _ => rfl) (fun t ht => by omega) (fun _ _ => ⟨rfl, rfl, rfl, rfl, rfl⟩) (fun t u q => ?_) (fun _ _ _ => rfl)
  have := q.2.1
  have := q.1
  omega
theorem cSt.told {M M5 : zM} {A : zY} (h : cSt M A) (f : ∀ k i, ¬ (k = 7 ∨ kH 1 k i) → M5 k i = M k i) (w : hW M5 1) (e : M5 7 0 2 = 0) : cSt M5 (yTape A 0 (ytb A)) := by
  obtain ⟨⟨a1, a2⟩, b, ⟨c1, c2, c3⟩, ⟨d1, d2, d3⟩, e1, e2⟩ := h
  have g : ∀ i, i ≠ 1 → ∀ k, (k = 1 ∨ (12 ≤ k ∧ k ≤ 17)) → M5 k i = M k i := fun i hi k hk => f k i (fun q => by
    rcases q with q | q
    · omega
    · exact hi q.2)
  have e2' := f 2 0 (fun q => by
    rcases q with q | q
    · omega
    · have := q.1
      omega)
  have e6' := f 6 0 (fun q => by
    rcases q with q | q
    · omega
    · have := q.1
      omega)
  refine ⟨⟨(hall_k (g 0 (by omega))).2 a1, (hall_k (g 0 (by omega))).1.trans a2⟩, w, ⟨by rw [e2']; exact c1, by rw [e2']; exact c2, fun i hi => ?_⟩, ⟨by rw [e6']; exact d1, fun q => ⟨(hall_k (g 12 (by omega))).2 (d2 q).1, (hall_k (g 12 (by omega))).1.trans (d2 q).2⟩, fun q => ⟨(hall_k (g 13 (by omega))).2 (d3 q).1, (hall_k (g 13 (by omega))).1.trans (d3 q).2⟩⟩, e, fun i hi => ?_⟩
  · rw [e2']
    have hx := hix_b (M 2 0 1) i
    exact ⟨(hall_k (g _ (by omega))).2 (c3 i hi).1, (hall_k (g _ (by omega))).1.trans (c3 i hi).2⟩
  · have hi' : 0 ≤ i ∧ i < 0 := hi
    omega
theorem cSt.forget {M1 M2 : zM} {A : zY} {S : zS} (h : cSt M1 (ySet A S)) (q2 : M2 = zu M1 2 0 2 0) : cSt M2 (yNo A S) := by
  have o : ∀ k i, k ≠ 2 → M2 k i = M1 k i := fun k i hk => by rw [q2, zu_k hk]
  obtain ⟨⟨a1, a2⟩, b, ⟨c1, c2, c3⟩, ⟨d1, d2, d3⟩, e1, e2⟩ := h
  have g : ∀ i k, (k = 1 ∨ (12 ≤ k ∧ k ≤ 17)) → M2 k i = M1 k i := fun i k hk => o k i (by omega)
  refine ⟨⟨(hall_k (g 0)).2 a1, (hall_k (g 0)).1.trans a2⟩, (hall_k (g 1)).2 b, ⟨by rw [q2, zu_at, if_neg (by decide)]; exact c1, by rw [q2, zu_at, if_pos rfl]; rfl, fun i hi => ?_⟩, ⟨by rw [o 6 0 (by decide)]; exact d1, fun q => ⟨(hall_k (g 12)).2 (d2 q).1, (hall_k (g 12)).1.trans (d2 q).2⟩, fun q => ⟨(hall_k (g 13)).2 (d3 q).1, (hall_k (g 13)).1.trans (d3 q).2⟩⟩, by rw [o 7 0 (by decide)]; exact e1, fun i hi => by rw [o 24 0 (by decide)]; exact e2 i hi⟩
  have hi' : 0 ≤ i ∧ i < 0 := hi
  omega
def aTell (A : zY) : Int × zY := if (tRd (ytb A) (ytn A)).1 = 0 then (qn (tRd (ytb A) (ytn A)).2, yNo (yTape A 0 (ytb A)) (tRd (ytb A) (ytn A)).2) else (-2 - (tRd (ytb A) (ytn A)).1, yTape A 0 (ytb A))
theorem w_tell {k : Int} {A : zY} (hk : 0 ≤ k) (h : wfY k A) : wfY k (aTell A).2 := by
  have t := h.2.2.2.2
  have h0 := wf_tape (n := 0) (b := ytb A) h (by omega) (fun i hi => by omega)
  unfold aTell
  split
  · next c => exact wf_no h0 (wf_tRd t.1.1 hk c).1
  · exact h0
section
variable {l : Launch} {M : zM} {b : Int → Int} {n kk : Int}
def LX7_read_46 (l : Launch) (P : Int → zM → Prop) (v1 : Int) (M : zM) : Prop := AW l m_X7_read (zTi m_X7_read P) 46 [(0, zr 7 0), (1, zi v1)] [] M
theorem vX7_read_46 {l : Launch} {P : Int → zM → Prop} {v1 : Int} {M : zM}
    (H0 : (zI v1 ∧ (400 ≤ v1 → P (M 7 0 4) M) ∧ (v1 < 400 → (CV l m_X7_readPart [zr 7 0] M (fun M28 => (CV l m_X7_skipBlanks [zr 7 0] M28 (fun M31 => (zI (M31 7 0 4) ∧ ((M31 7 0 4) ≠ 0 → P (M31 7 0 4) M31) ∧ ((M31 7 0 4) = 0 → (zI (M31 7 0 3) ∧ zI (M31 7 0 2) ∧ ((M31 7 0 3) < (M31 7 0 2) → (CI l m_X7_byteAt [zr 7 0, zi (M31 7 0 3)] M31 (fun x50 M47 => (zI x50 ∧ (x50 = 59 → (∀ M57 : zM, M57 = zu M47 7 0 3 ((M47 7 0 3) + 1) → LX7_read_46 l P (v1 + 1) M57)) ∧ (x50 ≠ 59 → (CV l m_X7_note [zr 7 0, zi (M47 7 0 3), zi 1] M47 (fun M59 => P (M59 7 0 4) M59))))))) ∧ ((M31 7 0 2) ≤ (M31 7 0 3) → P (M31 7 0 4) M31))))))))))) :
    LX7_read_46 l P v1 M :=
(aw_iload_n d_X7_read_46 rfl rfl 1 rfl
(aw_sipush d_X7_read_47 rfl (by decide)
(have z22 := H0.1; have e23 := H0.2; aw_icmp_ge d_X7_read_50 rfl rfl z22 (by decide) (fun c24 => have e26 := e23.1 c24; (aw_aload_n d_X7_read_123 rfl rfl 0 rfl (by decide)
(aw_getI (kc := 4) d_X7_read_124 rfl fl7_32 rfl rfl
(aw_ri d_X7_read_127 rfl e26)))) (fun c25 => have e27 := e23.2 c25; (aw_aload_n d_X7_read_53 rfl rfl 0 rfl (by decide)
(aw_VV (As := []) (st := []) d_X7_read_54 rfl cv7_45 ⟨Nat.le_of_ble_eq_true rfl, Nat.le_of_ble_eq_true rfl⟩ rfl rfl (Nat.le_of_ble_eq_true rfl) (Nat.le_of_ble_eq_true rfl) e27 (fun M28 e29 => (aw_aload_n d_X7_read_57 rfl rfl 0 rfl (by decide)
(aw_VV (As := []) (st := []) d_X7_read_58 rfl cv7_42 ⟨Nat.le_of_ble_eq_true rfl, Nat.le_of_ble_eq_true rfl⟩ rfl rfl (Nat.le_of_ble_eq_true rfl) (Nat.le_of_ble_eq_true rfl) e29 (fun M31 e32 => (aw_aload_n d_X7_read_61 rfl rfl 0 rfl (by decide)
(aw_getI (kc := 4) d_X7_read_62 rfl fl7_32 rfl rfl
(have z34 := e32.1; have e35 := e32.2; aw_if_ne d_X7_read_65 rfl rfl z34 (fun c36 => have e38 := e35.1 c36; (aw_aload_n d_X7_read_123 rfl rfl 0 rfl (by decide)
(aw_getI (kc := 4) d_X7_read_124 rfl fl7_32 rfl rfl
(aw_ri d_X7_read_127 rfl e38)))) (fun c37 => have e39 := e35.2 c37; (aw_aload_n d_X7_read_68 rfl rfl 0 rfl (by decide)
(aw_getI (kc := 3) d_X7_read_69 rfl fl7_29 rfl rfl
(aw_aload_n d_X7_read_72 rfl rfl 0 rfl (by decide)
(aw_getI (kc := 2) d_X7_read_73 rfl fl7_22 rfl rfl
(have z40 := e39.1; have z41 := e39.2.1; have e42 := e39.2.2; aw_icmp_lt d_X7_read_76 rfl rfl z40 z41 (fun c43 => have e45 := e42.1 c43; (aw_aload_n d_X7_read_82 rfl rfl 0 rfl (by decide)
(aw_aload_n d_X7_read_83 rfl rfl 0 rfl (by decide)
(aw_getI (kc := 3) d_X7_read_84 rfl fl7_29 rfl rfl
(aw_VI (As := [zi (M31 7 0 3)]) (st := []) d_X7_read_87 rfl cv7_48 ⟨Nat.le_of_ble_eq_true rfl, Nat.le_of_ble_eq_true rfl⟩ rfl rfl (Nat.le_of_ble_eq_true rfl) (Nat.le_of_ble_eq_true rfl) e45 (fun x50 M47 e48 => (aw_bipush d_X7_read_90 rfl (by decide)
(have z51 := e48.1; have e52 := e48.2; aw_icmp_eq d_X7_read_92 rfl rfl z51 (by decide) (fun c53 => have e55 := e52.1 c53; (aw_aload_n d_X7_read_107 rfl rfl 0 rfl (by decide)
(aw_dup d_X7_read_108 rfl rfl
(aw_getI (kc := 3) d_X7_read_109 rfl fl7_29 rfl rfl
(aw_iconst d_X7_read_112 rfl
(aw_iadd d_X7_read_113 rfl
(have e58 := e55 _ rfl; aw_put (kc := 3) d_X7_read_114 rfl fp7_29 rfl rfl rfl rfl
(aw_iinc (lv' := [(1, zi (v1 + 1)), (0, zr 7 0)]) (y := (v1 + 1)) d_X7_read_117 rfl 1 rfl (by decide) rfl rfl
(aw_goto d_X7_read_120 rfl
(aw_sub [1, 0] rfl e58)))))))))) (fun c54 => have e56 := e52.2 c54; (aw_aload_n d_X7_read_95 rfl rfl 0 rfl (by decide)
(aw_aload_n d_X7_read_96 rfl rfl 0 rfl (by decide)
(aw_getI (kc := 3) d_X7_read_97 rfl fl7_29 rfl rfl
(aw_iconst d_X7_read_100 rfl
(aw_VV (As := [zi (M47 7 0 3), zi 1]) (st := []) d_X7_read_101 rfl cv7_52 ⟨Nat.le_of_ble_eq_true rfl, Nat.le_of_ble_eq_true rfl⟩ rfl rfl (Nat.le_of_ble_eq_true rfl) (Nat.le_of_ble_eq_true rfl) e56 (fun M59 e60 => (aw_goto d_X7_read_104 rfl
(aw_aload_n d_X7_read_123 rfl rfl 0 rfl (by decide)
(aw_getI (kc := 4) d_X7_read_124 rfl fl7_32 rfl rfl
(aw_ri d_X7_read_127 rfl e60))))))))))))))))))) (fun c44 => have e46 := e42.2 c44; (aw_goto d_X7_read_79 rfl
(aw_aload_n d_X7_read_123 rfl rfl 0 rfl (by decide)
(aw_getI (kc := 4) d_X7_read_124 rfl fl7_32 rfl rfl
(aw_ri d_X7_read_127 rfl e46))))))))))))))))))))))))
theorem vX7_read {l : Launch} {P : Int → zM → Prop}  {M : zM}
    (H0 : (CV l m_X1_clear [zr 1 1] M (fun M1 => (∀ M4 : zM, M4 = zu M1 7 0 3 0 → (∀ M6 : zM, M6 = zu M4 7 0 4 0 → (∀ M8 : zM, M8 = zu M6 7 0 5 0 → (∀ M10 : zM, M10 = zu M8 7 0 6 0 → (CV l m_X7_skipBlanks [zr 7 0] M10 (fun M12 => (zI (M12 7 0 3) ∧ zI (M12 7 0 2) ∧ ((M12 7 0 3) < (M12 7 0 2) → LX7_read_46 l P 0 M12) ∧ ((M12 7 0 2) ≤ (M12 7 0 3) → P 0 M12))))))))))) :
    CI l m_X7_read [zr 7 0] M P :=
(aw_aload_n d_X7_read_0 rfl rfl 0 rfl (by decide)
(aw_getR (k' := 1) (a := 0) (b := 1) (j := 1) d_X7_read_1 rfl fl7_18 rfl zj0 ⟨by decide, fun _ => by decide⟩
(aw_VV (As := []) (st := []) d_X7_read_4 rfl cv7_26 ⟨Nat.le_of_ble_eq_true rfl, Nat.le_of_ble_eq_true rfl⟩ rfl rfl (Nat.le_of_ble_eq_true rfl) (Nat.le_of_ble_eq_true rfl) H0 (fun M1 e2 => (aw_aload_n d_X7_read_7 rfl rfl 0 rfl (by decide)
(aw_iconst d_X7_read_8 rfl
(have e5 := e2 _ rfl; aw_put (kc := 3) d_X7_read_9 rfl fp7_29 rfl rfl rfl rfl
(aw_aload_n d_X7_read_12 rfl rfl 0 rfl (by decide)
(aw_iconst d_X7_read_13 rfl
(have e7 := e5 _ rfl; aw_put (kc := 4) d_X7_read_14 rfl fp7_32 rfl rfl rfl rfl
(aw_aload_n d_X7_read_17 rfl rfl 0 rfl (by decide)
(aw_iconst d_X7_read_18 rfl
(have e9 := e7 _ rfl; aw_put (kc := 5) d_X7_read_19 rfl fp7_35 rfl rfl rfl rfl
(aw_aload_n d_X7_read_22 rfl rfl 0 rfl (by decide)
(aw_iconst d_X7_read_23 rfl
(have e11 := e9 _ rfl; aw_put (kc := 6) d_X7_read_24 rfl fp7_39 rfl rfl rfl rfl
(aw_aload_n d_X7_read_27 rfl rfl 0 rfl (by decide)
(aw_VV (As := []) (st := []) d_X7_read_28 rfl cv7_42 ⟨Nat.le_of_ble_eq_true rfl, Nat.le_of_ble_eq_true rfl⟩ rfl rfl (Nat.le_of_ble_eq_true rfl) (Nat.le_of_ble_eq_true rfl) e11 (fun M12 e13 => (aw_aload_n d_X7_read_31 rfl rfl 0 rfl (by decide)
(aw_getI (kc := 3) d_X7_read_32 rfl fl7_29 rfl rfl
(aw_aload_n d_X7_read_35 rfl rfl 0 rfl (by decide)
(aw_getI (kc := 2) d_X7_read_36 rfl fl7_22 rfl rfl
(have z15 := e13.1; have z16 := e13.2.1; have e17 := e13.2.2; aw_icmp_lt d_X7_read_39 rfl rfl z15 z16 (fun c18 => have e20 := e17.1 c18; (aw_iconst d_X7_read_44 rfl
(aw_istore_n (lv' := [(1, zi 0), (0, zr 7 0)]) d_X7_read_45 rfl rfl (by decide) rfl
(aw_sub [1, 0] rfl e20)))) (fun c19 => have e21 := e17.2 c19; (aw_iconst d_X7_read_42 rfl
(aw_ri d_X7_read_43 rfl e21)))))))))))))))))))))))))))
theorem c_X7_run (hk : 0 ≤ kk) : ∀ (f : Nat) (v p : Int) (S : zS) (hf hl : Int) (M1 : zM), n - p < f → (0 ≤ v ∧ 2 * v ≤ p) → pF M M1 → tS M1 S 0 hf hl p → gdT kk n p S hf hl → tX M1 b n →
    LX7_read_46 l (fun x M' => x = (tRn b n f S hf hl p).1 ∧ (-4000 ≤ x ∧ x ≤ 4000) ∧ pF M M' ∧ hW M' 1 ∧ (x = 0 → hS M' 1 = (tRn b n f S hf hl p).2)) v M1 := by
  intro f
  induction f with
  | zero =>
    intro v p S hf hl M1 hf0 hv p1 ts g hx
    have := g.2.2.2
    omega
  | succ f ih =>
    intro v p S hf hl M1 hf0 hv p1 ts g hx
    have hp := g.2.2.2
    have h1 := hx.1
    have bd := bd_tPt (b := b) (S := S) (hf := hf) (hl := hl) hp
    refine vX7_read_46 ⟨by omega, fun c => by omega, fun _ => (c_X7_readPart hx ts g).mono ?_⟩
    rintro M2 ⟨p2, w2, b2, e24, k⟩
    have x2 := hx.p p2
    refine (c_X7_skipBlanks x2 b2).mono ?_
    rintro M3 ⟨f3, e33⟩
    have x3 := x2.f f3
    have h3 := x3.1
    have e34 : M3 7 0 4 = (tPt b n S hf hl p).1 := (f3.2 4 (by decide)).trans e24
    have p3 : pF M M3 := p1.tr (p2.tr f3.n.p)
    rw [tRn]
    by_cases c1 : (tPt b n S hf hl p).1 = 0
    · have K := k c1
      have G := wf_tPt g c1
      have k3 := f3.n.h1 ⟨w2, K.1⟩
      rw [if_neg (fun q => q c1)]
      have G3 := G.1.2.2.2
      have B := sk_b (p := isB) (b := b) (n := n) _ (tPt b n S hf hl p).2.2.2.2 rfl G3.2
      rw [K.2.2.2] at e33
      refine ⟨by omega, fun c => absurd (e34.trans c1) c, fun _ => ⟨by omega, by omega, fun c => (c_X7_byteAt x3 (by omega)).mono ?_, fun c => ?_⟩⟩
      · rintro y M4 ⟨ey, rfl⟩
        rw [e33] at ey ⊢
        have eb : y = b (sk isB b n (tPt b n S hf hl p).2.2.2.2) := by rw [ey]; unfold bt; rw [if_pos (by omega)]
        have bb := bt_b (i := sk isB b n (tPt b n S hf hl p).2.2.2.2) x3
        rw [if_neg (by omega)]
        refine ⟨by omega, fun d => ?_, fun d => ?_⟩
        · intro M5 q5
          rw [if_neg (fun q => q (eb.symm.trans d))]
          refine ih (v + 1) _ _ _ _ M5 (by omega) (by omega) (p3.tr (pF.fg q5 (by omega))) ⟨nt_h q5 k3, ?_, ?_, ?_, ?_⟩ ⟨G.1.1, G.1.2.1, G.1.2.2.1, by omega⟩ (x3.p (pF.fg q5 (by omega)))
          · rw [q5, zu_at, if_neg (by decide)]
            exact e34.trans c1
          · rw [q5, zu_at, if_neg (by decide)]
            exact (f3.2 5 (by decide)).trans K.2.1
          · rw [q5, zu_at, if_neg (by decide)]
            exact (f3.2 6 (by decide)).trans K.2.2.1
          · rw [q5, zu_at, if_pos rfl]
        · rw [if_pos (fun q => d (eb.trans q))]
          refine (c_nt (S' := S) (hf' := hf) (hl' := hl) (p' := p) (e := 0) x3 ⟨k3, e34.trans c1, (f3.2 5 (by decide)).trans K.2.1, (f3.2 6 (by decide)).trans K.2.2.1, e33⟩ (by omega) (by omega) (by omega)).mono ?_
          rintro M5 ⟨q1, q2, q3, q4, -⟩
          exact ⟨q4, by omega, p3.tr q1, q2, fun c => by omega⟩
      · rw [if_pos (by omega)]
        exact ⟨e34.trans c1, by omega, p3, k3.1, fun _ => k3.2⟩
    · rw [if_pos c1]
      have w3 := (f3.n.h1 (S := hS M2 1) ⟨w2, rfl⟩).1
      exact ⟨by omega, fun _ => ⟨e34, by omega, p3, w3, fun c => absurd (e34.symm.trans c) c1⟩, fun c => absurd (e34.symm.trans c) c1⟩
theorem c_X7_read (hk : 0 ≤ kk) (h : tX M b n) (w : hW M 1) : CI l m_X7_read [zr 7 0] M (fun x M' => x = (tRd b n).1 ∧ (-4000 ≤ x ∧ x ≤ 4000) ∧ pF M M' ∧ hW M' 1 ∧ (x = 0 → hS M' 1 = (tRd b n).2)) := by
  have h1 := h.1
  refine vX7_read ((c_X1_clear w).mono ?_)
  rintro M1 ⟨f1, w1, z1⟩
  intro M2 q2 M3 q3 M4 q4 M5 q5
  have p2 := pF.fg q2 (by omega)
  have p3 := pF.fg q3 (by omega)
  have p4 := pF.fg q4 (by omega)
  have p5 := pF.fg q5 (by omega)
  have p15 : pF M1 M5 := p2.tr (p3.tr (p4.tr p5))
  have p05 : pF M M5 := f1.p.tr p15
  have k5 := nt_h q5 (nt_h q4 (nt_h q3 (nt_h q2 ⟨w1, hS_E z1⟩)))
  have x5 := h.p p05
  have a3 : M5 7 0 3 = 0 := by rw [q5, zu_at, if_neg (by decide), q4, zu_at, if_neg (by decide), q3, zu_at, if_neg (by decide), q2, zu_at, if_pos rfl]
  have a4 : M5 7 0 4 = 0 := by rw [q5, zu_at, if_neg (by decide), q4, zu_at, if_neg (by decide), q3, zu_at, if_pos rfl]
  have a5 : M5 7 0 5 = 0 := by rw [q5, zu_at, if_neg (by decide), q4, zu_at, if_pos rfl]
  have a6 : M5 7 0 6 = 0 := by rw [q5, zu_at, if_pos rfl]
  have B := sk_b (p := isB) (b := b) (n := n) _ 0 rfl h1.2.1
  refine (c_X7_skipBlanks x5 (by omega)).mono ?_
  rintro M6 ⟨f6, e6⟩
  rw [a3] at e6
  have x6 := x5.f f6
  have h6 := x6.1
  have k6 := f6.n.h1 k5
  unfold tRd
  refine ⟨by omega, by omega, fun c => ?_, fun c => ?_⟩
  · rw [if_neg (by omega)]
    refine c_X7_run hk 401 0 _ zE 0 0 M6 (by omega) (by omega) (p05.tr f6.n.p) ⟨k6, ?_, ?_, ?_, e6⟩ ⟨⟨zE_wf hk, zE_zo⟩, .inl rfl, .inl rfl, by omega⟩ x6
    · rw [f6.2 4 (by decide)]
      exact a4
    · rw [f6.2 5 (by decide)]
      exact a5
    · rw [f6.2 6 (by decide)]
      exact a6
  · rw [if_pos (by omega)]
    exact ⟨rfl, by omega, p05.tr f6.n.p, k6.1, fun _ => k6.2⟩
theorem vX8_tell {l : Launch} {P : Int → zM → Prop}  {M : zM}
    (H0 : (CI l m_X7_read [zr 7 0] M (fun x4 M1 => (∀ M5 : zM, M5 = zu M1 7 0 2 0 → (zI x4 ∧ (x4 = 0 → (CV l m_X1_copyFrom [zr 1 0, zr 1 1] M5 (fun M13 => (CV l m_X2_forget [zr 2 0] M13 (fun M16 => P (M16 1 0 6) M16))))) ∧ (x4 ≠ 0 → P ((-2) - x4) M5)))))) :
    CI l m_X8_tell [zr 8 0] M P :=
(aw_aload_n d_X8_tell_0 rfl rfl 0 rfl (by decide)
(aw_getR (k' := 7) (a := 0) (b := 0) (j := 0) d_X8_tell_1 rfl fl8_19 rfl zj0 ⟨by decide, fun _ => by decide⟩
(aw_VI (As := []) (st := []) d_X8_tell_4 rfl cv8_84 ⟨Nat.le_of_ble_eq_true rfl, Nat.le_of_ble_eq_true rfl⟩ rfl rfl (Nat.le_of_ble_eq_true rfl) (Nat.le_of_ble_eq_true rfl) H0 (fun x4 M1 e2 => (aw_istore_n (lv' := [(1, zi x4), (0, zr 8 0)]) d_X8_tell_7 rfl rfl (by decide) rfl
(aw_aload_n d_X8_tell_8 rfl rfl 1 rfl (by decide)
(aw_getR (k' := 7) (a := 0) (b := 0) (j := 0) d_X8_tell_9 rfl fl8_19 rfl zj0 ⟨by decide, fun _ => by decide⟩
(aw_iconst d_X8_tell_12 rfl
(have e6 := e2 _ rfl; aw_put (kc := 2) d_X8_tell_13 rfl fp8_76 rfl rfl rfl rfl
(aw_iload_n d_X8_tell_16 rfl rfl 0 rfl
(have z7 := e6.1; have e8 := e6.2; aw_if_eq d_X8_tell_17 rfl rfl z7 (fun c9 => have e11 := e8.1 c9; (aw_aload_n d_X8_tell_25 rfl rfl 1 rfl (by decide)
(aw_getR (k' := 1) (a := 0) (b := 0) (j := 0) d_X8_tell_26 rfl fl8_12 rfl zj0 ⟨by decide, fun _ => by decide⟩
(aw_aload_n d_X8_tell_29 rfl rfl 1 rfl (by decide)
(aw_getR (k' := 7) (a := 0) (b := 0) (j := 0) d_X8_tell_30 rfl fl8_19 rfl zj0 ⟨by decide, fun _ => by decide⟩
(aw_getR (k' := 1) (a := 0) (b := 1) (j := 1) d_X8_tell_33 rfl fl8_88 rfl zj0 ⟨by decide, fun _ => by decide⟩
(aw_VV (As := [zr 1 1]) (st := []) d_X8_tell_36 rfl cv8_91 ⟨Nat.le_of_ble_eq_true rfl, Nat.le_of_ble_eq_true rfl⟩ rfl rfl (Nat.le_of_ble_eq_true rfl) (Nat.le_of_ble_eq_true rfl) e11 (fun M13 e14 => (aw_aload_n d_X8_tell_39 rfl rfl 1 rfl (by decide)
(aw_getR (k' := 2) (a := 0) (b := 0) (j := 0) d_X8_tell_40 rfl fl8_26 rfl zj0 ⟨by decide, fun _ => by decide⟩
(aw_VV (As := []) (st := []) d_X8_tell_43 rfl cv8_95 ⟨Nat.le_of_ble_eq_true rfl, Nat.le_of_ble_eq_true rfl⟩ rfl rfl (Nat.le_of_ble_eq_true rfl) (Nat.le_of_ble_eq_true rfl) e14 (fun M16 e17 => (aw_aload_n d_X8_tell_46 rfl rfl 1 rfl (by decide)
(aw_getR (k' := 1) (a := 0) (b := 0) (j := 0) d_X8_tell_47 rfl fl8_12 rfl zj0 ⟨by decide, fun _ => by decide⟩
(aw_getI (kc := 6) d_X8_tell_50 rfl fl8_98 rfl rfl
(aw_ri d_X8_tell_53 rfl e17)))))))))))))))) (fun c10 => have e12 := e8.2 c10; (aw_bipush d_X8_tell_20 rfl (by decide)
(aw_iload_n d_X8_tell_22 rfl rfl 0 rfl
(aw_isub d_X8_tell_23 rfl
(aw_ri d_X8_tell_24 rfl e12))))))))))))))))
theorem a8_tell {A : zY} (hk : 0 ≤ kk) (h : cSt M A) (w : wfY kk A) : CI l m_X8_tell [zr 8 0] M (rC (aTell A) M) := by
  have t := w.2.2.2.2
  have hx : tX M (ytb A) (ytn A) := ⟨⟨h.2.2.2.2.1, t.1⟩, fun i hi => ⟨h.2.2.2.2.2 i hi, t.2 i hi⟩⟩
  refine vX8_tell ((c_X7_read hk hx h.2.1).mono ?_)
  rintro x M1 ⟨ex, bx, p1, w1, s1⟩
  intro M2 q2
  have k2 := nt_h (S := hS M1 1) q2 ⟨w1, rfl⟩
  have f2 : ∀ k i, ¬ (k = 7 ∨ kH 1 k i) → M2 k i = M k i := fun k i hk => by
    rw [q2, zu_k (fun q => hk (.inl q))]
    exact p1.1 k i hk
  have T := h.told f2 k2.1 (by rw [q2, zu_at, if_pos rfl])
  have md2 : ∀ k i, isMd k → M2 k i = M k i := fun k i hk => f2 k i (fun q => by
    unfold isMd at hk
    rcases q with q | q
    · omega
    · have := q.1
      omega)
  unfold aTell
  rw [← ex]
  refine ⟨by omega, fun c => ?_, fun c => ?_⟩
  · rw [if_pos c]
    refine (c_X1_copyFrom (h := 0) k2.1 (by omega)).mono ?_
    rintro M3 ⟨f3, w3, e3⟩
    rw [k2.2, s1 c] at e3
    have H := T.hall f3 w3 e3
    refine vX2_forget ?_
    intro M4 q4
    refine ⟨?_, H.forget q4, fun k i hk => ?_⟩
    · rw [q4, zu_k (by decide)]
      show M3 1 0 6 = qn (tRd (ytb A) (ytn A)).2
      rw [← e3]
      exact (hS_n M3 0).symm
    · rw [q4, zu_k (by unfold isMd at hk; omega)]
      exact (md_H f3 k i hk).trans (md2 k i hk)
  · rw [if_neg c]
    exact ⟨rfl, T, md2⟩
end

