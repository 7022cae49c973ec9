/-! ===== served: the reference ===== -/
theorem pS_snoc {w : Int → Int} : ∀ {L : List Int} {i : Nat}, i < L.length → pS w (i + 1) L = pS w i L + w (L.getD i 0)
  | [], i, h => by simp at h
  | y :: t, 0, h => by
    show w y + pS w 0 t = 0 + w y
    rw [pS]
    omega
  | y :: t, i + 1, h => by
    have ih := pS_snoc (w := w) (L := t) (i := i) (by simpa using h)
    show w y + pS w (i + 1) t = w y + pS w i t + w (t.getD i 0)
    omega
theorem pS_B : ∀ {L : List Int} {i : Nat}, i ≤ L.length → pS wB i L = pS kbv i L * 128 - i
  | L, 0, _ => by rw [pS, pS]; rfl
  | [], i + 1, h => by simp at h
  | y :: t, i + 1, h => by
    have ih := pS_B (L := t) (i := i) (by simpa using h)
    rw [pS, pS, ih]
    unfold wB
    omega
theorem pS_A {f : Int} : ∀ {L : List Int} {i : Nat}, i ≤ L.length → pS (wA f) i L = -(pS (kav f) i L * 128)
  | L, 0, _ => by rw [pS, pS]; rfl
  | [], i + 1, h => by simp at h
  | y :: t, i + 1, h => by
    have ih := pS_A (f := f) (L := t) (i := i) (by simpa using h)
    rw [pS, pS, ih]
    unfold wA
    omega
theorem four_len (φ : Int → Int) : ∀ L : List Int, (L.filter (fun x => decide (φ x = 0))).length + (L.filter (fun x => decide (φ x = 1))).length + (L.filter (fun x => decide (φ x = 2))).length + (L.filter (fun x => decide (φ x = 3))).length ≤ L.length
  | [] => Nat.le_refl _
  | y :: t => by
    have ih := four_len φ t
    have k : ∀ n : Int, ((y :: t).filter (fun x => decide (φ x = n))).length = (t.filter (fun x => decide (φ x = n))).length + if φ y = n then 1 else 0 := by
      intro n
      rw [List.filter_cons]
      by_cases c : φ y = n
      · rw [if_pos (by simpa using c), if_pos c, List.length_cons]
      · rw [if_neg (by simpa using c), if_neg c]
        omega
    rw [k 0, k 1, k 2, k 3, List.length_cons]
    by_cases c0 : φ y = 0
    · rw [if_pos c0, if_neg (by omega), if_neg (by omega), if_neg (by omega)]
      omega
    · rw [if_neg c0]
      by_cases c1 : φ y = 1
      · rw [if_pos c1, if_neg (by omega), if_neg (by omega)]
        omega
      · rw [if_neg c1]
        by_cases c2 : φ y = 2
        · rw [if_pos c2, if_neg (by omega)]
          omega
        · rw [if_neg c2]
          split <;> omega
theorem qB_four {S : zS} (ok : okS S) : (qB S 0).length + (qB S 1).length + (qB S 2).length + (qB S 3).length ≤ 80 := by
  have hU := mB_ok (S := S) (E := fun _ => True) ok.1
  have hl := B_len ok.1 hU
  have e : ∀ g : Int, qB S g = (mB S (fun _ => True) (qsy S)).filter (fun x => decide (qgr S (ktr x) = g)) := by
    intro g
    refine (mB_ok ok.1).uniq (hU.filter _) fun x => ⟨?_, ?_⟩
    · rintro ⟨t, u, c, rfl⟩
      refine ⟨⟨t, u, ⟨c.1, trivial, c.2.2⟩, rfl⟩, ?_⟩
      rw [(kB_d (ok.1.rng c.1)).1]
      simpa using c.2.1
    · rintro ⟨⟨t, u, c, rfl⟩, h⟩
      rw [(kB_d (ok.1.rng c.1)).1] at h
      exact ⟨t, u, ⟨c.1, by simpa using h, c.2.2⟩, rfl⟩
  have := four_len (fun x => qgr S (ktr x)) (mB S (fun _ => True) (qsy S))
  rw [e 0, e 1, e 2, e 3]
  exact Nat.le_trans this hl
noncomputable def NB (S : zS) : Nat → Int
  | 0 => 0
  | g + 1 => NB S g + ((qB S (g : Int)).length : Int)
theorem NB_b {S : zS} (ok : okS S) {g : Nat} (h : g ≤ 4) : 0 ≤ NB S g ∧ NB S g ≤ 80 := by
  have k := qB_four ok
  have e4 : NB S 4 = 0 + ((qB S 0).length : Int) + ((qB S 1).length : Int) + ((qB S 2).length : Int) + ((qB S 3).length : Int) := rfl
  have e3 : NB S 3 = 0 + ((qB S 0).length : Int) + ((qB S 1).length : Int) + ((qB S 2).length : Int) := rfl
  have e2 : NB S 2 = 0 + ((qB S 0).length : Int) + ((qB S 1).length : Int) := rfl
  have e1 : NB S 1 = 0 + ((qB S 0).length : Int) := rfl
  have e0 : NB S 0 = 0 := rfl
  have : g = 0 ∨ g = 1 ∨ g = 2 ∨ g = 3 ∨ g = 4 := by omega
  rcases this with rfl | rfl | rfl | rfl | rfl
  · rw [e0]; omega
  · rw [e1]; omega
  · rw [e2]; omega
  · rw [e3]; omega
  · rw [e4]; omega
/-- the reference's rows best and fewest against one row f -/
def rel (g : Nat) (N : Int) (f : Int → Int) (M : zM) : Prop := ∀ o, 0 ≤ o ∧ o ≤ 80 → (M 40 0 o = -1 ∧ f o ≤ -1000000000 + 102400000 * (g : Int)) ∨ ((0 ≤ M 40 0 o ∧ M 40 0 o ≤ N) ∧ f o = M 39 0 o * 128 - M 40 0 o ∧ -110000000 * (g : Int) ≤ f o)
def T3 (M : zM) (A B : List Int) (le : Int) (j i : Nat) : Prop := (0 ≤ le ∧ le ≤ 80) ∧ M 40 0 le ≠ -1 ∧ j ≤ A.length ∧ le + j ≤ 80 ∧ i ≤ B.length ∧ (i : Int) ≤ le + j
def vl (fe : Int) (A B : List Int) (f : Int → Int) (le : Int) (j i : Nat) : Int := f le + pS (wA fe) j A + pS wB i B
def tR (M1 : zM) (fe : Int) (A B : List Int) (f : Int → Int) (N : Int) (Q : Int → Nat → Nat → Prop) (M' : zM) : Prop :=
  ∀ o, 0 ≤ o ∧ o ≤ 80 → (M' 42 0 o = -1 ∧ ∀ le j i, Q le j i → T3 M1 A B le j i → le + j - i ≠ o) ∨
    ((0 ≤ M' 42 0 o ∧ M' 42 0 o ≤ N) ∧ (∃ le j i, T3 M1 A B le j i ∧ le + j - i = o ∧ vl fe A B f le j i = M' 41 0 o * 128 - M' 42 0 o) ∧ ∀ le j i, Q le j i → T3 M1 A B le j i → le + j - i = o → vl fe A B f le j i ≤ M' 41 0 o * 128 - M' 42 0 o)
theorem tR.mono {M1 M' : zM} {fe N : Int} {A B : List Int} {f : Int → Int} {Q Q' : Int → Nat → Nat → Prop} (h : tR M1 fe A B f N Q M') (q : ∀ le j i, T3 M1 A B le j i → Q' le j i → Q le j i) : tR M1 fe A B f N Q' M' := by
  intro o ho
  rcases h o ho with ⟨a, b⟩ | ⟨a, b, c⟩
  · exact .inl ⟨a, fun le j i h1 h2 => b le j i (q le j i h2 h1) h2⟩
  · exact .inr ⟨a, b, fun le j i h1 h2 => c le j i (q le j i h2 h1) h2⟩
def gF (M M' : zM) : Prop := ∀ k i, k ≠ 41 → k ≠ 42 → M' k i = M k i
/-- what stands when a grade's tries begin -/
def gX (M1 : zM) (fe : Int) (A B : List Int) (f : Int → Int) (N : Int) : Prop :=
  (M1 9 0 11 = B.length ∧ M1 9 0 15 = A.length) ∧ ((∀ i : Nat, i ≤ B.length → M1 43 0 i = pS kbv i B) ∧ (∀ j : Nat, j ≤ A.length → M1 44 0 j = pS (kav fe) j A)) ∧
  (∀ le, 0 ≤ le ∧ le ≤ 80 → M1 40 0 le ≠ -1 → (0 ≤ M1 40 0 le ∧ M1 40 0 le + B.length ≤ N) ∧ f le = M1 39 0 le * 128 - M1 40 0 le) ∧ (B.length ≤ 80 ∧ A.length ≤ 80) ∧ N ≤ 80 ∧
  (∀ le j i, T3 M1 A B le j i → -600000000 ≤ vl fe A B f le j i ∧ vl fe A B f le j i ≤ 1200000000) ∧ ∀ le, 0 ≤ le ∧ le ≤ 80 → zI (M1 40 0 le)
section
variable {l : Launch} {M : zM} {S : zS}
def LX9_laysSums_23 (l : Launch) (P : zM → Prop) (v2 : Int) (M : zM) : Prop := AW l m_X9_laysSums (zTv m_X9_laysSums P) 23 [(0, zr 9 0), (2, zi v2)] [] M
def LX9_laysSums_60 (l : Launch) (P : zM → Prop) (v2 : Int) (M : zM) : Prop := AW l m_X9_laysSums (zTv m_X9_laysSums P) 60 [(0, zr 9 0), (2, zi v2)] [] M
theorem vX9_laysSums_23 {l : Launch} {P : zM → Prop} {v2 : Int} {M : zM}
    (H0 : (zI v2 ∧ zI (M 9 0 11) ∧ ((M 9 0 11) ≤ v2 → LX9_laysSums_60 l P 0 M) ∧ (v2 < (M 9 0 11) → ((0 ≤ v2 ∧ v2 < 81) ∧ ((0 ≤ v2 ∧ v2 < 80) ∧ ((0 ≤ (v2 + 1) ∧ (v2 + 1) < 81) ∧ ∀ M20 : zM, M20 = zu M 43 0 (v2 + 1) ((M 43 0 v2) + (M 33 0 v2)) → LX9_laysSums_23 l P (v2 + 1) M20)))))) :
    LX9_laysSums_23 l P v2 M :=
(aw_iload_n d_X9_laysSums_23 rfl rfl 1 rfl
(aw_aload_n d_X9_laysSums_24 rfl rfl 0 rfl (by decide)
(aw_getI (kc := 11) d_X9_laysSums_25 rfl fl9_113 rfl rfl
(have z8 := H0.1; have z9 := H0.2.1; have e10 := H0.2.2; aw_icmp_ge d_X9_laysSums_28 rfl rfl z8 z9 (fun c11 => have e13 := e10.1 c11; (aw_iconst d_X9_laysSums_58 rfl
(aw_istore_n (lv' := [(2, zi 0), (0, zr 9 0)]) d_X9_laysSums_59 rfl rfl (by decide) rfl
(aw_sub [1, 0] rfl e13)))) (fun c12 => have e14 := e10.2 c12; (aw_aload_n d_X9_laysSums_31 rfl rfl 0 rfl (by decide)
(aw_getR (k' := 43) (a := 0) (b := 0) (j := 0) d_X9_laysSums_32 rfl fl9_59 rfl zj0 ⟨by decide, fun _ => by decide⟩
(aw_iload_n d_X9_laysSums_35 rfl rfl 1 rfl
(aw_iconst d_X9_laysSums_36 rfl
(aw_iadd d_X9_laysSums_37 rfl
(aw_aload_n d_X9_laysSums_38 rfl rfl 0 rfl (by decide)
(aw_getR (k' := 43) (a := 0) (b := 0) (j := 0) d_X9_laysSums_39 rfl fl9_59 rfl zj0 ⟨by decide, fun _ => by decide⟩
(aw_iload_n d_X9_laysSums_42 rfl rfl 1 rfl
(have z15 := e14.1; have e16 := e14.2; (aw_iald d_X9_laysSums_43 rfl za43 z15
(aw_aload_n d_X9_laysSums_44 rfl rfl 0 rfl (by decide)
(aw_getR (k' := 33) (a := 0) (b := 0) (j := 0) d_X9_laysSums_45 rfl fl9_29 rfl zj0 ⟨by decide, fun _ => by decide⟩
(aw_iload_n d_X9_laysSums_48 rfl rfl 1 rfl
(have z17 := e16.1; have e18 := e16.2; (aw_iald d_X9_laysSums_49 rfl za33 z17
(aw_iadd d_X9_laysSums_50 rfl
(have z19 := e18.1; have e21 := e18.2 _ rfl; aw_iast d_X9_laysSums_51 rfl za43 z19
(aw_iinc (lv' := [(2, zi (v2 + 1)), (0, zr 9 0)]) (y := (v2 + 1)) d_X9_laysSums_52 rfl 1 rfl (by decide) rfl rfl
(aw_goto d_X9_laysSums_55 rfl
(aw_sub [1, 0] rfl e21)))))))))))))))))))))))))
theorem vX9_laysSums_60 {l : Launch} {P : zM → Prop} {v2 : Int} {M : zM}
    (H0 : (zI v2 ∧ zI (M 9 0 15) ∧ ((M 9 0 15) ≤ v2 → P M) ∧ (v2 < (M 9 0 15) → ((0 ≤ v2 ∧ v2 < 81) ∧ ((0 ≤ v2 ∧ v2 < 80) ∧ ((0 ≤ (v2 + 1) ∧ (v2 + 1) < 81) ∧ ∀ M34 : zM, M34 = zu M 44 0 (v2 + 1) ((M 44 0 v2) + (M 36 0 v2)) → LX9_laysSums_60 l P (v2 + 1) M34)))))) :
    LX9_laysSums_60 l P v2 M :=
(aw_iload_n d_X9_laysSums_60 rfl rfl 1 rfl
(aw_aload_n d_X9_laysSums_61 rfl rfl 0 rfl (by decide)
(aw_getI (kc := 15) d_X9_laysSums_62 rfl fl9_116 rfl rfl
(have z22 := H0.1; have z23 := H0.2.1; have e24 := H0.2.2; aw_icmp_ge d_X9_laysSums_65 rfl rfl z22 z23 (fun c25 => have e27 := e24.1 c25; (aw_rv d_X9_laysSums_95 rfl e27)) (fun c26 => have e28 := e24.2 c26; (aw_aload_n d_X9_laysSums_68 rfl rfl 0 rfl (by decide)
(aw_getR (k' := 44) (a := 0) (b := 0) (j := 0) d_X9_laysSums_69 rfl fl9_62 rfl zj0 ⟨by decide, fun _ => by decide⟩
(aw_iload_n d_X9_laysSums_72 rfl rfl 1 rfl
(aw_iconst d_X9_laysSums_73 rfl
(aw_iadd d_X9_laysSums_74 rfl
(aw_aload_n d_X9_laysSums_75 rfl rfl 0 rfl (by decide)
(aw_getR (k' := 44) (a := 0) (b := 0) (j := 0) d_X9_laysSums_76 rfl fl9_62 rfl zj0 ⟨by decide, fun _ => by decide⟩
(aw_iload_n d_X9_laysSums_79 rfl rfl 1 rfl
(have z29 := e28.1; have e30 := e28.2; (aw_iald d_X9_laysSums_80 rfl za44 z29
(aw_aload_n d_X9_laysSums_81 rfl rfl 0 rfl (by decide)
(aw_getR (k' := 36) (a := 0) (b := 0) (j := 0) d_X9_laysSums_82 rfl fl9_38 rfl zj0 ⟨by decide, fun _ => by decide⟩
(aw_iload_n d_X9_laysSums_85 rfl rfl 1 rfl
(have z31 := e30.1; have e32 := e30.2; (aw_iald d_X9_laysSums_86 rfl za36 z31
(aw_iadd d_X9_laysSums_87 rfl
(have z33 := e32.1; have e35 := e32.2 _ rfl; aw_iast d_X9_laysSums_88 rfl za44 z33
(aw_iinc (lv' := [(2, zi (v2 + 1)), (0, zr 9 0)]) (y := (v2 + 1)) d_X9_laysSums_89 rfl 1 rfl (by decide) rfl rfl
(aw_goto d_X9_laysSums_92 rfl
(aw_sub [1, 0] rfl e35)))))))))))))))))))))))))
theorem vX9_laysSums {l : Launch} {P : zM → Prop} {v1 : Int} {M : zM}
    (H0 : (CV l m_X9_laysOf [zr 9 0, zi (zshl 1 v1)] M (fun M1 => (∀ M4 : zM, M4 = zu M1 43 0 0 0 → (∀ M6 : zM, M6 = zu M4 44 0 0 0 → LX9_laysSums_23 l P 0 M6))))) :
    CV l m_X9_laysSums [zr 9 0, zi v1] M P :=
(aw_aload_n d_X9_laysSums_0 rfl rfl 0 rfl (by decide)
(aw_iconst d_X9_laysSums_1 rfl
(aw_iload_n d_X9_laysSums_2 rfl rfl 1 rfl
(aw_ishl d_X9_laysSums_3 rfl zshl_h
(aw_VV (As := [zi (zshl 1 v1)]) (st := []) d_X9_laysSums_4 rfl cv9_139 ⟨Nat.le_of_ble_eq_true rfl, Nat.le_of_ble_eq_true rfl⟩ rfl rfl (Nat.le_of_ble_eq_true rfl) (Nat.le_of_ble_eq_true rfl) H0 (fun M1 e2 => (aw_aload_n d_X9_laysSums_7 rfl rfl 0 rfl (by decide)
(aw_getR (k' := 43) (a := 0) (b := 0) (j := 0) d_X9_laysSums_8 rfl fl9_59 rfl zj0 ⟨by decide, fun _ => by decide⟩
(aw_iconst d_X9_laysSums_11 rfl
(aw_iconst d_X9_laysSums_12 rfl
(have e5 := e2 _ rfl; aw_iast d_X9_laysSums_13 rfl za43 (by decide)
(aw_aload_n d_X9_laysSums_14 rfl rfl 0 rfl (by decide)
(aw_getR (k' := 44) (a := 0) (b := 0) (j := 0) d_X9_laysSums_15 rfl fl9_62 rfl zj0 ⟨by decide, fun _ => by decide⟩
(aw_iconst d_X9_laysSums_18 rfl
(aw_iconst d_X9_laysSums_19 rfl
(have e7 := e5 _ rfl; aw_iast d_X9_laysSums_20 rfl za44 (by decide)
(aw_iconst d_X9_laysSums_21 rfl
(aw_istore_n (lv' := [(2, zi 0), (0, zr 9 0), (1, zi v1)]) d_X9_laysSums_22 rfl rfl (by decide) rfl
(aw_sub [1, 0] rfl e7)))))))))))))))))))
theorem vX9_tries {l : Launch} {P : zM → Prop} {v1 : Int} {v2 : Int} {v3 : Int} {M : zM}
    (H0 : ((0 ≤ v1 ∧ v1 < 81) ∧ ((0 ≤ v2 ∧ v2 < 81) ∧ ((0 ≤ v3 ∧ v3 < 81) ∧ ((0 ≤ ((v1 + v3) - v2) ∧ ((v1 + v3) - v2) < 81) ∧ (zI (M 42 0 ((v1 + v3) - v2)) ∧ ((M 42 0 ((v1 + v3) - v2)) = (-1) → (∀ M15 : zM, M15 = zu M 41 0 ((v1 + v3) - v2) (((M 39 0 v1) + (M 43 0 v2)) - (M 44 0 v3)) → (∀ M17 : zM, M17 = zu M15 42 0 ((v1 + v3) - v2) ((M 40 0 v1) + v2) → P M17))) ∧ ((M 42 0 ((v1 + v3) - v2)) ≠ (-1) → (zI (((M 39 0 v1) + (M 43 0 v2)) - (M 44 0 v3)) ∧ zI (M 41 0 ((v1 + v3) - v2)) ∧ ((((M 39 0 v1) + (M 43 0 v2)) - (M 44 0 v3)) < (M 41 0 ((v1 + v3) - v2)) → P M) ∧ ((M 41 0 ((v1 + v3) - v2)) ≤ (((M 39 0 v1) + (M 43 0 v2)) - (M 44 0 v3)) → (((((M 39 0 v1) + (M 43 0 v2)) - (M 44 0 v3)) ≠ (M 41 0 ((v1 + v3) - v2)) → (∀ M30 : zM, M30 = zu M 41 0 ((v1 + v3) - v2) (((M 39 0 v1) + (M 43 0 v2)) - (M 44 0 v3)) → (∀ M32 : zM, M32 = zu M30 42 0 ((v1 + v3) - v2) ((M 40 0 v1) + v2) → P M32))) ∧ ((((M 39 0 v1) + (M 43 0 v2)) - (M 44 0 v3)) = (M 41 0 ((v1 + v3) - v2)) → (zI ((M 40 0 v1) + v2) ∧ (((M 40 0 v1) + v2) < (M 42 0 ((v1 + v3) - v2)) → (∀ M40 : zM, M40 = zu M 41 0 ((v1 + v3) - v2) (((M 39 0 v1) + (M 43 0 v2)) - (M 44 0 v3)) → (∀ M42 : zM, M42 = zu M40 42 0 ((v1 + v3) - v2) ((M 40 0 v1) + v2) → P M42))) ∧ ((M 42 0 ((v1 + v3) - v2)) ≤ ((M 40 0 v1) + v2) → P M))))))))))))) :
    CV l m_X9_tries [zr 9 0, zi v1, zi v2, zi v3] M P :=
(aw_iload_n d_X9_tries_0 rfl rfl 1 rfl
(aw_iload_n d_X9_tries_1 rfl rfl 3 rfl
(aw_iadd d_X9_tries_2 rfl
(aw_iload_n d_X9_tries_3 rfl rfl 2 rfl
(aw_isub d_X9_tries_4 rfl
(aw_istore (lv' := [(4, zi ((v1 + v3) - v2)), (0, zr 9 0), (1, zi v1), (2, zi v2), (3, zi v3)]) d_X9_tries_5 rfl (by decide) rfl
(aw_aload_n d_X9_tries_7 rfl rfl 1 rfl (by decide)
(aw_getR (k' := 39) (a := 0) (b := 0) (j := 0) d_X9_tries_8 rfl fl9_47 rfl zj0 ⟨by decide, fun _ => by decide⟩
(aw_iload_n d_X9_tries_11 rfl rfl 2 rfl
(have z1 := H0.1; have e2 := H0.2; (aw_iald d_X9_tries_12 rfl za39 z1
(aw_aload_n d_X9_tries_13 rfl rfl 1 rfl (by decide)
(aw_getR (k' := 43) (a := 0) (b := 0) (j := 0) d_X9_tries_14 rfl fl9_59 rfl zj0 ⟨by decide, fun _ => by decide⟩
(aw_iload_n d_X9_tries_17 rfl rfl 3 rfl
(have z3 := e2.1; have e4 := e2.2; (aw_iald d_X9_tries_18 rfl za43 z3
(aw_iadd d_X9_tries_19 rfl
(aw_aload_n d_X9_tries_20 rfl rfl 1 rfl (by decide)
(aw_getR (k' := 44) (a := 0) (b := 0) (j := 0) d_X9_tries_21 rfl fl9_62 rfl zj0 ⟨by decide, fun _ => by decide⟩
(aw_iload_n d_X9_tries_24 rfl rfl 4 rfl
(have z5 := e4.1; have e6 := e4.2; (aw_iald d_X9_tries_25 rfl za44 z5
(aw_isub d_X9_tries_26 rfl
(aw_istore (lv' := [(5, zi (((M 39 0 v1) + (M 43 0 v2)) - (M 44 0 v3))), (4, zi ((v1 + v3) - v2)), (0, zr 9 0), (1, zi v1), (2, zi v2), (3, zi v3)]) d_X9_tries_27 rfl (by decide) rfl
(aw_aload_n d_X9_tries_29 rfl rfl 2 rfl (by decide)
(aw_getR (k' := 40) (a := 0) (b := 0) (j := 0) d_X9_tries_30 rfl fl9_50 rfl zj0 ⟨by decide, fun _ => by decide⟩
(aw_iload_n d_X9_tries_33 rfl rfl 3 rfl
(aw_iald d_X9_tries_34 rfl za40 z1
(aw_iload_n d_X9_tries_35 rfl rfl 4 rfl
(aw_iadd d_X9_tries_36 rfl
(aw_istore (lv' := [(6, zi ((M 40 0 v1) + v2)), (5, zi (((M 39 0 v1) + (M 43 0 v2)) - (M 44 0 v3))), (4, zi ((v1 + v3) - v2)), (0, zr 9 0), (1, zi v1), (2, zi v2), (3, zi v3)]) d_X9_tries_37 rfl (by decide) rfl
(aw_aload_n d_X9_tries_39 rfl rfl 3 rfl (by decide)
(aw_getR (k' := 42) (a := 0) (b := 0) (j := 0) d_X9_tries_40 rfl fl9_56 rfl zj0 ⟨by decide, fun _ => by decide⟩
(aw_iload d_X9_tries_43 rfl 2 rfl
(have z7 := e6.1; have e8 := e6.2; (aw_iald d_X9_tries_45 rfl za42 z7
(aw_iconst d_X9_tries_46 rfl
(have z9 := e8.1; have e10 := e8.2; aw_icmp_eq d_X9_tries_47 rfl rfl z9 (by decide) (fun c11 => have e13 := e10.1 c11; (aw_aload_n d_X9_tries_87 rfl rfl 3 rfl (by decide)
(aw_getR (k' := 41) (a := 0) (b := 0) (j := 0) d_X9_tries_88 rfl fl9_53 rfl zj0 ⟨by decide, fun _ => by decide⟩
(aw_iload d_X9_tries_91 rfl 2 rfl
(aw_iload d_X9_tries_93 rfl 1 rfl
(have e16 := e13 _ rfl; aw_iast d_X9_tries_95 rfl za41 z7
(aw_aload_n d_X9_tries_96 rfl rfl 3 rfl (by decide)
(aw_getR (k' := 42) (a := 0) (b := 0) (j := 0) d_X9_tries_97 rfl fl9_56 rfl zj0 ⟨by decide, fun _ => by decide⟩
(aw_iload d_X9_tries_100 rfl 2 rfl
(aw_iload d_X9_tries_102 rfl 0 rfl
(have e18 := e16 _ rfl; aw_iast d_X9_tries_104 rfl za42 z7
(aw_rv d_X9_tries_105 rfl e18)))))))))))) (fun c12 => have e14 := e10.2 c12; (aw_iload d_X9_tries_50 rfl 1 rfl
(aw_aload_n d_X9_tries_52 rfl rfl 3 rfl (by decide)
(aw_getR (k' := 41) (a := 0) (b := 0) (j := 0) d_X9_tries_53 rfl fl9_53 rfl zj0 ⟨by decide, fun _ => by decide⟩
(aw_iload d_X9_tries_56 rfl 2 rfl
(aw_iald d_X9_tries_58 rfl za41 z7
(have z19 := e14.1; have z20 := e14.2.1; have e21 := e14.2.2; aw_icmp_lt d_X9_tries_59 rfl rfl z19 z20 (fun c22 => have e24 := e21.1 c22; (aw_rv d_X9_tries_86 rfl e24)) (fun c23 => have e25 := e21.2 c23; (aw_iload d_X9_tries_62 rfl 1 rfl
(aw_aload_n d_X9_tries_64 rfl rfl 3 rfl (by decide)
(aw_getR (k' := 41) (a := 0) (b := 0) (j := 0) d_X9_tries_65 rfl fl9_53 rfl zj0 ⟨by decide, fun _ => by decide⟩
(aw_iload d_X9_tries_68 rfl 2 rfl
(aw_iald d_X9_tries_70 rfl za41 z7
(aw_icmp_ne d_X9_tries_71 rfl rfl z19 z20 (fun c26 => have e28 := e25.1 c26; (aw_aload_n d_X9_tries_87 rfl rfl 3 rfl (by decide)
(aw_getR (k' := 41) (a := 0) (b := 0) (j := 0) d_X9_tries_88 rfl fl9_53 rfl zj0 ⟨by decide, fun _ => by decide⟩
(aw_iload d_X9_tries_91 rfl 2 rfl
(aw_iload d_X9_tries_93 rfl 1 rfl
(have e31 := e28 _ rfl; aw_iast d_X9_tries_95 rfl za41 z7
(aw_aload_n d_X9_tries_96 rfl rfl 3 rfl (by decide)
(aw_getR (k' := 42) (a := 0) (b := 0) (j := 0) d_X9_tries_97 rfl fl9_56 rfl zj0 ⟨by decide, fun _ => by decide⟩
(aw_iload d_X9_tries_100 rfl 2 rfl
(aw_iload d_X9_tries_102 rfl 0 rfl
(have e33 := e31 _ rfl; aw_iast d_X9_tries_104 rfl za42 z7
(aw_rv d_X9_tries_105 rfl e33)))))))))))) (fun c27 => have e29 := e25.2 c27; (aw_iload d_X9_tries_74 rfl 0 rfl
(aw_aload_n d_X9_tries_76 rfl rfl 3 rfl (by decide)
(aw_getR (k' := 42) (a := 0) (b := 0) (j := 0) d_X9_tries_77 rfl fl9_56 rfl zj0 ⟨by decide, fun _ => by decide⟩
(aw_iload d_X9_tries_80 rfl 2 rfl
(aw_iald d_X9_tries_82 rfl za42 z7
(have z34 := e29.1; have e35 := e29.2; aw_icmp_lt d_X9_tries_83 rfl rfl z34 z9 (fun c36 => have e38 := e35.1 c36; (aw_aload_n d_X9_tries_87 rfl rfl 3 rfl (by decide)
(aw_getR (k' := 41) (a := 0) (b := 0) (j := 0) d_X9_tries_88 rfl fl9_53 rfl zj0 ⟨by decide, fun _ => by decide⟩
(aw_iload d_X9_tries_91 rfl 2 rfl
(aw_iload d_X9_tries_93 rfl 1 rfl
(have e41 := e38 _ rfl; aw_iast d_X9_tries_95 rfl za41 z7
(aw_aload_n d_X9_tries_96 rfl rfl 3 rfl (by decide)
(aw_getR (k' := 42) (a := 0) (b := 0) (j := 0) d_X9_tries_97 rfl fl9_56 rfl zj0 ⟨by decide, fun _ => by decide⟩
(aw_iload d_X9_tries_100 rfl 2 rfl
(aw_iload d_X9_tries_102 rfl 0 rfl
(have e43 := e41 _ rfl; aw_iast d_X9_tries_104 rfl za42 z7
(aw_rv d_X9_tries_105 rfl e43)))))))))))) (fun c37 => have e39 := e35.2 c37; (aw_rv d_X9_tries_86 rfl e39)))))))))))))))))))))))))))))))))))))))))))))))))))))))))))))
def LX9_goesOnBy_7 (l : Launch) (P : zM → Prop) (v2 : Int) (M : zM) : Prop := AW l m_X9_goesOnBy (zTv m_X9_goesOnBy P) 7 [(0, zr 9 0), (2, zi v2)] [] M
def LX9_goesOnBy_28 (l : Launch) (P : zM → Prop) (v2 : Int) (M : zM) : Prop := AW l m_X9_goesOnBy (zTv m_X9_goesOnBy P) 28 [(0, zr 9 0), (2, zi v2)] [] M
def LX9_goesOnBy_113 (l : Launch) (P : zM → Prop) (v2 : Int) (M : zM) : Prop := AW l m_X9_goesOnBy (zTv m_X9_goesOnBy P) 113 [(0, zr 9 0), (2, zi v2)] [] M
def LX9_goesOnBy_49 (l : Launch) (P : zM → Prop) (v2 : Int) (v3 : Int) (M : zM) : Prop := AW l m_X9_goesOnBy (zTv m_X9_goesOnBy P) 49 [(0, zr 9 0), (2, zi v2), (3, zi v3)] [] M
def LX9_goesOnBy_68 (l : Launch) (P : zM → Prop) (v2 : Int) (v3 : Int) (v4 : Int) (M : zM) : Prop := AW l m_X9_goesOnBy (zTv m_X9_goesOnBy P) 68 [(0, zr 9 0), (2, zi v2), (3, zi v3), (4, zi v4)] [] M
theorem vX9_goesOnBy_7 {l : Launch} {P : zM → Prop} {v2 : Int} {M : zM}
    (H0 : (zI v2 ∧ (80 < v2 → LX9_goesOnBy_28 l P 0 M) ∧ (v2 ≤ 80 → ((0 ≤ v2 ∧ v2 < 81) ∧ ∀ M11 : zM, M11 = zu M 42 0 v2 (-1) → LX9_goesOnBy_7 l P (v2 + 1) M11)))) :
    LX9_goesOnBy_7 l P v2 M :=
(aw_iload_n d_X9_goesOnBy_7 rfl rfl 1 rfl
(aw_bipush d_X9_goesOnBy_8 rfl (by decide)
(have z4 := H0.1; have e5 := H0.2; aw_icmp_gt d_X9_goesOnBy_10 rfl rfl z4 (by decide) (fun c6 => have e8 := e5.1 c6; (aw_iconst d_X9_goesOnBy_26 rfl
(aw_istore_n (lv' := [(2, zi 0), (0, zr 9 0)]) d_X9_goesOnBy_27 rfl rfl (by decide) rfl
(aw_sub [1, 0] rfl e8)))) (fun c7 => have e9 := e5.2 c7; (aw_aload_n d_X9_goesOnBy_13 rfl rfl 0 rfl (by decide)
(aw_getR (k' := 42) (a := 0) (b := 0) (j := 0) d_X9_goesOnBy_14 rfl fl9_56 rfl zj0 ⟨by decide, fun _ => by decide⟩
(aw_iload_n d_X9_goesOnBy_17 rfl rfl 1 rfl
(aw_iconst d_X9_goesOnBy_18 rfl
(have z10 := e9.1; have e12 := e9.2 _ rfl; aw_iast d_X9_goesOnBy_19 rfl za42 z10
(aw_iinc (lv' := [(2, zi (v2 + 1)), (0, zr 9 0)]) (y := (v2 + 1)) d_X9_goesOnBy_20 rfl 1 rfl (by decide) rfl rfl
(aw_goto d_X9_goesOnBy_23 rfl
(aw_sub [1, 0] rfl e12))))))))))))
theorem vX9_goesOnBy_28 {l : Launch} {P : zM → Prop} {v2 : Int} {M : zM}
    (H0 : (zI v2 ∧ (80 < v2 → LX9_goesOnBy_113 l P 0 M) ∧ (v2 ≤ 80 → ((0 ≤ v2 ∧ v2 < 81) ∧ (zI (M 40 0 v2) ∧ ((M 40 0 v2) ≠ (-1) → LX9_goesOnBy_49 l P v2 0 M) ∧ ((M 40 0 v2) = (-1) → LX9_goesOnBy_28 l P (v2 + 1) M)))))) :
    LX9_goesOnBy_28 l P v2 M :=
(aw_iload_n d_X9_goesOnBy_28 rfl rfl 1 rfl
(aw_bipush d_X9_goesOnBy_29 rfl (by decide)
(have z13 := H0.1; have e14 := H0.2; aw_icmp_gt d_X9_goesOnBy_31 rfl rfl z13 (by decide) (fun c15 => have e17 := e14.1 c15; (aw_iconst d_X9_goesOnBy_111 rfl
(aw_istore_n (lv' := [(2, zi 0), (0, zr 9 0)]) d_X9_goesOnBy_112 rfl rfl (by decide) rfl
(aw_sub [1, 0] rfl e17)))) (fun c16 => have e18 := e14.2 c16; (aw_aload_n d_X9_goesOnBy_34 rfl rfl 0 rfl (by decide)
(aw_getR (k' := 40) (a := 0) (b := 0) (j := 0) d_X9_goesOnBy_35 rfl fl9_50 rfl zj0 ⟨by decide, fun _ => by decide⟩
(aw_iload_n d_X9_goesOnBy_38 rfl rfl 1 rfl
(have z19 := e18.1; have e20 := e18.2; (aw_iald d_X9_goesOnBy_39 rfl za40 z19
(aw_iconst d_X9_goesOnBy_40 rfl
(have z21 := e20.1; have e22 := e20.2; aw_icmp_ne d_X9_goesOnBy_41 rfl rfl z21 (by decide) (fun c23 => have e25 := e22.1 c23; (aw_iconst d_X9_goesOnBy_47 rfl
(aw_istore_n (lv' := [(3, zi 0), (0, zr 9 0), (2, zi v2)]) d_X9_goesOnBy_48 rfl rfl (by decide) rfl
(aw_sub [1, 2, 0] rfl e25)))) (fun c24 => have e26 := e22.2 c24; (aw_goto d_X9_goesOnBy_44 rfl
(aw_iinc (lv' := [(2, zi (v2 + 1)), (0, zr 9 0)]) (y := (v2 + 1)) d_X9_goesOnBy_105 rfl 1 rfl (by decide) rfl rfl
(aw_goto d_X9_goesOnBy_108 rfl
(aw_sub [1, 0] rfl e26))))))))))))))))
theorem vX9_goesOnBy_113 {l : Launch} {P : zM → Prop} {v2 : Int} {M : zM}
    (H0 : (zI v2 ∧ (80 < v2 → P M) ∧ (v2 ≤ 80 → ((0 ≤ v2 ∧ v2 < 81) ∧ (∀ M35 : zM, M35 = zu M 39 0 v2 (M 41 0 v2) → (∀ M37 : zM, M37 = zu M35 40 0 v2 (M35 42 0 v2) → LX9_goesOnBy_113 l P (v2 + 1) M37)))))) :
    LX9_goesOnBy_113 l P v2 M :=
(aw_iload_n d_X9_goesOnBy_113 rfl rfl 1 rfl
(aw_bipush d_X9_goesOnBy_114 rfl (by decide)
(have z27 := H0.1; have e28 := H0.2; aw_icmp_gt d_X9_goesOnBy_116 rfl rfl z27 (by decide) (fun c29 => have e31 := e28.1 c29; (aw_rv d_X9_goesOnBy_149 rfl e31)) (fun c30 => have e32 := e28.2 c30; (aw_aload_n d_X9_goesOnBy_119 rfl rfl 0 rfl (by decide)
(aw_getR (k' := 39) (a := 0) (b := 0) (j := 0) d_X9_goesOnBy_120 rfl fl9_47 rfl zj0 ⟨by decide, fun _ => by decide⟩
(aw_iload_n d_X9_goesOnBy_123 rfl rfl 1 rfl
(aw_aload_n d_X9_goesOnBy_124 rfl rfl 0 rfl (by decide)
(aw_getR (k' := 41) (a := 0) (b := 0) (j := 0) d_X9_goesOnBy_125 rfl fl9_53 rfl zj0 ⟨by decide, fun _ => by decide⟩
(aw_iload_n d_X9_goesOnBy_128 rfl rfl 1 rfl
(have z33 := e32.1; have e34 := e32.2; (aw_iald d_X9_goesOnBy_129 rfl za41 z33
(have e36 := e34 _ rfl; aw_iast d_X9_goesOnBy_130 rfl za39 z33
(aw_aload_n d_X9_goesOnBy_131 rfl rfl 0 rfl (by decide)
(aw_getR (k' := 40) (a := 0) (b := 0) (j := 0) d_X9_goesOnBy_132 rfl fl9_50 rfl zj0 ⟨by decide, fun _ => by decide⟩
(aw_iload_n d_X9_goesOnBy_135 rfl rfl 1 rfl
(aw_aload_n d_X9_goesOnBy_136 rfl rfl 0 rfl (by decide)
(aw_getR (k' := 42) (a := 0) (b := 0) (j := 0) d_X9_goesOnBy_137 rfl fl9_56 rfl zj0 ⟨by decide, fun _ => by decide⟩
(aw_iload_n d_X9_goesOnBy_140 rfl rfl 1 rfl
(aw_iald d_X9_goesOnBy_141 rfl za42 z33
(have e38 := e36 _ rfl; aw_iast d_X9_goesOnBy_142 rfl za40 z33
(aw_iinc (lv' := [(2, zi (v2 + 1)), (0, zr 9 0)]) (y := (v2 + 1)) d_X9_goesOnBy_143 rfl 1 rfl (by decide) rfl rfl
(aw_goto d_X9_goesOnBy_146 rfl
(aw_sub [1, 0] rfl e38))))))))))))))))))))))))
theorem vX9_goesOnBy_49 {l : Launch} {P : zM → Prop} {v2 : Int} {v3 : Int} {M : zM}
    (H0 : (zI v3 ∧ zI (M 9 0 15) ∧ ((M 9 0 15) < v3 → LX9_goesOnBy_28 l P (v2 + 1) M) ∧ (v3 ≤ (M 9 0 15) → (zI (v2 + v3) ∧ (80 < (v2 + v3) → LX9_goesOnBy_28 l P (v2 + 1) M) ∧ ((v2 + v3) ≤ 80 → LX9_goesOnBy_68 l P v2 v3 0 M))))) :
    LX9_goesOnBy_49 l P v2 v3 M :=
(aw_iload_n d_X9_goesOnBy_49 rfl rfl 2 rfl
(aw_aload_n d_X9_goesOnBy_50 rfl rfl 0 rfl (by decide)
(aw_getI (kc := 15) d_X9_goesOnBy_51 rfl fl9_116 rfl rfl
(have z39 := H0.1; have z40 := H0.2.1; have e41 := H0.2.2; aw_icmp_gt d_X9_goesOnBy_54 rfl rfl z39 z40 (fun c42 => have e44 := e41.1 c42; (aw_iinc (lv' := [(2, zi (v2 + 1)), (0, zr 9 0), (3, zi v3)]) (y := (v2 + 1)) d_X9_goesOnBy_105 rfl 1 rfl (by decide) rfl rfl
(aw_goto d_X9_goesOnBy_108 rfl
(aw_sub [1, 0] rfl e44)))) (fun c43 => have e45 := e41.2 c43; (aw_iload_n d_X9_goesOnBy_57 rfl rfl 1 rfl
(aw_iload_n d_X9_goesOnBy_58 rfl rfl 2 rfl
(aw_iadd d_X9_goesOnBy_59 rfl
(aw_bipush d_X9_goesOnBy_60 rfl (by decide)
(have z46 := e45.1; have e47 := e45.2; aw_icmp_gt d_X9_goesOnBy_62 rfl rfl z46 (by decide) (fun c48 => have e50 := e47.1 c48; (aw_iinc (lv' := [(2, zi (v2 + 1)), (0, zr 9 0), (3, zi v3)]) (y := (v2 + 1)) d_X9_goesOnBy_105 rfl 1 rfl (by decide) rfl rfl
(aw_goto d_X9_goesOnBy_108 rfl
(aw_sub [1, 0] rfl e50)))) (fun c49 => have e51 := e47.2 c49; (aw_iconst d_X9_goesOnBy_65 rfl
(aw_istore (lv' := [(4, zi 0), (0, zr 9 0), (2, zi v2), (3, zi v3)]) d_X9_goesOnBy_66 rfl (by decide) rfl
(aw_sub [1, 2, 3, 0] rfl e51))))))))))))))
theorem vX9_goesOnBy_68 {l : Launch} {P : zM → Prop} {v2 : Int} {v3 : Int} {v4 : Int} {M : zM}
    (H0 : (zI v4 ∧ zI (M 9 0 11) ∧ ((M 9 0 11) < v4 → LX9_goesOnBy_49 l P v2 (v3 + 1) M) ∧ (v4 ≤ (M 9 0 11) → (zI (v2 + v3) ∧ ((v2 + v3) < v4 → LX9_goesOnBy_49 l P v2 (v3 + 1) M) ∧ (v4 ≤ (v2 + v3) → (CV l m_X9_tries [zr 9 0, zi v2, zi v4, zi v3] M (fun M65 => LX9_goesOnBy_68 l P v2 v3 (v4 + 1) M65))))))) :
    LX9_goesOnBy_68 l P v2 v3 v4 M :=
(aw_iload d_X9_goesOnBy_68 rfl 3 rfl
(aw_aload_n d_X9_goesOnBy_70 rfl rfl 0 rfl (by decide)
(aw_getI (kc := 11) d_X9_goesOnBy_71 rfl fl9_113 rfl rfl
(have z52 := H0.1; have z53 := H0.2.1; have e54 := H0.2.2; aw_icmp_gt d_X9_goesOnBy_74 rfl rfl z52 z53 (fun c55 => have e57 := e54.1 c55; (aw_iinc (lv' := [(3, zi (v3 + 1)), (0, zr 9 0), (2, zi v2), (4, zi v4)]) (y := (v3 + 1)) d_X9_goesOnBy_99 rfl 2 rfl (by decide) rfl rfl
(aw_goto d_X9_goesOnBy_102 rfl
(aw_sub [1, 2, 0] rfl e57)))) (fun c56 => have e58 := e54.2 c56; (aw_iload d_X9_goesOnBy_77 rfl 3 rfl
(aw_iload_n d_X9_goesOnBy_79 rfl rfl 1 rfl
(aw_iload_n d_X9_goesOnBy_80 rfl rfl 2 rfl
(aw_iadd d_X9_goesOnBy_81 rfl
(have z59 := e58.1; have e60 := e58.2; aw_icmp_gt d_X9_goesOnBy_82 rfl rfl z52 z59 (fun c61 => have e63 := e60.1 c61; (aw_iinc (lv' := [(3, zi (v3 + 1)), (0, zr 9 0), (2, zi v2), (4, zi v4)]) (y := (v3 + 1)) d_X9_goesOnBy_99 rfl 2 rfl (by decide) rfl rfl
(aw_goto d_X9_goesOnBy_102 rfl
(aw_sub [1, 2, 0] rfl e63)))) (fun c62 => have e64 := e60.2 c62; (aw_aload_n d_X9_goesOnBy_85 rfl rfl 0 rfl (by decide)
(aw_iload_n d_X9_goesOnBy_86 rfl rfl 1 rfl
(aw_iload d_X9_goesOnBy_87 rfl 3 rfl
(aw_iload_n d_X9_goesOnBy_89 rfl rfl 2 rfl
(aw_VV (As := [zi v2, zi v4, zi v3]) (st := []) d_X9_goesOnBy_90 rfl cv9_272 ⟨Nat.le_of_ble_eq_true rfl, Nat.le_of_ble_eq_true rfl⟩ rfl rfl (Nat.le_of_ble_eq_true rfl) (Nat.le_of_ble_eq_true rfl) e64 (fun M65 e66 => (aw_iinc (lv' := [(4, zi (v4 + 1)), (0, zr 9 0), (2, zi v2), (3, zi v3)]) (y := (v4 + 1)) d_X9_goesOnBy_93 rfl 3 rfl (by decide) rfl rfl
(aw_goto d_X9_goesOnBy_96 rfl
(aw_sub [1, 2, 3, 0] rfl e66))))))))))))))))))))
theorem vX9_goesOnBy {l : Launch} {P : zM → Prop} {v1 : Int} {M : zM}
    (H0 : (CV l m_X9_laysSums [zr 9 0, zi v1] M (fun M1 => LX9_goesOnBy_7 l P 0 M1))) :
    CV l m_X9_goesOnBy [zr 9 0, zi v1] M P :=
(aw_aload_n d_X9_goesOnBy_0 rfl rfl 0 rfl (by decide)
(aw_iload_n d_X9_goesOnBy_1 rfl rfl 1 rfl
(aw_VV (As := [zi v1]) (st := []) d_X9_goesOnBy_2 rfl cv9_269 ⟨Nat.le_of_ble_eq_true rfl, Nat.le_of_ble_eq_true rfl⟩ rfl rfl (Nat.le_of_ble_eq_true rfl) (Nat.le_of_ble_eq_true rfl) H0 (fun M1 e2 => (aw_iconst d_X9_goesOnBy_5 rfl
(aw_istore_n (lv' := [(2, zi 0), (0, zr 9 0), (1, zi v1)]) d_X9_goesOnBy_6 rfl rfl (by decide) rfl
(aw_sub [1, 0] rfl e2)))))))
def LX9_served_16 (l : Launch) (P : Int → zM → Prop) (v1 : Int) (v2 : Int) (M : zM) : Prop := AW l m_X9_served (zTi m_X9_served P) 16 [(0, zr 9 0), (1, zi v1), (2, zi v2)] [] M
def LX9_served_51 (l : Launch) (P : Int → zM → Prop) (v1 : Int) (v2 : Int) (M : zM) : Prop := AW l m_X9_served (zTi m_X9_served P) 51 [(0, zr 9 0), (1, zi v1), (2, zi v2)] [] M
theorem vX9_served_16 {l : Launch} {P : Int → zM → Prop} {v1 : Int} {v2 : Int} {M : zM}
    (H0 : (zI v2 ∧ (80 < v2 → (∀ M15 : zM, M15 = zu M 39 0 0 0 → (∀ M17 : zM, M17 = zu M15 40 0 0 0 → LX9_served_51 l P v1 0 M17))) ∧ (v2 ≤ 80 → ((0 ≤ v2 ∧ v2 < 81) ∧ ∀ M20 : zM, M20 = zu M 40 0 v2 (-1) → LX9_served_16 l P v1 (v2 + 1) M20)))) :
    LX9_served_16 l P v1 v2 M :=
(aw_iload_n d_X9_served_16 rfl rfl 2 rfl
(aw_bipush d_X9_served_17 rfl (by decide)
(have z9 := H0.1; have e10 := H0.2; aw_icmp_gt d_X9_served_19 rfl rfl z9 (by decide) (fun c11 => have e13 := e10.1 c11; (aw_aload_n d_X9_served_35 rfl rfl 0 rfl (by decide)
(aw_getR (k' := 39) (a := 0) (b := 0) (j := 0) d_X9_served_36 rfl fl9_47 rfl zj0 ⟨by decide, fun _ => by decide⟩
(aw_iconst d_X9_served_39 rfl
(aw_iconst d_X9_served_40 rfl
(have e16 := e13 _ rfl; aw_iast d_X9_served_41 rfl za39 (by decide)
(aw_aload_n d_X9_served_42 rfl rfl 0 rfl (by decide)
(aw_getR (k' := 40) (a := 0) (b := 0) (j := 0) d_X9_served_43 rfl fl9_50 rfl zj0 ⟨by decide, fun _ => by decide⟩
(aw_iconst d_X9_served_46 rfl
(aw_iconst d_X9_served_47 rfl
(have e18 := e16 _ rfl; aw_iast d_X9_served_48 rfl za40 (by decide)
(aw_iconst d_X9_served_49 rfl
(aw_istore_n (lv' := [(2, zi 0), (0, zr 9 0), (1, zi v1)]) d_X9_served_50 rfl rfl (by decide) rfl
(aw_sub [1, 2, 0] rfl e18)))))))))))))) (fun c12 => have e14 := e10.2 c12; (aw_aload_n d_X9_served_22 rfl rfl 0 rfl (by decide)
(aw_getR (k' := 40) (a := 0) (b := 0) (j := 0) d_X9_served_23 rfl fl9_50 rfl zj0 ⟨by decide, fun _ => by decide⟩
(aw_iload_n d_X9_served_26 rfl rfl 2 rfl
(aw_iconst d_X9_served_27 rfl
(have z19 := e14.1; have e21 := e14.2 _ rfl; aw_iast d_X9_served_28 rfl za40 z19
(aw_iinc (lv' := [(2, zi (v2 + 1)), (0, zr 9 0), (1, zi v1)]) (y := (v2 + 1)) d_X9_served_29 rfl 2 rfl (by decide) rfl rfl
(aw_goto d_X9_served_32 rfl
(aw_sub [1, 2, 0] rfl e21))))))))))))
theorem vX9_served_51 {l : Launch} {P : Int → zM → Prop} {v1 : Int} {v2 : Int} {M : zM}
    (H0 : (zI v2 ∧ (4 ≤ v2 → (zI v1 ∧ (v1 ≠ 0 → ((v1 ≠ 1 → (CI l m_X9_worthOfAll [zr 9 0] M (fun x41 M38 => P ((M 39 0 0) - x41) M38))) ∧ (v1 = 1 → P (M 40 0 0) M))) ∧ (v1 = 0 → P (M 39 0 0) M))) ∧ (v2 < 4 → (CV l m_X9_goesOnBy [zr 9 0, zi v2] M (fun M42 => LX9_served_51 l P v1 (v2 + 1) M42))))) :
    LX9_served_51 l P v1 v2 M :=
(aw_iload_n d_X9_served_51 rfl rfl 2 rfl
(aw_iconst d_X9_served_52 rfl
(have z22 := H0.1; have e23 := H0.2; aw_icmp_ge d_X9_served_53 rfl rfl z22 (by decide) (fun c24 => have e26 := e23.1 c24; (aw_aload_n d_X9_served_67 rfl rfl 0 rfl (by decide)
(aw_getR (k' := 39) (a := 0) (b := 0) (j := 0) d_X9_served_68 rfl fl9_47 rfl zj0 ⟨by decide, fun _ => by decide⟩
(aw_iconst d_X9_served_71 rfl
(aw_iald d_X9_served_72 rfl za39 (by decide)
(aw_istore_n (lv' := [(2, zi (M 39 0 0)), (0, zr 9 0), (1, zi v1)]) d_X9_served_73 rfl rfl (by decide) rfl
(aw_aload_n d_X9_served_74 rfl rfl 1 rfl (by decide)
(aw_getR (k' := 40) (a := 0) (b := 0) (j := 0) d_X9_served_75 rfl fl9_50 rfl zj0 ⟨by decide, fun _ => by decide⟩
(aw_iconst d_X9_served_78 rfl
(aw_iald d_X9_served_79 rfl za40 (by decide)
(aw_istore_n (lv' := [(3, zi (M 40 0 0)), (2, zi (M 39 0 0)), (0, zr 9 0), (1, zi v1)]) d_X9_served_80 rfl rfl (by decide) rfl
(aw_iload_n d_X9_served_81 rfl rfl 3 rfl
(have z28 := e26.1; have e29 := e26.2; aw_if_ne d_X9_served_82 rfl rfl z28 (fun c30 => have e32 := e29.1 c30; (aw_iload_n d_X9_served_89 rfl rfl 3 rfl
(aw_iconst d_X9_served_90 rfl
(aw_icmp_ne d_X9_served_91 rfl rfl z28 (by decide) (fun c34 => have e36 := e32.1 c34; (aw_iload_n d_X9_served_98 rfl rfl 1 rfl
(aw_aload_n d_X9_served_99 rfl rfl 2 rfl (by decide)
(aw_VI (As := []) (st := [zi (M 39 0 0)]) d_X9_served_100 rfl cv9_279 ⟨Nat.le_of_ble_eq_true rfl, Nat.le_of_ble_eq_true rfl⟩ rfl rfl (Nat.le_of_ble_eq_true rfl) (Nat.le_of_ble_eq_true rfl) e36 (fun x41 M38 e39 => (aw_isub d_X9_served_103 rfl
(aw_ri d_X9_served_104 rfl e39))))))) (fun c35 => have e37 := e32.2 c35; (aw_iload_n d_X9_served_94 rfl rfl 0 rfl
(aw_goto d_X9_served_95 rfl
(aw_ri d_X9_served_104 rfl e37)))))))) (fun c31 => have e33 := e29.2 c31; (aw_iload_n d_X9_served_85 rfl rfl 1 rfl
(aw_goto d_X9_served_86 rfl
(aw_ri d_X9_served_104 rfl e33))))))))))))))))) (fun c25 => have e27 := e23.2 c25; (aw_aload_n d_X9_served_56 rfl rfl 0 rfl (by decide)
(aw_iload_n d_X9_served_57 rfl rfl 2 rfl
(aw_VV (As := [zi v2]) (st := []) d_X9_served_58 rfl cv9_276 ⟨Nat.le_of_ble_eq_true rfl, Nat.le_of_ble_eq_true rfl⟩ rfl rfl (Nat.le_of_ble_eq_true rfl) (Nat.le_of_ble_eq_true rfl) e27 (fun M42 e43 => (aw_iinc (lv' := [(2, zi (v2 + 1)), (0, zr 9 0), (1, zi v1)]) (y := (v2 + 1)) d_X9_served_61 rfl 2 rfl (by decide) rfl rfl
(aw_goto d_X9_served_64 rfl
(aw_sub [1, 2, 0] rfl e43)))))))))))
theorem vX9_served {l : Launch} {P : Int → zM → Prop} {v1 : Int} {M : zM}
    (H0 : (zI v1 ∧ ((zJ v1 ∧ zJ 0 ∧ zJ 2) ∧ ((0 ≤ v1 ∧ v1 ≤ 2 → LX9_served_16 l P v1 0 M) ∧ (¬ (0 ≤ v1 ∧ v1 ≤ 2) → P (-1) M))))) :
    CI l m_X9_served [zr 9 0, zi v1] M P :=
(aw_iload_n d_X9_served_0 rfl rfl 1 rfl
(have z1 := H0.1; have e2 := H0.2; (aw_i2l d_X9_served_1 rfl z1
(aw_lconst (x := 0) d_X9_served_2 rfl (by decide)
(aw_ldc2 d_X9_served_3 rfl cl9_217
(have z3 := e2.1; have e4 := e2.2; (aw_SI (As := [zl v1, zl 0, zl 2]) (st := []) d_X9_served_6 rfl cs9_82 ⟨Nat.le_of_ble_eq_true rfl, Nat.le_of_ble_eq_true rfl⟩ rfl rfl (Nat.le_of_ble_eq_true rfl) (Nat.le_of_ble_eq_true rfl) (s_X9_in z3) (fun _ _ hq => aw_eqs hq
(aw_if_ne d_X9_served_9 rfl rfl zb_I (fun c5 => have e7 := e4.1 (zb_n0 c5); (aw_iconst d_X9_served_14 rfl
(aw_istore_n (lv' := [(2, zi 0), (0, zr 9 0), (1, zi v1)]) d_X9_served_15 rfl rfl (by decide) rfl
(aw_sub [1, 2, 0] rfl e7)))) (fun c6 => have e8 := e4.2 (zb_0 c6); (aw_iconst d_X9_served_12 rfl
(aw_ri d_X9_served_13 rfl e8))))))))))))
theorem c_X9_tries {M1 M' : zM} {fe N : Int} {A B : List Int} {f : Int → Int} {Q : Int → Nat → Nat → Prop} (x : gX M1 fe A B f N) (fr : gF M1 M') (r : tR M1 fe A B f N Q M') {le : Int} {j i : Nat} (t : T3 M1 A B le j i) :
    CV l m_X9_tries [zr 9 0, zi le, zi (i : Int), zi (j : Int)] M' (fun M2 => gF M1 M2 ∧ tR M1 fe A B f N (fun le' j' i' => Q le' j' i' ∨ (le' = le ∧ j' = j ∧ i' = i)) M2) := by
  obtain ⟨t1, t2, t3, t4, t5, t6⟩ := t
  have t : T3 M1 A B le j i := ⟨t1, t2, t3, t4, t5, t6⟩
  have e39 : M' 39 0 = M1 39 0 := fr 39 0 (by decide) (by decide)
  have e40 : M' 40 0 = M1 40 0 := fr 40 0 (by decide) (by decide)
  have e43 : M' 43 0 = M1 43 0 := fr 43 0 (by decide) (by decide)
  have e44 : M' 44 0 = M1 44 0 := fr 44 0 (by decide) (by decide)
  have hb := x.2.1.1 i t5
  have ha := x.2.1.2 j t3
  have hf := x.2.2.1 le t1 t2
  have hl := x.2.2.2.1
  have hN := x.2.2.2.2.1
  have hv := x.2.2.2.2.2.1 le j i t
  have ev : vl fe A B f le j i = (M1 39 0 le + M1 43 0 i - M1 44 0 j) * 128 - (M1 40 0 le + i) := by
    unfold vl
    rw [pS_A t3, pS_B t5, hf.2, hb, ha]
    omega
  refine vX9_tries ?_
  rw [e39, e40, e43, e44]
  rw [ev] at hv
  have hr := r (le + j - i) (by omega)
  generalize hto : le + (j : Int) - (i : Int) = to at *
  generalize hits : M1 39 0 le + M1 43 0 i - M1 44 0 j = its at *
  generalize hmany : M1 40 0 le + (i : Int) = many at *
  have keep : M' 42 0 to ≠ -1 → its * 128 - many ≤ M' 41 0 to * 128 - M' 42 0 to → gF M1 M' ∧ tR M1 fe A B f N (fun le' j' i' => Q le' j' i' ∨ (le' = le ∧ j' = j ∧ i' = i)) M' := by
    intro c1 c2
    refine ⟨fr, fun o ho => ?_⟩
    rcases r o ho with ⟨a, b⟩ | ⟨a, b, c⟩
    · refine .inl ⟨a, fun le' j' i' q u => ?_⟩
      rcases q with q | ⟨rfl, rfl, rfl⟩
      · exact b le' j' i' q u
      · intro e
        rw [hto] at e
        rw [e] at c1
        exact c1 a
    · refine .inr ⟨a, b, fun le' j' i' q u e => ?_⟩
      rcases q with q | ⟨rfl, rfl, rfl⟩
      · exact c le' j' i' q u e
      · rw [hto] at e
        rw [ev, ← e]
        exact c2
  have hit : (M' 42 0 to ≠ -1 → M' 41 0 to * 128 - M' 42 0 to ≤ its * 128 - many) → ∀ M2, M2 = zu M' 41 0 to its → ∀ M3, M3 = zu M2 42 0 to many → gF M1 M3 ∧ tR M1 fe A B f N (fun le' j' i' => Q le' j' i' ∨ (le' = le ∧ j' = j ∧ i' = i)) M3 := by
    intro c1 M2 q2 M3 q3
    refine ⟨fun k i' h1 h2 => by rw [q3, zu_k h2, q2, zu_k h1]; exact fr k i' h1 h2, fun o ho => ?_⟩
    have k42 : M3 42 0 o = if o = to then many else M' 42 0 o := by
      rw [q3, zu_at, q2, zu_k (by decide)]
    have k41 : M3 41 0 o = if o = to then its else M' 41 0 o := by
      rw [q3, zu_k (by decide), q2, zu_at]
    rw [k42, k41]
    by_cases e : o = to
    · rw [if_pos e, if_pos e]
      refine .inr ⟨by omega, ⟨le, j, i, t, by omega, ev⟩, fun le' j' i' q u e' => ?_⟩
      rcases q with q | ⟨rfl, rfl, rfl⟩
      · rcases r o ho with ⟨a, b⟩ | ⟨a, b, c⟩
        · exact absurd e' (b le' j' i' q u)
        · have := c le' j' i' q u e'
          rw [e] at this a
          have := c1 (by omega)
          omega
      · rw [ev]
        omega
    · rw [if_neg e, if_neg e]
      rcases r o ho with ⟨a, b⟩ | ⟨a, b, c⟩
      · refine .inl ⟨a, fun le' j' i' q u => ?_⟩
        rcases q with q | ⟨rfl, rfl, rfl⟩
        · exact b le' j' i' q u
        · omega
      · refine .inr ⟨a, b, fun le' j' i' q u e' => ?_⟩
        rcases q with q | ⟨rfl, rfl, rfl⟩
        · exact c le' j' i' q u e'
        · omega
  have b42 : M' 42 0 to ≠ -1 → (0 ≤ M' 42 0 to ∧ M' 42 0 to ≤ 80) ∧ (-600000000 ≤ M' 41 0 to * 128 - M' 42 0 to ∧ M' 41 0 to * 128 - M' 42 0 to ≤ 1200000000) := by
    intro c
    rcases hr with ⟨a, -⟩ | ⟨a, ⟨le', j', i', u, -, e⟩, -⟩
    · exact absurd a c
    · have := x.2.2.2.2.2.1 le' j' i' u
      rw [e] at this
      exact ⟨by omega, this⟩
  refine ⟨by omega, by omega, by omega, by omega, ?_, fun c => hit (fun c' => absurd c c'), fun c => ⟨by omega, ?_, fun d => keep c (by have := b42 c; omega), fun d => ⟨fun e => hit (fun _ => by have := b42 c; omega), fun e => ⟨by omega, fun d2 => hit (fun _ => by omega), fun d2 => keep c (by omega)⟩⟩⟩⟩
  · by_cases c : M' 42 0 to = -1
    · omega
    · have := b42 c; omega
  · have := b42 c; omega
end
