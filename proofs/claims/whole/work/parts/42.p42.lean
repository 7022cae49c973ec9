/-! ===== questions, both sides: ties ===== -/
theorem CL.eq {l : Launch} {X : zD} {args : List zV} {M : zM} {r : Int} {P : Int → zM → Prop} (k : CL l X args M (fun x M' => x = r ∧ M' = M)) (h : P r M) : CL l X args M P := k.mono (by rintro _ _ ⟨rfl, rfl⟩; exact h)
/-- the reference's way: some of n, step by step; 0: too many -/
def cfN (n few : Nat) : Nat → Nat
  | 0 => 1
  | i + 1 => if cfN n few i = 0 then 0 else if 1000000000000000000 / ((n - few + (i + 1)) / ((i + 1) / Nat.gcd (cfN n few i) (i + 1))) < cfN n few i / Nat.gcd (cfN n few i) (i + 1) then 0 else cfN n few i / Nat.gcd (cfN n few i) (i + 1) * ((n - few + (i + 1)) / ((i + 1) / Nat.gcd (cfN n few i) (i + 1)))
/-- the class's way: a row behind a row -/
def nxtT : List Nat → List Nat
  | a :: b :: r => min (b + a) 1000000000000000001 :: nxtT (b :: r)
  | _ => []
def rowN : Nat → List Nat
  | 0 => 1 :: List.replicate 80 0
  | n + 1 => 1 :: nxtT (rowN n)
def wy (n k : Nat) : Nat := (rowN n).getD k 0
-- the same, counted fast: one step's value is named
def cfF (n few : Nat) : Nat → Nat → Nat → Nat
  | 0, _, its => its
  | f + 1, i, its => if its = 0 then 0 else if 1000000000000000000 / ((n - few + (i + 1)) / ((i + 1) / Nat.gcd its (i + 1))) < its / Nat.gcd its (i + 1) then 0 else cfF n few f (i + 1) (its / Nat.gcd its (i + 1) * ((n - few + (i + 1)) / ((i + 1) / Nat.gcd its (i + 1))))
def okW (c w : Nat) : Bool := Nat.beq c (if Nat.ble w 1000000000000000000 then w else 0)
def chkR (n : Nat) (r : List Nat) : Nat → Bool
  | 0 => okW (cfF n 0 0 0 1) (r.getD 0 0)
  | k + 1 => okW (cfF n (min (k + 1) (n - (k + 1))) (min (k + 1) (n - (k + 1))) 0 1) (r.getD (k + 1) 0) && chkR n r k
def chkA : Nat → Nat → List Nat → Bool
  | 0, _, _ => true
  | f + 1, n, r => chkR n r n && chkA f (n + 1) (1 :: nxtT r)
theorem chk_all : chkA 81 0 (1 :: List.replicate 80 0) = true := by decide +kernel
theorem chkA_at : ∀ {f n : Nat}, chkA f n (rowN n) = true → ∀ m, n ≤ m → m < n + f → chkR m (rowN m) m = true
  | 0, n, _, m, h1, h2 => by omega
  | f + 1, n, h, m, h1, h2 => by
    rw [chkA, Bool.and_eq_true] at h
    by_cases c : m = n
    · rw [c]; exact h.1
    · exact chkA_at (n := n + 1) h.2 m (by omega) (by omega)
theorem chkR_at {n : Nat} {r : List Nat} : ∀ {k : Nat}, chkR n r k = true → ∀ j, j ≤ k → j ≤ n → okW (cfF n (min j (n - j)) (min j (n - j)) 0 1) (r.getD j 0) = true
  | 0, h, j, h1, h2 => by
    have : j = 0 := by omega
    subst this
    rw [Nat.zero_min]
    exact h
  | k + 1, h, j, h1, h2 => by
    rw [chkR, Bool.and_eq_true] at h
    by_cases c : j = k + 1
    · rw [c]; exact h.1
    · exact chkR_at h.2 j (by omega) h2
theorem cfF_z {n few : Nat} : ∀ {f i : Nat}, cfF n few f i 0 = 0
  | 0, i => rfl
  | f + 1, i => by rw [cfF, if_pos rfl]
theorem cfF_N {n few : Nat} : ∀ {f i : Nat}, cfF n few f i (cfN n few i) = cfN n few (i + f)
  | 0, i => rfl
  | f + 1, i => by
    rw [cfF]
    have e : i + (f + 1) = (i + 1) + f := by omega
    rw [e, ← cfF_N (f := f) (i := i + 1), cfN]
    by_cases c : cfN n few i = 0
    · rw [if_pos c, if_pos c, cfF_z]
    · rw [if_neg c, if_neg c]
      by_cases c2 : 1000000000000000000 / ((n - few + (i + 1)) / ((i + 1) / Nat.gcd (cfN n few i) (i + 1))) < cfN n few i / Nat.gcd (cfN n few i) (i + 1)
      · rw [if_pos c2, if_pos c2, cfF_z]
      · rw [if_neg c2, if_neg c2]
theorem cf_wy {n k : Nat} (hn : n ≤ 80) (hk : k ≤ n) : cfN n (min k (n - k)) (min k (n - k)) = if wy n k ≤ 1000000000000000000 then wy n k else 0 := by
  have h1 := chkA_at (n := 0) (f := 81) chk_all n (by omega) (by omega)
  have h2 := chkR_at h1 k hk hk
  have h3 := cfF_N (n := n) (few := min k (n - k)) (f := min k (n - k)) (i := 0)
  rw [Nat.zero_add] at h3
  rw [← h3]
  have h4 := Nat.eq_of_beq_eq_true h2
  unfold wy
  by_cases c : (rowN n).getD k 0 ≤ 1000000000000000000
  · rw [if_pos c]
    rw [if_pos (Nat.ble_eq_true_of_le c)] at h4
    exact h4
  · rw [if_neg c]
    rw [if_neg (fun q => c (Nat.le_of_ble_eq_true q))] at h4
    exact h4
theorem nxtT_len : ∀ r : List Nat, (nxtT r).length = r.length - 1
  | [] => rfl
  | [a] => rfl
  | a :: b :: r => by rw [nxtT, List.length_cons, nxtT_len (b :: r)]; simp
theorem nxtT_at : ∀ {r : List Nat} {j : Nat}, j + 1 < r.length → (nxtT r).getD j 0 = min (r.getD (j + 1) 0 + r.getD j 0) 1000000000000000001
  | [], j, h => by simp at h
  | [a], j, h => by simp at h
  | a :: b :: r, 0, h => rfl
  | a :: b :: r, j + 1, h => by
    rw [nxtT]
    show (nxtT (b :: r)).getD j 0 = min ((b :: r).getD (j + 1) 0 + (b :: r).getD j 0) _
    exact nxtT_at (by simpa using h)
theorem rowN_len : ∀ n, (rowN n).length = 81
  | 0 => by simp [rowN]
  | n + 1 => by rw [rowN, List.length_cons, nxtT_len, rowN_len n]
theorem wy_0 {n : Nat} : wy n 0 = 1 := by cases n <;> rfl
theorem wy_00 {k : Nat} : wy 0 (k + 1) = 0 := by
  show (List.replicate 80 0).getD k 0 = 0
  rw [List.getD_eq_getElem?_getD]
  by_cases h : k < 80
  · rw [List.getElem?_replicate, if_pos h]; rfl
  · rw [List.getElem?_replicate, if_neg h]; rfl
theorem wy_s {n k : Nat} (h : k < 80) : wy (n + 1) (k + 1) = min (wy n (k + 1) + wy n k) 1000000000000000001 := by
  show (nxtT (rowN n)).getD k 0 = _
  exact nxtT_at (by rw [rowN_len]; omega)
theorem wy_b : ∀ n k : Nat, wy n k ≤ 1000000000000000001
  | n, 0 => by rw [wy_0]; omega
  | 0, k + 1 => by rw [wy_00]; omega
  | n + 1, k + 1 => by
    by_cases h : k < 80
    · rw [wy_s h]; omega
    · have : wy (n + 1) (k + 1) = 0 := by
        unfold wy
        rw [List.getD_eq_getElem?_getD, List.getElem?_eq_none (by rw [rowN_len]; omega)]
        rfl
      omega
theorem cfN_b {n few : Nat} : ∀ i, cfN n few i ≤ 1000000000000000000
  | 0 => by show (1 : Nat) ≤ _; omega
  | i + 1 => by
    rw [cfN]
    split
    · omega
    · split
      · omega
      · next c =>
        have := Nat.le_of_not_lt c
        by_cases hz : (n - few + (i + 1)) / ((i + 1) / Nat.gcd (cfN n few i) (i + 1)) = 0
        · rw [hz]; omega
        · exact (Nat.le_div_iff_mul_le (Nat.pos_of_ne_zero hz)).mp this
theorem wy_1 {n k : Nat} (hk : k ≤ n) (hn : n ≤ 80) : 1 ≤ wy n k := by
  induction n generalizing k with
  | zero =>
    have : k = 0 := by omega
    subst this
    rw [wy_0]
    exact Nat.le_refl _
  | succ n ih =>
    cases k with
    | zero => rw [wy_0]; exact Nat.le_refl _
    | succ k =>
      have := ih (k := k) (by omega) (by omega)
      rw [wy_s (by omega)]
      omega
section
variable {l : Launch} {M : zM} {S : zS}
def LX8_ways_22 (l : Launch) (P : Int → zM → Prop) (v1 : Int) (v2 : Int) (v3 : Int) (M : zM) : Prop := AW l m_X8_ways (zTl m_X8_ways P) 22 [(0, zr 8 0), (1, zi v1), (2, zi v2), (3, zi v3)] [] M
def LX8_ways_50 (l : Launch) (P : Int → zM → Prop) (v1 : Int) (v2 : Int) (v3 : Int) (M : zM) : Prop := AW l m_X8_ways (zTl m_X8_ways P) 50 [(0, zr 8 0), (1, zi v1), (2, zi v2), (3, zi v3)] [] M
def LX8_ways_58 (l : Launch) (P : Int → zM → Prop) (v1 : Int) (v2 : Int) (v3 : Int) (v4 : Int) (M : zM) : Prop := AW l m_X8_ways (zTl m_X8_ways P) 58 [(0, zr 8 0), (1, zi v1), (2, zi v2), (3, zi v3), (4, zi v4)] [] M
theorem vX8_ways_22 {l : Launch} {P : Int → zM → Prop} {v1 : Int} {v2 : Int} {v3 : Int} {M : zM}
    (H0 : (zI v3 ∧ zI v2 ∧ (v2 < v3 → LX8_ways_50 l P v1 v2 1 M) ∧ (v3 ≤ v2 → ((v3 ≠ 0 → ((0 ≤ v3 ∧ v3 < 81) ∧ ∀ M29 : zM, M29 = zu M 26 0 v3 0 → LX8_ways_22 l P v1 v2 (v3 + 1) M29)) ∧ (v3 = 0 → ((0 ≤ v3 ∧ v3 < 81) ∧ ∀ M32 : zM, M32 = zu M 26 0 v3 1 → LX8_ways_22 l P v1 v2 (v3 + 1) M32)))))) :
    LX8_ways_22 l P v1 v2 v3 M :=
(aw_iload_n d_X8_ways_22 rfl rfl 3 rfl
(aw_iload_n d_X8_ways_23 rfl rfl 2 rfl
(have z17 := H0.1; have z18 := H0.2.1; have e19 := H0.2.2; aw_icmp_gt d_X8_ways_24 rfl rfl z17 z18 (fun c20 => have e22 := e19.1 c20; (aw_iconst d_X8_ways_48 rfl
(aw_istore_n (lv' := [(3, zi 1), (0, zr 8 0), (1, zi v1), (2, zi v2)]) d_X8_ways_49 rfl rfl (by decide) rfl
(aw_sub [1, 2, 3, 0] rfl e22)))) (fun c21 => have e23 := e19.2 c21; (aw_aload_n d_X8_ways_27 rfl rfl 0 rfl (by decide)
(aw_getR (k' := 26) (a := 0) (b := 0) (j := 0) d_X8_ways_28 rfl fl8_72 rfl zj0 ⟨by decide, fun _ => by decide⟩
(aw_iload_n d_X8_ways_31 rfl rfl 3 rfl
(aw_iload_n d_X8_ways_32 rfl rfl 3 rfl
(aw_if_ne d_X8_ways_33 rfl rfl z17 (fun c24 => have e26 := e23.1 c24; (aw_lconst (x := 0) d_X8_ways_40 rfl (by decide)
(have z28 := e26.1; have e30 := e26.2 _ rfl; aw_last d_X8_ways_41 rfl za26 z28
(aw_iinc (lv' := [(3, zi (v3 + 1)), (0, zr 8 0), (1, zi v1), (2, zi v2)]) (y := (v3 + 1)) d_X8_ways_42 rfl 3 rfl (by decide) rfl rfl
(aw_goto d_X8_ways_45 rfl
(aw_sub [1, 2, 3, 0] rfl e30)))))) (fun c25 => have e27 := e23.2 c25; (aw_lconst (x := 1) d_X8_ways_36 rfl (by decide)
(aw_goto d_X8_ways_37 rfl
(have z31 := e27.1; have e33 := e27.2 _ rfl; aw_last d_X8_ways_41 rfl za26 z31
(aw_iinc (lv' := [(3, zi (v3 + 1)), (0, zr 8 0), (1, zi v1), (2, zi v2)]) (y := (v3 + 1)) d_X8_ways_42 rfl 3 rfl (by decide) rfl rfl
(aw_goto d_X8_ways_45 rfl
(aw_sub [1, 2, 3, 0] rfl e33))))))))))))))))
theorem vX8_ways_50 {l : Launch} {P : Int → zM → Prop} {v1 : Int} {v2 : Int} {v3 : Int} {M : zM}
    (H0 : (zI v3 ∧ zI v1 ∧ (v1 < v3 → ((0 ≤ v2 ∧ v2 < 81) ∧ P (M 26 0 v2) M)) ∧ (v3 ≤ v1 → LX8_ways_58 l P v1 v2 v3 v2 M))) :
    LX8_ways_50 l P v1 v2 v3 M :=
(aw_iload_n d_X8_ways_50 rfl rfl 3 rfl
(aw_iload_n d_X8_ways_51 rfl rfl 1 rfl
(have z34 := H0.1; have z35 := H0.2.1; have e36 := H0.2.2; aw_icmp_gt d_X8_ways_52 rfl rfl z34 z35 (fun c37 => have e39 := e36.1 c37; (aw_aload_n d_X8_ways_106 rfl rfl 0 rfl (by decide)
(aw_getR (k' := 26) (a := 0) (b := 0) (j := 0) d_X8_ways_107 rfl fl8_72 rfl zj0 ⟨by decide, fun _ => by decide⟩
(aw_iload_n d_X8_ways_110 rfl rfl 2 rfl
(have z41 := e39.1; have e42 := e39.2; (aw_lald d_X8_ways_111 rfl za26 z41
(aw_rl d_X8_ways_112 rfl e42))))))) (fun c38 => have e40 := e36.2 c38; (aw_iload_n d_X8_ways_55 rfl rfl 2 rfl
(aw_istore (lv' := [(4, zi v2), (0, zr 8 0), (1, zi v1), (2, zi v2), (3, zi v3)]) d_X8_ways_56 rfl (by decide) rfl
(aw_sub [1, 2, 3, 4, 0] rfl e40)))))))
theorem vX8_ways_58 {l : Launch} {P : Int → zM → Prop} {v1 : Int} {v2 : Int} {v3 : Int} {v4 : Int} {M : zM}
    (H0 : (zI v4 ∧ (v4 < 1 → LX8_ways_50 l P v1 v2 (v3 + 1) M) ∧ (1 ≤ v4 → ((0 ≤ v4 ∧ v4 < 81) ∧ ((0 ≤ (v4 - 1) ∧ (v4 - 1) < 81) ∧ (zJ ((M 26 0 v4) + (M 26 0 (v4 - 1))) ∧ (∀ M55 : zM, M55 = zu M 26 0 v4 (min ((M 26 0 v4) + (M 26 0 (v4 - 1))) 1000000000000000001) → LX8_ways_58 l P v1 v2 v3 (v4 - 1) M55))))))) :
    LX8_ways_58 l P v1 v2 v3 v4 M :=
(aw_iload d_X8_ways_58 rfl 4 rfl
(aw_iconst d_X8_ways_60 rfl
(have z43 := H0.1; have e44 := H0.2; aw_icmp_lt d_X8_ways_61 rfl rfl z43 (by decide) (fun c45 => have e47 := e44.1 c45; (aw_iinc (lv' := [(3, zi (v3 + 1)), (0, zr 8 0), (1, zi v1), (2, zi v2), (4, zi v4)]) (y := (v3 + 1)) d_X8_ways_100 rfl 3 rfl (by decide) rfl rfl
(aw_goto d_X8_ways_103 rfl
(aw_sub [1, 2, 3, 0] rfl e47)))) (fun c46 => have e48 := e44.2 c46; (aw_aload_n d_X8_ways_64 rfl rfl 0 rfl (by decide)
(aw_getR (k' := 26) (a := 0) (b := 0) (j := 0) d_X8_ways_65 rfl fl8_72 rfl zj0 ⟨by decide, fun _ => by decide⟩
(aw_iload d_X8_ways_68 rfl 4 rfl
(aw_aload_n d_X8_ways_70 rfl rfl 0 rfl (by decide)
(aw_getR (k' := 26) (a := 0) (b := 0) (j := 0) d_X8_ways_71 rfl fl8_72 rfl zj0 ⟨by decide, fun _ => by decide⟩
(aw_iload d_X8_ways_74 rfl 4 rfl
(have z49 := e48.1; have e50 := e48.2; (aw_lald d_X8_ways_76 rfl za26 z49
(aw_aload_n d_X8_ways_77 rfl rfl 0 rfl (by decide)
(aw_getR (k' := 26) (a := 0) (b := 0) (j := 0) d_X8_ways_78 rfl fl8_72 rfl zj0 ⟨by decide, fun _ => by decide⟩
(aw_iload d_X8_ways_81 rfl 4 rfl
(aw_iconst d_X8_ways_83 rfl
(aw_isub d_X8_ways_84 rfl
(have z51 := e50.1; have e52 := e50.2; (aw_lald d_X8_ways_85 rfl za26 z51
(aw_ladd d_X8_ways_86 rfl
(aw_ldc2 d_X8_ways_87 rfl cl8_420
(have z53 := e52.1; have e54 := e52.2; (aw_minL d_X8_ways_90 rfl cm8_422 ⟨Nat.le_of_ble_eq_true rfl, Nat.le_of_ble_eq_true rfl⟩ z53 (by decide)
(have e56 := e54 _ rfl; aw_last d_X8_ways_93 rfl za26 z49
(aw_iinc (lv' := [(4, zi (v4 - 1)), (0, zr 8 0), (1, zi v1), (2, zi v2), (3, zi v3)]) (y := (v4 - 1)) d_X8_ways_94 rfl 4 rfl (by decide) rfl rfl
(aw_goto d_X8_ways_97 rfl
(aw_sub [1, 2, 3, 4, 0] rfl e56)))))))))))))))))))))))))))
theorem vX8_ways {l : Launch} {P : Int → zM → Prop} {v1 : Int} {v2 : Int} {M : zM}
    (H0 : (zI v2 ∧ (v2 < 0 → P 0 M) ∧ (0 ≤ v2 → (zI v1 ∧ (v1 < v2 → P 0 M) ∧ (v2 ≤ v1 → ((v1 < 81 → LX8_ways_22 l P v1 v2 0 M) ∧ (81 ≤ v1 → P 0 M))))))) :
    CL l m_X8_ways [zr 8 0, zi v1, zi v2] M P :=
(aw_iload_n d_X8_ways_0 rfl rfl 2 rfl
(have z1 := H0.1; have e2 := H0.2; aw_if_lt d_X8_ways_1 rfl rfl z1 (fun c3 => have e5 := e2.1 c3; (aw_lconst (x := 0) d_X8_ways_18 rfl (by decide)
(aw_rl d_X8_ways_19 rfl e5))) (fun c4 => have e6 := e2.2 c4; (aw_iload_n d_X8_ways_4 rfl rfl 2 rfl
(aw_iload_n d_X8_ways_5 rfl rfl 1 rfl
(have z7 := e6.1; have e8 := e6.2; aw_icmp_gt d_X8_ways_6 rfl rfl z1 z7 (fun c9 => have e11 := e8.1 c9; (aw_lconst (x := 0) d_X8_ways_18 rfl (by decide)
(aw_rl d_X8_ways_19 rfl e11))) (fun c10 => have e12 := e8.2 c10; (aw_iload_n d_X8_ways_9 rfl rfl 1 rfl
(aw_aload_n d_X8_ways_10 rfl rfl 0 rfl (by decide)
(aw_getR (k' := 26) (a := 0) (b := 0) (j := 0) d_X8_ways_11 rfl fl8_72 rfl zj0 ⟨by decide, fun _ => by decide⟩
(aw_alen (x := 81) d_X8_ways_14 rfl (by decide) rfl
(aw_icmp_lt d_X8_ways_15 rfl rfl z7 (by decide) (fun c13 => have e15 := e12.1 c13; (aw_iconst d_X8_ways_20 rfl
(aw_istore_n (lv' := [(3, zi 0), (0, zr 8 0), (1, zi v1), (2, zi v2)]) d_X8_ways_21 rfl rfl (by decide) rfl
(aw_sub [1, 2, 3, 0] rfl e15)))) (fun c14 => have e16 := e12.2 c14; (aw_lconst (x := 0) d_X8_ways_18 rfl (by decide)
(aw_rl d_X8_ways_19 rfl e16)))))))))))))))
theorem c_X8_ways {n k : Nat} (hn : n ≤ 80) (hk : k ≤ n) : CL l m_X8_ways [zr 8 0, zi (n : Int), zi (k : Int)] M (fun x M' => x = (wy n k : Nat) ∧ Fr (fun k => k = 26) M M') := by
  have F26 : ∀ {M1 M2 : zM} {j x : Int}, Fr (fun k => k = 26) M M1 → M2 = zu M1 26 0 j x → Fr (fun k => k = 26) M M2 := fun f e => f.tr (by rw [e]; exact Fr.zu rfl)
  have outer : ∀ (m i : Nat) (M' : zM), n - i = m → i ≤ n → Fr (fun k => k = 26) M M' → (∀ j : Nat, j ≤ k → M' 26 0 j = (wy i j : Nat)) → LX8_ways_50 l (fun x M' => x = (wy n k : Nat) ∧ Fr (fun k => k = 26) M M') (n : Int) (k : Int) ((i : Int) + 1) M' := by
    intro m
    induction m with
    | zero =>
      intro i M' hm hi f h
      have : i = n := by omega
      subst this
      exact vX8_ways_50 ⟨by omega, by omega, fun _ => ⟨by omega, h k (Nat.le_refl _), f⟩, fun e => by omega⟩
    | succ m ih =>
      intro i M' hm hi f h
      refine vX8_ways_50 ⟨by omega, by omega, fun e => by omega, fun _ => ?_⟩
      have inner : ∀ (j : Nat) (M' : zM), j ≤ k → Fr (fun k => k = 26) M M' → (∀ q : Nat, q ≤ j → M' 26 0 q = (wy i q : Nat)) → (∀ q : Nat, j < q → q ≤ k → M' 26 0 q = (wy (i + 1) q : Nat)) → LX8_ways_58 l (fun x M' => x = (wy n k : Nat) ∧ Fr (fun k => k = 26) M M') (n : Int) (k : Int) ((i : Int) + 1) (j : Int) M' := by
        intro j
        induction j with
        | zero =>
          intro M' hj f h1 h2
          refine vX8_ways_58 ⟨by omega, fun _ => ?_, fun e => by omega⟩
          have := ih (i + 1) M' (by omega) (by omega) f (fun q hq => by
            cases q with
            | zero => rw [h1 0 (Nat.le_refl _), wy_0, wy_0]
            | succ q => exact h2 (q + 1) (by omega) hq)
          rw [show ((i + 1 : Nat) : Int) = (i : Int) + 1 by omega] at this
          exact this
        | succ j ihj =>
          intro M' hj f h1 h2
          have v1 := h1 (j + 1) (Nat.le_refl _)
          have v2 := h1 j (by omega)
          have e1 : ((j + 1 : Nat) : Int) - 1 = (j : Int) := by omega
          have b1 := wy_b i (j + 1)
          have b2 := wy_b i j
          refine vX8_ways_58 ?_
          rw [e1, v1, v2]
          refine ⟨by omega, fun e => by omega, fun _ => ⟨by omega, by omega, by omega, fun M2 q2 => ?_⟩⟩
          refine ihj M2 (by omega) (F26 f q2) (fun q hq => by rw [q2, zu_at, if_neg (by omega)]; exact h1 q (by omega)) (fun q hq hq2 => ?_)
          rw [q2, zu_at]
          by_cases c : q = j + 1
          · subst c
            rw [if_pos rfl, wy_s (by omega)]
            omega
          · rw [if_neg (by omega)]
            exact h2 q (by omega) hq2
      exact inner k M' (Nat.le_refl _) f h (fun q h1 h2 => by omega)
  have start : ∀ (m j : Nat) (M' : zM), k + 1 - j = m → j ≤ k + 1 → Fr (fun k => k = 26) M M' → (∀ q : Nat, q < j → M' 26 0 q = (wy 0 q : Nat)) → LX8_ways_22 l (fun x M' => x = (wy n k : Nat) ∧ Fr (fun k => k = 26) M M') (n : Int) (k : Int) (j : Int) M' := by
    intro m
    induction m with
    | zero =>
      intro j M' hm hj f h
      have := outer _ 0 M' rfl (by omega) f (fun q hq => h q (by omega))
      exact vX8_ways_22 ⟨by omega, by omega, fun _ => this, fun e => by omega⟩
    | succ m ih =>
      intro j M' hm hj f h
      refine vX8_ways_22 ⟨by omega, by omega, fun e => by omega, fun _ => ⟨fun e => ⟨by omega, fun M2 q2 => ?_⟩, fun e => ⟨by omega, fun M2 q2 => ?_⟩⟩⟩
      · refine ih (j + 1) M2 (by omega) (by omega) (F26 f q2) (fun q hq => ?_)
        rw [q2, zu_at]
        by_cases c : q = j
        · subst c
          rw [if_pos rfl]
          obtain ⟨q', rfl⟩ : ∃ q', q = q' + 1 := ⟨q - 1, by omega⟩
          rw [wy_00]
          rfl
        · rw [if_neg (by omega)]; exact h q (by omega)
      · refine ih (j + 1) M2 (by omega) (by omega) (F26 f q2) (fun q hq => ?_)
        rw [q2, zu_at]
        by_cases c : q = j
        · subst c
          rw [if_pos rfl, show q = 0 by omega, wy_0]
          rfl
        · rw [if_neg (by omega)]; exact h q (by omega)
  exact vX8_ways ⟨by omega, fun e => by omega, fun _ => ⟨by omega, fun e => by omega, fun _ => ⟨fun _ => start _ 0 M rfl (by omega) Fr.rf (fun q hq => by omega), fun e => by omega⟩⟩⟩
def LX9_shared_6 (l : Launch) (P : Int → zM → Prop) (v4 : Int) (v6 : Int) (M : zM) : Prop := AW l m_X9_shared (zTl m_X9_shared P) 6 [(4, zl v4), (6, zl v6)] [] M
theorem vX9_shared_6 {l : Launch} {P : Int → zM → Prop} {v4 : Int} {v6 : Int} {M : zM}
    (H0 : (zJ v6 ∧ (v6 ≤ 0 → P v4 M) ∧ (0 < v6 → (zJ v4 ∧ v6 ≠ 0 ∧ LX9_shared_6 l P v6 (Int.tmod v4 v6) M)))) :
    LX9_shared_6 l P v4 v6 M :=
(aw_lload d_X9_shared_6 rfl 1 rfl
(aw_lconst (x := 0) d_X9_shared_8 rfl (by decide)
(have z1 := H0.1; have e2 := H0.2; aw_lcmp d_X9_shared_9 rfl z1 (by decide) (fun w3 c4 => aw_if_le d_X9_shared_10 rfl rfl (by omega) (fun c5 => have e7 := e2.1 (by omega); (aw_lload d_X9_shared_31 rfl 0 rfl
(aw_rl d_X9_shared_33 rfl e7))) (fun c6 => have e8 := e2.2 (by omega); (aw_lload d_X9_shared_13 rfl 0 rfl
(aw_lload d_X9_shared_15 rfl 1 rfl
(have z9 := e8.1; have z10 := e8.2.1; have e11 := e8.2.2; (aw_lrem d_X9_shared_17 rfl z9 z1 z10
(aw_lstore (lv' := [(8, zl (Int.tmod v4 v6)), (4, zl v4), (6, zl v6)]) d_X9_shared_18 rfl (by decide) rfl
(aw_lload d_X9_shared_20 rfl 2 rfl
(aw_lstore (lv' := [(4, zl v6), (8, zl (Int.tmod v4 v6)), (6, zl v6)]) d_X9_shared_22 rfl (by decide) rfl
(aw_lload d_X9_shared_24 rfl 1 rfl
(aw_lstore (lv' := [(6, zl (Int.tmod v4 v6)), (4, zl v6), (8, zl (Int.tmod v4 v6))]) d_X9_shared_26 rfl (by decide) rfl
(aw_goto d_X9_shared_28 rfl
(aw_sub [1, 0] rfl e11))))))))))))))))
theorem vX9_shared {l : Launch} {P : Int → zM → Prop} {v0 : Int} {v2 : Int} {M : zM}
    (H0 : LX9_shared_6 l P v0 v2 M) :
    CL l m_X9_shared [zl v0, zl v2] M P :=
(aw_lload_n d_X9_shared_0 rfl rfl 0 rfl
(aw_lstore (lv' := [(4, zl v0), (0, zl v0), (2, zl v2)]) d_X9_shared_1 rfl (by decide) rfl
(aw_lload_n d_X9_shared_3 rfl rfl 2 rfl
(aw_lstore (lv' := [(6, zl v2), (4, zl v0), (0, zl v0), (2, zl v2)]) d_X9_shared_4 rfl (by decide) rfl
(aw_sub [1, 0] rfl H0)))))
theorem vX9_times {l : Launch} {P : Int → zM → Prop} {v0 : Int} {v2 : Int} {M : zM}
    (H0 : (zJ v0 ∧ (v0 < 0 → P (-1) M) ∧ (0 ≤ v0 → (zJ v2 ∧ (v2 < 0 → P (-1) M) ∧ (0 ≤ v2 → (v2 ≠ 0 ∧ (zJ (Int.tdiv 1000000000000000000 v2) ∧ (v0 ≤ (Int.tdiv 1000000000000000000 v2) → P (v0 * v2) M) ∧ ((Int.tdiv 1000000000000000000 v2) < v0 → P (-1) M)))))))) :
    CL l m_X9_times [zl v0, zl v2] M P :=
(aw_lload_n d_X9_times_0 rfl rfl 0 rfl
(aw_lconst (x := 0) d_X9_times_1 rfl (by decide)
(have z1 := H0.1; have e2 := H0.2; aw_lcmp d_X9_times_2 rfl z1 (by decide) (fun w3 c4 => aw_if_lt d_X9_times_3 rfl rfl (by omega) (fun c5 => have e7 := e2.1 (by omega); (aw_ldc2 d_X9_times_22 rfl cl9_244
(aw_goto d_X9_times_25 rfl
(aw_rl d_X9_times_31 rfl e7)))) (fun c6 => have e8 := e2.2 (by omega); (aw_lload_n d_X9_times_6 rfl rfl 1 rfl
(aw_lconst (x := 0) d_X9_times_7 rfl (by decide)
(have z9 := e8.1; have e10 := e8.2; aw_lcmp d_X9_times_8 rfl z9 (by decide) (fun w11 c12 => aw_if_lt d_X9_times_9 rfl rfl (by omega) (fun c13 => have e15 := e10.1 (by omega); (aw_ldc2 d_X9_times_22 rfl cl9_244
(aw_goto d_X9_times_25 rfl
(aw_rl d_X9_times_31 rfl e15)))) (fun c14 => have e16 := e10.2 (by omega); (aw_lload_n d_X9_times_12 rfl rfl 0 rfl
(aw_ldc2 d_X9_times_13 rfl cl9_242
(aw_lload_n d_X9_times_16 rfl rfl 1 rfl
(have z17 := e16.1; have e18 := e16.2; (aw_ldiv d_X9_times_17 rfl (by decide) z9 z17
(have z19 := e18.1; have e20 := e18.2; aw_lcmp d_X9_times_18 rfl z1 z19 (fun w21 c22 => aw_if_le d_X9_times_19 rfl rfl (by omega) (fun c23 => have e25 := e20.1 (by omega); (aw_lload_n d_X9_times_28 rfl rfl 0 rfl
(aw_lload_n d_X9_times_29 rfl rfl 1 rfl
(aw_lmul d_X9_times_30 rfl
(aw_rl d_X9_times_31 rfl e25))))) (fun c24 => have e26 := e20.2 (by omega); (aw_ldc2 d_X9_times_22 rfl cl9_244
(aw_goto d_X9_times_25 rfl
(aw_rl d_X9_times_31 rfl e26)))))))))))))))))))))
def LX9_choose_20 (l : Launch) (P : Int → zM → Prop) (v0 : Int) (v2 : Int) (v3 : Int) (v5 : Int) (M : zM) : Prop := AW l m_X9_choose (zTl m_X9_choose P) 20 [(0, zi v0), (2, zi v2), (3, zl v3), (5, zi v5)] [] M
theorem vX9_choose_20 {l : Launch} {P : Int → zM → Prop} {v0 : Int} {v2 : Int} {v3 : Int} {v5 : Int} {M : zM}
    (H0 : (zI v5 ∧ zI v2 ∧ (v2 < v5 → P v3 M) ∧ (v5 ≤ v2 → (CL l m_X9_shared [zl v3, zl v5] M (fun x18 M15 => (zJ v3 ∧ zJ x18 ∧ x18 ≠ 0 ∧ (zI ((v0 - v2) + v5) ∧ (zJ v5 ∧ x18 ≠ 0 ∧ (zJ ((v0 - v2) + v5) ∧ zJ (Int.tdiv v5 x18) ∧ (Int.tdiv v5 x18) ≠ 0 ∧ (CL l m_X9_times [zl (Int.tdiv v3 x18), zl (Int.tdiv ((v0 - v2) + v5) (Int.tdiv v5 x18))] M15 (fun x35 M32 => (zJ x35 ∧ (0 ≤ x35 → LX9_choose_20 l P v0 v2 x35 (v5 + 1) M32) ∧ (x35 < 0 → P (-1) M32))))))))))))) :
    LX9_choose_20 l P v0 v2 v3 v5 M :=
(aw_iload d_X9_choose_20 rfl 3 rfl
(aw_iload_n d_X9_choose_22 rfl rfl 1 rfl
(have z8 := H0.1; have z9 := H0.2.1; have e10 := H0.2.2; aw_icmp_gt d_X9_choose_23 rfl rfl z8 z9 (fun c11 => have e13 := e10.1 c11; (aw_lload_n d_X9_choose_73 rfl rfl 2 rfl
(aw_rl d_X9_choose_74 rfl e13))) (fun c12 => have e14 := e10.2 c12; (aw_lload_n d_X9_choose_26 rfl rfl 2 rfl
(aw_iload d_X9_choose_27 rfl 3 rfl
(aw_i2l d_X9_choose_29 rfl z8
(aw_SL (As := [zl v3, zl v5]) (st := []) d_X9_choose_30 rfl cs9_246 ⟨Nat.le_of_ble_eq_true rfl, Nat.le_of_ble_eq_true rfl⟩ rfl rfl (Nat.le_of_ble_eq_true rfl) (Nat.le_of_ble_eq_true rfl) e14 (fun x18 M15 e16 => (aw_lstore (lv' := [(6, zl x18), (0, zi v0), (2, zi v2), (3, zl v3), (5, zi v5)]) d_X9_choose_33 rfl (by decide) rfl
(aw_lload_n d_X9_choose_35 rfl rfl 3 rfl
(aw_lload d_X9_choose_36 rfl 0 rfl
(have z19 := e16.1; have z20 := e16.2.1; have z21 := e16.2.2.1; have e22 := e16.2.2.2; (aw_ldiv d_X9_choose_38 rfl z19 z20 z21
(aw_iload_n d_X9_choose_39 rfl rfl 1 rfl
(aw_iload_n d_X9_choose_40 rfl rfl 2 rfl
(aw_isub d_X9_choose_41 rfl
(aw_iload d_X9_choose_42 rfl 4 rfl
(aw_iadd d_X9_choose_44 rfl
(have z23 := e22.1; have e24 := e22.2; (aw_i2l d_X9_choose_45 rfl z23
(aw_iload d_X9_choose_46 rfl 4 rfl
(aw_i2l d_X9_choose_48 rfl z8
(aw_lload d_X9_choose_49 rfl 0 rfl
(have z25 := e24.1; have z26 := e24.2.1; have e27 := e24.2.2; (aw_ldiv d_X9_choose_51 rfl z25 z20 z26
(have z28 := e27.1; have z29 := e27.2.1; have z30 := e27.2.2.1; have e31 := e27.2.2.2; (aw_ldiv d_X9_choose_52 rfl z28 z29 z30
(aw_SL (As := [zl (Int.tdiv v3 x18), zl (Int.tdiv ((v0 - v2) + v5) (Int.tdiv v5 x18))]) (st := []) d_X9_choose_53 rfl cs9_250 ⟨Nat.le_of_ble_eq_true rfl, Nat.le_of_ble_eq_true rfl⟩ rfl rfl (Nat.le_of_ble_eq_true rfl) (Nat.le_of_ble_eq_true rfl) e31 (fun x35 M32 e33 => (aw_lstore_n (lv' := [(3, zl x35), (6, zl x18), (0, zi v0), (2, zi v2), (5, zi v5)]) d_X9_choose_56 rfl rfl (by decide) rfl
(aw_lload_n d_X9_choose_57 rfl rfl 0 rfl
(aw_lconst (x := 0) d_X9_choose_58 rfl (by decide)
(have z36 := e33.1; have e37 := e33.2; aw_lcmp d_X9_choose_59 rfl z36 (by decide) (fun w38 c39 => aw_if_ge d_X9_choose_60 rfl rfl (by omega) (fun c40 => have e42 := e37.1 (by omega); (aw_iinc (lv' := [(5, zi (v5 + 1)), (3, zl x35), (6, zl x18), (0, zi v0), (2, zi v2)]) (y := (v5 + 1)) d_X9_choose_67 rfl 4 rfl (by decide) rfl rfl
(aw_goto d_X9_choose_70 rfl
(aw_sub [3, 4, 1, 0] rfl e42)))) (fun c41 => have e43 := e37.2 (by omega); (aw_ldc2 d_X9_choose_63 rfl cl9_244
(aw_rl d_X9_choose_66 rfl e43))))))))))))))))))))))))))))))))))))))
theorem vX9_choose {l : Launch} {P : Int → zM → Prop} {v0 : Int} {v1 : Int} {M : zM}
    (H0 : (zI v1 ∧ zI (v0 - v1) ∧ ((v0 - v1) ≤ v1 → LX9_choose_20 l P v0 (v0 - v1) 1 1 M) ∧ (v1 < (v0 - v1) → LX9_choose_20 l P v0 v1 1 1 M))) :
    CL l m_X9_choose [zi v0, zi v1] M P :=
(aw_iload_n d_X9_choose_0 rfl rfl 1 rfl
(aw_iload_n d_X9_choose_1 rfl rfl 0 rfl
(aw_iload_n d_X9_choose_2 rfl rfl 1 rfl
(aw_isub d_X9_choose_3 rfl
(have z1 := H0.1; have z2 := H0.2.1; have e3 := H0.2.2; aw_icmp_ge d_X9_choose_4 rfl rfl z1 z2 (fun c4 => have e6 := e3.1 c4; (aw_iload_n d_X9_choose_11 rfl rfl 0 rfl
(aw_iload_n d_X9_choose_12 rfl rfl 1 rfl
(aw_isub d_X9_choose_13 rfl
(aw_istore_n (lv' := [(2, zi (v0 - v1)), (0, zi v0), (1, zi v1)]) d_X9_choose_14 rfl rfl (by decide) rfl
(aw_lconst (x := 1) d_X9_choose_15 rfl (by decide)
(aw_lstore_n (lv' := [(3, zl 1), (2, zi (v0 - v1)), (0, zi v0), (1, zi v1)]) d_X9_choose_16 rfl rfl (by decide) rfl
(aw_iconst d_X9_choose_17 rfl
(aw_istore (lv' := [(5, zi 1), (3, zl 1), (2, zi (v0 - v1)), (0, zi v0), (1, zi v1)]) d_X9_choose_18 rfl (by decide) rfl
(aw_sub [3, 2, 1, 0] rfl e6)))))))))) (fun c5 => have e7 := e3.2 c5; (aw_iload_n d_X9_choose_7 rfl rfl 1 rfl
(aw_goto d_X9_choose_8 rfl
(aw_istore_n (lv' := [(2, zi v1), (0, zi v0), (1, zi v1)]) d_X9_choose_14 rfl rfl (by decide) rfl
(aw_lconst (x := 1) d_X9_choose_15 rfl (by decide)
(aw_lstore_n (lv' := [(3, zl 1), (2, zi v1), (0, zi v0), (1, zi v1)]) d_X9_choose_16 rfl rfl (by decide) rfl
(aw_iconst d_X9_choose_17 rfl
(aw_istore (lv' := [(5, zi 1), (3, zl 1), (2, zi v1), (0, zi v0), (1, zi v1)]) d_X9_choose_18 rfl (by decide) rfl
(aw_sub [3, 2, 1, 0] rfl e7))))))))))))))
def LX9_tied_8 (l : Launch) (P : Int → zM → Prop) (k1 : Nat) (i1 : Nat) (v2 : Int) (v3 : Int) (v4 : Int) (v5 : Int) (M : zM) : Prop := AW l m_X9_tied (zTl m_X9_tied P) 8 [(0, zr 9 0), (1, zr k1 i1), (2, zi v2), (3, zi v3), (4, zi v4), (5, zi v5)] [] M
theorem vX9_tied_8 {l : Launch} {P : Int → zM → Prop} {k1 : Nat} {i1 : Nat} {v2 : Int} {v3 : Int} {v4 : Int} {v5 : Int} {M : zM} (hz_k1 : zar k1 0) (hl_k1 : zlen k1 = 80)
    (H0 : (zI v5 ∧ zI v2 ∧ (v2 ≤ v5 → (CL l m_X9_choose [zi v3, zi v4] M (fun x11 M8 => P x11 M8))) ∧ (v5 < v2 → ((0 ≤ v5 ∧ v5 < 80) ∧ ((0 ≤ ((M 9 0 16) - 1) ∧ ((M 9 0 16) - 1) < 80) ∧ (zI (M k1 i1 v5) ∧ zI (M k1 i1 ((M 9 0 16) - 1)) ∧ ((M k1 i1 v5) = (M k1 i1 ((M 9 0 16) - 1)) → (zI (M 9 0 16) ∧ ((M 9 0 16) ≤ v5 → LX9_tied_8 l P k1 i1 v2 (v3 + 1) (v4 + 0) (v5 + 1) M) ∧ (v5 < (M 9 0 16) → LX9_tied_8 l P k1 i1 v2 (v3 + 1) (v4 + 1) (v5 + 1) M))) ∧ ((M k1 i1 v5) ≠ (M k1 i1 ((M 9 0 16) - 1)) → LX9_tied_8 l P k1 i1 v2 v3 v4 (v5 + 1) M))))))) :
    LX9_tied_8 l P k1 i1 v2 v3 v4 v5 M :=
(aw_iload d_X9_tied_8 rfl 5 rfl
(aw_iload_n d_X9_tied_10 rfl rfl 2 rfl
(have z1 := H0.1; have z2 := H0.2.1; have e3 := H0.2.2; aw_icmp_ge d_X9_tied_11 rfl rfl z1 z2 (fun c4 => have e6 := e3.1 c4; (aw_iload_n d_X9_tied_60 rfl rfl 3 rfl
(aw_iload d_X9_tied_61 rfl 4 rfl
(aw_SL (As := [zi v3, zi v4]) (st := []) d_X9_tied_63 rfl cs9_253 ⟨Nat.le_of_ble_eq_true rfl, Nat.le_of_ble_eq_true rfl⟩ rfl rfl (Nat.le_of_ble_eq_true rfl) (Nat.le_of_ble_eq_true rfl) e6 (fun x11 M8 e9 => (aw_rl d_X9_tied_66 rfl e9)))))) (fun c5 => have e7 := e3.2 c5; (aw_aload_n d_X9_tied_14 rfl rfl 1 rfl (zk_ne hz_k1.1)
(aw_iload d_X9_tied_15 rfl 5 rfl
(have z12 := e7.1; have e13 := e7.2; (aw_iald d_X9_tied_17 rfl hz_k1 ⟨z12.1, by rw [hl_k1]; exact z12.2⟩
(aw_aload_n d_X9_tied_18 rfl rfl 1 rfl (zk_ne hz_k1.1)
(aw_aload_n d_X9_tied_19 rfl rfl 0 rfl (by decide)
(aw_getI (kc := 16) d_X9_tied_20 rfl fl9_133 rfl rfl
(aw_iconst d_X9_tied_23 rfl
(aw_isub d_X9_tied_24 rfl
(have z14 := e13.1; have e15 := e13.2; (aw_iald d_X9_tied_25 rfl hz_k1 ⟨z14.1, by rw [hl_k1]; exact z14.2⟩
(have z16 := e15.1; have z17 := e15.2.1; have e18 := e15.2.2; aw_icmp_eq d_X9_tied_26 rfl rfl z16 z17 (fun c19 => have e21 := e18.1 c19; (aw_iinc (lv' := [(3, zi (v3 + 1)), (0, zr 9 0), (1, zr k1 i1), (2, zi v2), (4, zi v4), (5, zi v5)]) (y := (v3 + 1)) d_X9_tied_32 rfl 3 rfl (by decide) rfl rfl
(aw_iload d_X9_tied_35 rfl 4 rfl
(aw_iload d_X9_tied_37 rfl 5 rfl
(aw_aload_n d_X9_tied_39 rfl rfl 1 rfl (by decide)
(aw_getI (kc := 16) d_X9_tied_40 rfl fl9_133 rfl rfl
(have z23 := e21.1; have e24 := e21.2; aw_icmp_ge d_X9_tied_43 rfl rfl z1 z23 (fun c25 => have e27 := e24.1 c25; (aw_iconst d_X9_tied_50 rfl
(aw_iadd d_X9_tied_51 rfl
(aw_istore (lv' := [(4, zi (v4 + 0)), (3, zi (v3 + 1)), (0, zr 9 0), (1, zr k1 i1), (2, zi v2), (5, zi v5)]) d_X9_tied_52 rfl (by decide) rfl
(aw_iinc (lv' := [(5, zi (v5 + 1)), (4, zi (v4 + 0)), (3, zi (v3 + 1)), (0, zr 9 0), (1, zr k1 i1), (2, zi v2)]) (y := (v5 + 1)) d_X9_tied_54 rfl 5 rfl (by decide) rfl rfl
(aw_goto d_X9_tied_57 rfl
(aw_sub [3, 4, 5, 2, 1, 0] rfl e27))))))) (fun c26 => have e28 := e24.2 c26; (aw_iconst d_X9_tied_46 rfl
(aw_goto d_X9_tied_47 rfl
(aw_iadd d_X9_tied_51 rfl
(aw_istore (lv' := [(4, zi (v4 + 1)), (3, zi (v3 + 1)), (0, zr 9 0), (1, zr k1 i1), (2, zi v2), (5, zi v5)]) d_X9_tied_52 rfl (by decide) rfl
(aw_iinc (lv' := [(5, zi (v5 + 1)), (4, zi (v4 + 1)), (3, zi (v3 + 1)), (0, zr 9 0), (1, zr k1 i1), (2, zi v2)]) (y := (v5 + 1)) d_X9_tied_54 rfl 5 rfl (by decide) rfl rfl
(aw_goto d_X9_tied_57 rfl
(aw_sub [3, 4, 5, 2, 1, 0] rfl e28))))))))))))))) (fun c20 => have e22 := e18.2 c20; (aw_goto d_X9_tied_29 rfl
(aw_iinc (lv' := [(5, zi (v5 + 1)), (0, zr 9 0), (1, zr k1 i1), (2, zi v2), (3, zi v3), (4, zi v4)]) (y := (v5 + 1)) d_X9_tied_54 rfl 5 rfl (by decide) rfl rfl
(aw_goto d_X9_tied_57 rfl
(aw_sub [1, 2, 3, 4, 5, 0] rfl e22)))))))))))))))))))))
theorem vX9_tied {l : Launch} {P : Int → zM → Prop} {k1 : Nat} {i1 : Nat} {v2 : Int} {M : zM} (hz_k1 : zar k1 0) (hl_k1 : zlen k1 = 80)
    (H0 : LX9_tied_8 l P k1 i1 v2 0 0 0 M) :
    CL l m_X9_tied [zr 9 0, zr k1 i1, zi v2] M P :=
(aw_iconst d_X9_tied_0 rfl
(aw_istore_n (lv' := [(3, zi 0), (0, zr 9 0), (1, zr k1 i1), (2, zi v2)]) d_X9_tied_1 rfl rfl (by decide) rfl
(aw_iconst d_X9_tied_2 rfl
(aw_istore (lv' := [(4, zi 0), (3, zi 0), (0, zr 9 0), (1, zr k1 i1), (2, zi v2)]) d_X9_tied_3 rfl (by decide) rfl
(aw_iconst d_X9_tied_5 rfl
(aw_istore (lv' := [(5, zi 0), (4, zi 0), (3, zi 0), (0, zr 9 0), (1, zr k1 i1), (2, zi v2)]) d_X9_tied_6 rfl (by decide) rfl
(aw_sub [3, 4, 5, 2, 1, 0] rfl H0)))))))
theorem c_X9_shared {a b : Nat} (ha : a ≤ 2000000000000000000) (hb : b ≤ 2000000000000000000) : CL l m_X9_shared [zl (a : Int), zl (b : Int)] M (fun x M' => x = (Nat.gcd a b : Nat) ∧ M' = M) := by
  have loop : ∀ (n a b : Nat), b ≤ n → a ≤ 2000000000000000000 → b ≤ 2000000000000000000 → ∀ g, Nat.gcd a b = g → LX9_shared_6 l (fun x M' => x = (g : Nat) ∧ M' = M) (a : Int) (b : Int) M := by
    intro n
    induction n with
    | zero =>
      intro a b hn ha hb g hg
      have : b = 0 := by omega
      subst this
      rw [Nat.gcd_zero_right] at hg
      exact vX9_shared_6 ⟨by omega, fun _ => ⟨by rw [hg], rfl⟩, fun e => by omega⟩
    | succ n ih =>
      intro a b hn ha hb g hg
      refine vX9_shared_6 ⟨by omega, fun e => ⟨?_, rfl⟩, fun e => ⟨by omega, by omega, ?_⟩⟩
      · have : b = 0 := by omega
        subst this
        rw [Nat.gcd_zero_right] at hg
        rw [hg]
      · have hlt := Nat.mod_lt a (show b > 0 by omega)
        have e2 : Int.tmod (a : Int) (b : Int) = ((a % b : Nat) : Int) := by rw [tmod_n (by omega)]; omega
        rw [e2]
        refine ih b (a % b) (by omega) hb (by omega) g ?_
        rw [← hg, Nat.gcd_comm b (a % b), ← Nat.gcd_rec, Nat.gcd_comm]
  exact vX9_shared (loop b a b (Nat.le_refl _) ha hb _ rfl)
theorem c_X9_times {a b : Nat} (ha : a ≤ 2000000000000000000) (hb : 1 ≤ b ∧ b ≤ 2000000000000000000) : CL l m_X9_times [zl (a : Int), zl (b : Int)] M (fun x M' => x = (if 1000000000000000000 / b < a then -1 else ((a * b : Nat) : Int)) ∧ M' = M) := by
  have e : Int.tdiv 1000000000000000000 (b : Int) = ((1000000000000000000 / b : Nat) : Int) := by rw [tdiv_n (by omega)]; simp
  have hle : 1000000000000000000 / b ≤ 1000000000000000000 := Nat.div_le_self _ _
  refine vX9_times ?_
  rw [e]
  generalize 1000000000000000000 / b = q at *
  refine ⟨by omega, fun q => by omega, fun _ => ⟨by omega, fun q => by omega, fun _ => ⟨by omega, by omega, fun q => ⟨?_, rfl⟩, fun q => ⟨?_, rfl⟩⟩⟩⟩
  · rw [if_neg (by omega)]; simp
  · rw [if_pos (by omega)]
theorem c_X9_choose {n k : Nat} (hn : n ≤ 80) (hk : k ≤ n) : CL l m_X9_choose [zi (n : Int), zi (k : Int)] M (fun x M' => x = (if wy n k ≤ 1000000000000000000 then ((wy n k : Nat) : Int) else -1) ∧ M' = M) := by
  have ev := cf_wy hn hk
  have w1 := wy_1 hk hn
  have loop : ∀ (few : Nat), few ≤ n → few = min k (n - k) → ∀ (m i : Nat), few - i = m → i ≤ few → cfN n few i ≠ 0 → LX9_choose_20 l (fun x M' => x = (if wy n k ≤ 1000000000000000000 then ((wy n k : Nat) : Int) else -1) ∧ M' = M) (n : Int) (few : Int) (cfN n few i : Nat) ((i : Int) + 1) M := by
    intro few hf hfk m
    have dead : ∀ m i : Nat, few - i = m → i ≤ few → cfN n few i = 0 → cfN n few few = 0 := by
      intro m
      induction m with
      | zero => intro i h1 h2 h3; rw [show few = i by omega] at h3 ⊢; exact h3
      | succ m ih => intro i h1 h2 h3; exact ih (i + 1) (by omega) (by omega) (by rw [cfN, if_pos h3])
    induction m with
    | zero =>
      intro i hm hi hc
      have : i = few := by omega
      subst this
      refine vX9_choose_20 ⟨by omega, by omega, fun _ => ⟨?_, rfl⟩, fun e => by omega⟩
      rw [← hfk] at ev
      by_cases c : wy n k ≤ 1000000000000000000
      · rw [if_pos c] at ev ⊢; rw [ev]
      · rw [if_neg c] at ev; exact absurd ev hc
    | succ m ih =>
      intro i hm hi hc
      have cb := cfN_b (n := n) (few := few) i
      have hg0 : 0 < Nat.gcd (cfN n few i) (i + 1) := Nat.gcd_pos_of_pos_right _ (by omega)
      have hg1 : Nat.gcd (cfN n few i) (i + 1) ≤ i + 1 := Nat.gcd_le_right _ (by omega)
      have hd1 : 1 ≤ (i + 1) / Nat.gcd (cfN n few i) (i + 1) := (Nat.le_div_iff_mul_le hg0).mpr (by omega)
      have hd2 : (i + 1) / Nat.gcd (cfN n few i) (i + 1) ≤ i + 1 := Nat.div_le_self _ _
      have hb1 : 1 ≤ (n - few + (i + 1)) / ((i + 1) / Nat.gcd (cfN n few i) (i + 1)) := (Nat.le_div_iff_mul_le (by omega)).mpr (by omega)
      have hb2 : (n - few + (i + 1)) / ((i + 1) / Nat.gcd (cfN n few i) (i + 1)) ≤ n - few + (i + 1) := Nat.div_le_self _ _
      have ha2 : cfN n few i / Nat.gcd (cfN n few i) (i + 1) ≤ cfN n few i := Nat.div_le_self _ _
      have sh := c_X9_shared (l := l) (M := M) (a := cfN n few i) (b := i + 1) (by omega) (by omega)
      rw [show ((i + 1 : Nat) : Int) = (i : Int) + 1 by omega] at sh
      refine vX9_choose_20 ⟨by omega, by omega, fun e => by omega, fun _ => sh.eq ?_⟩
      have t1 : Int.tdiv ((i : Int) + 1) (Nat.gcd (cfN n few i) (i + 1) : Nat) = (((i + 1) / Nat.gcd (cfN n few i) (i + 1) : Nat) : Int) := by rw [tdiv_n (by omega)]; simp
      have t2 : Int.tdiv ((cfN n few i : Nat) : Int) (Nat.gcd (cfN n few i) (i + 1) : Nat) = ((cfN n few i / Nat.gcd (cfN n few i) (i + 1) : Nat) : Int) := by rw [tdiv_n (by omega)]; simp
      have t3 : Int.tdiv (((n : Int) - (few : Int)) + ((i : Int) + 1)) (((i + 1) / Nat.gcd (cfN n few i) (i + 1) : Nat) : Int) = (((n - few + (i + 1)) / ((i + 1) / Nat.gcd (cfN n few i) (i + 1)) : Nat) : Int) := by
        rw [show ((n : Int) - (few : Int)) + ((i : Int) + 1) = ((n - few + (i + 1) : Nat) : Int) by omega, tdiv_n (by omega)]
        simp
      rw [t1, t2, t3]
      refine ⟨by omega, by omega, by omega, by omega, by omega, by omega, by omega, by omega, by omega, ?_⟩
      refine (c_X9_times (by omega) ⟨hb1, by omega⟩).eq ?_
      have ec : cfN n few (i + 1) = if 1000000000000000000 / ((n - few + (i + 1)) / ((i + 1) / Nat.gcd (cfN n few i) (i + 1))) < cfN n few i / Nat.gcd (cfN n few i) (i + 1) then 0 else cfN n few i / Nat.gcd (cfN n few i) (i + 1) * ((n - few + (i + 1)) / ((i + 1) / Nat.gcd (cfN n few i) (i + 1))) := by rw [cfN, if_neg hc]
      have cb1 := cfN_b (n := n) (few := few) (i + 1)
      by_cases c : 1000000000000000000 / ((n - few + (i + 1)) / ((i + 1) / Nat.gcd (cfN n few i) (i + 1))) < cfN n few i / Nat.gcd (cfN n few i) (i + 1)
      · rw [if_pos c] at ec ⊢
        have z := dead _ (i + 1) rfl (by omega) ec
        rw [← hfk, z] at ev
        refine ⟨by omega, fun e => by omega, fun _ => ⟨?_, rfl⟩⟩
        by_cases c2 : wy n k ≤ 1000000000000000000
        · rw [if_pos c2] at ev; omega
        · rw [if_neg c2]
      · rw [if_neg c] at ec ⊢
        rw [← ec]
        have hpos : cfN n few (i + 1) ≠ 0 := by
          rw [ec]
          have ha1 : 1 ≤ cfN n few i / Nat.gcd (cfN n few i) (i + 1) := (Nat.le_div_iff_mul_le hg0).mpr (by rw [Nat.one_mul]; exact Nat.gcd_le_left _ (by omega))
          have := Nat.mul_le_mul ha1 hb1
          omega
        refine ⟨by omega, fun _ => ?_, fun e => by omega⟩
        have := ih (i + 1) (by omega) (by omega) hpos
        rw [show ((i + 1 : Nat) : Int) = (i : Int) + 1 by omega] at this
        exact this
  refine vX9_choose ⟨by omega, by omega, fun e => ?_, fun e => ?_⟩
  · have := loop (n - k) (by omega) (by omega) _ 0 rfl (by omega) (by show (1 : Nat) ≠ 0; omega)
    rw [show ((n - k : Nat) : Int) = (n : Int) - (k : Int) by omega] at this
    exact this
  · exact loop k (by omega) (by omega) _ 0 rfl (by omega) (by show (1 : Nat) ≠ 0; omega)
theorem lke_b {g : Int → Int} {T n : Int} (hn : 0 ≤ n) : 0 ≤ lke g T n ∧ lke g T n ≤ n := by
  unfold lke
  split
  · omega
  · have := zsum_bd (f := fun k => if g k = g (T - 1) then 1 else 0) (n := n) (c := 0) (d := 1) hn (fun i _ => by split <;> omega)
    omega
theorem lke_mono {g : Int → Int} {T m n : Int} (h : 0 ≤ m ∧ m ≤ n) : lke g T m ≤ lke g T n := by
  have key : ∀ d : Nat, lke g T m ≤ lke g T (m + d) := by
    intro d
    induction d with
    | zero => simp
    | succ d ih =>
      have : lke g T (m + ((d + 1 : Nat) : Int)) = lke g T (m + d) + (if T = 0 then 0 else if g (m + d) = g (T - 1) then 1 else 0) := by
        rw [show m + ((d + 1 : Nat) : Int) = (m + d) + 1 by omega]
        unfold lke
        by_cases c : T = 0
        · rw [if_pos c, if_pos c, if_pos c]; rfl
        · rw [if_neg c, if_neg c, if_neg c, zsum_s (by omega)]
      rw [this]
      split
      · omega
      · split <;> omega
  have := key (n - m).toNat
  rwa [show m + (((n - m).toNat : Nat) : Int) = n by omega] at this
theorem c_X9_tied {k : Nat} {g : Int → Int} {T n : Int} (hz : zar k 0) (hl : zlen k = 80) (eT : M 9 0 16 = T) (hT : 1 ≤ T ∧ T ≤ n) (hn : n ≤ 80) (hg : ∀ j, 0 ≤ j ∧ j < n → M k 0 j = g j ∧ zI (g j)) :
    CL l m_X9_tied [zr 9 0, zr k 0, zi n] M (fun x M' => x = (if wy (lke g T n).toNat (lke g T T).toNat ≤ 1000000000000000000 then ((wy (lke g T n).toNat (lke g T T).toNat : Nat) : Int) else -1) ∧ M' = M) := by
  have b1 := lke_b (g := g) (T := T) (n := n) (by omega)
  have b2 := lke_b (g := g) (T := T) (n := T) (by omega)
  have b3 := lke_mono (g := g) (T := T) (m := T) (n := n) (by omega)
  have loop : ∀ (m : Nat) (j : Int), (n - j).toNat = m → 0 ≤ j ∧ j ≤ n → LX9_tied_8 l (fun x M' => x = (if wy (lke g T n).toNat (lke g T T).toNat ≤ 1000000000000000000 then ((wy (lke g T n).toNat (lke g T T).toNat : Nat) : Int) else -1) ∧ M' = M) k 0 n (lke g T j) (lke g T (min j T)) j M := by
    intro m
    induction m with
    | zero =>
      intro j hm hj
      have : j = n := by omega
      subst this
      refine vX9_tied_8 hz hl ⟨by omega, by omega, fun _ => ?_, fun e => by omega⟩
      have := c_X9_choose (l := l) (M := M) (n := (lke g T j).toNat) (k := (lke g T T).toNat) (by omega) (by omega)
      rw [show (((lke g T j).toNat : Nat) : Int) = lke g T j by omega, show (((lke g T T).toNat : Nat) : Int) = lke g T T by omega] at this
      rw [show min j T = T by omega]
      exact this
    | succ m ih =>
      intro j hm hj
      have h1 := hg j (by omega)
      have h2 := hg (T - 1) (by omega)
      have ih2 := ih (j + 1) (by omega) (by omega)
      have s1 : lke g T (j + 1) = lke g T j + (if g j = g (T - 1) then 1 else 0) := by
        unfold lke
        rw [if_neg (by omega), if_neg (by omega), zsum_s hj.1]
      refine vX9_tied_8 hz hl ?_
      rw [eT, h1.1, h2.1]
      refine ⟨by omega, by omega, fun e => by omega, fun _ => ⟨by omega, by omega, h1.2, h2.2, fun c => ⟨by omega, fun d => ?_, fun d => ?_⟩, fun c => ?_⟩⟩
      · rw [s1, if_pos c, show min (j + 1) T = min j T by omega] at ih2
        rw [Int.add_zero]
        exact ih2
      · rw [show min (j + 1) T = j + 1 by omega, s1, if_pos c] at ih2
        rw [show min j T = j by omega]
        exact ih2
      · by_cases d : T ≤ j
        · rw [s1, if_neg c, Int.add_zero, show min (j + 1) T = min j T by omega] at ih2
          exact ih2
        · rw [show min (j + 1) T = j + 1 by omega, s1, if_neg c, Int.add_zero] at ih2
          rw [show min j T = j by omega]
          exact ih2
  have := loop _ 0 rfl (by omega)
  have e0 : lke g T 0 = 0 := by unfold lke; split <;> rfl
  rw [show min 0 T = 0 by omega, e0] at this
  exact vX9_tied hz hl this
noncomputable def aTies (S : zS) (g : Int) : Int := if 0 ≤ g ∧ g < 4 then (if ((1000000000000000000 / wy (lke (gA (qfee S) (qA S g)) (tT (qfee S) (qB S g) (qA S g)) (qA S g).length).toNat (lke (gA (qfee S) (qA S g)) (tT (qfee S) (qB S g) (qA S g)) (tT (qfee S) (qB S g) (qA S g))).toNat : Nat) : Int) < (wy (lke (gB (qB S g)) (tT (qfee S) (qB S g) (qA S g)) (qB S g).length).toNat (lke (gB (qB S g)) (tT (qfee S) (qB S g) (qA S g)) (tT (qfee S) (qB S g) (qA S g))).toNat : Nat) then -2 else ((wy (lke (gB (qB S g)) (tT (qfee S) (qB S g) (qA S g)) (qB S g).length).toNat (lke (gB (qB S g)) (tT (qfee S) (qB S g) (qA S g)) (tT (qfee S) (qB S g) (qA S g))).toNat : Nat) : Int) * ((wy (lke (gA (qfee S) (qA S g)) (tT (qfee S) (qB S g) (qA S g)) (qA S g).length).toNat (lke (gA (qfee S) (qA S g)) (tT (qfee S) (qB S g) (qA S g)) (tT (qfee S) (qB S g) (qA S g))).toNat : Nat) : Int)) else -1
theorem vX8_ties {l : Launch} {P : Int → zM → Prop} {v1 : Int} {M : zM}
    (H0 : (zI v1 ∧ ((0 ≤ v1 ∧ v1 < 4 → (CV l m_X8_settleGrade [zr 8 0, zi v1] M (fun M7 => (CI l m_X0_likeLast [zr 0 0, zi 0, zi (M7 0 0 2)] M7 (fun x13 M10 => (CI l m_X0_likeLast [zr 0 0, zi 0, zi (M10 0 0 6)] M10 (fun x17 M14 => (CL l m_X8_ways [zr 8 0, zi x13, zi x17] M14 (fun x21 M18 => (CI l m_X0_likeLast [zr 0 0, zi 1, zi (M18 0 0 3)] M18 (fun x25 M22 => (CI l m_X0_likeLast [zr 0 0, zi 1, zi (M22 0 0 6)] M22 (fun x29 M26 => (CL l m_X8_ways [zr 8 0, zi x25, zi x29] M26 (fun x33 M30 => (zJ x33 ∧ (x33 ≤ 0 → P (-2) M30) ∧ (0 < x33 → (x33 ≠ 0 ∧ (zJ x21 ∧ zJ (Int.tdiv 1000000000000000000 x33) ∧ (x21 ≤ (Int.tdiv 1000000000000000000 x33) → P (x21 * x33) M30) ∧ ((Int.tdiv 1000000000000000000 x33) < x21 → P (-2) M30)))))))))))))))))))) ∧ (¬ (0 ≤ v1 ∧ v1 < 4) → P (-1) M)))) :
    CL l m_X8_ties [zr 8 0, zi v1] M P :=
(aw_iload_n d_X8_ties_0 rfl rfl 1 rfl
(have z1 := H0.1; have e2 := H0.2; (aw_SI (As := [zi v1]) (st := []) d_X8_ties_1 rfl cs8_99 ⟨Nat.le_of_ble_eq_true rfl, Nat.le_of_ble_eq_true rfl⟩ rfl rfl (Nat.le_of_ble_eq_true rfl) (Nat.le_of_ble_eq_true rfl) (s_X8_isGrade z1) (fun _ _ hq => aw_eqs hq
(aw_if_ne d_X8_ties_4 rfl rfl zb_I (fun c3 => have e5 := e2.1 (zb_n0 c3); (aw_aload_n d_X8_ties_11 rfl rfl 0 rfl (by decide)
(aw_iload_n d_X8_ties_12 rfl rfl 1 rfl
(aw_VV (As := [zi v1]) (st := []) d_X8_ties_13 rfl cv8_154 ⟨Nat.le_of_ble_eq_true rfl, Nat.le_of_ble_eq_true rfl⟩ rfl rfl (Nat.le_of_ble_eq_true rfl) (Nat.le_of_ble_eq_true rfl) e5 (fun M7 e8 => (aw_aload_n d_X8_ties_16 rfl rfl 0 rfl (by decide)
(aw_aload_n d_X8_ties_17 rfl rfl 0 rfl (by decide)
(aw_getR (k' := 0) (a := 0) (b := 0) (j := 0) d_X8_ties_18 rfl fl8_47 rfl zj0 ⟨by decide, fun _ => by decide⟩
(aw_iconst d_X8_ties_21 rfl
(aw_aload_n d_X8_ties_22 rfl rfl 0 rfl (by decide)
(aw_getR (k' := 0) (a := 0) (b := 0) (j := 0) d_X8_ties_23 rfl fl8_47 rfl zj0 ⟨by decide, fun _ => by decide⟩
(aw_getI (kc := 2) d_X8_ties_26 rfl fl8_208 rfl rfl
(aw_VI (As := [zi 0, zi (M7 0 0 2)]) (st := [zr 8 0]) d_X8_ties_29 rfl cv8_278 ⟨Nat.le_of_ble_eq_true rfl, Nat.le_of_ble_eq_true rfl⟩ rfl rfl (Nat.le_of_ble_eq_true rfl) (Nat.le_of_ble_eq_true rfl) e8 (fun x13 M10 e11 => (aw_aload_n d_X8_ties_32 rfl rfl 0 rfl (by decide)
(aw_getR (k' := 0) (a := 0) (b := 0) (j := 0) d_X8_ties_33 rfl fl8_47 rfl zj0 ⟨by decide, fun _ => by decide⟩
(aw_iconst d_X8_ties_36 rfl
(aw_aload_n d_X8_ties_37 rfl rfl 0 rfl (by decide)
(aw_getR (k' := 0) (a := 0) (b := 0) (j := 0) d_X8_ties_38 rfl fl8_47 rfl zj0 ⟨by decide, fun _ => by decide⟩
(aw_getI (kc := 6) d_X8_ties_41 rfl fl8_223 rfl rfl
(aw_VI (As := [zi 0, zi (M10 0 0 6)]) (st := [zi x13, zr 8 0]) d_X8_ties_44 rfl cv8_278 ⟨Nat.le_of_ble_eq_true rfl, Nat.le_of_ble_eq_true rfl⟩ rfl rfl (Nat.le_of_ble_eq_true rfl) (Nat.le_of_ble_eq_true rfl) e11 (fun x17 M14 e15 => (aw_VL (As := [zi x13, zi x17]) (st := []) d_X8_ties_47 rfl cv8_281 ⟨Nat.le_of_ble_eq_true rfl, Nat.le_of_ble_eq_true rfl⟩ rfl rfl (Nat.le_of_ble_eq_true rfl) (Nat.le_of_ble_eq_true rfl) e15 (fun x21 M18 e19 => (aw_lstore_n (lv' := [(2, zl x21), (0, zr 8 0), (1, zi v1)]) d_X8_ties_50 rfl rfl (by decide) rfl
(aw_aload_n d_X8_ties_51 rfl rfl 1 rfl (by decide)
(aw_aload_n d_X8_ties_52 rfl rfl 1 rfl (by decide)
(aw_getR (k' := 0) (a := 0) (b := 0) (j := 0) d_X8_ties_53 rfl fl8_47 rfl zj0 ⟨by decide, fun _ => by decide⟩
(aw_iconst d_X8_ties_56 rfl
(aw_aload_n d_X8_ties_57 rfl rfl 1 rfl (by decide)
(aw_getR (k' := 0) (a := 0) (b := 0) (j := 0) d_X8_ties_58 rfl fl8_47 rfl zj0 ⟨by decide, fun _ => by decide⟩
(aw_getI (kc := 3) d_X8_ties_61 rfl fl8_205 rfl rfl
(aw_VI (As := [zi 1, zi (M18 0 0 3)]) (st := [zr 8 0]) d_X8_ties_64 rfl cv8_278 ⟨Nat.le_of_ble_eq_true rfl, Nat.le_of_ble_eq_true rfl⟩ rfl rfl (Nat.le_of_ble_eq_true rfl) (Nat.le_of_ble_eq_true rfl) e19 (fun x25 M22 e23 => (aw_aload_n d_X8_ties_67 rfl rfl 1 rfl (by decide)
(aw_getR (k' := 0) (a := 0) (b := 0) (j := 0) d_X8_ties_68 rfl fl8_47 rfl zj0 ⟨by decide, fun _ => by decide⟩
(aw_iconst d_X8_ties_71 rfl
(aw_aload_n d_X8_ties_72 rfl rfl 1 rfl (by decide)
(aw_getR (k' := 0) (a := 0) (b := 0) (j := 0) d_X8_ties_73 rfl fl8_47 rfl zj0 ⟨by decide, fun _ => by decide⟩
(aw_getI (kc := 6) d_X8_ties_76 rfl fl8_223 rfl rfl
(aw_VI (As := [zi 1, zi (M22 0 0 6)]) (st := [zi x25, zr 8 0]) d_X8_ties_79 rfl cv8_278 ⟨Nat.le_of_ble_eq_true rfl, Nat.le_of_ble_eq_true rfl⟩ rfl rfl (Nat.le_of_ble_eq_true rfl) (Nat.le_of_ble_eq_true rfl) e23 (fun x29 M26 e27 => (aw_VL (As := [zi x25, zi x29]) (st := []) d_X8_ties_82 rfl cv8_281 ⟨Nat.le_of_ble_eq_true rfl, Nat.le_of_ble_eq_true rfl⟩ rfl rfl (Nat.le_of_ble_eq_true rfl) (Nat.le_of_ble_eq_true rfl) e27 (fun x33 M30 e31 => (aw_lstore (lv' := [(4, zl x33), (2, zl x21), (0, zr 8 0), (1, zi v1)]) d_X8_ties_85 rfl (by decide) rfl
(aw_lload d_X8_ties_87 rfl 0 rfl
(aw_lconst (x := 0) d_X8_ties_89 rfl (by decide)
(have z34 := e31.1; have e35 := e31.2; aw_lcmp d_X8_ties_90 rfl z34 (by decide) (fun w36 c37 => aw_if_le d_X8_ties_91 rfl rfl (by omega) (fun c38 => have e40 := e35.1 (by omega); (aw_ldc2 d_X8_ties_105 rfl cl8_287
(aw_rl d_X8_ties_108 rfl e40))) (fun c39 => have e41 := e35.2 (by omega); (aw_lload_n d_X8_ties_94 rfl rfl 1 rfl
(aw_ldc2 d_X8_ties_95 rfl cl8_285
(aw_lload d_X8_ties_98 rfl 0 rfl
(have z42 := e41.1; have e43 := e41.2; (aw_ldiv d_X8_ties_100 rfl (by decide) z34 z42
(have z44 := e43.1; have z45 := e43.2.1; have e46 := e43.2.2; aw_lcmp d_X8_ties_101 rfl z44 z45 (fun w47 c48 => aw_if_le d_X8_ties_102 rfl rfl (by omega) (fun c49 => have e51 := e46.1 (by omega); (aw_lload_n d_X8_ties_109 rfl rfl 1 rfl
(aw_lload d_X8_ties_110 rfl 0 rfl
(aw_lmul d_X8_ties_112 rfl
(aw_rl d_X8_ties_113 rfl e51))))) (fun c50 => have e52 := e46.2 (by omega); (aw_ldc2 d_X8_ties_105 rfl cl8_287
(aw_rl d_X8_ties_108 rfl e52)))))))))))))))))))))))))))))))))))))))))))))))))))))))))))) (fun c4 => have e6 := e2.2 (zb_0 c4); (aw_ldc2 d_X8_ties_7 rfl cl8_276
(aw_rl d_X8_ties_10 rfl e6))))))))
theorem vX9_ties {l : Launch} {P : Int → zM → Prop} {v1 : Int} {M : zM}
    (H0 : (zI v1 ∧ ((0 ≤ v1 ∧ v1 < 4 → (CV l m_X9_laysOf [zr 9 0, zi (zshl 1 v1)] M (fun M7 => (zI (M7 9 0 16) ∧ ((M7 9 0 16) ≠ 0 → (CL l m_X9_tied [zr 9 0, zr 33 0, zi (M7 9 0 11)] M7 (fun x19 M16 => (CL l m_X9_tied [zr 9 0, zr 36 0, zi (M16 9 0 15)] M16 (fun x23 M20 => (zJ x19 ∧ (x19 < 0 → P (-2) M20) ∧ (0 ≤ x19 → (zJ x23 ∧ (0 ≤ x23 → (CL l m_X9_times [zl x19, zl x23] M20 (fun x43 M40 => (zJ x43 ∧ (0 ≤ x43 → P x43 M40) ∧ (x43 < 0 → P (-2) M40))))) ∧ (x23 < 0 → P (-2) M20))))))))) ∧ ((M7 9 0 16) = 0 → P 1 M7))))) ∧ (¬ (0 ≤ v1 ∧ v1 < 4) → P (-1) M)))) :
    CL l m_X9_ties [zr 9 0, zi v1] M P :=
(aw_iload_n d_X9_ties_0 rfl rfl 1 rfl
(have z1 := H0.1; have e2 := H0.2; (aw_SI (As := [zi v1]) (st := []) d_X9_ties_1 rfl cs9_195 ⟨Nat.le_of_ble_eq_true rfl, Nat.le_of_ble_eq_true rfl⟩ rfl rfl (Nat.le_of_ble_eq_true rfl) (Nat.le_of_ble_eq_true rfl) (s_X9_isGrade z1) (fun _ _ hq => aw_eqs hq
(aw_if_ne d_X9_ties_4 rfl rfl zb_I (fun c3 => have e5 := e2.1 (zb_n0 c3); (aw_aload_n d_X9_ties_11 rfl rfl 0 rfl (by decide)
(aw_iconst d_X9_ties_12 rfl
(aw_iload_n d_X9_ties_13 rfl rfl 1 rfl
(aw_ishl d_X9_ties_14 rfl zshl_h
(aw_VV (As := [zi (zshl 1 v1)]) (st := []) d_X9_ties_15 rfl cv9_139 ⟨Nat.le_of_ble_eq_true rfl, Nat.le_of_ble_eq_true rfl⟩ rfl rfl (Nat.le_of_ble_eq_true rfl) (Nat.le_of_ble_eq_true rfl) e5 (fun M7 e8 => (aw_aload_n d_X9_ties_18 rfl rfl 0 rfl (by decide)
(aw_getI (kc := 16) d_X9_ties_19 rfl fl9_133 rfl rfl
(have z10 := e8.1; have e11 := e8.2; aw_if_ne d_X9_ties_22 rfl rfl z10 (fun c12 => have e14 := e11.1 c12; (aw_aload_n d_X9_ties_27 rfl rfl 0 rfl (by decide)
(aw_aload_n d_X9_ties_28 rfl rfl 0 rfl (by decide)
(aw_getR (k' := 33) (a := 0) (b := 0) (j := 0) d_X9_ties_29 rfl fl9_29 rfl zj0 ⟨by decide, fun _ => by decide⟩
(aw_aload_n d_X9_ties_32 rfl rfl 0 rfl (by decide)
(aw_getI (kc := 11) d_X9_ties_33 rfl fl9_113 rfl rfl
(aw_VL (As := [zr 33 0, zi (M7 9 0 11)]) (st := []) d_X9_ties_36 rfl cv9_257 ⟨Nat.le_of_ble_eq_true rfl, Nat.le_of_ble_eq_true rfl⟩ rfl rfl (Nat.le_of_ble_eq_true rfl) (Nat.le_of_ble_eq_true rfl) e14 (fun x19 M16 e17 => (aw_lstore_n (lv' := [(2, zl x19), (0, zr 9 0), (1, zi v1)]) d_X9_ties_39 rfl rfl (by decide) rfl
(aw_aload_n d_X9_ties_40 rfl rfl 1 rfl (by decide)
(aw_aload_n d_X9_ties_41 rfl rfl 1 rfl (by decide)
(aw_getR (k' := 36) (a := 0) (b := 0) (j := 0) d_X9_ties_42 rfl fl9_38 rfl zj0 ⟨by decide, fun _ => by decide⟩
(aw_aload_n d_X9_ties_45 rfl rfl 1 rfl (by decide)
(aw_getI (kc := 15) d_X9_ties_46 rfl fl9_116 rfl rfl
(aw_VL (As := [zr 36 0, zi (M16 9 0 15)]) (st := []) d_X9_ties_49 rfl cv9_257 ⟨Nat.le_of_ble_eq_true rfl, Nat.le_of_ble_eq_true rfl⟩ rfl rfl (Nat.le_of_ble_eq_true rfl) (Nat.le_of_ble_eq_true rfl) e17 (fun x23 M20 e21 => (aw_lstore (lv' := [(4, zl x23), (2, zl x19), (0, zr 9 0), (1, zi v1)]) d_X9_ties_52 rfl (by decide) rfl
(aw_lload_n d_X9_ties_54 rfl rfl 1 rfl
(aw_lconst (x := 0) d_X9_ties_55 rfl (by decide)
(have z24 := e21.1; have e25 := e21.2; aw_lcmp d_X9_ties_56 rfl z24 (by decide) (fun w26 c27 => aw_if_lt d_X9_ties_57 rfl rfl (by omega) (fun c28 => have e30 := e25.1 (by omega); (aw_ldc2 d_X9_ties_67 rfl cl9_261
(aw_rl d_X9_ties_70 rfl e30))) (fun c29 => have e31 := e25.2 (by omega); (aw_lload d_X9_ties_60 rfl 0 rfl
(aw_lconst (x := 0) d_X9_ties_62 rfl (by decide)
(have z32 := e31.1; have e33 := e31.2; aw_lcmp d_X9_ties_63 rfl z32 (by decide) (fun w34 c35 => aw_if_ge d_X9_ties_64 rfl rfl (by omega) (fun c36 => have e38 := e33.1 (by omega); (aw_lload_n d_X9_ties_71 rfl rfl 1 rfl
(aw_lload d_X9_ties_72 rfl 0 rfl
(aw_SL (As := [zl x19, zl x23]) (st := []) d_X9_ties_74 rfl cs9_250 ⟨Nat.le_of_ble_eq_true rfl, Nat.le_of_ble_eq_true rfl⟩ rfl rfl (Nat.le_of_ble_eq_true rfl) (Nat.le_of_ble_eq_true rfl) e38 (fun x43 M40 e41 => (aw_lstore (lv' := [(6, zl x43), (4, zl x23), (2, zl x19), (0, zr 9 0), (1, zi v1)]) d_X9_ties_77 rfl (by decide) rfl
(aw_lload d_X9_ties_79 rfl 0 rfl
(aw_lconst (x := 0) d_X9_ties_81 rfl (by decide)
(have z44 := e41.1; have e45 := e41.2; aw_lcmp d_X9_ties_82 rfl z44 (by decide) (fun w46 c47 => aw_if_ge d_X9_ties_83 rfl rfl (by omega) (fun c48 => have e50 := e45.1 (by omega); (aw_lload d_X9_ties_92 rfl 0 rfl
(aw_rl d_X9_ties_94 rfl e50))) (fun c49 => have e51 := e45.2 (by omega); (aw_ldc2 d_X9_ties_86 rfl cl9_261
(aw_goto d_X9_ties_89 rfl
(aw_rl d_X9_ties_94 rfl e51)))))))))))))) (fun c37 => have e39 := e33.2 (by omega); (aw_ldc2 d_X9_ties_67 rfl cl9_261
(aw_rl d_X9_ties_70 rfl e39))))))))))))))))))))))))))))) (fun c13 => have e15 := e11.2 c13; (aw_lconst (x := 1) d_X9_ties_25 rfl (by decide)
(aw_rl d_X9_ties_26 rfl e15))))))))))))) (fun c4 => have e6 := e2.2 (zb_0 c4); (aw_ldc2 d_X9_ties_7 rfl cl9_244
(aw_rl d_X9_ties_10 rfl e6))))))))
theorem q8_ties {g : Int} (c : CX M S) (zg : zI g) : CL l m_X8_ties [zr 8 0, zi g] M (fun x M' => x = aTies S g ∧ Fr kScr M M') := by
  have gg := gdS c.2 g
  have hl := gg.1
  have hf := c.2.2.2.1
  have hb := tT_b (f := qfee S) (B := qB S g) (A := qA S g)
  refine vX8_ties ⟨zg, fun a => ?_, fun a => ⟨by rw [aTies, if_neg a], Fr.rf⟩⟩
  rw [aTies, if_pos a]
  refine (c_settleGrade c a).mono ?_
  rintro M1 ⟨f1, s1⟩
  have F1 := f1.scr
  generalize hT : tT (qfee S) (qB S g) (qA S g) = T at *
  have a1 := lke_b (g := gB (qB S g)) (T := T) (n := (qB S g).length) (by omega)
  have a2 := lke_b (g := gB (qB S g)) (T := T) (n := T) (by omega)
  have a3 := lke_mono (g := gB (qB S g)) (T := T) (m := T) (n := (qB S g).length) (by omega)
  have a4 := lke_b (g := gA (qfee S) (qA S g)) (T := T) (n := (qA S g).length) (by omega)
  have a5 := lke_b (g := gA (qfee S) (qA S g)) (T := T) (n := T) (by omega)
  have a6 := lke_mono (g := gA (qfee S) (qA S g)) (T := T) (m := T) (n := (qA S g).length) (by omega)
  have k1 := c_X0_likeLast (l := l) (z := 0) (c := ((qB S g).length : Int)) gg hf s1 (.inl rfl) (by rw [if_pos rfl]; omega)
  have k2 := c_X0_likeLast (l := l) (z := 0) (c := T) gg hf s1 (.inl rfl) (by rw [if_pos rfl]; omega)
  rw [hT, if_pos rfl] at k1 k2
  rw [show M1 0 0 2 = ((qB S g).length : Int) from s1.1.1]
  refine k1.eq ?_
  rw [s1.2.1.2.2.1, hT]
  refine k2.eq ?_
  have w1 := c_X8_ways (l := l) (M := M1) (n := (lke (gB (qB S g)) T (qB S g).length).toNat) (k := (lke (gB (qB S g)) T T).toNat) (by omega) (by omega)
  rw [show (((lke (gB (qB S g)) T (qB S g).length).toNat : Nat) : Int) = lke (gB (qB S g)) T (qB S g).length by omega, show (((lke (gB (qB S g)) T T).toNat : Nat) : Int) = lke (gB (qB S g)) T T by omega] at w1
  refine w1.mono ?_
  rintro x M2 ⟨rfl, f2⟩
  have s2 : bkS M2 0 (qB S g) (qA S g) (qfee S) (qlaw S) := s1.of (f2 _ _ (by decide)) (f2 _ _ (by decide)) (f2 _ _ (by decide))
  have k3 := c_X0_likeLast (l := l) (z := 1) (c := ((qA S g).length : Int)) gg hf s2 (.inr rfl) (by rw [if_neg (by decide)]; omega)
  have k4 := c_X0_likeLast (l := l) (z := 1) (c := T) gg hf s2 (.inr rfl) (by rw [if_neg (by decide)]; omega)
  rw [hT, if_neg (by decide)] at k3 k4
  rw [show M2 0 0 3 = ((qA S g).length : Int) from s2.1.2.1]
  refine k3.eq ?_
  rw [s2.2.1.2.2.1, hT]
  refine k4.eq ?_
  have w2 := c_X8_ways (l := l) (M := M2) (n := (lke (gA (qfee S) (qA S g)) T (qA S g).length).toNat) (k := (lke (gA (qfee S) (qA S g)) T T).toNat) (by omega) (by omega)
  rw [show (((lke (gA (qfee S) (qA S g)) T (qA S g).length).toNat : Nat) : Int) = lke (gA (qfee S) (qA S g)) T (qA S g).length by omega, show (((lke (gA (qfee S) (qA S g)) T T).toNat : Nat) : Int) = lke (gA (qfee S) (qA S g)) T T by omega] at w2
  refine w2.mono ?_
  rintro x M3 ⟨rfl, f3⟩
  have F := (F1.tr (f2.mono fun k q => by unfold kScr; omega)).tr (f3.mono fun k q => by unfold kScr; omega)
  have ba := wy_1 (n := (lke (gA (qfee S) (qA S g)) T (qA S g).length).toNat) (k := (lke (gA (qfee S) (qA S g)) T T).toNat) (by omega) (by omega)
  have bb := wy_b (lke (gA (qfee S) (qA S g)) T (qA S g).length).toNat (lke (gA (qfee S) (qA S g)) T T).toNat
  have bc := wy_b (lke (gB (qB S g)) T (qB S g).length).toNat (lke (gB (qB S g)) T T).toNat
  generalize wy (lke (gA (qfee S) (qA S g)) T (qA S g).length).toNat (lke (gA (qfee S) (qA S g)) T T).toNat = oa at *
  generalize wy (lke (gB (qB S g)) T (qB S g).length).toNat (lke (gB (qB S g)) T T).toNat = ob at *
  have e : Int.tdiv 1000000000000000000 (oa : Int) = ((1000000000000000000 / oa : Nat) : Int) := by rw [tdiv_n (by omega)]; simp
  have hle : 1000000000000000000 / oa ≤ 1000000000000000000 := Nat.div_le_self _ _
  rw [e]
  generalize 1000000000000000000 / oa = q at *
  exact ⟨by omega, fun _ => by omega, fun _ => ⟨by omega, by omega, by omega, fun c => ⟨by rw [if_neg (by omega)], F⟩, fun c => ⟨by rw [if_pos c], F⟩⟩⟩
theorem q9_ties {g : Int} (h : MX M S) (zg : zI g) : CL l m_X9_ties [zr 9 0, zi g] M (fun x M' => x = aTies S g ∧ mQ M M') := by
  have ok := h.ok
  have gg := gdS ok g
  have hl := gg.1
  have hf := ok.2.2.1
  have hb := tT_b (f := qfee S) (B := qB S g) (A := qA S g)
  refine vX9_ties ⟨zg, fun a => ?_, fun a => ⟨by rw [aTies, if_neg a], mQ.rf h⟩⟩
  rw [aTies, if_pos a]
  refine (m_laysOf h a).mono ?_
  rintro M1 ⟨F, h1⟩
  have e16 := h1.2.2.1
  rw [e16]
  generalize hT : tT (qfee S) (qB S g) (qA S g) = T at *
  refine ⟨by omega, fun hT0 => ?_, fun hT0 => ⟨?_, F⟩⟩
  · have k1 := c_X9_tied (l := l) (M := M1) (k := 33) (g := gB (qB S g)) (T := T) (n := ((qB S g).length : Int)) za33 rfl e16 (by omega) (by omega) (fun j hj => ⟨(h1.1.2 j hj).1, by have := gB_in gg (k := j) hj; omega⟩)
    have k2 := c_X9_tied (l := l) (M := M1) (k := 36) (g := gA (qfee S) (qA S g)) (T := T) (n := ((qA S g).length : Int)) za36 rfl e16 (by omega) (by omega) (fun j hj => ⟨(h1.2.1.2 j hj).1, by have := gA_in gg (f := qfee S) (k := j) hj; omega⟩)
    have a4 := lke_b (g := gA (qfee S) (qA S g)) (T := T) (n := (qA S g).length) (by omega)
    have a5 := lke_b (g := gA (qfee S) (qA S g)) (T := T) (n := T) (by omega)
    have a6 := lke_mono (g := gA (qfee S) (qA S g)) (T := T) (m := T) (n := (qA S g).length) (by omega)
    have a1 := lke_b (g := gB (qB S g)) (T := T) (n := (qB S g).length) (by omega)
    have a2 := lke_b (g := gB (qB S g)) (T := T) (n := T) (by omega)
    have a3 := lke_mono (g := gB (qB S g)) (T := T) (m := T) (n := (qB S g).length) (by omega)
    have ba := wy_1 (n := (lke (gA (qfee S) (qA S g)) T (qA S g).length).toNat) (k := (lke (gA (qfee S) (qA S g)) T T).toNat) (by omega) (by omega)
    have bd := wy_1 (n := (lke (gB (qB S g)) T (qB S g).length).toNat) (k := (lke (gB (qB S g)) T T).toNat) (by omega) (by omega)
    have bb := wy_b (lke (gA (qfee S) (qA S g)) T (qA S g).length).toNat (lke (gA (qfee S) (qA S g)) T T).toNat
    have bc := wy_b (lke (gB (qB S g)) T (qB S g).length).toNat (lke (gB (qB S g)) T T).toNat
    rw [h1.1.1]
    refine k1.eq ?_
    rw [h1.2.1.1]
    refine k2.eq ?_
    generalize wy (lke (gA (qfee S) (qA S g)) T (qA S g).length).toNat (lke (gA (qfee S) (qA S g)) T T).toNat = oa at *
    generalize wy (lke (gB (qB S g)) T (qB S g).length).toNat (lke (gB (qB S g)) T T).toNat = ob at *
    have hle : 1000000000000000000 / oa ≤ 1000000000000000000 := Nat.div_le_self _ _
    by_cases c1 : ob ≤ 1000000000000000000
    · rw [if_pos c1]
      by_cases c2 : oa ≤ 1000000000000000000
      · rw [if_pos c2]
        refine ⟨by omega, fun _ => by omega, fun _ => ⟨by omega, fun _ => ?_, fun _ => by omega⟩⟩
        refine (c_X9_times (a := ob) (b := oa) (by omega) ⟨ba, by omega⟩).eq ?_
        by_cases c : 1000000000000000000 / oa < ob
        · rw [if_pos c]
          generalize 1000000000000000000 / oa = q at *
          exact ⟨by omega, fun _ => by omega, fun _ => ⟨by rw [if_pos (by omega)], F⟩⟩
        · rw [if_neg c]
          have hm : ob * oa ≤ 1000000000000000000 := (Nat.le_div_iff_mul_le (by omega)).mp (Nat.le_of_not_lt c)
          generalize 1000000000000000000 / oa = q at *
          refine ⟨by omega, fun _ => ⟨?_, F⟩, fun _ => by omega⟩
          rw [if_neg (by omega)]
          simp
      · rw [if_neg c2]
        have : 1000000000000000000 / oa = 0 := Nat.div_eq_of_lt (by omega)
        rw [this]
        exact ⟨by omega, fun _ => by omega, fun _ => ⟨by omega, fun _ => by omega, fun _ => ⟨by rw [if_pos (by omega)], F⟩⟩⟩
    · rw [if_neg c1]
      generalize 1000000000000000000 / oa = q at *
      exact ⟨by omega, fun _ => ⟨by rw [if_pos (by omega)], F⟩, fun _ => by omega⟩
  · have z1 : ∀ (f : Int → Int) (n : Int), lke f T n = 0 := fun f n => by unfold lke; rw [if_pos hT0]
    rw [z1, z1, z1, z1]
    rfl
end
