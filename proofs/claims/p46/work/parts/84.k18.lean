/-! ===== a text said to the hall ===== -/
/-- the law's side of a step: nothing that was there has changed, of other kinds nothing was made -/
def Lr (K : List Nat) (M M' : zM) : Prop := (∀ (k i : Nat), (64 ≤ k ∧ k < 96) → (i : Int) < M 97 0 k → M' k i = M k i) ∧ (∀ q : Int, M 97 0 q ≤ M' 97 0 q) ∧ ∀ q : Nat, q ∉ K → M' 97 0 q = M 97 0 q
theorem Lr.rf {K : List Nat} {M : zM} : Lr K M M := ⟨fun _ _ _ _ => rfl, fun _ => Int.le_refl _, fun _ _ => rfl⟩
theorem Lr.tr {K : List Nat} {M M1 M2 : zM} (a : Lr K M M1) (b : Lr K M1 M2) : Lr K M M2 :=
  ⟨fun k i h h' => (b.1 k i h (Int.lt_of_lt_of_le h' (a.2.1 _))).trans (a.1 k i h h'), fun q => Int.le_trans (a.2.1 q) (b.2.1 q), fun q h => (b.2.2 q h).trans (a.2.2 q h)⟩
theorem Lr.ke {K : List Nat} {M M' : zM} (h : Lr K M M') : Ke M M' := ⟨h.1, h.2.1⟩
theorem Gr.lr {K : List Nat} {M M' : zM} (h : Gr K M M') : Lr K M M' := ⟨h.2.1, h.2.2.1, h.2.2.2⟩
theorem Lr.mono {K K' : List Nat} {M M' : zM} (a : Lr K M M') (h : ∀ x ∈ K, x ∈ K') : Lr K' M M' := ⟨a.1, a.2.1, fun q hq => a.2.2 q (fun z => hq (h q z))⟩
theorem Lr.md {K : List Nat} {M M' : zM} (h : ∀ k i, isMd k → M' k i = M k i) : Lr K M M' := ⟨(Fr.ke h).1, (Fr.ke h).2, fun q _ => by rw [h 97 0 (Or.inr (by decide))]⟩
theorem Lr.sc {K : List Nat} {M M' : zM} (h : Fr kScr M M') : Lr K M M' := ⟨(Fr.kes h).1, (Fr.kes h).2, fun q _ => by rw [h 97 0 (by unfold kScr; omega)]⟩
theorem Lr.st {K : List Nat} {M M1 M2 : zM} {k i : Nat} (h : Lr K M M1) (hk : 64 ≤ k ∧ k < 96) (hi : M 97 0 k ≤ (i : Int)) (e : ∀ k' i', ¬ (k' = k ∧ i' = i) → M2 k' i' = M1 k' i') : Lr K M M2 := by
  have e97 : M2 97 0 = M1 97 0 := e 97 0 (by omega)
  exact ⟨fun k' i' h1 h2 => (e k' i' (by rintro ⟨rfl, rfl⟩; omega)).trans (h.1 k' i' h1 h2), fun q => by rw [e97]; exact h.2.1 q, fun q hq => by rw [e97]; exact h.2.2 q hq⟩
theorem Lr.zu {K : List Nat} {M M1 : zM} {k i : Nat} {j x : Int} (h : Lr K M M1) (hk : 64 ≤ k ∧ k < 96) (hi : M 97 0 k ≤ (i : Int)) : Lr K M (zu M1 k i j x) := h.st hk hi zu_o
theorem cSt.lw {M M' : zM} {A : zY} (h : cSt M A) (f : ∀ k i, k < 60 → M' k i = M k i) : cSt M' A := by
  obtain ⟨⟨a1, a2⟩, b, ⟨c1, c2, c3⟩, ⟨d1, d2, d3⟩, e1, e2⟩ := h
  have g : ∀ h k, (k = 1 ∨ (12 ≤ k ∧ k ≤ 17)) → M' k h = M k h := fun h k hk => f k h (by omega)
  refine ⟨⟨(hall_k (g 0)).2 a1, (hall_k (g 0)).1.trans a2⟩, (hall_k (g 1)).2 b, ⟨by rw [f 2 0 (by decide)]; exact c1, by rw [f 2 0 (by decide)]; exact c2, fun i hi => ?_⟩, ⟨by rw [f 6 0 (by decide)]; exact d1, fun q => ⟨(hall_k (g 12)).2 (d2 q).1, (hall_k (g 12)).1.trans (d2 q).2⟩, fun q => ⟨(hall_k (g 13)).2 (d3 q).1, (hall_k (g 13)).1.trans (d3 q).2⟩⟩, by rw [f 7 0 (by decide)]; exact e1, fun i hi => by rw [f 24 0 (by decide)]; exact e2 i hi⟩
  rw [f 2 0 (by decide)]
  exact ⟨(hall_k (g _)).2 (c3 i hi).1, (hall_k (g _)).1.trans (c3 i hi).2⟩
theorem stT.ke {M M' : zM} {s : Nat} {L : List Int} (h : stT M s L) (hs : (s : Int) < M 97 0 66) (k : Ke M M') : stT M' s L := by
  obtain ⟨⟨w1, w2, w3, w4⟩, n, b⟩ := h
  have e66 := k.1 66 s (by decide) hs
  have e80 := k.1 80 (M 66 s 0).toNat (by decide) (by rw [Int.toNat_of_nonneg w2.1]; exact w2.2)
  have eN : stN M' s = stN M s := by unfold stN; rw [e66, e80]
  have eB : stB M' s = stB M s := by funext j; unfold stB; rw [e66, e80]
  refine ⟨⟨by rw [e66]; exact w1, by rw [e66]; exact ⟨w2.1, Int.lt_of_lt_of_le w2.2 (k.2 _)⟩, by rw [eN]; exact w3, by rw [eN, eB]; exact w4⟩, by rw [eN]; exact n, by rw [eB]; exact b⟩
/-! bits -/
theorem i32N {n : Nat} : Int32.ofInt (n : Int) = nI n := by rw [Int32.ofInt_eq_ofNat]; rfl
theorem nIi {n : Nat} (h : n < 2147483648) : (nI n).toInt = (n : Int) := nI_toInt h
theorem zshl_8 {x : Int} (h : 0 ≤ x ∧ x < 8388608) : zshl x 8 = x * 256 := by
  obtain ⟨n, rfl⟩ := Int.eq_ofNat_of_zero_le h.1
  unfold zshl
  rw [i32N, pk_shlN _ 8 (by decide) (by omega), nIi (by omega)]
  omega
theorem zor_8 {x b : Int} (h : 0 ≤ x ∧ x < 8388608) (hb : 0 ≤ b ∧ b < 256) : zor (x * 256) b = x * 256 + b := by
  obtain ⟨n, rfl⟩ := Int.eq_ofNat_of_zero_le h.1
  obtain ⟨m, rfl⟩ := Int.eq_ofNat_of_zero_le hb.1
  unfold zor
  have e : nI (2 ^ 8 * n) ||| nI m = nI (2 ^ 8 * n + m) := by
    apply Int32.toBitVec_inj.mp
    rw [Nat.two_pow_add_eq_or_of_lt (i := 8) (by omega)]
    exact BitVec.ofNat_or.symm
  rw [show (n : Int) * 256 = ((2 ^ 8 * n : Nat) : Int) by omega, i32N, i32N, e, nIi (by omega)]
  omega
theorem zusn {x : Int} (h : 0 ≤ x ∧ x < 2147483648) : zushr x 24 = x / 16777216 ∧ zushr x 16 = x / 65536 ∧ zushr x 8 = x / 256 ∧ zushr x 0 = x := by
  obtain ⟨n, rfl⟩ := Int.eq_ofNat_of_zero_le h.1
  unfold zushr
  rw [i32N]
  refine ⟨?_, ?_, ?_, ?_⟩
  · rw [pk_ushrN (by omega) _ 24 (by decide), nIi (by omega)]; omega
  · rw [pk_ushrN (by omega) _ 16 (by decide), nIi (by omega)]; omega
  · rw [pk_ushrN (by omega) _ 8 (by decide), nIi (by omega)]; omega
  · rw [pk_ushrN (by omega) _ 0 (by decide), nIi (by omega)]; omega
theorem zand_m {x : Int} (h : 0 ≤ x ∧ x < 2147483648) : zand x 255 = x % 256 := by
  obtain ⟨n, rfl⟩ := Int.eq_ofNat_of_zero_le h.1
  unfold zand
  rw [i32N, pk_andN (by omega) 8 (by decide), nIi (by omega)]
  omega
/-- the words of the tape, filled byte by byte -/
def wd (F : Int → Int) (p : Int) : Nat → Int
  | 0 => 0
  | m + 1 => wd F p m * 256 + F (p + m)
theorem wd_b {F : Int → Int} {p : Int} (hF : ∀ i, 0 ≤ F i ∧ F i < 128) : ∀ m, m < 4 → 0 ≤ wd F p m ∧ wd F p m < 8388608
  | 0, _ => by rw [wd]; omega
  | 1, _ => by simp only [wd]; have := hF (p + (0 : Nat)); omega
  | 2, _ => by simp only [wd]; have := hF (p + (0 : Nat)); have := hF (p + (1 : Nat)); omega
  | 3, _ => by simp only [wd]; have := hF (p + (0 : Nat)); have := hF (p + (1 : Nat)); have := hF (p + (2 : Nat)); omega
theorem wd_s {F : Int → Int} {p : Int} (hF : ∀ i, 0 ≤ F i ∧ F i < 128) {m : Nat} (h : m < 4) : zor (zshl (wd F p m) 8) (F (p + m)) = wd F p (m + 1) := by
  have b := wd_b (p := p) hF m h
  have := hF (p + m)
  rw [zshl_8 b, zor_8 b (by omega), wd]
/-- four bytes more -/
theorem yB_t {A : zY} {F : Int → Int} {n v : Int} (hF : ∀ i, 0 ≤ F i ∧ F i < 128) (hn : ytn A = n) (hb : ∀ i, 0 ≤ i ∧ i < n → ytb A i = F i) (hv : v = wd F n 4) :
    ∃ b, yB A v = yTape A (n + 4) b ∧ ∀ i, 0 ≤ i ∧ i < n + 4 → b i = F i := by
  have h0 := hF n
  have h1 := hF (n + 1)
  have h2 := hF (n + 2)
  have h3 := hF (n + 3)
  have hv' : v = ((F n * 256 + F (n + 1)) * 256 + F (n + 2)) * 256 + F (n + 3) := by
    rw [hv]
    simp only [wd]
    rw [show n + ((0 : Nat) : Int) = n by omega, show n + ((1 : Nat) : Int) = n + 1 by omega, show n + ((2 : Nat) : Int) = n + 2 by omega, show n + ((3 : Nat) : Int) = n + 3 by omega]
    omega
  have hv0 : 0 ≤ v ∧ v < 2147483648 := by omega
  obtain ⟨u1, u2, u3, u4⟩ := zusn hv0
  refine ⟨_, by rw [yB, hn], fun i hi => ?_⟩
  rw [u1, u2, u3, u4, zand_m (by omega), zand_m (by omega), zand_m (by omega), zand_m (by omega)]
  by_cases c0 : i = n
  · rw [if_pos c0, c0]; omega
  rw [if_neg c0]
  by_cases c1 : i = n + 1
  · rw [if_pos c1, c1]; omega
  rw [if_neg c1]
  by_cases c2 : i = n + 2
  · rw [if_pos c2, c2]; omega
  rw [if_neg c2]
  by_cases c3 : i = n + 3
  · rw [if_pos c3, c3]; omega
  rw [if_neg c3]
  exact hb i (by omega)
theorem yTT {A : zY} {n m : Int} {b c : Int → Int} : yTape (yTape A n b) m c = yTape A m c := rfl
theorem aFeed_t {A : zY} {F : Int → Int} {n a b c d e : Int} (hF : ∀ i, 0 ≤ F i ∧ F i < 128) (hn : ytn A = n) (h4 : n + 20 ≤ 400) (hb : ∀ i, 0 ≤ i ∧ i < n → ytb A i = F i)
    (ha : a = wd F n 4) (hb' : b = wd F (n + 4) 4) (hc : c = wd F (n + 8) 4) (hd : d = wd F (n + 12) 4) (he : e = wd F (n + 16) 4) :
    ∃ t, aFeed A a b c d e = (n + 20, yTape A (n + 20) t) ∧ ∀ i, 0 ≤ i ∧ i < n + 20 → t i = F i := by
  obtain ⟨t1, e1, p1⟩ := yB_t hF hn hb ha
  obtain ⟨t2, e2, p2⟩ := yB_t (A := yTape A (n + 4) t1) (n := n + 4) hF rfl p1 hb'
  obtain ⟨t3, e3, p3⟩ := yB_t (A := yTape A (n + 8) t2) (n := n + 8) hF rfl (fun i hi => p2 i (by omega)) hc
  obtain ⟨t4, e4, p4⟩ := yB_t (A := yTape A (n + 12) t3) (n := n + 12) hF rfl (fun i hi => p3 i (by omega)) hd
  obtain ⟨t5, e5, p5⟩ := yB_t (A := yTape A (n + 16) t4) (n := n + 16) hF rfl (fun i hi => p4 i (by omega)) he
  rw [yTT, show n + 4 + 4 = n + 8 by omega] at e2
  rw [yTT, show n + 8 + 4 = n + 12 by omega] at e3
  rw [yTT, show n + 12 + 4 = n + 16 by omega] at e4
  rw [yTT, show n + 16 + 4 = n + 20 by omega] at e5
  refine ⟨t5, ?_, fun i hi => p5 i (by omega)⟩
  unfold aFeed
  rw [hn, if_neg (by omega), e1, e2, e3, e4, e5]
section
variable {l : Launch} {M : zM} {A : zY} {kk : Int} {s : Nat} {L : List Int}
/-- what the text says at a place -/
def tF_ (L : List Int) (i : Int) : Int := if 0 ≤ i then L.getD i.toNat 0 else 0
theorem tF_b {L : List Int} (hb : ∀ c ∈ L, (0 : Int) ≤ c ∧ c < 128) (i : Int) : 0 ≤ tF_ L i ∧ tF_ L i < 128 := by
  unfold tF_
  split
  · by_cases c : i.toNat < L.length
    · exact hb _ (getD_mem c)
    · rw [List.getD_eq_getElem?_getD, List.getElem?_eq_none (by omega)]
      exact ⟨Int.le_refl _, by decide⟩
  · exact ⟨Int.le_refl _, by decide⟩
theorem tF_0 {L : List Int} {i : Int} (h : (L.length : Int) ≤ i) : tF_ L i = 0 := by
  unfold tF_
  rw [if_pos (by omega), List.getD_eq_getElem?_getD, List.getElem?_eq_none (by omega)]
  rfl
/-- where the reading stands -/
abbrev sY (M M1 : zM) (A : zY) (L : List Int) (n : Int) : Prop := Lr [79] M M1 ∧ ∃ b, cSt M1 (yTape A n b) ∧ ∀ i, 0 ≤ i ∧ i < n → b i = tF_ L i
abbrev saysP (M : zM) (A : zY) (L : List Int) : Int → zM → Prop := fun x M' => x = 1 ∧ sY M M' A L L.length
theorem w_tp {n : Int} {b : Int → Int} (hb : ∀ c ∈ L, (0 : Int) ≤ c ∧ c < 128) (w : wfY kk A) (hn : 0 ≤ n ∧ n ≤ 400) (h : ∀ i, 0 ≤ i ∧ i < n → b i = tF_ L i) : wfY kk (yTape A n b) :=
  ⟨w.1, w.2.1, w.2.2.1, w.2.2.2.1, hn, fun i hi => by show 0 ≤ b i ∧ b i < 256; rw [h i hi]; have := tF_b hb i; omega⟩
def LL_says_4 (l : Launch) (P : Int → zM → Prop) (c n : Nat) (s1 : Nat) (v2 : Int) (v3 : Int) (M : zM) : Prop := AW l m_L_says (zTin m_L_says 20 100 c n P) 4 [(0, zr 8 0), (1, zr 66 s1), (2, zi v2), (3, zi v3)] [] M
def LL_says_22 (l : Launch) (P : Int → zM → Prop) (c n : Nat) (s1 : Nat) (v3 : Int) (r4 : Nat) (v5 : Int) (M : zM) : Prop := AW l m_L_says (zTin m_L_says 20 100 c n P) 22 [(0, zr 8 0), (1, zr 66 s1), (3, zi v3), (4, zr 79 r4), (5, zi v5)] [] M
theorem vL_says_4 {l : Launch} {P : Int → zM → Prop} {c n : Nat} {s1 : Nat} {v2 : Int} {v3 : Int} {M : zM}
    (H0 : (stW M s1 ∧ (zI v3 ∧ zI (stN M s1) ∧ (((stN M s1) ≤ v3 → (zI v2 ∧ ((v2 < (stN M s1) → P 0 M) ∧ ((stN M s1) ≤ v2 → (CI l m_X8_end [zr 8 0, zi (stN M s1)] M (fun x18 M16 => (stW M16 s1 ∧ (zI x18 ∧ zI (stN M16 s1) ∧ ((x18 ≠ (stN M16 s1) → P 0 M16) ∧ (x18 = (stN M16 s1) → P 1 M16)))))))))) ∧ (v3 < (stN M s1) → (((c + 1) ≤ 20 ∧ (n + 5) ≤ 100) ∧ ∀ n28 : Nat, (n28 : Int) = M 97 0 79 → ∀ M31 : zM, M31 = zmk M 79 n28 5 → LL_says_22 l P (c + 1) (n + 5) s1 v3 n28 0 M31)))))) :
    LL_says_4 l P c n s1 v2 v3 M :=
(aw_iload_n d_L_says_4 rfl rfl 3 rfl
(aw_aload_n d_L_says_5 rfl rfl 1 rfl (by decide)
(have z1 := H0.1; aw_FI (As := []) (st := [zi v3]) d_L_says_6 rfl cgL_8 ⟨Nat.le_of_ble_eq_true rfl, Nat.le_of_ble_eq_true rfl⟩ rfl rfl (Nat.le_of_ble_eq_true rfl) (Nat.le_of_ble_eq_true rfl) (s_J0_length_8abf5m z1) (fun _ _ hq => aw_eqs hq
(have e2 := H0.2; (have z3 := e2.1; have z4 := e2.2.1; have e5 := e2.2.2; aw_icmp_ge d_L_says_11 rfl rfl z3 z4 (fun c6 => have e8 := e5.1 c6; (aw_iload_n d_L_says_111 rfl rfl 2 rfl
(aw_aload_n d_L_says_112 rfl rfl 1 rfl (by decide)
(aw_FI (As := []) (st := [zi v2]) d_L_says_113 rfl cgL_8 ⟨Nat.le_of_ble_eq_true rfl, Nat.le_of_ble_eq_true rfl⟩ rfl rfl (Nat.le_of_ble_eq_true rfl) (Nat.le_of_ble_eq_true rfl) (s_J0_length_8abf5m z1) (fun _ _ hq => aw_eqs hq
(have z10 := e8.1; have e11 := e8.2; aw_icmp_lt d_L_says_118 rfl rfl z10 z4 (fun c12 => have e14 := e11.1 c12; (aw_iconst d_L_says_144 rfl
(aw_rzn d_L_says_145 rfl (by decide) e14))) (fun c13 => have e15 := e11.2 c13; (aw_aload_n d_L_says_121 rfl rfl 0 rfl (by decide)
(aw_aload_n d_L_says_122 rfl rfl 1 rfl (by decide)
(aw_FI (As := []) (st := [zr 8 0]) d_L_says_123 rfl cgL_8 ⟨Nat.le_of_ble_eq_true rfl, Nat.le_of_ble_eq_true rfl⟩ rfl rfl (Nat.le_of_ble_eq_true rfl) (Nat.le_of_ble_eq_true rfl) (s_J0_length_8abf5m z1) (fun _ _ hq => aw_eqs hq
(aw_VI (As := [zi (stN M s1)]) (st := []) d_L_says_128 rfl cvL_24 ⟨Nat.le_of_ble_eq_true rfl, Nat.le_of_ble_eq_true rfl⟩ rfl rfl (Nat.le_of_ble_eq_true rfl) (Nat.le_of_ble_eq_true rfl) e15 (fun x18 M16 e17 => (aw_aload_n d_L_says_131 rfl rfl 1 rfl (by decide)
(have z19 := e17.1; aw_FI (As := []) (st := [zi x18]) d_L_says_132 rfl cgL_8 ⟨Nat.le_of_ble_eq_true rfl, Nat.le_of_ble_eq_true rfl⟩ rfl rfl (Nat.le_of_ble_eq_true rfl) (Nat.le_of_ble_eq_true rfl) (s_J0_length_8abf5m z19) (fun _ _ hq => aw_eqs hq
(have e20 := e17.2; (have z21 := e20.1; have z22 := e20.2.1; have e23 := e20.2.2; aw_icmp_ne d_L_says_137 rfl rfl z21 z22 (fun c24 => have e26 := e23.1 c24; (aw_iconst d_L_says_144 rfl
(aw_rzn d_L_says_145 rfl (by decide) e26))) (fun c25 => have e27 := e23.2 c25; (aw_iconst d_L_says_140 rfl
(aw_goto d_L_says_141 rfl
(aw_rzn d_L_says_145 rfl (by decide) e27)))))))))))))))))))))) (fun c7 => have e9 := e5.2 c7; (aw_iconst d_L_says_14 rfl
(have z29 := e9.1; aw_newa (k := 79) d_L_says_15 rfl zd79 (Or.inl ⟨rfl, rfl⟩) ac_int (by decide) (Or.inr rfl) z29
(fun n28 hqn28 => (aw_nm fun M31 hqM31 => have e30 := e9.2 n28 hqn28 M31 hqM31; (aw_astore (lv' := [(4, zr 79 n28), (0, zr 8 0), (1, zr 66 s1), (2, zi v2), (3, zi v3)]) (by decide) d_L_says_17 rfl (by decide) rfl
(aw_iconst d_L_says_19 rfl
(aw_istore (lv' := [(5, zi 0), (4, zr 79 n28), (0, zr 8 0), (1, zr 66 s1), (2, zi v2), (3, zi v3)]) d_L_says_20 rfl (by decide) rfl
(aw_sub [2, 3, 5, 1, 0] rfl e30)))))))))))))))
theorem vL_says_22 {l : Launch} {P : Int → zM → Prop} {c n : Nat} {s1 : Nat} {v3 : Int} {r4 : Nat} {v5 : Int} {M : zM}
    (H0 : (zI v5 ∧ ((20 ≤ v5 → (CI l m_X8_feed [zr 8 0, zi (M 79 r4 0), zi (M 79 r4 1), zi (M 79 r4 2), zi (M 79 r4 3), zi (M 79 r4 4)] M (fun x40 M38 => LL_says_4 l P c n s1 x40 (v3 + 20) M38))) ∧ (v5 < 20 → ((0 ≤ (Int.tdiv v5 4) ∧ (Int.tdiv v5 4) < 5) ∧ (stW M s1 ∧ (zI (v3 + v5) ∧ zI (stN M s1) ∧ (((stN M s1) ≤ (v3 + v5) → (∀ M53 : zM, M53 = zu M 79 r4 (Int.tdiv v5 4) (zor (zshl (M 79 r4 (Int.tdiv v5 4)) 8) 0) → LL_says_22 l P c n s1 v3 r4 (v5 + 1) M53)) ∧ ((v3 + v5) < (stN M s1) → ((stW M s1 ∧ 0 ≤ (v3 + v5) ∧ (v3 + v5) < stN M s1) ∧ (∀ M57 : zM, M57 = zu M 79 r4 (Int.tdiv v5 4) (zor (zshl (M 79 r4 (Int.tdiv v5 4)) 8) (stB M s1 (v3 + v5))) → LL_says_22 l P c n s1 v3 r4 (v5 + 1) M57))))))))))) :
    LL_says_22 l P c n s1 v3 r4 v5 M :=
(aw_iload d_L_says_22 rfl 4 rfl
(aw_bipush d_L_says_24 rfl (by decide)
(have z32 := H0.1; have e33 := H0.2; aw_icmp_ge d_L_says_26 rfl rfl z32 (by decide) (fun c34 => have e36 := e33.1 c34; (aw_aload_n d_L_says_80 rfl rfl 0 rfl (by decide)
(aw_aload d_L_says_81 rfl 3 rfl (by decide)
(aw_iconst d_L_says_83 rfl
(aw_ialdG d_L_says_84 rfl zd79.G (zix_s (by decide))
(aw_aload d_L_says_85 rfl 3 rfl (by decide)
(aw_iconst d_L_says_87 rfl
(aw_ialdG d_L_says_88 rfl zd79.G (zix_s (by decide))
(aw_aload d_L_says_89 rfl 3 rfl (by decide)
(aw_iconst d_L_says_91 rfl
(aw_ialdG d_L_says_92 rfl zd79.G (zix_s (by decide))
(aw_aload d_L_says_93 rfl 3 rfl (by decide)
(aw_iconst d_L_says_95 rfl
(aw_ialdG d_L_says_96 rfl zd79.G (zix_s (by decide))
(aw_aload d_L_says_97 rfl 3 rfl (by decide)
(aw_iconst d_L_says_99 rfl
(aw_ialdG d_L_says_100 rfl zd79.G (zix_s (by decide))
(aw_VI (As := [zi (M 79 r4 0), zi (M 79 r4 1), zi (M 79 r4 2), zi (M 79 r4 3), zi (M 79 r4 4)]) (st := []) d_L_says_101 rfl cvL_18 ⟨Nat.le_of_ble_eq_true rfl, Nat.le_of_ble_eq_true rfl⟩ rfl rfl (Nat.le_of_ble_eq_true rfl) (Nat.le_of_ble_eq_true rfl) e36 (fun x40 M38 e39 => (aw_istore_n (lv' := [(2, zi x40), (0, zr 8 0), (1, zr 66 s1), (3, zi v3), (4, zr 79 r4), (5, zi v5)]) d_L_says_104 rfl rfl (by decide) rfl
(aw_iinc (lv' := [(3, zi (v3 + 20)), (2, zi x40), (0, zr 8 0), (1, zr 66 s1), (4, zr 79 r4), (5, zi v5)]) (y := (v3 + 20)) d_L_says_105 rfl 3 rfl (by decide) rfl rfl
(aw_goto d_L_says_108 rfl
(aw_sub [2, 3, 1, 0] rfl e39))))))))))))))))))))))) (fun c35 => have e37 := e33.2 c35; (aw_aload d_L_says_29 rfl 3 rfl (by decide)
(aw_iload d_L_says_31 rfl 4 rfl
(aw_iconst d_L_says_33 rfl
(aw_idiv d_L_says_34 rfl z32 (by decide) (by decide)
(aw_aload d_L_says_35 rfl 3 rfl (by decide)
(aw_iload d_L_says_37 rfl 4 rfl
(aw_iconst d_L_says_39 rfl
(aw_idiv d_L_says_40 rfl z32 (by decide) (by decide)
(have z41 := e37.1; aw_ialdG d_L_says_41 rfl zd79.G (zix_s z41)
(have e42 := e37.2; (aw_bipush d_L_says_42 rfl (by decide)
(aw_ishl d_L_says_44 rfl zshl_h
(aw_iload_n d_L_says_45 rfl rfl 2 rfl
(aw_iload d_L_says_46 rfl 4 rfl
(aw_iadd d_L_says_48 rfl
(aw_aload_n d_L_says_49 rfl rfl 1 rfl (by decide)
(have z43 := e42.1; aw_FI (As := []) (st := [zi (v3 + v5), zi (zshl (M 79 r4 (Int.tdiv v5 4)) 8), zi (Int.tdiv v5 4), zr 79 r4]) d_L_says_50 rfl cgL_8 ⟨Nat.le_of_ble_eq_true rfl, Nat.le_of_ble_eq_true rfl⟩ rfl rfl (Nat.le_of_ble_eq_true rfl) (Nat.le_of_ble_eq_true rfl) (s_J0_length_8abf5m z43) (fun _ _ hq => aw_eqs hq
(have e44 := e42.2; (have z45 := e44.1; have z46 := e44.2.1; have e47 := e44.2.2; aw_icmp_ge d_L_says_55 rfl rfl z45 z46 (fun c48 => have e50 := e47.1 c48; (aw_iconst d_L_says_71 rfl
(aw_ior d_L_says_72 rfl zor_h
(aw_iastG d_L_says_73 rfl zd79.G (zix_s z41)
(aw_nm fun M53 hqM53 => have e52 := e50 M53 hqM53; (aw_iinc (lv' := [(5, zi (v5 + 1)), (0, zr 8 0), (1, zr 66 s1), (3, zi v3), (4, zr 79 r4)]) (y := (v5 + 1)) d_L_says_74 rfl 4 rfl (by decide) rfl rfl
(aw_goto d_L_says_77 rfl
(aw_sub [1, 2, 3, 4, 0] rfl e52)))))))) (fun c49 => have e51 := e47.2 c49; (aw_aload_n d_L_says_58 rfl rfl 1 rfl (by decide)
(aw_iload_n d_L_says_59 rfl rfl 2 rfl
(aw_iload d_L_says_60 rfl 4 rfl
(aw_iadd d_L_says_62 rfl
(have z54 := e51.1; aw_FI (As := [zi (v3 + v5)]) (st := [zi (zshl (M 79 r4 (Int.tdiv v5 4)) 8), zi (Int.tdiv v5 4), zr 79 r4]) d_L_says_63 rfl cgL_14 ⟨Nat.le_of_ble_eq_true rfl, Nat.le_of_ble_eq_true rfl⟩ rfl rfl (Nat.le_of_ble_eq_true rfl) (Nat.le_of_ble_eq_true rfl) (s_J0_charAt_5068em z54) (fun _ _ hq => aw_eqs hq
(have e55 := e51.2; (aw_goto d_L_says_68 rfl
(aw_ior d_L_says_72 rfl zor_h
(aw_iastG d_L_says_73 rfl zd79.G (zix_s z41)
(aw_nm fun M57 hqM57 => have e56 := e55 M57 hqM57; (aw_iinc (lv' := [(5, zi (v5 + 1)), (0, zr 8 0), (1, zr 66 s1), (3, zi v3), (4, zr 79 r4)]) (y := (v5 + 1)) d_L_says_74 rfl 4 rfl (by decide) rfl rfl
(aw_goto d_L_says_77 rfl
(aw_sub [1, 2, 3, 4, 0] rfl e56)))))))))))))))))))))))))))))))))))))))
theorem vL_says {l : Launch} {P : Int → zM → Prop} {s1 : Nat} {M : zM}
    (H0 : LL_says_4 l P 0 0 s1 0 0 M) :
    CIn l m_L_says 20 100 [zr 8 0, zr 66 s1] M P :=
(aw_iconst d_L_says_0 rfl
(aw_istore_n (lv' := [(2, zi 0), (0, zr 8 0), (1, zr 66 s1)]) d_L_says_1 rfl rfl (by decide) rfl
(aw_iconst d_L_says_2 rfl
(aw_istore_n (lv' := [(3, zi 0), (2, zi 0), (0, zr 8 0), (1, zr 66 s1)]) d_L_says_3 rfl rfl (by decide) rfl
(aw_sub [2, 3, 1, 0] rfl H0)))))
theorem says_22 (w : wfY kk A) (T : stT M s L) (hs : (s : Int) < M 97 0 66) (hl : L.length ≤ 400) (hb : ∀ c ∈ L, (0 : Int) ≤ c ∧ c < 128) {c n : Nat} {k : Int} (hk : 0 ≤ k ∧ k < L.length ∧ k + 20 ≤ 400) {r : Nat} (hr : M 97 0 79 ≤ (r : Int)) {A1 : zY} {t1 : Int → Int} (eA : A1 = yTape A k t1) (et : ∀ i, 0 ≤ i ∧ i < k → t1 i = tF_ L i)
    (nx : ∀ M2, sY M M2 A L (k + 20) → LL_says_4 l (saysP M A L) c n s (k + 20) (k + 20) M2) :
    ∀ (f i : Nat) (M1 : zM), i + f = 20 → Lr [79] M M1 → cSt M1 A1 → (∀ e : Nat, e < 5 → M1 79 r e = wd (tF_ L) (k + 4 * e) (min (i - 4 * e) 4)) → LL_says_22 l (saysP M A L) c n s k r i M1 := by
  have hF := tF_b hb
  intro f
  induction f with
  | zero =>
    intro i M1 hi F C hw
    refine vL_says_22 ⟨by omega, fun _ => ?_, fun q => absurd q (by omega)⟩
    have hw' : ∀ e : Nat, e < 5 → M1 79 r e = wd (tF_ L) (k + 4 * e) 4 := fun e he => by rw [hw e he, show min (i - 4 * e) 4 = 4 by omega]
    obtain ⟨t2, e2, p2⟩ := aFeed_t (A := A1) (a := M1 79 r 0) (b := M1 79 r 1) (c := M1 79 r 2) (d := M1 79 r 3) (e := M1 79 r 4) (n := k) hF (by rw [eA]; rfl) (by omega) (fun i hi => by rw [eA]; exact et i hi)
      ((hw' 0 (by decide)).trans (by rw [show k + 4 * ((0 : Nat) : Int) = k by omega])) (hw' 1 (by decide)) (hw' 2 (by decide)) (hw' 3 (by decide)) (hw' 4 (by decide))
    refine (a8_feed (kk := kk) C (by rw [eA]; exact w_tp hb w (by omega) et)).mono ?_
    rintro x M2 ⟨hx, C2, f2⟩
    rw [e2] at hx C2
    have hx' : x = k + 20 := hx
    rw [hx']
    refine nx M2 ⟨F.tr (Lr.md f2), t2, ?_, p2⟩
    rw [eA] at C2
    exact C2
  | succ f ih =>
    intro i M1 hi F C hw
    have T1 := T.ke hs F.ke
    have eN : stN M1 s = (L.length : Int) := T1.2.1
    have ed : Int.tdiv (i : Int) 4 = ((i / 4 : Nat) : Int) := by rw [Int.tdiv_eq_ediv_of_nonneg (by omega)]; omega
    have e4 : i / 4 < 5 := by omega
    have m0 := hw (i / 4) e4
    rw [show min (i - 4 * (i / 4)) 4 = i % 4 by omega] at m0
    have st : ∀ x, x = tF_ L (k + i) → ∀ M2, M2 = zu M1 79 r ((i / 4 : Nat) : Int) (zor (zshl (M1 79 r ((i / 4 : Nat) : Int)) 8) x) → LL_says_22 l (saysP M A L) c n s k r (i + 1 : Nat) M2 := by
      intro x hx M2 e2
      refine ih (i + 1) M2 (by omega) (by rw [e2]; exact F.zu (by decide) hr) (C.lw fun k' i' hk' => by rw [e2]; exact zu_o _ _ (by omega)) fun e he => ?_
      rw [e2, zu_w]
      by_cases ce : e = i / 4
      · subst ce
        rw [if_pos rfl, m0, hx, show k + (i : Int) = k + 4 * ((i / 4 : Nat) : Int) + ((i % 4 : Nat) : Int) by omega, wd_s hF (by omega), show min (i + 1 - 4 * (i / 4)) 4 = i % 4 + 1 by omega]
      · rw [if_neg (by omega), hw e he, show min (i + 1 - 4 * e) 4 = min (i - 4 * e) 4 by omega]
    refine vL_says_22 ⟨by omega, fun q => absurd q (by omega), fun _ => ?_⟩
    rw [ed, eN]
    refine ⟨by omega, T1.1, by omega, by omega, fun q M2 e2 => ?_, fun q => ⟨⟨T1.1, by omega, by omega⟩, fun M2 e2 => ?_⟩⟩
    · exact st 0 (tF_0 q).symm M2 e2
    · refine st _ ?_ M2 e2
      rw [T1.2.2 _ (by omega)]
      unfold tF_
      rw [if_pos (by omega)]
theorem says_4 (w : wfY kk A) (T : stT M s L) (hs : (s : Int) < M 97 0 66) (hl : L.length ≤ 400) (hb : ∀ c ∈ L, (0 : Int) ≤ c ∧ c < 128) : ∀ (f : Nat) (c : Nat) (M1 : zM), c + f = 20 → (20 * c : Nat) < L.length + 20 → sY M M1 A L (20 * c : Nat) →
    LL_says_4 l (saysP M A L) c (5 * c) s (20 * c : Nat) (20 * c : Nat) M1 := by
  intro f
  induction f with
  | zero =>
    intro c M1 hc hlt I
    obtain ⟨F, b, C, hB⟩ := I
    have T1 := T.ke hs F.ke
    refine vL_says_4 ⟨T1.1, ?_⟩
    rw [T1.2.1]
    refine ⟨by omega, by omega, fun q => ⟨by omega, fun q2 => absurd q2 (by omega), fun _ => ?_⟩, fun q => absurd q (by omega)⟩
    refine (a8_end (kk := kk) C (w_tp hb w (by omega) hB) (by omega)).mono ?_
    rintro x M2 ⟨hx, C2, f2⟩
    have T2 := T.ke hs (F.tr (Lr.md f2)).ke
    have eE : aEnd (yTape A (20 * c : Nat) b) L.length = ((L.length : Int), yTape A L.length b) := by
      unfold aEnd
      rw [if_neg]
      · rfl
      · show ¬ ((L.length : Int) < 0 ∨ ((20 * c : Nat) : Int) < L.length)
        omega
    rw [eE] at hx C2
    have hx' : x = (L.length : Int) := hx
    refine ⟨T2.1, ?_⟩
    rw [T2.2.1, hx']
    refine ⟨by omega, by omega, fun q2 => absurd rfl q2, fun _ => ⟨rfl, F.tr (Lr.md f2), b, C2, fun i hi => hB i (by omega)⟩⟩
  | succ f ih =>
    intro c M1 hc hlt I
    obtain ⟨F, b, C, hB⟩ := I
    have T1 := T.ke hs F.ke
    refine vL_says_4 ⟨T1.1, ?_⟩
    rw [T1.2.1]
    refine ⟨by omega, by omega, fun q => ⟨by omega, fun q2 => absurd q2 (by omega), fun _ => ?_⟩, fun q => ⟨by omega, fun r hr M2 e2 => ?_⟩⟩
    · refine (a8_end (kk := kk) C (w_tp hb w (by omega) hB) (by omega)).mono ?_
      rintro x M2 ⟨hx, C2, f2⟩
      have T2 := T.ke hs (F.tr (Lr.md f2)).ke
      have eE : aEnd (yTape A (20 * c : Nat) b) L.length = ((L.length : Int), yTape A L.length b) := by
        unfold aEnd
        rw [if_neg]
        · rfl
        · show ¬ ((L.length : Int) < 0 ∨ ((20 * c : Nat) : Int) < L.length)
          omega
      rw [eE] at hx C2
      have hx' : x = (L.length : Int) := hx
      refine ⟨T2.1, ?_⟩
      rw [T2.2.1, hx']
      refine ⟨by omega, by omega, fun q2 => absurd rfl q2, fun _ => ⟨rfl, F.tr (Lr.md f2), b, C2, fun i hi => hB i (by omega)⟩⟩
    · have hr0 : M 97 0 79 ≤ (r : Int) := by rw [hr]; exact F.2.1 79
      have F2 : Lr [79] M M2 := by rw [e2]; exact F.tr (Gr.mk (by decide) (by decide) hr).lr
      refine says_22 (k := (20 * c : Nat)) (c := c + 1) (n := 5 * c + 5) w T hs hl hb (by omega) hr0 rfl hB (fun M3 I3 => ?_) 20 0 M2 (by omega) F2 (C.lw fun k' i' hk' => by rw [e2]; exact zmk_o (by omega) (by omega)) fun e he => ?_
      · have := ih (c + 1) M3 (by omega) (by omega) (by rw [show ((20 * (c + 1) : Nat) : Int) = ((20 * c : Nat) : Int) + 20 by omega]; exact I3)
        rw [show ((20 * (c + 1) : Nat) : Int) = ((20 * c : Nat) : Int) + 20 by omega, show 5 * (c + 1) = 5 * c + 5 by omega] at this
        exact this
      · rw [e2, zmk_v (by decide) (by omega), show min (0 - 4 * e) 4 = 0 by omega, wd]
        exact zdf_0 (by decide) (by decide)
theorem c_says (C : cSt M A) (w : wfY kk A) (t0 : ytn A = 0) (T : stT M s L) (hs : (s : Int) < M 97 0 66) (hl : L.length ≤ 400) (hb : ∀ c ∈ L, (0 : Int) ≤ c ∧ c < 128) : CIn l m_L_says 20 100 [zr 8 0, zr 66 s] M (saysP M A L) := by
  refine vL_says ?_
  have := says_4 (l := l) (M := M) w T hs hl hb 20 0 M (by omega) (by omega) ⟨Lr.rf, ytb A, ?_, fun i hi => absurd hi (by omega)⟩
  · exact this
  · have e : yTape A ((20 * 0 : Nat) : Int) (ytb A) = A := by
      show (A.1, A.2.1, A.2.2.1, ((20 * 0 : Nat) : Int), ytb A) = A
      rw [show ((20 * 0 : Nat) : Int) = ytn A by rw [t0]; rfl]
    rw [e]
    exact C
end
