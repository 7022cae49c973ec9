/-! ===== tell: the class reads units ===== -/
theorem sk_all {p : Int → Bool} {b : Int → Int} {n : Int} : ∀ (f : Nat) (i : Int), (n - i).toNat = f → ∀ j, i ≤ j ∧ j < sk p b n i → p (b j) = true
  | 0, i, hf, j, hj => by
    rw [sk_e (by omega)] at hj
    omega
  | f + 1, i, hf, j, hj => by
    by_cases c : i < n ∧ p (b i) = true
    · rw [sk_s c.1 c.2] at hj
      have c1 := c.1
      by_cases e : j = i
      · rw [e]
        exact c.2
      · exact sk_all (p := p) (b := b) (n := n) f (i + 1) (by omega) j ⟨by omega, hj.2⟩
    · rw [sk_e c] at hj
      omega
theorem dv_nn {b : Int → Int} {i : Int} : ∀ k : Nat, (∀ j, i ≤ j ∧ j < i + (k : Int) → 48 ≤ b j) → 0 ≤ dv b i k
  | 0, _ => by
    rw [dv]
    omega
  | k + 1, h => by
    have h1 := dv_nn (b := b) (i := i) k (fun j hj => h j (by omega))
    have h2 := h (i + k) (by omega)
    rw [dv]
    omega
theorem nmV_nn {b : Int → Int} {n p : Int} : 0 ≤ nmV b n p := by
  refine dv_nn _ fun j hj => ?_
  have hQ : nmQ b n p = sk isD b n (nmI b n p) := rfl
  by_cases c : nmI b n p ≤ nmQ b n p
  · have h := sk_all (p := isD) (b := b) (n := n) _ (nmI b n p) rfl j ⟨hj.1, by rw [← hQ]; omega⟩
    unfold isD at h
    rw [decide_eq_true_eq] at h
    exact h.1
  · omega
theorem sk_sk {p : Int → Bool} {b : Int → Int} {n i : Int} (hi : i ≤ n) : sk p b n (sk p b n i) = sk p b n i := sk_e (sk_b (p := p) (b := b) (n := n) _ i rfl hi).2.2
theorem nm_b {b : Int → Int} {n p : Int} (hp : p ≤ n) : p ≤ nmI b n p ∧ nmI b n p ≤ nmQ b n p ∧ nmQ b n p ≤ n := by
  have hI : nmI b n p = sk isB b n p := rfl
  have hQ : nmQ b n p = sk isD b n (nmI b n p) := rfl
  have b1 := sk_b (p := isB) (b := b) (n := n) _ p rfl hp
  rw [← hI] at b1
  have b2 := sk_b (p := isD) (b := b) (n := n) _ (nmI b n p) rfl b1.2.1
  rw [← hQ] at b2
  omega
theorem nm_d {b : Int → Int} {n p : Int} (h : isD (bt b n p) = true) (hp : 0 ≤ p ∧ p ≤ n) (hb : sk isB b n p = p) : p < n ∧ nmI b n p = p ∧ p < nmQ b n p ∧ nmQ b n p ≤ n := by
  have hI : nmI b n p = p := hb
  have hQ : nmQ b n p = sk isD b n p := by
    show sk isD b n (sk isB b n p) = _
    rw [hb]
  unfold bt at h
  by_cases c : 0 ≤ p ∧ p < n
  · rw [if_pos c] at h
    have e := sk_s c.2 h
    have b2 := sk_b (p := isD) (b := b) (n := n) _ (p + 1) rfl (by omega)
    rw [← e, ← hQ] at b2
    omega
  · rw [if_neg c] at h
    exact absurd h (by decide)
/-- how a piece of the class's parser ends -/
def tQ (M0 M' : zM) (n e : Int) (S : zS) (hf hl p : Int) : Prop := pF M0 M' ∧ hW M' 1 ∧ (0 ≤ M' 7 0 3 ∧ M' 7 0 3 ≤ n) ∧ M' 7 0 4 = e ∧ (e = 0 → hS M' 1 = S ∧ M' 7 0 5 = hf ∧ M' 7 0 6 = hl ∧ M' 7 0 3 = p)
theorem pF.nt {M M' : zM} {x : Int} (e : M' = zu M 7 0 4 x) : pF M M' := ⟨fun k i h => by rw [e, zu_k (fun q => h (.inl q))], fun j h => by rw [e, zu_at, if_neg (by omega)]⟩
theorem nt_h {M M' : zM} {S : zS} {j x : Int} (e : M' = zu M 7 0 j x) (h : hW M 1 ∧ hS M 1 = S) : hW M' 1 ∧ hS M' 1 = S := by
  have k := hall_k (M := M) (M' := M') (h := 1) (fun k hk => by rw [e, zu_k (by omega)])
  exact ⟨k.2 h.1, k.1.trans h.2⟩
section
variable {l : Launch} {M0 : zM} {b : Int → Int} {n kk : Int}
def LX7_readTrader_51 (l : Launch) (P : zM → Prop) (v4 : Int) (v5 : Int) (M : zM) : Prop := AW l m_X7_readTrader (zTv m_X7_readTrader P) 51 [(0, zr 7 0), (4, zi v4), (5, zi v5)] [] M
theorem vX7_readTrader_51 {l : Launch} {P : zM → Prop} {v4 : Int} {v5 : Int} {M : zM}
    (H0 : (zI v5 ∧ (4 < v5 → P M) ∧ (v5 ≤ 4 → (CI l m_X7_byteAt [zr 7 0, zi (M 7 0 3)] M (fun x36 M33 => (CI l m_X7_isDigit [zi x36] M33 (fun x40 M37 => (zI x40 ∧ (x40 = 0 → P M37) ∧ (x40 ≠ 0 → (CI l m_X7_readNumber [zr 7 0, zi 9999] M37 (fun x50 M47 => (zI (M47 7 0 4) ∧ ((M47 7 0 4) ≠ 0 → P M47) ∧ ((M47 7 0 4) = 0 → ((hW M47 1 ∧ zI v4 ∧ (0 ≤ v5 ∧ v5 ≤ 100) ∧ zI x50 ∧ (∀ u, zI (qsy (hS M47 1) v4 u))) ∧ ((fitP (hS M47 1) v4 v5 x50 → ((v5 < 4 → (CI l m_X1_append [zr 1 1, zi v4, zi x50] M47 (fun x74 M71 => (CV l m_X7_skipBlanks [zr 7 0] M71 (fun M75 => LX7_readTrader_51 l P v4 (v5 + 1) M75))))) ∧ (4 ≤ v5 → (CV l m_X7_note [zr 7 0, zi (M37 7 0 3), zi 3] M47 (fun M78 => (zI (M78 7 0 4) ∧ ((M78 7 0 4) = 0 → (CI l m_X1_append [zr 1 1, zi v4, zi x50] M78 (fun x90 M87 => (CV l m_X7_skipBlanks [zr 7 0] M87 (fun M91 => LX7_readTrader_51 l P v4 (v5 + 1) M91))))) ∧ ((M78 7 0 4) ≠ 0 → P M78))))))) ∧ (¬ (fitP (hS M47 1) v4 v5 x50) → (CV l m_X7_note [zr 7 0, zi (M37 7 0 3), zi 2] M47 (fun M94 => (zI (M94 7 0 4) ∧ ((M94 7 0 4) = 0 → (CI l m_X1_append [zr 1 1, zi v4, zi x50] M94 (fun x106 M103 => (CV l m_X7_skipBlanks [zr 7 0] M103 (fun M107 => LX7_readTrader_51 l P v4 (v5 + 1) M107))))) ∧ ((M94 7 0 4) ≠ 0 → P M94)))))))))))))))))))) :
    LX7_readTrader_51 l P v4 v5 M :=
(aw_iload d_X7_readTrader_51 rfl 2 rfl
(aw_iconst d_X7_readTrader_53 rfl
(have z27 := H0.1; have e28 := H0.2; aw_icmp_gt d_X7_readTrader_54 rfl rfl z27 (by decide) (fun c29 => have e31 := e28.1 c29; (aw_rv d_X7_readTrader_169 rfl e31)) (fun c30 => have e32 := e28.2 c30; (aw_aload_n d_X7_readTrader_57 rfl rfl 0 rfl (by decide)
(aw_aload_n d_X7_readTrader_58 rfl rfl 0 rfl (by decide)
(aw_getI (kc := 3) d_X7_readTrader_59 rfl fl7_29 rfl rfl
(aw_VI (As := [zi (M 7 0 3)]) (st := []) d_X7_readTrader_62 rfl cv7_48 ⟨Nat.le_of_ble_eq_true rfl, Nat.le_of_ble_eq_true rfl⟩ rfl rfl (Nat.le_of_ble_eq_true rfl) (Nat.le_of_ble_eq_true rfl) e32 (fun x36 M33 e34 => (aw_SI (As := [zi x36]) (st := []) d_X7_readTrader_65 rfl cs7_90 ⟨Nat.le_of_ble_eq_true rfl, Nat.le_of_ble_eq_true rfl⟩ rfl rfl (Nat.le_of_ble_eq_true rfl) (Nat.le_of_ble_eq_true rfl) e34 (fun x40 M37 e38 => (have z41 := e38.1; have e42 := e38.2; aw_if_eq d_X7_readTrader_68 rfl rfl z41 (fun c43 => have e45 := e42.1 c43; (aw_rv d_X7_readTrader_169 rfl e45)) (fun c44 => have e46 := e42.2 c44; (aw_aload_n d_X7_readTrader_71 rfl rfl 0 rfl (by decide)
(aw_getI (kc := 3) d_X7_readTrader_72 rfl fl7_29 rfl rfl
(aw_istore (lv' := [(6, zi (M37 7 0 3)), (0, zr 7 0), (4, zi v4), (5, zi v5)]) d_X7_readTrader_75 rfl (by decide) rfl
(aw_aload_n d_X7_readTrader_77 rfl rfl 1 rfl (by decide)
(aw_sipush d_X7_readTrader_78 rfl (by decide)
(aw_VI (As := [zi 9999]) (st := []) d_X7_readTrader_81 rfl cv7_83 ⟨Nat.le_of_ble_eq_true rfl, Nat.le_of_ble_eq_true rfl⟩ rfl rfl (Nat.le_of_ble_eq_true rfl) (Nat.le_of_ble_eq_true rfl) e46 (fun x50 M47 e48 => (aw_istore (lv' := [(7, zi x50), (6, zi (M37 7 0 3)), (0, zr 7 0), (4, zi v4), (5, zi v5)]) d_X7_readTrader_84 rfl (by decide) rfl
(aw_aload_n d_X7_readTrader_86 rfl rfl 2 rfl (by decide)
(aw_getI (kc := 4) d_X7_readTrader_87 rfl fl7_32 rfl rfl
(have z51 := e48.1; have e52 := e48.2; aw_if_ne d_X7_readTrader_90 rfl rfl z51 (fun c53 => have e55 := e52.1 c53; (aw_aload_n d_X7_readTrader_119 rfl rfl 2 rfl (by decide)
(aw_getI (kc := 4) d_X7_readTrader_120 rfl fl7_32 rfl rfl
(aw_if_ne d_X7_readTrader_123 rfl rfl z51 (fun _ => (aw_aload_n d_X7_readTrader_139 rfl rfl 2 rfl (by decide)
(aw_getI (kc := 4) d_X7_readTrader_140 rfl fl7_32 rfl rfl
(aw_if_eq d_X7_readTrader_143 rfl rfl z51 (fun c58 => absurd c53 (by omega)) (fun _ => (aw_rv d_X7_readTrader_146 rfl e55)))))) (fun c57 => absurd c53 (by omega)))))) (fun c54 => have e56 := e52.2 c54; (aw_aload_n d_X7_readTrader_93 rfl rfl 2 rfl (by decide)
(aw_getR (k' := 1) (a := 0) (b := 1) (j := 1) d_X7_readTrader_94 rfl fl7_18 rfl zj0 ⟨by decide, fun _ => by decide⟩
(aw_iload d_X7_readTrader_97 rfl 3 rfl
(aw_iload d_X7_readTrader_99 rfl 4 rfl
(aw_iload d_X7_readTrader_101 rfl 0 rfl
(have z59 := e56.1; have e60 := e56.2; (aw_VI (As := [zi v4, zi v5, zi x50]) (st := []) d_X7_readTrader_103 rfl cv7_94 ⟨Nat.le_of_ble_eq_true rfl, Nat.le_of_ble_eq_true rfl⟩ rfl rfl (Nat.le_of_ble_eq_true rfl) (Nat.le_of_ble_eq_true rfl) (s_X1_fits z59) (fun _ _ hq => aw_eqs hq
(aw_if_ne d_X7_readTrader_106 rfl rfl zb_I (fun c61 => have e63 := e60.1 (zb_n0 c61); (aw_aload_n d_X7_readTrader_119 rfl rfl 2 rfl (by decide)
(aw_getI (kc := 4) d_X7_readTrader_120 rfl fl7_32 rfl rfl
(aw_if_ne d_X7_readTrader_123 rfl rfl z51 (fun c65 => absurd c54 (by omega)) (fun _ => (aw_iload d_X7_readTrader_126 rfl 4 rfl
(aw_iconst d_X7_readTrader_128 rfl
(aw_icmp_lt d_X7_readTrader_129 rfl rfl z27 (by decide) (fun c66 => have e68 := e63.1 c66; (aw_aload_n d_X7_readTrader_139 rfl rfl 2 rfl (by decide)
(aw_getI (kc := 4) d_X7_readTrader_140 rfl fl7_32 rfl rfl
(aw_if_eq d_X7_readTrader_143 rfl rfl z51 (fun _ => (aw_aload_n d_X7_readTrader_147 rfl rfl 2 rfl (by decide)
(aw_getR (k' := 1) (a := 0) (b := 1) (j := 1) d_X7_readTrader_148 rfl fl7_18 rfl zj0 ⟨by decide, fun _ => by decide⟩
(aw_iload d_X7_readTrader_151 rfl 3 rfl
(aw_iload d_X7_readTrader_153 rfl 0 rfl
(aw_VI (As := [zi v4, zi x50]) (st := []) d_X7_readTrader_155 rfl cv7_98 ⟨Nat.le_of_ble_eq_true rfl, Nat.le_of_ble_eq_true rfl⟩ rfl rfl (Nat.le_of_ble_eq_true rfl) (Nat.le_of_ble_eq_true rfl) e68 (fun x74 M71 e72 => (aw_pop d_X7_readTrader_158 rfl rfl
(aw_aload_n d_X7_readTrader_159 rfl rfl 2 rfl (by decide)
(aw_VV (As := []) (st := []) d_X7_readTrader_160 rfl cv7_42 ⟨Nat.le_of_ble_eq_true rfl, Nat.le_of_ble_eq_true rfl⟩ rfl rfl (Nat.le_of_ble_eq_true rfl) (Nat.le_of_ble_eq_true rfl) e72 (fun M75 e76 => (aw_iinc (lv' := [(5, zi (v5 + 1)), (7, zi x50), (6, zi (M37 7 0 3)), (0, zr 7 0), (4, zi v4)]) (y := (v5 + 1)) d_X7_readTrader_163 rfl 4 rfl (by decide) rfl rfl
(aw_goto d_X7_readTrader_166 rfl
(aw_sub [3, 4, 0] rfl e76)))))))))))))) (fun c70 => absurd c54 (by omega)))))) (fun c67 => have e69 := e63.2 c67; (aw_aload_n d_X7_readTrader_132 rfl rfl 2 rfl (by decide)
(aw_iload d_X7_readTrader_133 rfl 1 rfl
(aw_iconst d_X7_readTrader_135 rfl
(aw_VV (As := [zi (M37 7 0 3), zi 3]) (st := []) d_X7_readTrader_136 rfl cv7_52 ⟨Nat.le_of_ble_eq_true rfl, Nat.le_of_ble_eq_true rfl⟩ rfl rfl (Nat.le_of_ble_eq_true rfl) (Nat.le_of_ble_eq_true rfl) e69 (fun M78 e79 => (aw_aload_n d_X7_readTrader_139 rfl rfl 2 rfl (by decide)
(aw_getI (kc := 4) d_X7_readTrader_140 rfl fl7_32 rfl rfl
(have z81 := e79.1; have e82 := e79.2; aw_if_eq d_X7_readTrader_143 rfl rfl z81 (fun c83 => have e85 := e82.1 c83; (aw_aload_n d_X7_readTrader_147 rfl rfl 2 rfl (by decide)
(aw_getR (k' := 1) (a := 0) (b := 1) (j := 1) d_X7_readTrader_148 rfl fl7_18 rfl zj0 ⟨by decide, fun _ => by decide⟩
(aw_iload d_X7_readTrader_151 rfl 3 rfl
(aw_iload d_X7_readTrader_153 rfl 0 rfl
(aw_VI (As := [zi v4, zi x50]) (st := []) d_X7_readTrader_155 rfl cv7_98 ⟨Nat.le_of_ble_eq_true rfl, Nat.le_of_ble_eq_true rfl⟩ rfl rfl (Nat.le_of_ble_eq_true rfl) (Nat.le_of_ble_eq_true rfl) e85 (fun x90 M87 e88 => (aw_pop d_X7_readTrader_158 rfl rfl
(aw_aload_n d_X7_readTrader_159 rfl rfl 2 rfl (by decide)
(aw_VV (As := []) (st := []) d_X7_readTrader_160 rfl cv7_42 ⟨Nat.le_of_ble_eq_true rfl, Nat.le_of_ble_eq_true rfl⟩ rfl rfl (Nat.le_of_ble_eq_true rfl) (Nat.le_of_ble_eq_true rfl) e88 (fun M91 e92 => (aw_iinc (lv' := [(5, zi (v5 + 1)), (7, zi x50), (6, zi (M37 7 0 3)), (0, zr 7 0), (4, zi v4)]) (y := (v5 + 1)) d_X7_readTrader_163 rfl 4 rfl (by decide) rfl rfl
(aw_goto d_X7_readTrader_166 rfl
(aw_sub [3, 4, 0] rfl e92)))))))))))))) (fun c84 => have e86 := e82.2 c84; (aw_rv d_X7_readTrader_146 rfl e86))))))))))))))))))) (fun c62 => have e64 := e60.2 (zb_0 c62); (aw_aload_n d_X7_readTrader_109 rfl rfl 2 rfl (by decide)
(aw_iload d_X7_readTrader_110 rfl 1 rfl
(aw_iconst d_X7_readTrader_112 rfl
(aw_VV (As := [zi (M37 7 0 3), zi 2]) (st := []) d_X7_readTrader_113 rfl cv7_52 ⟨Nat.le_of_ble_eq_true rfl, Nat.le_of_ble_eq_true rfl⟩ rfl rfl (Nat.le_of_ble_eq_true rfl) (Nat.le_of_ble_eq_true rfl) e64 (fun M94 e95 => (aw_goto d_X7_readTrader_116 rfl
(aw_aload_n d_X7_readTrader_139 rfl rfl 2 rfl (by decide)
(aw_getI (kc := 4) d_X7_readTrader_140 rfl fl7_32 rfl rfl
(have z97 := e95.1; have e98 := e95.2; aw_if_eq d_X7_readTrader_143 rfl rfl z97 (fun c99 => have e101 := e98.1 c99; (aw_aload_n d_X7_readTrader_147 rfl rfl 2 rfl (by decide)
(aw_getR (k' := 1) (a := 0) (b := 1) (j := 1) d_X7_readTrader_148 rfl fl7_18 rfl zj0 ⟨by decide, fun _ => by decide⟩
(aw_iload d_X7_readTrader_151 rfl 3 rfl
(aw_iload d_X7_readTrader_153 rfl 0 rfl
(aw_VI (As := [zi v4, zi x50]) (st := []) d_X7_readTrader_155 rfl cv7_98 ⟨Nat.le_of_ble_eq_true rfl, Nat.le_of_ble_eq_true rfl⟩ rfl rfl (Nat.le_of_ble_eq_true rfl) (Nat.le_of_ble_eq_true rfl) e101 (fun x106 M103 e104 => (aw_pop d_X7_readTrader_158 rfl rfl
(aw_aload_n d_X7_readTrader_159 rfl rfl 2 rfl (by decide)
(aw_VV (As := []) (st := []) d_X7_readTrader_160 rfl cv7_42 ⟨Nat.le_of_ble_eq_true rfl, Nat.le_of_ble_eq_true rfl⟩ rfl rfl (Nat.le_of_ble_eq_true rfl) (Nat.le_of_ble_eq_true rfl) e104 (fun M107 e108 => (aw_iinc (lv' := [(5, zi (v5 + 1)), (7, zi x50), (6, zi (M37 7 0 3)), (0, zr 7 0), (4, zi v4)]) (y := (v5 + 1)) d_X7_readTrader_163 rfl 4 rfl (by decide) rfl rfl
(aw_goto d_X7_readTrader_166 rfl
(aw_sub [3, 4, 0] rfl e108)))))))))))))) (fun c100 => have e102 := e98.2 c100; (aw_rv d_X7_readTrader_146 rfl e102))))))))))))))))))))))))))))))))))))))))))))))
theorem vX7_readTrader {l : Launch} {P : zM → Prop} {v1 : Int} {v2 : Int} {M : zM}
    (H0 : (zI (M 1 1 6) ∧ ((M 1 1 6) < 20 → (CI l m_X7_readNumber [zr 7 0, zi 3] M (fun x10 M7 => (zI (M7 7 0 4) ∧ ((M7 7 0 4) = 0 → (CI l m_X1_enter [zr 1 1, zi v2, zi x10] M7 (fun x20 M17 => (CV l m_X7_skipBlanks [zr 7 0] M17 (fun M21 => LX7_readTrader_51 l P x20 0 M21))))) ∧ ((M7 7 0 4) ≠ 0 → P M7))))) ∧ (20 ≤ (M 1 1 6) → (CV l m_X7_note [zr 7 0, zi v1, zi 3] M (fun M24 => P M24))))) :
    CV l m_X7_readTrader [zr 7 0, zi v1, zi v2] M P :=
(aw_aload_n d_X7_readTrader_0 rfl rfl 0 rfl (by decide)
(aw_getR (k' := 1) (a := 0) (b := 1) (j := 1) d_X7_readTrader_1 rfl fl7_18 rfl zj0 ⟨by decide, fun _ => by decide⟩
(aw_getI (kc := 6) d_X7_readTrader_4 rfl fl7_82 rfl rfl
(aw_bipush d_X7_readTrader_7 rfl (by decide)
(have z1 := H0.1; have e2 := H0.2; aw_icmp_lt d_X7_readTrader_9 rfl rfl z1 (by decide) (fun c3 => have e5 := e2.1 c3; (aw_aload_n d_X7_readTrader_19 rfl rfl 0 rfl (by decide)
(aw_iconst d_X7_readTrader_20 rfl
(aw_VI (As := [zi 3]) (st := []) d_X7_readTrader_21 rfl cv7_83 ⟨Nat.le_of_ble_eq_true rfl, Nat.le_of_ble_eq_true rfl⟩ rfl rfl (Nat.le_of_ble_eq_true rfl) (Nat.le_of_ble_eq_true rfl) e5 (fun x10 M7 e8 => (aw_istore_n (lv' := [(3, zi x10), (0, zr 7 0), (1, zi v1), (2, zi v2)]) d_X7_readTrader_24 rfl rfl (by decide) rfl
(aw_aload_n d_X7_readTrader_25 rfl rfl 1 rfl (by decide)
(aw_getI (kc := 4) d_X7_readTrader_26 rfl fl7_32 rfl rfl
(have z11 := e8.1; have e12 := e8.2; aw_if_eq d_X7_readTrader_29 rfl rfl z11 (fun c13 => have e15 := e12.1 c13; (aw_aload_n d_X7_readTrader_33 rfl rfl 1 rfl (by decide)
(aw_getR (k' := 1) (a := 0) (b := 1) (j := 1) d_X7_readTrader_34 rfl fl7_18 rfl zj0 ⟨by decide, fun _ => by decide⟩
(aw_iload_n d_X7_readTrader_37 rfl rfl 3 rfl
(aw_iload_n d_X7_readTrader_38 rfl rfl 0 rfl
(aw_VI (As := [zi v2, zi x10]) (st := []) d_X7_readTrader_39 rfl cv7_86 ⟨Nat.le_of_ble_eq_true rfl, Nat.le_of_ble_eq_true rfl⟩ rfl rfl (Nat.le_of_ble_eq_true rfl) (Nat.le_of_ble_eq_true rfl) e15 (fun x20 M17 e18 => (aw_istore (lv' := [(4, zi x20), (3, zi x10), (0, zr 7 0), (1, zi v1), (2, zi v2)]) d_X7_readTrader_42 rfl (by decide) rfl
(aw_aload_n d_X7_readTrader_44 rfl rfl 2 rfl (by decide)
(aw_VV (As := []) (st := []) d_X7_readTrader_45 rfl cv7_42 ⟨Nat.le_of_ble_eq_true rfl, Nat.le_of_ble_eq_true rfl⟩ rfl rfl (Nat.le_of_ble_eq_true rfl) (Nat.le_of_ble_eq_true rfl) e18 (fun M21 e22 => (aw_iconst d_X7_readTrader_48 rfl
(aw_istore (lv' := [(5, zi 0), (4, zi x20), (3, zi x10), (0, zr 7 0), (1, zi v1), (2, zi v2)]) d_X7_readTrader_49 rfl (by decide) rfl
(aw_sub [3, 1, 0] rfl e22)))))))))))))) (fun c14 => have e16 := e12.2 c14; (aw_rv d_X7_readTrader_32 rfl e16))))))))))) (fun c4 => have e6 := e2.2 c4; (aw_aload_n d_X7_readTrader_12 rfl rfl 0 rfl (by decide)
(aw_iload_n d_X7_readTrader_13 rfl rfl 1 rfl
(aw_iconst d_X7_readTrader_14 rfl
(aw_VV (As := [zi v1, zi 3]) (st := []) d_X7_readTrader_15 rfl cv7_52 ⟨Nat.le_of_ble_eq_true rfl, Nat.le_of_ble_eq_true rfl⟩ rfl rfl (Nat.le_of_ble_eq_true rfl) (Nat.le_of_ble_eq_true rfl) e6 (fun M24 e25 => (aw_rv d_X7_readTrader_18 rfl e25))))))))))))
theorem c_X7_units {t : Int} : ∀ (f : Nat) (u : Int) (M : zM) (S : zS) (p hf hl : Int), u + f = 5 → 1 ≤ f → tX M b n → pF M0 M → tS M S 0 hf hl p → (0 ≤ p ∧ p ≤ n) → sk isB b n p = p → wfS kk S → (0 ≤ t ∧ t < qn S) → qun S t = u →
    LX7_readTrader_51 l (fun M' => tQ M0 M' n (tU b n t f u S p).1 (tU b n t f u S p).2.1 hf hl (tU b n t f u S p).2.2) t u M := by
  intro f
  induction f with
  | zero =>
    intro u M S p hf hl _ h1
    omega
  | succ f ih =>
    intro u M S p hf hl hu _ hx fr ts hp hb w ht hun
    obtain ⟨⟨w1, e1⟩, e4, e5, e6, e3⟩ := ts
    have h1 := hx.1
    have hn := w.1
    have hun2 := un_z w e1 t
    refine vX7_readTrader_51 ⟨by omega, fun c => by omega, fun _ => (c_X7_byteAt hx (by omega)).mono ?_⟩
    rintro x M2 ⟨ex, rfl⟩
    rw [e3] at ex
    have bb := bt_b (i := p) hx
    refine (c_X7_isDigit (by omega)).mono ?_
    rintro y M3 ⟨ey, rfl⟩
    rw [ex] at ey
    refine ⟨by rw [ey]; exact zb_I, fun c => ?_, fun c => ?_⟩
    · rw [ey] at c
      have nd := zb_0 c
      have e : tU b n t (f + 1) u S p = (0, S, p) := by rw [tU, if_pos (Bool.eq_false_iff.mpr nd)]
      rw [e]
      exact ⟨fr, w1, by omega, e4, fun _ => ⟨e1, e5, e6, e3⟩⟩
    · rw [ey] at c
      have dg := zb_n0 c
      have N := nm_d dg hp hb
      have V := nmV_nn (b := b) (n := n) (p := p)
      have eU : tU b n t (f + 1) u S p = if 9999 < nmV b n p then (8 * p + 2, S, nmQ b n p) else if ¬ fitP S t u (nmV b n p) then (8 * p + 2, S, nmQ b n p) else if 4 ≤ u then (8 * p + 3, S, nmQ b n p) else tU b n t f (u + 1) (sAdd S t (nmV b n p)) (sk isB b n (nmQ b n p)) := by
        rw [tU, if_neg (by rw [dg]; exact Bool.noConfusion)]
      refine (c_X7_readNumber hx (by omega) (by omega)).mono ?_
      rw [e3, e4]
      rintro z M4 ⟨ez, f4, e43, e44⟩
      rw [N.2.1, if_neg (by omega)] at e44
      have k4 := f4.h1 ⟨w1, e1⟩
      have fr4 := fr.tr f4.p
      have hx4 := hx.n f4
      have a5 : M4 7 0 5 = hf := (f4.2 5 (by decide) (by decide)).trans e5
      have a6 : M4 7 0 6 = hl := (f4.2 6 (by decide) (by decide)).trans e6
      by_cases big : 9999 < nmV b n p
      · rw [if_pos big] at e44
        rw [eU, if_pos big]
        exact ⟨by omega, fun _ => ⟨fr4, k4.1, by omega, e44, fun c => by omega⟩, fun c => by omega⟩
      · rw [if_neg big] at e44
        have ez' : z = nmV b n p := by omega
        subst ez'
        have k4n : M4 1 1 6 = qn S := by rw [← k4.2]; exact (hS_n M4 1).symm
        have nt : ∀ k : Int, k = 2 ∨ k = 3 → CV l m_X7_note [zr 7 0, zi p, zi k] M4 (fun M5 => zI (M5 7 0 4) ∧ M5 7 0 4 ≠ 0 ∧ tQ M0 M5 n (8 * p + k) S hf hl (nmQ b n p)) := by
          intro k hk
          refine c_X7_note.mono ?_
          intro M5 q5
          have e54 : M5 7 0 4 = 8 * p + k := by rw [q5, zu_at, if_pos rfl]
          have e53 : M5 7 0 3 = nmQ b n p := by rw [q5, zu_at, if_neg (by decide)]; exact e43
          exact ⟨by omega, by omega, fr4.tr (pF.nt q5), (nt_h q5 k4).1, by omega, e54, fun c => by omega⟩
        refine ⟨by omega, fun c => absurd e44 c, fun _ => ⟨⟨k4.1, by omega, by omega, by omega, fun u' => by rw [k4.2]; exact sy_z w k4.2 t u'⟩, ?_, ?_⟩⟩
        · rw [k4.2]
          intro fit
          refine ⟨fun u4 => ?_, fun u4 => ?_⟩
          · refine (c_X1_append k4.1 (by omega) (by rw [k4.2]; omega)).mono ?_
            rintro y M5 ⟨-, f5, w5, e5'⟩
            rw [k4.2] at e5'
            have hx5 := hx4.p f5.p
            have q7 : M5 7 0 = M4 7 0 := f5 7 0 (fun q => by have := q.1; omega)
            refine (c_X7_skipBlanks hx5 (by rw [q7]; omega)).mono ?_
            rintro M6 ⟨f6, e6'⟩
            rw [q7, e43] at e6'
            have eN : tU b n t (f + 1) u S p = tU b n t f (u + 1) (sAdd S t (nmV b n p)) (sk isB b n (nmQ b n p)) := by rw [eU, if_neg big, if_neg (fun q => q fit), if_neg (by omega)]
            rw [eN]
            have B6 := sk_b (p := isB) (b := b) (n := n) _ (nmQ b n p) rfl N.2.2.2
            refine ih (u + 1) M6 _ _ hf hl (by omega) (by omega) (hx5.f f6) (fr4.tr ((Fx.p f5).tr f6.n.p)) ⟨f6.n.h1 ⟨w5, e5'⟩, ?_, ?_, ?_, e6'⟩ (by omega) (sk_sk N.2.2.2) (wf_add w ht (by omega) (by omega) (by rw [hun]; exact fit)) ht ?_
            · rw [f6.2 4 (by decide), q7]
              exact e44
            · rw [f6.2 5 (by decide), q7]
              exact a5
            · rw [f6.2 6 (by decide), q7]
              exact a6
            · show (if t = t then qun S t + 1 else qun S t) = u + 1
              rw [if_pos rfl, hun]
          · refine (nt 3 (.inr rfl)).mono ?_
            rintro M5 ⟨z5, n5, Q5⟩
            refine ⟨z5, fun c => absurd c n5, fun _ => ?_⟩
            rw [eU, if_neg big, if_neg (fun q => q fit), if_pos u4]
            exact Q5
        · rw [k4.2]
          intro fit
          refine (nt 2 (.inl rfl)).mono ?_
          rintro M5 ⟨z5, n5, Q5⟩
          refine ⟨z5, fun c => absurd c n5, fun _ => ?_⟩
          rw [eU, if_neg big, if_pos fit]
          exact Q5
end

