/-! ===== the hall is as the law's own ===== -/
theorem lH.zo {M : zM} {h : Nat} {S : zS} (w : lH M h S) : zo S := by
  have en := w.n
  rw [← w.2]
  have en' : qn (lS M h) = M 64 h 0 := show (if (0 : Int) ≤ 0 ∧ (0 : Int) < 7 then M 64 h 0 else 0) = M 64 h 0 from if_pos (by decide)
  refine ⟨fun j hj => if_neg hj, fun t ht => ?_, fun t u q => ?_⟩
  · rw [en'] at ht
    exact ⟨if_neg ht, if_neg ht, if_neg ht, if_neg ht, if_neg ht⟩
  · refine if_neg fun z => q ?_
    have e2 : qun (lS M h) t = M 75 (lR M h t) (-1) := if_pos ⟨z.1, z.2.1⟩
    exact ⟨z.1, by rw [en']; exact z.2.1, z.2.2.1, by rw [e2]; exact z.2.2.2⟩
/-- the books agree, numbers stay small -/
def sX (S : zS) : Prop := zsum (qpu S) (qn S) + qsc S 3 = 0 ∧ (0 ≤ qsc S 4 ∧ qsc S 4 ≤ 80 * qsc S 5) ∧ ∀ t, 0 ≤ t ∧ t < qn S → 0 ≤ qtr S t ∧ qtr S t ≤ 4 * qsc S 5
theorem sX.b {S : zS} {kk : Int} (x : sX S) (w : wfS kk S) (hk : kk ≤ 40) : (∀ n, 0 ≤ n ∧ n ≤ qn S → zI (zsum (qpu S) n)) ∧ zI (qsc S 3) ∧ zI (qsc S 4) ∧ zI (qsc S 5) ∧ zI (qsc S 6) ∧ ∀ t, 0 ≤ t ∧ t < qn S → zI (qtr S t) ∧ zI (qpu S t) := by
  have h5 := w.2.2.2.1
  have h6 := w.2.2.2.2.1
  have hn := w.1
  have hp : ∀ t, 0 ≤ t ∧ t < qn S → -40000000 ≤ qpu S t ∧ qpu S t ≤ 40000000 := fun t ht => by
    have := (w.2.2.2.2.2.1 t ht).2.2.2
    omega
  have z : ∀ n, 0 ≤ n ∧ n ≤ qn S → zI (zsum (qpu S) n) := fun n hn' => by
    have := zsum_bd (f := qpu S) (c := -40000000) (d := 40000000) hn'.1 (fun i hi => hp i (by omega))
    omega
  have zn_ := zsum_bd (f := qpu S) (c := -40000000) (d := 40000000) hn.1 (fun i hi => hp i (by omega))
  refine ⟨z, ?_, ?_, by omega, by omega, fun t ht => ⟨?_, ?_⟩⟩
  · have := x.1
    omega
  · have := x.2.1
    omega
  · have := x.2.2 t ht
    omega
  · have := hp t ht
    omega
abbrev sK3 : List Nat := [66, 67, 80]
def sm (M M1 : zM) (A : zY) : Prop := Lr sK3 M M1 ∧ cSt M1 A
section
variable {l : Launch} {M M1 : zM} {A : zY} {h : Nat} {kk : Int}
theorem sm.cx (I : sm M M1 A) (ok : okS (yS A)) : CX M1 (yS A) := ⟨I.2.1, ok⟩
theorem sm.go {M2 : zM} (I : sm M M1 A) (f : Fr kScr M1 M2) : sm M M2 A := ⟨I.1.tr (Lr.sc f), I.2.scr f⟩
theorem sm.trader {t w : Int} (I : sm M M1 A) (ok : okS (yS A)) (zt : zI t) (zw : zI w) : CI l m_X8_trader [zr 8 0, zi t, zi w] M1 (fun x M' => x = aTrader (yS A) t w ∧ sm M M' A) := (q8_trader (I.cx ok) zt zw).mono fun _ _ q => ⟨q.1, I.go q.2⟩
theorem sm.letter {k : Int} (I : sm M M1 A) (ok : okS (yS A)) (zk : zI k) : CI l m_X8_letter [zr 8 0, zi k] M1 (fun x M' => x = aLetter (yS A) k ∧ sm M M' A) := (q8_letter (I.cx ok) zk).mono fun _ _ q => ⟨q.1, I.go q.2⟩
theorem sm.audit {k : Int} (I : sm M M1 A) (ok : okS (yS A)) (hz : ∀ t, zI (qpu (yS A) t)) (zk : zI k) : CI l m_X8_audit [zr 8 0, zi k] M1 (fun x M' => x = aAudit (yS A) k ∧ sm M M' A) := (q8_audit (I.cx ok) hz zk).mono fun _ _ q => ⟨q.1, I.go q.2⟩
theorem sm.count {k : Int} (I : sm M M1 A) (ok : okS (yS A)) (zk : zI k) : CI l m_X8_count [zr 8 0, zi k] M1 (fun x M' => x = aCount (yS A) (yhc A) (ytn A) (ykf A 0 + 2 * ykf A 1) k ∧ sm M M' A) :=
  (q8_count (I.cx ok) I.2.2.2.1.2.1 I.2.2.2.2.2.1 I.2.2.2.2.1.1 zk).mono fun _ _ q => ⟨q.1, I.go q.2⟩
def LL_same_58 (l : Launch) (P : Int → zM → Prop) (c n : Nat) (s1 : Nat) (v2 : Int) (v3 : Int) (v4 : Int) (M : zM) : Prop := AW l m_L_same (zTin m_L_same 4 808 c n P) 58 [(0, zr 8 0), (1, zr 64 s1), (2, zi v2), (3, zi v3), (4, zi v4)] [] M
def LL_same_64 (l : Launch) (P : Int → zM → Prop) (c n : Nat) (s1 : Nat) (v2 : Int) (v3 : Int) (v4 : Int) (v5 : Int) (v6 : Int) (M : zM) : Prop := AW l m_L_same (zTin m_L_same 4 808 c n P) 64 [(0, zr 8 0), (1, zr 64 s1), (2, zi v2), (3, zi v3), (4, zi v4), (5, zi v5), (6, zi v6)] [] M
def LL_same_303 (l : Launch) (P : Int → zM → Prop) (c n : Nat) (s1 : Nat) (v2 : Int) (v3 : Int) (v4 : Int) (v5 : Int) (M : zM) : Prop := AW l m_L_same (zTin m_L_same 4 808 c n P) 303 [(0, zr 8 0), (1, zr 64 s1), (2, zi v2), (3, zi v3), (4, zi v4), (5, zi v5)] [] M
def LL_same_134 (l : Launch) (P : Int → zM → Prop) (c n : Nat) (s1 : Nat) (v2 : Int) (v3 : Int) (v4 : Int) (v6 : Int) (v7 : Int) (M : zM) : Prop := AW l m_L_same (zTin m_L_same 4 808 c n P) 134 [(0, zr 8 0), (1, zr 64 s1), (2, zi v2), (3, zi v3), (4, zi v4), (6, zi v6), (7, zi v7)] [] M
def LL_same_378 (l : Launch) (P : Int → zM → Prop) (c n : Nat) (s1 : Nat) (v3 : Int) (v4 : Int) (r6 : Nat) (M : zM) : Prop := AW l m_L_same (zTin m_L_same 4 808 c n P) 378 [(0, zr 8 0), (1, zr 64 s1), (3, zi v3), (4, zi v4), (6, zr 66 r6)] [] M
def LL_same_314 (l : Launch) (P : Int → zM → Prop) (c n : Nat) (s1 : Nat) (v2 : Int) (v3 : Int) (v4 : Int) (r6 : Nat) (M : zM) : Prop := AW l m_L_same (zTin m_L_same 4 808 c n P) 314 [(0, zr 8 0), (1, zr 64 s1), (2, zi v2), (3, zi v3), (4, zi v4), (6, zr 66 r6)] [] M
def LL_same_242 (l : Launch) (P : Int → zM → Prop) (c n : Nat) (s1 : Nat) (v2 : Int) (v3 : Int) (v4 : Int) (v6 : Int) (v7 : Int) (M : zM) : Prop := AW l m_L_same (zTin m_L_same 4 808 c n P) 242 [(0, zr 8 0), (1, zr 64 s1), (2, zi v2), (3, zi v3), (4, zi v4), (6, zi v6), (7, zi v7)] [] M
def LL_same_159 (l : Launch) (P : Int → zM → Prop) (c n : Nat) (s1 : Nat) (v2 : Int) (v3 : Int) (v4 : Int) (v6 : Int) (v7 : Int) (M : zM) : Prop := AW l m_L_same (zTin m_L_same 4 808 c n P) 159 [(0, zr 8 0), (1, zr 64 s1), (2, zi v2), (3, zi v3), (4, zi v4), (6, zi v6), (7, zi v7)] [] M
def LL_same_384 (l : Launch) (P : Int → zM → Prop) (c n : Nat) (s1 : Nat) (v3 : Int) (v4 : Int) (v5 : Int) (r6 : Nat) (v7 : Int) (M : zM) : Prop := AW l m_L_same (zTin m_L_same 4 808 c n P) 384 [(0, zr 8 0), (1, zr 64 s1), (3, zi v3), (4, zi v4), (5, zi v5), (6, zr 66 r6), (7, zi v7)] [] M
def LL_same_248 (l : Launch) (P : Int → zM → Prop) (c n : Nat) (s1 : Nat) (v2 : Int) (v3 : Int) (v4 : Int) (v5 : Int) (v6 : Int) (v7 : Int) (v8 : Int) (M : zM) : Prop := AW l m_L_same (zTin m_L_same 4 808 c n P) 248 [(0, zr 8 0), (1, zr 64 s1), (2, zi v2), (3, zi v3), (4, zi v4), (5, zi v5), (6, zi v6), (7, zi v7), (8, zi v8)] [] M
def LL_same_524 (l : Launch) (P : Int → zM → Prop) (c n : Nat) (s1 : Nat) (M : zM) : Prop := AW l m_L_same (zTin m_L_same 4 808 c n P) 524 [] [] M
def LL_same_419 (l : Launch) (P : Int → zM → Prop) (c n : Nat) (s1 : Nat) (v3 : Int) (v4 : Int) (r6 : Nat) (v7 : Int) (M : zM) : Prop := AW l m_L_same (zTin m_L_same 4 808 c n P) 419 [(0, zr 8 0), (1, zr 64 s1), (3, zi v3), (4, zi v4), (6, zr 66 r6), (7, zi v7)] [] M
def LL_same_288 (l : Launch) (P : Int → zM → Prop) (c n : Nat) (s1 : Nat) (v2 : Int) (v3 : Int) (v4 : Int) (v6 : Int) (v7 : Int) (v8 : Int) (M : zM) : Prop := AW l m_L_same (zTin m_L_same 4 808 c n P) 288 [(0, zr 8 0), (1, zr 64 s1), (2, zi v2), (3, zi v3), (4, zi v4), (6, zi v6), (7, zi v7), (8, zi v8)] [] M
theorem vL_same_58 {l : Launch} {P : Int → zM → Prop} {c n : Nat} {s1 : Nat} {v2 : Int} {v3 : Int} {v4 : Int} {M : zM}
    (H0 : LL_same_64 l P c n s1 v2 v3 v4 0 0 M) :
    LL_same_58 l P c n s1 v2 v3 v4 M :=
(aw_iconst d_L_same_58 rfl
(aw_istore (lv' := [(5, zi 0), (0, zr 8 0), (1, zr 64 s1), (2, zi v2), (3, zi v3), (4, zi v4)]) d_L_same_59 rfl (by decide) rfl
(aw_iconst d_L_same_61 rfl
(aw_istore (lv' := [(6, zi 0), (5, zi 0), (0, zr 8 0), (1, zr 64 s1), (2, zi v2), (3, zi v3), (4, zi v4)]) d_L_same_62 rfl (by decide) rfl
(aw_sub [2, 3, 4, 5, 6, 1, 0] rfl H0)))))
theorem vL_same_64 {l : Launch} {P : Int → zM → Prop} {c n : Nat} {s1 : Nat} {v2 : Int} {v3 : Int} {v4 : Int} {v5 : Int} {v6 : Int} {M : zM}
    (H0 : (zI v6 ∧ zI (M 64 s1 0) ∧ (((M 64 s1 0) ≤ v6 → LL_same_303 l P c n s1 v2 v3 v4 v5 M) ∧ (v6 < (M 64 s1 0) → (zI v5 ∧ ((v5 = 0 → LL_same_303 l P c n s1 v2 v3 v4 v5 M) ∧ (v5 ≠ 0 → ((0 ≤ M 64 s1 11 ∧ M 64 s1 11 < M 97 0 74) ∧ ∀ r54 : Nat, (r54 : Int) = M 64 s1 11 → ((0 ≤ v6 ∧ v6 < 21) ∧ (0 ≤ M 74 r54 v6 ∧ M 74 r54 v6 < M 97 0 75) ∧ ∀ r58 : Nat, (r58 : Int) = M 74 r54 v6 → (0 ≤ M 75 r58 (-1) ∧ ((0 ≤ M 64 s1 9 ∧ M 64 s1 9 < M 97 0 72) ∧ ∀ r63 : Nat, (r63 : Int) = M 64 s1 9 → (zI v4 ∧ ((v4 < 0 → LL_same_134 l P c n s1 (v2 + (M 75 r58 (-1))) (v3 + (M 72 r63 v6)) v6 v6 (M 75 r58 (-1)) M) ∧ (0 ≤ v4 → ((0 ≤ v4 ∧ v4 < 21) ∧ (zI (M 72 r63 v6) ∧ zI (M 72 r63 v4) ∧ (((M 72 r63 v6) ≤ (M 72 r63 v4) → LL_same_134 l P c n s1 (v2 + (M 75 r58 (-1))) (v3 + (M 72 r63 v6)) v4 v6 (M 75 r58 (-1)) M) ∧ ((M 72 r63 v4) < (M 72 r63 v6) → LL_same_134 l P c n s1 (v2 + (M 75 r58 (-1))) (v3 + (M 72 r63 v6)) v6 v6 (M 75 r58 (-1)) M)))))))))))))))))) :
    LL_same_64 l P c n s1 v2 v3 v4 v5 v6 M :=
(aw_iload d_L_same_64 rfl 6 rfl
(aw_aload_n d_L_same_66 rfl rfl 1 rfl (by decide)
(aw_getI (kc := 0) d_L_same_67 rfl flL_80 rfl rfl
(have z40 := H0.1; have z41 := H0.2.1; have e42 := H0.2.2; aw_icmp_ge d_L_same_70 rfl rfl z40 z41 (fun c43 => have e45 := e42.1 c43; (aw_sub [0, 1, 2, 3, 4, 5] rfl e45)) (fun c44 => have e46 := e42.2 c44; (aw_iload d_L_same_73 rfl 5 rfl
(have z47 := e46.1; have e48 := e46.2; aw_if_eq d_L_same_75 rfl rfl z47 (fun c49 => have e51 := e48.1 c49; (aw_sub [0, 1, 2, 3, 4, 5] rfl e51)) (fun c50 => have e52 := e48.2 c50; (aw_aload_n d_L_same_78 rfl rfl 1 rfl (by decide)
(have z53 := e52.1; aw_getE (kc := 11) d_L_same_79 rfl flL_64 rfl rfl (by decide) z53
(fun r54 hqr54 => (have e55 := e52.2 r54 hqr54; (aw_iload d_L_same_82 rfl 6 rfl
(have z56 := e55.1; have z57 := e55.2.1; aw_rale d_L_same_84 rfl zd74.G (by decide) (zix_s z56) z57
(fun r58 hqr58 => (have e59 := e55.2.2 r58 hqr58; (have z60 := e59.1; aw_alenD d_L_same_85 rfl (by decide) z60
(have e61 := e59.2; (aw_istore (lv' := [(7, zi (M 75 r58 (-1))), (0, zr 8 0), (1, zr 64 s1), (2, zi v2), (3, zi v3), (4, zi v4), (5, zi v5), (6, zi v6)]) d_L_same_86 rfl (by decide) rfl
(aw_iload_n d_L_same_88 rfl rfl 3 rfl
(aw_iload d_L_same_89 rfl 0 rfl
(aw_iadd d_L_same_91 rfl
(aw_istore_n (lv' := [(2, zi (v2 + (M 75 r58 (-1)))), (7, zi (M 75 r58 (-1))), (0, zr 8 0), (1, zr 64 s1), (3, zi v3), (4, zi v4), (5, zi v5), (6, zi v6)]) d_L_same_92 rfl rfl (by decide) rfl
(aw_iload_n d_L_same_93 rfl rfl 4 rfl
(aw_aload_n d_L_same_94 rfl rfl 3 rfl (by decide)
(have z62 := e61.1; aw_getE (kc := 9) d_L_same_95 rfl flL_86 rfl rfl (by decide) z62
(fun r63 hqr63 => (have e64 := e61.2 r63 hqr63; (aw_iload d_L_same_98 rfl 7 rfl
(aw_ialdG d_L_same_100 rfl zd72.G (zix_s z56)
(aw_iadd d_L_same_101 rfl
(aw_istore_n (lv' := [(3, zi (v3 + (M 72 r63 v6))), (2, zi (v2 + (M 75 r58 (-1)))), (7, zi (M 75 r58 (-1))), (0, zr 8 0), (1, zr 64 s1), (4, zi v4), (5, zi v5), (6, zi v6)]) d_L_same_102 rfl rfl (by decide) rfl
(aw_iload d_L_same_103 rfl 5 rfl
(have z65 := e64.1; have e66 := e64.2; aw_if_lt d_L_same_105 rfl rfl z65 (fun c67 => have e69 := e66.1 c67; (aw_iload d_L_same_125 rfl 7 rfl
(aw_goto d_L_same_127 rfl
(aw_istore (lv' := [(4, zi v6), (3, zi (v3 + (M 72 r63 v6))), (2, zi (v2 + (M 75 r58 (-1)))), (7, zi (M 75 r58 (-1))), (0, zr 8 0), (1, zr 64 s1), (5, zi v5), (6, zi v6)]) d_L_same_132 rfl (by decide) rfl
(aw_sub [4, 5, 2, 1, 0, 7, 3] rfl e69))))) (fun c68 => have e70 := e66.2 c68; (aw_aload_n d_L_same_108 rfl rfl 4 rfl (by decide)
(aw_getEq (kc := 9) (r := r63) d_L_same_109 rfl flL_86 rfl rfl (by decide) z62 hqr63
(aw_iload d_L_same_112 rfl 7 rfl
(aw_ialdG d_L_same_114 rfl zd72.G (zix_s z56)
(aw_aload_n d_L_same_115 rfl rfl 4 rfl (by decide)
(aw_getEq (kc := 9) (r := r63) d_L_same_116 rfl flL_86 rfl rfl (by decide) z62 hqr63
(aw_iload d_L_same_119 rfl 5 rfl
(have z71 := e70.1; aw_ialdG d_L_same_121 rfl zd72.G (zix_s z71)
(have e72 := e70.2; (have z73 := e72.1; have z74 := e72.2.1; have e75 := e72.2.2; aw_icmp_le d_L_same_122 rfl rfl z73 z74 (fun c76 => have e78 := e75.1 c76; (aw_iload d_L_same_130 rfl 5 rfl
(aw_istore (lv' := [(4, zi v4), (3, zi (v3 + (M 72 r63 v6))), (2, zi (v2 + (M 75 r58 (-1)))), (7, zi (M 75 r58 (-1))), (0, zr 8 0), (1, zr 64 s1), (5, zi v5), (6, zi v6)]) d_L_same_132 rfl (by decide) rfl
(aw_sub [4, 5, 2, 1, 0, 7, 3] rfl e78)))) (fun c77 => have e79 := e75.2 c77; (aw_iload d_L_same_125 rfl 7 rfl
(aw_goto d_L_same_127 rfl
(aw_istore (lv' := [(4, zi v6), (3, zi (v3 + (M 72 r63 v6))), (2, zi (v2 + (M 75 r58 (-1)))), (7, zi (M 75 r58 (-1))), (0, zr 8 0), (1, zr 64 s1), (5, zi v5), (6, zi v6)]) d_L_same_132 rfl (by decide) rfl
(aw_sub [4, 5, 2, 1, 0, 7, 3] rfl e79))))))))))))))))))))))))))))))))))))))))))))))))))
theorem vL_same_303 {l : Launch} {P : Int → zM → Prop} {c n : Nat} {s1 : Nat} {v2 : Int} {v3 : Int} {v4 : Int} {v5 : Int} {M : zM}
    (H0 : (((c + 4) ≤ 4 ∧ (n + 808) ≤ 808) ∧ (CRn l m_X9_told 66 4 808 [zr 64 s1] M (fun (x84 : Nat) M81 => (zI v5 ∧ ((v5 = 0 → LL_same_378 l P (c + 4) (n + 808) s1 v3 v4 x84 M81) ∧ (v5 ≠ 0 → LL_same_314 l P (c + 4) (n + 808) s1 v2 v3 v4 x84 M81))))))) :
    LL_same_303 l P c n s1 v2 v3 v4 v5 M :=
(aw_aload_n d_L_same_303 rfl rfl 1 rfl (by decide)
(have z80 := H0.1; have e82 := H0.2; aw_VRn (As := []) (st := []) d_L_same_304 rfl cvL_99 ⟨Nat.le_of_ble_eq_true rfl, Nat.le_of_ble_eq_true rfl⟩ z80 rfl rfl (Nat.le_of_ble_eq_true rfl) (Nat.le_of_ble_eq_true rfl) e82 (fun x84 M81 e83 => (aw_astore (lv' := [(6, zr 66 x84), (0, zr 8 0), (1, zr 64 s1), (2, zi v2), (3, zi v3), (4, zi v4), (5, zi v5)]) (by decide) d_L_same_307 rfl (by decide) rfl
(aw_iload d_L_same_309 rfl 6 rfl
(have z85 := e83.1; have e86 := e83.2; aw_if_eq d_L_same_311 rfl rfl z85 (fun c87 => have e89 := e86.1 c87; (aw_sub [1, 2, 4, 5, 0] rfl e89)) (fun c88 => have e90 := e86.2 c88; (aw_sub [1, 2, 3, 4, 5, 0] rfl e90))))))))
theorem vL_same_134 {l : Launch} {P : Int → zM → Prop} {c n : Nat} {s1 : Nat} {v2 : Int} {v3 : Int} {v4 : Int} {v6 : Int} {v7 : Int} {M : zM}
    (H0 : (CI l m_X8_trader [zr 8 0, zi v6, zi 0] M (fun x93 M91 => ((0 ≤ M91 64 s1 7 ∧ M91 64 s1 7 < M91 97 0 70) ∧ ∀ r95 : Nat, (r95 : Int) = M91 64 s1 7 → ((0 ≤ v6 ∧ v6 < 21) ∧ (zI (M91 70 r95 v6) ∧ (((M91 70 r95 v6) = 0 → (zI x93 ∧ ((x93 ≠ 0 → LL_same_242 l P c n s1 v2 v3 v4 v6 v7 M91) ∧ (x93 = 0 → LL_same_159 l P c n s1 v2 v3 v4 v6 v7 M91)))) ∧ ((M91 70 r95 v6) ≠ 0 → (zI x93 ∧ ((x93 ≠ 1 → LL_same_242 l P c n s1 v2 v3 v4 v6 v7 M91) ∧ (x93 = 1 → LL_same_159 l P c n s1 v2 v3 v4 v6 v7 M91))))))))))) :
    LL_same_134 l P c n s1 v2 v3 v4 v6 v7 M :=
(aw_aload_n d_L_same_134 rfl rfl 0 rfl (by decide)
(aw_iload d_L_same_135 rfl 5 rfl
(aw_iconst d_L_same_137 rfl
(aw_VI (As := [zi v6, zi 0]) (st := []) d_L_same_138 rfl cvL_89 ⟨Nat.le_of_ble_eq_true rfl, Nat.le_of_ble_eq_true rfl⟩ rfl rfl (Nat.le_of_ble_eq_true rfl) (Nat.le_of_ble_eq_true rfl) H0 (fun x93 M91 e92 => (aw_aload_n d_L_same_141 rfl rfl 1 rfl (by decide)
(have z94 := e92.1; aw_getE (kc := 7) d_L_same_142 rfl flL_50 rfl rfl (by decide) z94
(fun r95 hqr95 => (have e96 := e92.2 r95 hqr95; (aw_iload d_L_same_145 rfl 5 rfl
(have z97 := e96.1; aw_zaldG d_L_same_147 rfl zd70.G (zix_s z97)
(have e98 := e96.2; (have z99 := e98.1; have e100 := e98.2; aw_if_eq d_L_same_148 rfl rfl z99 (fun c101 => have e103 := e100.1 c101; (aw_iconst d_L_same_155 rfl
(have z105 := e103.1; have e106 := e103.2; aw_icmp_ne d_L_same_156 rfl rfl z105 (by decide) (fun c107 => have e109 := e106.1 c107; e109) (fun c108 => have e110 := e106.2 c108; e110)))) (fun c102 => have e104 := e100.2 c102; (aw_iconst d_L_same_151 rfl
(aw_goto d_L_same_152 rfl
(have z111 := e104.1; have e112 := e104.2; aw_icmp_ne d_L_same_156 rfl rfl z111 (by decide) (fun c113 => have e115 := e112.1 c113; e115) (fun c114 => have e116 := e112.2 c114; e116))))))))))))))))))
theorem vL_same_378 {l : Launch} {P : Int → zM → Prop} {c n : Nat} {s1 : Nat} {v3 : Int} {v4 : Int} {r6 : Nat} {M : zM}
    (H0 : LL_same_384 l P c n s1 v3 v4 0 r6 0 M) :
    LL_same_378 l P c n s1 v3 v4 r6 M :=
(aw_iconst d_L_same_378 rfl
(aw_istore (lv' := [(5, zi 0), (0, zr 8 0), (1, zr 64 s1), (3, zi v3), (4, zi v4), (6, zr 66 r6)]) d_L_same_379 rfl (by decide) rfl
(aw_iconst d_L_same_381 rfl
(aw_istore (lv' := [(7, zi 0), (5, zi 0), (0, zr 8 0), (1, zr 64 s1), (3, zi v3), (4, zi v4), (6, zr 66 r6)]) d_L_same_382 rfl (by decide) rfl
(aw_sub [2, 3, 4, 5, 1, 6, 0] rfl H0)))))
theorem vL_same_314 {l : Launch} {P : Int → zM → Prop} {c n : Nat} {s1 : Nat} {v2 : Int} {v3 : Int} {v4 : Int} {r6 : Nat} {M : zM}
    (H0 : (CI l m_X8_count [zr 8 0, zi 1] M (fun x119 M117 => (zI x119 ∧ zI v2 ∧ ((x119 ≠ v2 → LL_same_378 l P c n s1 v3 v4 r6 M117) ∧ (x119 = v2 → (CI l m_X8_trader [zr 8 0, zi (M117 64 s1 0), zi 0] M117 (fun x129 M127 => (zI x129 ∧ ((x129 ≠ (-2147483648) → LL_same_378 l P c n s1 v3 v4 r6 M127) ∧ (x129 = (-2147483648) → (CI l m_X8_letter [zr 8 0, zi (-1)] M127 (fun x138 M136 => (stW M136 r6 ∧ (zI x138 ∧ zI (stN M136 r6) ∧ ((x138 ≠ (stN M136 r6) → LL_same_378 l P c n s1 v3 v4 r6 M136) ∧ (x138 = (stN M136 r6) → (CI l m_X8_letter [zr 8 0, zi (stN M136 r6)] M136 (fun x150 M148 => (zI x150 ∧ ((x150 ≠ (-2) → LL_same_378 l P c n s1 v3 v4 r6 M148) ∧ (x150 = (-2) → (CI l m_X8_letter [zr 8 0, zi (-2)] M148 (fun x159 M157 => (zI x159 ∧ ((x159 ≠ (-1) → LL_same_378 l P c n s1 v3 v4 r6 M157) ∧ (x159 = (-1) → LL_same_384 l P c n s1 v3 v4 1 r6 0 M157))))))))))))))))))))))))))) :
    LL_same_314 l P c n s1 v2 v3 v4 r6 M :=
(aw_aload_n d_L_same_314 rfl rfl 0 rfl (by decide)
(aw_iconst d_L_same_315 rfl
(aw_VI (As := [zi 1]) (st := []) d_L_same_316 rfl cvL_83 ⟨Nat.le_of_ble_eq_true rfl, Nat.le_of_ble_eq_true rfl⟩ rfl rfl (Nat.le_of_ble_eq_true rfl) (Nat.le_of_ble_eq_true rfl) H0 (fun x119 M117 e118 => (aw_iload_n d_L_same_319 rfl rfl 2 rfl
(have z120 := e118.1; have z121 := e118.2.1; have e122 := e118.2.2; aw_icmp_ne d_L_same_320 rfl rfl z120 z121 (fun c123 => have e125 := e122.1 c123; (aw_sub [0, 1, 3, 4, 5] rfl e125)) (fun c124 => have e126 := e122.2 c124; (aw_aload_n d_L_same_323 rfl rfl 0 rfl (by decide)
(aw_aload_n d_L_same_324 rfl rfl 1 rfl (by decide)
(aw_getI (kc := 0) d_L_same_325 rfl flL_80 rfl rfl
(aw_iconst d_L_same_328 rfl
(aw_VI (As := [zi (M117 64 s1 0), zi 0]) (st := []) d_L_same_329 rfl cvL_89 ⟨Nat.le_of_ble_eq_true rfl, Nat.le_of_ble_eq_true rfl⟩ rfl rfl (Nat.le_of_ble_eq_true rfl) (Nat.le_of_ble_eq_true rfl) e126 (fun x129 M127 e128 => (aw_ldc d_L_same_332 rfl ciL_98
(have z130 := e128.1; have e131 := e128.2; aw_icmp_ne d_L_same_334 rfl rfl z130 (by decide) (fun c132 => have e134 := e131.1 c132; (aw_sub [0, 1, 3, 4, 5] rfl e134)) (fun c133 => have e135 := e131.2 c133; (aw_aload_n d_L_same_337 rfl rfl 0 rfl (by decide)
(aw_iconst d_L_same_338 rfl
(aw_VI (As := [zi (-1)]) (st := []) d_L_same_339 rfl cvL_103 ⟨Nat.le_of_ble_eq_true rfl, Nat.le_of_ble_eq_true rfl⟩ rfl rfl (Nat.le_of_ble_eq_true rfl) (Nat.le_of_ble_eq_true rfl) e135 (fun x138 M136 e137 => (aw_aload d_L_same_342 rfl 5 rfl (by decide)
(have z139 := e137.1; aw_VI (As := []) (st := [zi x138]) d_L_same_344 rfl cvL_106 ⟨Nat.le_of_ble_eq_true rfl, Nat.le_of_ble_eq_true rfl⟩ rfl rfl (Nat.le_of_ble_eq_true rfl) (Nat.le_of_ble_eq_true rfl) (s_J0_length_8abf5m z139) (fun _ _ hq => aw_eqs hq
(have e140 := e137.2; (have z141 := e140.1; have z142 := e140.2.1; have e143 := e140.2.2; aw_icmp_ne d_L_same_347 rfl rfl z141 z142 (fun c144 => have e146 := e143.1 c144; (aw_sub [0, 1, 3, 4, 5] rfl e146)) (fun c145 => have e147 := e143.2 c145; (aw_aload_n d_L_same_350 rfl rfl 0 rfl (by decide)
(aw_aload d_L_same_351 rfl 5 rfl (by decide)
(aw_VI (As := []) (st := [zr 8 0]) d_L_same_353 rfl cvL_106 ⟨Nat.le_of_ble_eq_true rfl, Nat.le_of_ble_eq_true rfl⟩ rfl rfl (Nat.le_of_ble_eq_true rfl) (Nat.le_of_ble_eq_true rfl) (s_J0_length_8abf5m z139) (fun _ _ hq => aw_eqs hq
(aw_VI (As := [zi (stN M136 r6)]) (st := []) d_L_same_356 rfl cvL_103 ⟨Nat.le_of_ble_eq_true rfl, Nat.le_of_ble_eq_true rfl⟩ rfl rfl (Nat.le_of_ble_eq_true rfl) (Nat.le_of_ble_eq_true rfl) e147 (fun x150 M148 e149 => (aw_bipush d_L_same_359 rfl (by decide)
(have z151 := e149.1; have e152 := e149.2; aw_icmp_ne d_L_same_361 rfl rfl z151 (by decide) (fun c153 => have e155 := e152.1 c153; (aw_sub [0, 1, 3, 4, 5] rfl e155)) (fun c154 => have e156 := e152.2 c154; (aw_aload_n d_L_same_364 rfl rfl 0 rfl (by decide)
(aw_bipush d_L_same_365 rfl (by decide)
(aw_VI (As := [zi (-2)]) (st := []) d_L_same_367 rfl cvL_103 ⟨Nat.le_of_ble_eq_true rfl, Nat.le_of_ble_eq_true rfl⟩ rfl rfl (Nat.le_of_ble_eq_true rfl) (Nat.le_of_ble_eq_true rfl) e156 (fun x159 M157 e158 => (aw_iconst d_L_same_370 rfl
(have z160 := e158.1; have e161 := e158.2; aw_icmp_ne d_L_same_371 rfl rfl z160 (by decide) (fun c162 => have e164 := e161.1 c162; (aw_sub [0, 1, 3, 4, 5] rfl e164)) (fun c163 => have e165 := e161.2 c163; (aw_iconst d_L_same_374 rfl
(aw_goto d_L_same_375 rfl
(aw_istore (lv' := [(5, zi 1), (0, zr 8 0), (1, zr 64 s1), (2, zi v2), (3, zi v3), (4, zi v4), (6, zr 66 r6)]) d_L_same_379 rfl (by decide) rfl
(aw_iconst d_L_same_381 rfl
(aw_istore (lv' := [(7, zi 0), (5, zi 1), (0, zr 8 0), (1, zr 64 s1), (2, zi v2), (3, zi v3), (4, zi v4), (6, zr 66 r6)]) d_L_same_382 rfl (by decide) rfl
(aw_sub [2, 3, 5, 6, 1, 7, 0] rfl e165))))))))))))))))))))))))))))))))))))))))))))))))
theorem vL_same_242 {l : Launch} {P : Int → zM → Prop} {c n : Nat} {s1 : Nat} {v2 : Int} {v3 : Int} {v4 : Int} {v6 : Int} {v7 : Int} {M : zM}
    (H0 : LL_same_248 l P c n s1 v2 v3 v4 0 v6 v7 0 M) :
    LL_same_242 l P c n s1 v2 v3 v4 v6 v7 M :=
(aw_iconst d_L_same_242 rfl
(aw_istore (lv' := [(5, zi 0), (0, zr 8 0), (1, zr 64 s1), (2, zi v2), (3, zi v3), (4, zi v4), (6, zi v6), (7, zi v7)]) d_L_same_243 rfl (by decide) rfl
(aw_iconst d_L_same_245 rfl
(aw_istore (lv' := [(8, zi 0), (5, zi 0), (0, zr 8 0), (1, zr 64 s1), (2, zi v2), (3, zi v3), (4, zi v4), (6, zi v6), (7, zi v7)]) d_L_same_246 rfl (by decide) rfl
(aw_sub [2, 3, 4, 5, 6, 1, 7, 8, 0] rfl H0)))))
theorem vL_same_159 {l : Launch} {P : Int → zM → Prop} {c n : Nat} {s1 : Nat} {v2 : Int} {v3 : Int} {v4 : Int} {v6 : Int} {v7 : Int} {M : zM}
    (H0 : (CI l m_X8_trader [zr 8 0, zi v6, zi 1] M (fun x168 M166 => ((0 ≤ M166 64 s1 8 ∧ M166 64 s1 8 < M166 97 0 71) ∧ ∀ r170 : Nat, (r170 : Int) = M166 64 s1 8 → ((0 ≤ v6 ∧ v6 < 21) ∧ (zI x168 ∧ zI (M166 71 r170 v6) ∧ ((x168 ≠ (M166 71 r170 v6) → LL_same_242 l P c n s1 v2 v3 v4 v6 v7 M166) ∧ (x168 = (M166 71 r170 v6) → (CI l m_X8_trader [zr 8 0, zi v6, zi 2] M166 (fun x183 M181 => (zI x183 ∧ zI v7 ∧ ((x183 ≠ v7 → LL_same_242 l P c n s1 v2 v3 v4 v6 v7 M181) ∧ (x183 = v7 → (CI l m_X8_trader [zr 8 0, zi v6, zi 3] M181 (fun x193 M191 => ((0 ≤ M191 64 s1 9 ∧ M191 64 s1 9 < M191 97 0 72) ∧ ∀ r195 : Nat, (r195 : Int) = M191 64 s1 9 → (zI x193 ∧ zI (M191 72 r195 v6) ∧ ((x193 ≠ (M191 72 r195 v6) → LL_same_242 l P c n s1 v2 v3 v4 v6 v7 M191) ∧ (x193 = (M191 72 r195 v6) → (CI l m_X8_trader [zr 8 0, zi v6, zi 5] M191 (fun x206 M204 => ((0 ≤ M204 64 s1 10 ∧ M204 64 s1 10 < M204 97 0 73) ∧ ∀ r208 : Nat, (r208 : Int) = M204 64 s1 10 → (zI x206 ∧ zI (M204 73 r208 v6) ∧ ((x206 ≠ (M204 73 r208 v6) → LL_same_242 l P c n s1 v2 v3 v4 v6 v7 M204) ∧ (x206 = (M204 73 r208 v6) → (CI l m_X8_trader [zr 8 0, zi v6, zi (10 + v7)] M204 (fun x219 M217 => (zI x219 ∧ ((x219 ≠ (-2147483648) → LL_same_242 l P c n s1 v2 v3 v4 v6 v7 M217) ∧ (x219 = (-2147483648) → LL_same_248 l P c n s1 v2 v3 v4 1 v6 v7 0 M217)))))))))))))))))))))))))))))) :
    LL_same_159 l P c n s1 v2 v3 v4 v6 v7 M :=
(aw_aload_n d_L_same_159 rfl rfl 0 rfl (by decide)
(aw_iload d_L_same_160 rfl 5 rfl
(aw_iconst d_L_same_162 rfl
(aw_VI (As := [zi v6, zi 1]) (st := []) d_L_same_163 rfl cvL_89 ⟨Nat.le_of_ble_eq_true rfl, Nat.le_of_ble_eq_true rfl⟩ rfl rfl (Nat.le_of_ble_eq_true rfl) (Nat.le_of_ble_eq_true rfl) H0 (fun x168 M166 e167 => (aw_aload_n d_L_same_166 rfl rfl 1 rfl (by decide)
(have z169 := e167.1; aw_getE (kc := 8) d_L_same_167 rfl flL_30 rfl rfl (by decide) z169
(fun r170 hqr170 => (have e171 := e167.2 r170 hqr170; (aw_iload d_L_same_170 rfl 5 rfl
(have z172 := e171.1; aw_ialdG d_L_same_172 rfl zd71.G (zix_s z172)
(have e173 := e171.2; (have z174 := e173.1; have z175 := e173.2.1; have e176 := e173.2.2; aw_icmp_ne d_L_same_173 rfl rfl z174 z175 (fun c177 => have e179 := e176.1 c177; e179) (fun c178 => have e180 := e176.2 c178; (aw_aload_n d_L_same_176 rfl rfl 0 rfl (by decide)
(aw_iload d_L_same_177 rfl 5 rfl
(aw_iconst d_L_same_179 rfl
(aw_VI (As := [zi v6, zi 2]) (st := []) d_L_same_180 rfl cvL_89 ⟨Nat.le_of_ble_eq_true rfl, Nat.le_of_ble_eq_true rfl⟩ rfl rfl (Nat.le_of_ble_eq_true rfl) (Nat.le_of_ble_eq_true rfl) e180 (fun x183 M181 e182 => (aw_iload d_L_same_183 rfl 6 rfl
(have z184 := e182.1; have z185 := e182.2.1; have e186 := e182.2.2; aw_icmp_ne d_L_same_185 rfl rfl z184 z185 (fun c187 => have e189 := e186.1 c187; e189) (fun c188 => have e190 := e186.2 c188; (aw_aload_n d_L_same_188 rfl rfl 0 rfl (by decide)
(aw_iload d_L_same_189 rfl 5 rfl
(aw_iconst d_L_same_191 rfl
(aw_VI (As := [zi v6, zi 3]) (st := []) d_L_same_192 rfl cvL_89 ⟨Nat.le_of_ble_eq_true rfl, Nat.le_of_ble_eq_true rfl⟩ rfl rfl (Nat.le_of_ble_eq_true rfl) (Nat.le_of_ble_eq_true rfl) e190 (fun x193 M191 e192 => (aw_aload_n d_L_same_195 rfl rfl 1 rfl (by decide)
(have z194 := e192.1; aw_getE (kc := 9) d_L_same_196 rfl flL_86 rfl rfl (by decide) z194
(fun r195 hqr195 => (have e196 := e192.2 r195 hqr195; (aw_iload d_L_same_199 rfl 5 rfl
(aw_ialdG d_L_same_201 rfl zd72.G (zix_s z172)
(have z197 := e196.1; have z198 := e196.2.1; have e199 := e196.2.2; aw_icmp_ne d_L_same_202 rfl rfl z197 z198 (fun c200 => have e202 := e199.1 c200; e202) (fun c201 => have e203 := e199.2 c201; (aw_aload_n d_L_same_205 rfl rfl 0 rfl (by decide)
(aw_iload d_L_same_206 rfl 5 rfl
(aw_iconst d_L_same_208 rfl
(aw_VI (As := [zi v6, zi 5]) (st := []) d_L_same_209 rfl cvL_89 ⟨Nat.le_of_ble_eq_true rfl, Nat.le_of_ble_eq_true rfl⟩ rfl rfl (Nat.le_of_ble_eq_true rfl) (Nat.le_of_ble_eq_true rfl) e203 (fun x206 M204 e205 => (aw_aload_n d_L_same_212 rfl rfl 1 rfl (by decide)
(have z207 := e205.1; aw_getE (kc := 10) d_L_same_213 rfl flL_93 rfl rfl (by decide) z207
(fun r208 hqr208 => (have e209 := e205.2 r208 hqr208; (aw_iload d_L_same_216 rfl 5 rfl
(aw_ialdG d_L_same_218 rfl zd73.G (zix_s z172)
(have z210 := e209.1; have z211 := e209.2.1; have e212 := e209.2.2; aw_icmp_ne d_L_same_219 rfl rfl z210 z211 (fun c213 => have e215 := e212.1 c213; e215) (fun c214 => have e216 := e212.2 c214; (aw_aload_n d_L_same_222 rfl rfl 0 rfl (by decide)
(aw_iload d_L_same_223 rfl 5 rfl
(aw_bipush d_L_same_225 rfl (by decide)
(aw_iload d_L_same_227 rfl 6 rfl
(aw_iadd d_L_same_229 rfl
(aw_VI (As := [zi v6, zi (10 + v7)]) (st := []) d_L_same_230 rfl cvL_89 ⟨Nat.le_of_ble_eq_true rfl, Nat.le_of_ble_eq_true rfl⟩ rfl rfl (Nat.le_of_ble_eq_true rfl) (Nat.le_of_ble_eq_true rfl) e216 (fun x219 M217 e218 => (aw_ldc d_L_same_233 rfl ciL_98
(have z220 := e218.1; have e221 := e218.2; aw_icmp_ne d_L_same_235 rfl rfl z220 (by decide) (fun c222 => have e224 := e221.1 c222; e224) (fun c223 => have e225 := e221.2 c223; (aw_iconst d_L_same_238 rfl
(aw_goto d_L_same_239 rfl
(aw_istore (lv' := [(5, zi 1), (0, zr 8 0), (1, zr 64 s1), (2, zi v2), (3, zi v3), (4, zi v4), (6, zi v6), (7, zi v7)]) d_L_same_243 rfl (by decide) rfl
(aw_iconst d_L_same_245 rfl
(aw_istore (lv' := [(8, zi 0), (5, zi 1), (0, zr 8 0), (1, zr 64 s1), (2, zi v2), (3, zi v3), (4, zi v4), (6, zi v6), (7, zi v7)]) d_L_same_246 rfl (by decide) rfl
(aw_sub [2, 3, 4, 5, 6, 1, 7, 8, 0] rfl e225))))))))))))))))))))))))))))))))))))))))))))))))))))))))))))))))
theorem vL_same_384 {l : Launch} {P : Int → zM → Prop} {c n : Nat} {s1 : Nat} {v3 : Int} {v4 : Int} {v5 : Int} {r6 : Nat} {v7 : Int} {M : zM}
    (H0 : (stW M r6 ∧ (zI v7 ∧ zI (stN M r6) ∧ (((stN M r6) ≤ v7 → (zI v5 ∧ ((v5 = 0 → LL_same_524 l P c n s1 M) ∧ (v5 ≠ 0 → (CI l m_X8_audit [zr 8 0, zi 0] M (fun x243 M241 => (zI x243 ∧ zI (M241 64 s1 3) ∧ ((x243 ≠ (M241 64 s1 3) → LL_same_524 l P c n s1 M241) ∧ (x243 = (M241 64 s1 3) → (CI l m_X8_audit [zr 8 0, zi 1] M241 (fun x253 M251 => (zI x253 ∧ zI v3 ∧ ((x253 ≠ v3 → LL_same_524 l P c n s1 M251) ∧ (x253 = v3 → (zI (v3 + (M251 64 s1 3)) ∧ (((v3 + (M251 64 s1 3)) ≠ 0 → LL_same_524 l P c n s1 M251) ∧ ((v3 + (M251 64 s1 3)) = 0 → (CI l m_X8_audit [zr 8 0, zi 2] M251 (fun x269 M267 => (zI x269 ∧ zI (M267 64 s1 4) ∧ ((x269 ≠ (M267 64 s1 4) → LL_same_524 l P c n s1 M267) ∧ (x269 = (M267 64 s1 4) → (CI l m_X8_audit [zr 8 0, zi 3] M267 (fun x279 M277 => (zI x279 ∧ zI v4 ∧ ((x279 ≠ v4 → LL_same_524 l P c n s1 M277) ∧ (x279 = v4 → (CI l m_X8_audit [zr 8 0, zi 4] M277 (fun x289 M287 => (zI x289 ∧ zI (M287 64 s1 6) ∧ ((x289 ≠ (M287 64 s1 6) → LL_same_524 l P c n s1 M287) ∧ (x289 = (M287 64 s1 6) → (CI l m_X8_audit [zr 8 0, zi 5] M287 (fun x299 M297 => (zI x299 ∧ zI (M297 64 s1 5) ∧ ((x299 ≠ (M297 64 s1 5) → LL_same_524 l P c n s1 M297) ∧ (x299 = (M297 64 s1 5) → (CI l m_X8_audit [zr 8 0, zi 6] M297 (fun x309 M307 => (zI x309 ∧ ((x309 ≠ (-2147483648) → LL_same_524 l P c n s1 M307) ∧ (x309 = (-2147483648) → P 1 M307)))))))))))))))))))))))))))))))))))))))))) ∧ (v7 < (stN M r6) → (zI v5 ∧ ((v5 = 0 → LL_same_524 l P c n s1 M) ∧ (v5 ≠ 0 → (CI l m_X8_letter [zr 8 0, zi v7] M (fun x325 M323 => ((stW M323 r6 ∧ 0 ≤ v7 ∧ v7 < stN M323 r6) ∧ (zI x325 ∧ zI (stB M323 r6 v7) ∧ ((x325 ≠ (stB M323 r6 v7) → LL_same_419 l P c n s1 v3 v4 r6 v7 M323) ∧ (x325 = (stB M323 r6 v7) → LL_same_384 l P c n s1 v3 v4 1 r6 (v7 + 1) M323)))))))))))))) :
    LL_same_384 l P c n s1 v3 v4 v5 r6 v7 M :=
(aw_iload d_L_same_384 rfl 6 rfl
(aw_aload d_L_same_386 rfl 5 rfl (by decide)
(have z226 := H0.1; aw_VI (As := []) (st := [zi v7]) d_L_same_388 rfl cvL_106 ⟨Nat.le_of_ble_eq_true rfl, Nat.le_of_ble_eq_true rfl⟩ rfl rfl (Nat.le_of_ble_eq_true rfl) (Nat.le_of_ble_eq_true rfl) (s_J0_length_8abf5m z226) (fun _ _ hq => aw_eqs hq
(have e227 := H0.2; (have z228 := e227.1; have z229 := e227.2.1; have e230 := e227.2.2; aw_icmp_ge d_L_same_391 rfl rfl z228 z229 (fun c231 => have e233 := e230.1 c231; (aw_iload d_L_same_428 rfl 4 rfl
(have z235 := e233.1; have e236 := e233.2; aw_if_eq d_L_same_430 rfl rfl z235 (fun c237 => have e239 := e236.1 c237; (aw_sub [] rfl e239)) (fun c238 => have e240 := e236.2 c238; (aw_aload_n d_L_same_433 rfl rfl 0 rfl (by decide)
(aw_iconst d_L_same_434 rfl
(aw_VI (As := [zi 0]) (st := []) d_L_same_435 rfl cvL_110 ⟨Nat.le_of_ble_eq_true rfl, Nat.le_of_ble_eq_true rfl⟩ rfl rfl (Nat.le_of_ble_eq_true rfl) (Nat.le_of_ble_eq_true rfl) e240 (fun x243 M241 e242 => (aw_aload_n d_L_same_438 rfl rfl 1 rfl (by decide)
(aw_getI (kc := 3) d_L_same_439 rfl flL_113 rfl rfl
(have z244 := e242.1; have z245 := e242.2.1; have e246 := e242.2.2; aw_icmp_ne d_L_same_442 rfl rfl z244 z245 (fun c247 => have e249 := e246.1 c247; (aw_sub [] rfl e249)) (fun c248 => have e250 := e246.2 c248; (aw_aload_n d_L_same_445 rfl rfl 0 rfl (by decide)
(aw_iconst d_L_same_446 rfl
(aw_VI (As := [zi 1]) (st := []) d_L_same_447 rfl cvL_110 ⟨Nat.le_of_ble_eq_true rfl, Nat.le_of_ble_eq_true rfl⟩ rfl rfl (Nat.le_of_ble_eq_true rfl) (Nat.le_of_ble_eq_true rfl) e250 (fun x253 M251 e252 => (aw_iload_n d_L_same_450 rfl rfl 2 rfl
(have z254 := e252.1; have z255 := e252.2.1; have e256 := e252.2.2; aw_icmp_ne d_L_same_451 rfl rfl z254 z255 (fun c257 => have e259 := e256.1 c257; (aw_sub [] rfl e259)) (fun c258 => have e260 := e256.2 c258; (aw_iload_n d_L_same_454 rfl rfl 2 rfl
(aw_aload_n d_L_same_455 rfl rfl 1 rfl (by decide)
(aw_getI (kc := 3) d_L_same_456 rfl flL_113 rfl rfl
(aw_iadd d_L_same_459 rfl
(have z261 := e260.1; have e262 := e260.2; aw_if_ne d_L_same_460 rfl rfl z261 (fun c263 => have e265 := e262.1 c263; (aw_sub [] rfl e265)) (fun c264 => have e266 := e262.2 c264; (aw_aload_n d_L_same_463 rfl rfl 0 rfl (by decide)
(aw_iconst d_L_same_464 rfl
(aw_VI (As := [zi 2]) (st := []) d_L_same_465 rfl cvL_110 ⟨Nat.le_of_ble_eq_true rfl, Nat.le_of_ble_eq_true rfl⟩ rfl rfl (Nat.le_of_ble_eq_true rfl) (Nat.le_of_ble_eq_true rfl) e266 (fun x269 M267 e268 => (aw_aload_n d_L_same_468 rfl rfl 1 rfl (by decide)
(aw_getI (kc := 4) d_L_same_469 rfl flL_116 rfl rfl
(have z270 := e268.1; have z271 := e268.2.1; have e272 := e268.2.2; aw_icmp_ne d_L_same_472 rfl rfl z270 z271 (fun c273 => have e275 := e272.1 c273; (aw_sub [] rfl e275)) (fun c274 => have e276 := e272.2 c274; (aw_aload_n d_L_same_475 rfl rfl 0 rfl (by decide)
(aw_iconst d_L_same_476 rfl
(aw_VI (As := [zi 3]) (st := []) d_L_same_477 rfl cvL_110 ⟨Nat.le_of_ble_eq_true rfl, Nat.le_of_ble_eq_true rfl⟩ rfl rfl (Nat.le_of_ble_eq_true rfl) (Nat.le_of_ble_eq_true rfl) e276 (fun x279 M277 e278 => (aw_iload d_L_same_480 rfl 3 rfl
(have z280 := e278.1; have z281 := e278.2.1; have e282 := e278.2.2; aw_icmp_ne d_L_same_482 rfl rfl z280 z281 (fun c283 => have e285 := e282.1 c283; (aw_sub [] rfl e285)) (fun c284 => have e286 := e282.2 c284; (aw_aload_n d_L_same_485 rfl rfl 0 rfl (by decide)
(aw_iconst d_L_same_486 rfl
(aw_VI (As := [zi 4]) (st := []) d_L_same_487 rfl cvL_110 ⟨Nat.le_of_ble_eq_true rfl, Nat.le_of_ble_eq_true rfl⟩ rfl rfl (Nat.le_of_ble_eq_true rfl) (Nat.le_of_ble_eq_true rfl) e286 (fun x289 M287 e288 => (aw_aload_n d_L_same_490 rfl rfl 1 rfl (by decide)
(aw_getI (kc := 6) d_L_same_491 rfl flL_119 rfl rfl
(have z290 := e288.1; have z291 := e288.2.1; have e292 := e288.2.2; aw_icmp_ne d_L_same_494 rfl rfl z290 z291 (fun c293 => have e295 := e292.1 c293; (aw_sub [] rfl e295)) (fun c294 => have e296 := e292.2 c294; (aw_aload_n d_L_same_497 rfl rfl 0 rfl (by decide)
(aw_iconst d_L_same_498 rfl
(aw_VI (As := [zi 5]) (st := []) d_L_same_499 rfl cvL_110 ⟨Nat.le_of_ble_eq_true rfl, Nat.le_of_ble_eq_true rfl⟩ rfl rfl (Nat.le_of_ble_eq_true rfl) (Nat.le_of_ble_eq_true rfl) e296 (fun x299 M297 e298 => (aw_aload_n d_L_same_502 rfl rfl 1 rfl (by decide)
(aw_getI (kc := 5) d_L_same_503 rfl flL_122 rfl rfl
(have z300 := e298.1; have z301 := e298.2.1; have e302 := e298.2.2; aw_icmp_ne d_L_same_506 rfl rfl z300 z301 (fun c303 => have e305 := e302.1 c303; (aw_sub [] rfl e305)) (fun c304 => have e306 := e302.2 c304; (aw_aload_n d_L_same_509 rfl rfl 0 rfl (by decide)
(aw_bipush d_L_same_510 rfl (by decide)
(aw_VI (As := [zi 6]) (st := []) d_L_same_512 rfl cvL_110 ⟨Nat.le_of_ble_eq_true rfl, Nat.le_of_ble_eq_true rfl⟩ rfl rfl (Nat.le_of_ble_eq_true rfl) (Nat.le_of_ble_eq_true rfl) e306 (fun x309 M307 e308 => (aw_ldc d_L_same_515 rfl ciL_98
(have z310 := e308.1; have e311 := e308.2; aw_icmp_ne d_L_same_517 rfl rfl z310 (by decide) (fun c312 => have e314 := e311.1 c312; (aw_sub [] rfl e314)) (fun c313 => have e315 := e311.2 c313; (aw_iconst d_L_same_520 rfl
(aw_goto d_L_same_521 rfl
(aw_rzn d_L_same_525 rfl (by decide) e315)))))))))))))))))))))))))))))))))))))))))))))))))))))))))))))))))) (fun c232 => have e234 := e230.2 c232; (aw_iload d_L_same_394 rfl 4 rfl
(have z316 := e234.1; have e317 := e234.2; aw_if_eq d_L_same_396 rfl rfl z316 (fun c318 => have e320 := e317.1 c318; (aw_iload d_L_same_428 rfl 4 rfl
(aw_if_eq d_L_same_430 rfl rfl z316 (fun _ => (aw_sub [] rfl e320)) (fun c322 => absurd c318 (by omega))))) (fun c319 => have e321 := e317.2 c319; (aw_aload_n d_L_same_399 rfl rfl 0 rfl (by decide)
(aw_iload d_L_same_400 rfl 6 rfl
(aw_VI (As := [zi v7]) (st := []) d_L_same_402 rfl cvL_103 ⟨Nat.le_of_ble_eq_true rfl, Nat.le_of_ble_eq_true rfl⟩ rfl rfl (Nat.le_of_ble_eq_true rfl) (Nat.le_of_ble_eq_true rfl) e321 (fun x325 M323 e324 => (aw_aload d_L_same_405 rfl 5 rfl (by decide)
(aw_iload d_L_same_407 rfl 6 rfl
(have z326 := e324.1; aw_VI (As := [zi v7]) (st := [zi x325]) d_L_same_409 rfl cvL_109 ⟨Nat.le_of_ble_eq_true rfl, Nat.le_of_ble_eq_true rfl⟩ rfl rfl (Nat.le_of_ble_eq_true rfl) (Nat.le_of_ble_eq_true rfl) (s_J0_charAt_5068em z326) (fun _ _ hq => aw_eqs hq
(have e327 := e324.2; (have z328 := e327.1; have z329 := e327.2.1; have e330 := e327.2.2; aw_icmp_ne d_L_same_412 rfl rfl z328 z329 (fun c331 => have e333 := e330.1 c331; (aw_sub [0, 1, 2, 3, 5, 6] rfl e333)) (fun c332 => have e334 := e330.2 c332; (aw_iconst d_L_same_415 rfl
(aw_goto d_L_same_416 rfl
(aw_istore (lv' := [(5, zi 1), (0, zr 8 0), (1, zr 64 s1), (3, zi v3), (4, zi v4), (6, zr 66 r6), (7, zi v7)]) d_L_same_420 rfl (by decide) rfl
(aw_iinc (lv' := [(7, zi (v7 + 1)), (5, zi 1), (0, zr 8 0), (1, zr 64 s1), (3, zi v3), (4, zi v4), (6, zr 66 r6)]) (y := (v7 + 1)) d_L_same_422 rfl 6 rfl (by decide) rfl rfl
(aw_goto d_L_same_425 rfl
(aw_sub [2, 3, 4, 5, 1, 6, 0] rfl e334)))))))))))))))))))))))))))
theorem vL_same_248 {l : Launch} {P : Int → zM → Prop} {c n : Nat} {s1 : Nat} {v2 : Int} {v3 : Int} {v4 : Int} {v5 : Int} {v6 : Int} {v7 : Int} {v8 : Int} {M : zM}
    (H0 : (zI v8 ∧ zI v7 ∧ ((v7 ≤ v8 → LL_same_64 l P c n s1 v2 v3 v4 v5 (v6 + 1) M) ∧ (v8 < v7 → (zI v5 ∧ ((v5 = 0 → LL_same_64 l P c n s1 v2 v3 v4 v5 (v6 + 1) M) ∧ (v5 ≠ 0 → (CI l m_X8_trader [zr 8 0, zi v6, zi (10 + v8)] M (fun x350 M348 => ((0 ≤ M348 64 s1 11 ∧ M348 64 s1 11 < M348 97 0 74) ∧ ∀ r352 : Nat, (r352 : Int) = M348 64 s1 11 → ((0 ≤ v6 ∧ v6 < 21) ∧ (0 ≤ M348 74 r352 v6 ∧ M348 74 r352 v6 < M348 97 0 75) ∧ ∀ r356 : Nat, (r356 : Int) = M348 74 r352 v6 → ((0 ≤ v8 ∧ v8 < M348 75 r356 (-1) ∧ M348 75 r356 (-1) ≤ 1000000) ∧ (zI x350 ∧ zI (M348 75 r356 v8) ∧ ((x350 ≠ (M348 75 r356 v8) → LL_same_288 l P c n s1 v2 v3 v4 v6 v7 v8 M348) ∧ (x350 = (M348 75 r356 v8) → LL_same_248 l P c n s1 v2 v3 v4 1 v6 v7 (v8 + 1) M348))))))))))))))) :
    LL_same_248 l P c n s1 v2 v3 v4 v5 v6 v7 v8 M :=
(aw_iload d_L_same_248 rfl 8 rfl
(aw_iload d_L_same_250 rfl 7 rfl
(have z335 := H0.1; have z336 := H0.2.1; have e337 := H0.2.2; aw_icmp_ge d_L_same_252 rfl rfl z335 z336 (fun c338 => have e340 := e337.1 c338; (aw_iinc (lv' := [(6, zi (v6 + 1)), (0, zr 8 0), (1, zr 64 s1), (2, zi v2), (3, zi v3), (4, zi v4), (5, zi v5), (7, zi v7), (8, zi v8)]) (y := (v6 + 1)) d_L_same_297 rfl 6 rfl (by decide) rfl rfl
(aw_goto d_L_same_300 rfl
(aw_sub [1, 2, 3, 4, 5, 6, 0] rfl e340)))) (fun c339 => have e341 := e337.2 c339; (aw_iload d_L_same_255 rfl 5 rfl
(have z342 := e341.1; have e343 := e341.2; aw_if_eq d_L_same_257 rfl rfl z342 (fun c344 => have e346 := e343.1 c344; (aw_iinc (lv' := [(6, zi (v6 + 1)), (0, zr 8 0), (1, zr 64 s1), (2, zi v2), (3, zi v3), (4, zi v4), (5, zi v5), (7, zi v7), (8, zi v8)]) (y := (v6 + 1)) d_L_same_297 rfl 6 rfl (by decide) rfl rfl
(aw_goto d_L_same_300 rfl
(aw_sub [1, 2, 3, 4, 5, 6, 0] rfl e346)))) (fun c345 => have e347 := e343.2 c345; (aw_aload_n d_L_same_260 rfl rfl 0 rfl (by decide)
(aw_iload d_L_same_261 rfl 6 rfl
(aw_bipush d_L_same_263 rfl (by decide)
(aw_iload d_L_same_265 rfl 8 rfl
(aw_iadd d_L_same_267 rfl
(aw_VI (As := [zi v6, zi (10 + v8)]) (st := []) d_L_same_268 rfl cvL_89 ⟨Nat.le_of_ble_eq_true rfl, Nat.le_of_ble_eq_true rfl⟩ rfl rfl (Nat.le_of_ble_eq_true rfl) (Nat.le_of_ble_eq_true rfl) e347 (fun x350 M348 e349 => (aw_aload_n d_L_same_271 rfl rfl 1 rfl (by decide)
(have z351 := e349.1; aw_getE (kc := 11) d_L_same_272 rfl flL_64 rfl rfl (by decide) z351
(fun r352 hqr352 => (have e353 := e349.2 r352 hqr352; (aw_iload d_L_same_275 rfl 6 rfl
(have z354 := e353.1; have z355 := e353.2.1; aw_rale d_L_same_277 rfl zd74.G (by decide) (zix_s z354) z355
(fun r356 hqr356 => (have e357 := e353.2.2 r356 hqr356; (aw_iload d_L_same_278 rfl 8 rfl
(have z358 := e357.1; aw_ialdG d_L_same_280 rfl zd75.G (zix_d rfl z358)
(have e359 := e357.2; (have z360 := e359.1; have z361 := e359.2.1; have e362 := e359.2.2; aw_icmp_ne d_L_same_281 rfl rfl z360 z361 (fun c363 => have e365 := e362.1 c363; (aw_sub [0, 1, 2, 3, 4, 6, 7, 8] rfl e365)) (fun c364 => have e366 := e362.2 c364; (aw_iconst d_L_same_284 rfl
(aw_goto d_L_same_285 rfl
(aw_istore (lv' := [(5, zi 1), (0, zr 8 0), (1, zr 64 s1), (2, zi v2), (3, zi v3), (4, zi v4), (6, zi v6), (7, zi v7), (8, zi v8)]) d_L_same_289 rfl (by decide) rfl
(aw_iinc (lv' := [(8, zi (v8 + 1)), (5, zi 1), (0, zr 8 0), (1, zr 64 s1), (2, zi v2), (3, zi v3), (4, zi v4), (6, zi v6), (7, zi v7)]) (y := (v8 + 1)) d_L_same_291 rfl 8 rfl (by decide) rfl rfl
(aw_goto d_L_same_294 rfl
(aw_sub [2, 3, 4, 5, 6, 1, 7, 8, 0] rfl e366)))))))))))))))))))))))))))))))))
theorem vL_same_524 {l : Launch} {P : Int → zM → Prop} {c n : Nat} {s1 : Nat} {M : zM}
    (H0 : P 0 M) :
    LL_same_524 l P c n s1 M :=
(aw_iconst d_L_same_524 rfl
(aw_rzn d_L_same_525 rfl (by decide) H0))
theorem vL_same_419 {l : Launch} {P : Int → zM → Prop} {c n : Nat} {s1 : Nat} {v3 : Int} {v4 : Int} {r6 : Nat} {v7 : Int} {M : zM}
    (H0 : LL_same_384 l P c n s1 v3 v4 0 r6 (v7 + 1) M) :
    LL_same_419 l P c n s1 v3 v4 r6 v7 M :=
(aw_iconst d_L_same_419 rfl
(aw_istore (lv' := [(5, zi 0), (0, zr 8 0), (1, zr 64 s1), (3, zi v3), (4, zi v4), (6, zr 66 r6), (7, zi v7)]) d_L_same_420 rfl (by decide) rfl
(aw_iinc (lv' := [(7, zi (v7 + 1)), (5, zi 0), (0, zr 8 0), (1, zr 64 s1), (3, zi v3), (4, zi v4), (6, zr 66 r6)]) (y := (v7 + 1)) d_L_same_422 rfl 6 rfl (by decide) rfl rfl
(aw_goto d_L_same_425 rfl
(aw_sub [2, 3, 4, 5, 1, 6, 0] rfl H0)))))
theorem vL_same_288 {l : Launch} {P : Int → zM → Prop} {c n : Nat} {s1 : Nat} {v2 : Int} {v3 : Int} {v4 : Int} {v6 : Int} {v7 : Int} {v8 : Int} {M : zM}
    (H0 : LL_same_248 l P c n s1 v2 v3 v4 0 v6 v7 (v8 + 1) M) :
    LL_same_288 l P c n s1 v2 v3 v4 v6 v7 v8 M :=
(aw_iconst d_L_same_288 rfl
(aw_istore (lv' := [(5, zi 0), (0, zr 8 0), (1, zr 64 s1), (2, zi v2), (3, zi v3), (4, zi v4), (6, zi v6), (7, zi v7), (8, zi v8)]) d_L_same_289 rfl (by decide) rfl
(aw_iinc (lv' := [(8, zi (v8 + 1)), (5, zi 0), (0, zr 8 0), (1, zr 64 s1), (2, zi v2), (3, zi v3), (4, zi v4), (6, zi v6), (7, zi v7)]) (y := (v8 + 1)) d_L_same_291 rfl 8 rfl (by decide) rfl rfl
(aw_goto d_L_same_294 rfl
(aw_sub [2, 3, 4, 5, 6, 1, 7, 8, 0] rfl H0)))))
theorem vL_same {l : Launch} {P : Int → zM → Prop} {s1 : Nat} {M : zM}
    (H0 : (CI l m_X8_count [zr 8 0, zi 0] M (fun x3 M1 => (zI x3 ∧ zI (M1 64 s1 0) ∧ ((x3 ≠ (M1 64 s1 0) → LL_same_58 l P 0 0 s1 0 0 (-2) M1) ∧ (x3 = (M1 64 s1 0) → (CI l m_X8_count [zr 8 0, zi 2] M1 (fun x13 M11 => (zI x13 ∧ zI (M11 64 s1 1) ∧ ((x13 ≠ (M11 64 s1 1) → LL_same_58 l P 0 0 s1 0 0 (-2) M11) ∧ (x13 = (M11 64 s1 1) → (CI l m_X8_count [zr 8 0, zi 3] M11 (fun x23 M21 => (zI x23 ∧ zI (M21 64 s1 2) ∧ ((x23 ≠ (M21 64 s1 2) → LL_same_58 l P 0 0 s1 0 0 (-2) M21) ∧ (x23 = (M21 64 s1 2) → (CI l m_X8_count [zr 8 0, zi 9] M21 (fun x33 M31 => (zI x33 ∧ ((x33 ≠ (-1) → LL_same_58 l P 0 0 s1 0 0 (-2) M31) ∧ (x33 = (-1) → LL_same_64 l P 0 0 s1 0 0 (-2) 1 0 M31))))))))))))))))))))) :
    CIn l m_L_same 4 808 [zr 8 0, zr 64 s1] M P :=
(aw_iconst d_L_same_0 rfl
(aw_istore_n (lv' := [(2, zi 0), (0, zr 8 0), (1, zr 64 s1)]) d_L_same_1 rfl rfl (by decide) rfl
(aw_iconst d_L_same_2 rfl
(aw_istore_n (lv' := [(3, zi 0), (2, zi 0), (0, zr 8 0), (1, zr 64 s1)]) d_L_same_3 rfl rfl (by decide) rfl
(aw_bipush d_L_same_4 rfl (by decide)
(aw_istore (lv' := [(4, zi (-2)), (3, zi 0), (2, zi 0), (0, zr 8 0), (1, zr 64 s1)]) d_L_same_6 rfl (by decide) rfl
(aw_aload_n d_L_same_8 rfl rfl 3 rfl (by decide)
(aw_iconst d_L_same_9 rfl
(aw_VI (As := [zi 0]) (st := []) d_L_same_10 rfl cvL_83 ⟨Nat.le_of_ble_eq_true rfl, Nat.le_of_ble_eq_true rfl⟩ rfl rfl (Nat.le_of_ble_eq_true rfl) (Nat.le_of_ble_eq_true rfl) H0 (fun x3 M1 e2 => (aw_aload_n d_L_same_13 rfl rfl 4 rfl (by decide)
(aw_getI (kc := 0) d_L_same_14 rfl flL_80 rfl rfl
(have z4 := e2.1; have z5 := e2.2.1; have e6 := e2.2.2; aw_icmp_ne d_L_same_17 rfl rfl z4 z5 (fun c7 => have e9 := e6.1 c7; (aw_sub [3, 4, 2, 1, 0] rfl e9)) (fun c8 => have e10 := e6.2 c8; (aw_aload_n d_L_same_20 rfl rfl 3 rfl (by decide)
(aw_iconst d_L_same_21 rfl
(aw_VI (As := [zi 2]) (st := []) d_L_same_22 rfl cvL_83 ⟨Nat.le_of_ble_eq_true rfl, Nat.le_of_ble_eq_true rfl⟩ rfl rfl (Nat.le_of_ble_eq_true rfl) (Nat.le_of_ble_eq_true rfl) e10 (fun x13 M11 e12 => (aw_aload_n d_L_same_25 rfl rfl 4 rfl (by decide)
(aw_getI (kc := 1) d_L_same_26 rfl flL_39 rfl rfl
(have z14 := e12.1; have z15 := e12.2.1; have e16 := e12.2.2; aw_icmp_ne d_L_same_29 rfl rfl z14 z15 (fun c17 => have e19 := e16.1 c17; (aw_sub [3, 4, 2, 1, 0] rfl e19)) (fun c18 => have e20 := e16.2 c18; (aw_aload_n d_L_same_32 rfl rfl 3 rfl (by decide)
(aw_iconst d_L_same_33 rfl
(aw_VI (As := [zi 3]) (st := []) d_L_same_34 rfl cvL_83 ⟨Nat.le_of_ble_eq_true rfl, Nat.le_of_ble_eq_true rfl⟩ rfl rfl (Nat.le_of_ble_eq_true rfl) (Nat.le_of_ble_eq_true rfl) e20 (fun x23 M21 e22 => (aw_aload_n d_L_same_37 rfl rfl 4 rfl (by decide)
(aw_getI (kc := 2) d_L_same_38 rfl flL_71 rfl rfl
(have z24 := e22.1; have z25 := e22.2.1; have e26 := e22.2.2; aw_icmp_ne d_L_same_41 rfl rfl z24 z25 (fun c27 => have e29 := e26.1 c27; (aw_sub [3, 4, 2, 1, 0] rfl e29)) (fun c28 => have e30 := e26.2 c28; (aw_aload_n d_L_same_44 rfl rfl 3 rfl (by decide)
(aw_bipush d_L_same_45 rfl (by decide)
(aw_VI (As := [zi 9]) (st := []) d_L_same_47 rfl cvL_83 ⟨Nat.le_of_ble_eq_true rfl, Nat.le_of_ble_eq_true rfl⟩ rfl rfl (Nat.le_of_ble_eq_true rfl) (Nat.le_of_ble_eq_true rfl) e30 (fun x33 M31 e32 => (aw_iconst d_L_same_50 rfl
(have z34 := e32.1; have e35 := e32.2; aw_icmp_ne d_L_same_51 rfl rfl z34 (by decide) (fun c36 => have e38 := e35.1 c36; (aw_sub [3, 4, 2, 1, 0] rfl e38)) (fun c37 => have e39 := e35.2 c37; (aw_iconst d_L_same_54 rfl
(aw_goto d_L_same_55 rfl
(aw_istore (lv' := [(5, zi 1), (4, zi (-2)), (3, zi 0), (2, zi 0), (0, zr 8 0), (1, zr 64 s1)]) d_L_same_59 rfl (by decide) rfl
(aw_iconst d_L_same_61 rfl
(aw_istore (lv' := [(6, zi 0), (5, zi 1), (4, zi (-2)), (3, zi 0), (2, zi 0), (0, zr 8 0), (1, zr 64 s1)]) d_L_same_62 rfl (by decide) rfl
(aw_sub [5, 6, 4, 3, 2, 1, 0] rfl e39)))))))))))))))))))))))))))))))))))))))))))
abbrev smP (M : zM) (A : zY) : Int → zM → Prop := fun x M' => x = 1 ∧ sm M M' A
/-- what holds throughout -/
def smH (M : zM) (A : zY) (h : Nat) (kk : Int) : Prop := lH M h (yS A) ∧ wfY kk A ∧ kk ≤ 40 ∧ tV (yS A) ∧ sX (yS A)
noncomputable def rch (S : zS) (t : Nat) : Int := if t = 0 then -2 else zbest (qpu S) (t - 1)
theorem smH.w (H : smH M A h kk) (I : sm M M1 A) : lH M1 h (yS A) := H.1.ke I.1.ke
theorem smH.ok (H : smH M A h kk) : okS (yS A) := H.2.1.1.ok
theorem smH.pu (H : smH M A h kk) : ∀ t, zI (qpu (yS A) t) := fun t => by
  by_cases c : 0 ≤ t ∧ t < qn (yS A)
  · exact ((H.2.2.2.2.b H.2.1.1 H.2.2.1).2.2.2.2.2 t c).2
  · rw [(H.1.zo.2.1 t c).2.2.2.1]; decide
theorem same_384 (H : smH M A h kk) {s : Nat} (T0 : ∀ M1, sm M M1 A → True) : ∀ (f k : Nat) (M1 : zM), k + f = (tAll (yS A)).length → sm M M1 A → stT M1 s (tAll (yS A)) → (s : Int) < M1 97 0 66 → LL_same_384 l (smP M A) (0 + 4) (0 + 808) h (zsum (qpu (yS A)) (qn (yS A))) (rch (yS A) (qn (yS A)).toNat) 1 s k M1 := by
  have ok := H.ok
  have hlen := H.2.2.2.1.2.2.2.2
  have hb := H.2.2.2.2.b H.2.1.1 H.2.2.1
  have hn := H.2.1.1.1
  intro f
  induction f with
  | zero =>
    intro k M1 hk I T hs
    refine vL_same_384 ⟨T.1, ?_⟩
    rw [T.2.1]
    refine ⟨by omega, by omega, fun _ => ⟨by decide, fun z => absurd z (by decide), fun _ => ?_⟩, fun z => absurd z (by omega)⟩
    have zr' : zI (rch (yS A) (qn (yS A)).toNat) := by
      unfold rch
      split
      · decide
      · have := zbest_in (qpu (yS A)) ((qn (yS A)).toNat - 1)
        omega
    have e3 : aAudit (yS A) 3 = rch (yS A) (qn (yS A)).toNat := by
      show (if 0 < qn (yS A) then zbest (qpu (yS A)) (qn (yS A) - 1).toNat else -2) = _
      unfold rch
      by_cases c : 0 < qn (yS A)
      · rw [if_pos c, if_neg (by omega), show (qn (yS A) - 1).toNat = (qn (yS A)).toNat - 1 by omega]
      · rw [if_neg c, if_pos (by omega)]
    refine (I.audit ok H.pu (by decide)).mono ?_
    rintro x M2 ⟨hx, I⟩
    have hx : x = qsc (yS A) 3 := hx
    rw [show M2 64 h 3 = qsc (yS A) 3 from (H.w I).sc (by decide), hx]
    refine ⟨hb.2.1, hb.2.1, fun z => absurd rfl z, fun _ => (I.audit ok H.pu (by decide)).mono ?_⟩
    rintro x M2 ⟨hx, I⟩
    have hx : x = zsum (qpu (yS A)) (qn (yS A)) := hx
    rw [show M2 64 h 3 = qsc (yS A) 3 from (H.w I).sc (by decide), hx, H.2.2.2.2.1]
    refine ⟨hb.1 _ ⟨hn.1, Int.le_refl _⟩, hb.1 _ ⟨hn.1, Int.le_refl _⟩, fun z => absurd rfl z, fun _ => ⟨by decide, fun z => absurd rfl z, fun _ => (I.audit ok H.pu (by decide)).mono ?_⟩⟩
    rintro x M2 ⟨hx, I⟩
    have hx : x = qsc (yS A) 4 := hx
    rw [show M2 64 h 4 = qsc (yS A) 4 from (H.w I).sc (by decide), hx]
    refine ⟨hb.2.2.1, hb.2.2.1, fun z => absurd rfl z, fun _ => (I.audit ok H.pu (by decide)).mono ?_⟩
    rintro x M2 ⟨hx, I⟩
    rw [hx, e3]
    refine ⟨zr', zr', fun z => absurd rfl z, fun _ => (I.audit ok H.pu (by decide)).mono ?_⟩
    rintro x M2 ⟨hx, I⟩
    have hx : x = qsc (yS A) 6 := hx
    rw [show M2 64 h 6 = qsc (yS A) 6 from (H.w I).sc (by decide), hx]
    refine ⟨hb.2.2.2.2.1, hb.2.2.2.2.1, fun z => absurd rfl z, fun _ => (I.audit ok H.pu (by decide)).mono ?_⟩
    rintro x M2 ⟨hx, I⟩
    have hx : x = qsc (yS A) 5 := hx
    rw [show M2 64 h 5 = qsc (yS A) 5 from (H.w I).sc (by decide), hx]
    refine ⟨hb.2.2.2.1, hb.2.2.2.1, fun z => absurd rfl z, fun _ => (I.audit ok H.pu (by decide)).mono ?_⟩
    rintro x M2 ⟨hx, I⟩
    have hx : x = -2147483648 := hx
    rw [hx]
    exact ⟨by decide, fun z => absurd rfl z, fun _ => ⟨rfl, I⟩⟩
  | succ f ih =>
    intro k M1 hk I T hs
    refine vL_same_384 ⟨T.1, ?_⟩
    rw [T.2.1]
    refine ⟨by omega, by omega, fun z => absurd z (by omega), fun _ => ⟨by decide, fun z => absurd z (by decide), fun _ => (q8_letter (I.cx ok) (by omega)).mono ?_⟩⟩
    rintro x M2 ⟨hx, f2⟩
    have I2 := I.go f2
    have T2 := T.ke hs (Lr.sc (K := sK3) f2).ke
    have hs2 : (s : Int) < M2 97 0 66 := Int.lt_of_lt_of_le hs ((Lr.sc (K := sK3) f2).2.1 66)
    have hx' : x = (tAll (yS A)).getD k 0 := by
      rw [hx, aLetter, if_neg (by omega), if_neg (by omega), if_pos (by omega), Int.toNat_natCast]
    have eB : stB M2 s k = (tAll (yS A)).getD k 0 := by rw [T2.2.2 _ (by omega), Int.toNat_natCast]
    have zc := T2.1.2.2.2 (k : Int) (by rw [T2.2.1]; omega)
    rw [eB] at zc ⊢
    rw [hx']
    have := ih (k + 1) M2 (by omega) I2 T2 hs2
    rw [show ((k + 1 : Nat) : Int) = (k : Int) + 1 by omega] at this
    exact ⟨⟨T2.1, by omega, by rw [T2.2.1]; omega⟩, by omega, by omega, fun z => absurd rfl z, fun _ => this⟩
theorem same_303 (H : smH M A h kk) (I : sm M M1 A) : LL_same_303 l (smP M A) 0 0 h (zsum (qun (yS A)) (qn (yS A))) (zsum (qpu (yS A)) (qn (yS A))) (rch (yS A) (qn (yS A)).toNat) 1 M1 := by
  have ok := H.ok
  have hlen := H.2.2.2.1.2.2.2.2
  have hn := H.2.1.1.1
  have hu := zsum_bd (f := qun (yS A)) (c := 0) (d := 4) hn.1 (fun i hi => ok.1.2.1 i hi)
  refine vL_same_303 ⟨by decide, (c_told (H.w I) H.2.2.2.1).mono ?_⟩
  rintro s M2 ⟨G2, s0, hs, T⟩
  have I2 : sm M M2 A := ⟨I.1.tr G2.lr, I.2.lw fun k i hk => G2.1 k i (by omega) (by omega)⟩
  refine ⟨by decide, fun z => absurd z (by decide), fun _ => vL_same_314 ((q8_count (I2.cx ok) I2.2.2.2.1.2.1 I2.2.2.2.2.2.1 I2.2.2.2.2.1.1 (by decide)).mono ?_)⟩
  have step : ∀ {M3 M4 : zM}, Fr kScr M3 M4 → sm M M3 A → stT M3 s (tAll (yS A)) → (s : Int) < M3 97 0 66 → sm M M4 A ∧ stT M4 s (tAll (yS A)) ∧ (s : Int) < M4 97 0 66 := fun f I T hs =>
    ⟨I.go f, T.ke hs (Lr.sc (K := sK3) f).ke, Int.lt_of_lt_of_le hs ((Lr.sc (K := sK3) f).2.1 66)⟩
  rintro x M3 ⟨hx, f3⟩
  obtain ⟨I3, T3, hs3⟩ := step f3 I2 T hs
  have hx : x = zsum (qun (yS A)) (qn (yS A)) := hx
  rw [hx, (H.w I3).n]
  refine ⟨by omega, by omega, fun z => absurd rfl z, fun _ => (q8_trader (I3.cx ok) (by omega) (by decide)).mono ?_⟩
  rintro x M4 ⟨hx, f4⟩
  obtain ⟨I4, T4, hs4⟩ := step f4 I3 T3 hs3
  have hx : x = -2147483648 := hx.trans (if_neg (by omega))
  rw [hx]
  refine ⟨by decide, fun z => absurd rfl z, fun _ => (q8_letter (I4.cx ok) (by decide)).mono ?_⟩
  rintro x M5 ⟨hx, f5⟩
  obtain ⟨I5, T5, hs5⟩ := step f5 I4 T4 hs4
  have hx : x = ((tAll (yS A)).length : Int) := by rw [hx, aLetter, if_neg (by omega), if_pos rfl]
  refine ⟨T5.1, ?_⟩
  rw [T5.2.1, hx]
  refine ⟨by omega, by omega, fun z => absurd rfl z, fun _ => (q8_letter (I5.cx ok) (by omega)).mono ?_⟩
  rintro x M6 ⟨hx, f6⟩
  obtain ⟨I6, T6, hs6⟩ := step f6 I5 T5 hs5
  have hx : x = -2 := by rw [hx, aLetter, if_neg (by omega), if_neg (by omega), if_neg (by omega)]
  rw [hx]
  refine ⟨by decide, fun z => absurd rfl z, fun _ => (q8_letter (I6.cx ok) (by decide)).mono ?_⟩
  rintro x M7 ⟨hx, f7⟩
  obtain ⟨I7, T7, hs7⟩ := step f7 I6 T6 hs6
  have hx : x = -1 := by rw [hx, aLetter, if_pos (by decide)]
  rw [hx]
  refine ⟨by decide, fun z => absurd rfl z, fun _ => ?_⟩
  have := same_384 (l := l) H (s := s) (fun _ _ => trivial) (tAll (yS A)).length 0 M7 (by omega) I7 T7 hs7
  exact this
theorem same_248 (H : smH M A h kk) {t : Nat} (ht : (t : Int) < qn (yS A)) {v2 v3 v4 : Int} (nx : ∀ M2, sm M M2 A → LL_same_64 l (smP M A) 0 0 h v2 v3 v4 1 ((t : Int) + 1) M2) :
    ∀ (f u : Nat) (M1 : zM), (u : Int) + f = qun (yS A) t → sm M M1 A → LL_same_248 l (smP M A) 0 0 h v2 v3 v4 1 t (qun (yS A) t) u M1 := by
  have hT : 0 ≤ (t : Int) ∧ (t : Int) < qn (yS A) := ⟨by omega, ht⟩
  have ok := H.ok
  have hn := H.2.1.1.1
  have h4 := H.1.un4 hT
  intro f
  induction f with
  | zero =>
    intro u M1 hu I
    exact vL_same_248 ⟨by omega, by omega, fun _ => nx M1 I, fun z => absurd z (by omega)⟩
  | succ f ih =>
    intro u M1 hu I
    have hs := H.2.2.2.1.2.2.2.1 t u hT (by omega)
    refine vL_same_248 ⟨by omega, by omega, fun z => absurd z (by omega), fun _ => ⟨by decide, fun z => absurd z (by decide), fun _ => (I.trader ok (by omega) (by omega)).mono ?_⟩⟩
    rintro x M2 ⟨hx, I2⟩
    have w2 := H.w I2
    have hx' : x = qsy (yS A) t u := by
      rw [hx, aTrader, if_pos hT, if_neg (by omega), if_neg (by omega), if_neg (by omega), if_neg (by omega), if_neg (by omega), if_neg (by omega), if_pos (by omega), show 10 + (u : Int) - 10 = u by omega]
    refine ⟨w2.r11.1, fun r hr => ?_⟩
    obtain rfl := w2.r11.2 r hr
    refine ⟨w2.t21 hT, (w2.rr hT).1, fun r2 hr2 => ?_⟩
    obtain rfl := (w2.rr hT).2 r2 hr2
    rw [w2.un hT, w2.sy hT ⟨by omega, by omega⟩, hx']
    have := ih (u + 1) M2 (by omega) I2
    rw [show ((u + 1 : Nat) : Int) = (u : Int) + 1 by omega] at this
    exact ⟨by omega, by omega, by omega, fun z => absurd rfl z, fun _ => this⟩
theorem aT_c {S : zS} {t : Int} (ht : 0 ≤ t ∧ t < qn S) : aTrader S t 0 = qsl S t ∧ aTrader S t 1 = qgr S t ∧ aTrader S t 2 = qun S t ∧ aTrader S t 3 = qpu S t ∧ aTrader S t 5 = qtr S t := by
  unfold aTrader
  rw [if_pos ht, if_pos ht, if_pos ht, if_pos ht, if_pos ht]
  exact ⟨rfl, rfl, rfl, rfl, rfl⟩
theorem same_134 (H : smH M A h kk) {t : Nat} (ht : (t : Int) < qn (yS A)) {v2 v3 v4 : Int} (I : sm M M1 A) (nx : ∀ M2, sm M M2 A → LL_same_64 l (smP M A) 0 0 h v2 v3 v4 1 ((t : Int) + 1) M2) :
    LL_same_134 l (smP M A) 0 0 h v2 v3 v4 t (qun (yS A) t) M1 := by
  have hT : 0 ≤ (t : Int) ∧ (t : Int) < qn (yS A) := ⟨by omega, ht⟩
  have ok := H.ok
  have hn := H.2.1.1.1
  have h4 := H.1.un4 hT
  have h01 := H.1.s01 hT
  have hg := ok.2.1 t hT
  have hb := (H.2.2.2.2.b H.2.1.1 H.2.2.1).2.2.2.2.2 t hT
  obtain ⟨a0, a1, a2, a3, a5⟩ := aT_c (S := yS A) hT
  have n159 : ∀ M2, sm M M2 A → LL_same_159 l (smP M A) 0 0 h v2 v3 v4 t (qun (yS A) t) M2 := by
    intro M2 I
    refine vL_same_159 ((I.trader ok (by omega) (by decide)).mono ?_)
    rintro x M3 ⟨hx, I⟩
    have w := H.w I
    refine ⟨w.r8.1, fun r hr => ⟨w.t21 hT, ?_⟩⟩
    obtain rfl := w.r8.2 r hr
    rw [w.gr hT, hx, a1]
    refine ⟨by omega, by omega, fun z => absurd rfl z, fun _ => (I.trader ok (by omega) (by decide)).mono ?_⟩
    rintro x M4 ⟨hx, I⟩
    rw [hx, a2]
    refine ⟨by omega, by omega, fun z => absurd rfl z, fun _ => (I.trader ok (by omega) (by decide)).mono ?_⟩
    rintro x M5 ⟨hx, I⟩
    have w := H.w I
    refine ⟨w.r9.1, fun r2 hr2 => ?_⟩
    obtain rfl := w.r9.2 r2 hr2
    rw [w.pu hT, hx, a3]
    refine ⟨hb.2, hb.2, fun z => absurd rfl z, fun _ => (I.trader ok (by omega) (by decide)).mono ?_⟩
    rintro x M6 ⟨hx, I⟩
    have w := H.w I
    refine ⟨w.r10.1, fun r3 hr3 => ?_⟩
    obtain rfl := w.r10.2 r3 hr3
    rw [w.td hT, hx, a5]
    refine ⟨hb.1, hb.1, fun z => absurd rfl z, fun _ => (I.trader ok (by omega) (by omega)).mono ?_⟩
    rintro x M7 ⟨hx, I⟩
    have hx : x = -2147483648 := by
      rw [hx, aTrader, if_pos hT, if_neg (by omega), if_neg (by omega), if_neg (by omega), if_neg (by omega), if_neg (by omega), if_neg (by omega), if_neg (by omega)]
    rw [hx]
    refine ⟨by decide, fun z => absurd rfl z, fun _ => ?_⟩
    have := same_248 (l := l) H ht nx (qun (yS A) t).toNat 0 M7 (by omega) I
    exact this
  refine vL_same_134 ((I.trader ok (by omega) (by decide)).mono ?_)
  rintro x M2 ⟨hx, I⟩
  have w := H.w I
  refine ⟨w.r7.1, fun r hr => ⟨w.t21 hT, ?_⟩⟩
  obtain rfl := w.r7.2 r hr
  rw [w.sl hT, hx, a0]
  refine ⟨by omega, fun c => ⟨by omega, fun z => absurd c z, fun _ => n159 M2 I⟩, fun c => ⟨by omega, fun z => absurd (show qsl (yS A) t = 1 by omega) z, fun _ => n159 M2 I⟩⟩
theorem same_64 (H : smH M A h kk) : ∀ (f t : Nat) (M1 : zM), (t : Int) + f = qn (yS A) → sm M M1 A → LL_same_64 l (smP M A) 0 0 h (zsum (qun (yS A)) t) (zsum (qpu (yS A)) t) (rch (yS A) t) 1 t M1 := by
  have ok := H.ok
  have hn := H.2.1.1.1
  intro f
  induction f with
  | zero =>
    intro t M1 ht I
    refine vL_same_64 ?_
    rw [(H.w I).n]
    refine ⟨by omega, by omega, fun _ => ?_, fun z => absurd z (by omega)⟩
    have := same_303 (l := l) H I
    rw [show (qn (yS A)).toNat = t by omega, show qn (yS A) = (t : Int) by omega] at this
    exact this
  | succ f ih =>
    intro t M1 ht I
    have hT : 0 ≤ (t : Int) ∧ (t : Int) < qn (yS A) := by omega
    have w := H.w I
    have h4 := H.1.un4 hT
    have zb0 := zbest_in (qpu (yS A)) (t - 1)
    have nx : ∀ v, v = rch (yS A) (t + 1) → ∀ M2, sm M M2 A → LL_same_64 l (smP M A) 0 0 h (zsum (qun (yS A)) t + qun (yS A) t) (zsum (qpu (yS A)) t + qpu (yS A) t) v 1 ((t : Int) + 1) M2 := by
      intro v hv M2 I2
      have := ih (t + 1) M2 (by omega) I2
      rw [show ((t + 1 : Nat) : Int) = (t : Int) + 1 by omega, zsum_s (by omega), zsum_s (by omega), ← hv] at this
      exact this
    refine vL_same_64 ?_
    rw [w.n]
    refine ⟨by omega, by omega, fun z => absurd z (by omega), fun _ => ⟨by decide, fun z => absurd z (by decide), fun _ => ⟨w.r11.1, fun r hr => ?_⟩⟩⟩
    obtain rfl := w.r11.2 r hr
    refine ⟨w.t21 hT, (w.rr hT).1, fun r2 hr2 => ?_⟩
    obtain rfl := (w.rr hT).2 r2 hr2
    rw [w.un hT]
    refine ⟨by omega, w.r9.1, fun r3 hr3 => ?_⟩
    obtain rfl := w.r9.2 r3 hr3
    rw [w.pu hT]
    have zr' : zI (rch (yS A) t) := by
      unfold rch
      split
      · decide
      · omega
    have r1 : rch (yS A) (t + 1) = zbest (qpu (yS A)) t := if_neg (by omega)
    refine ⟨zr', fun c => ?_, fun c => ?_⟩
    · have t0 : t = 0 := by
        by_cases z : t = 0
        · exact z
        · unfold rch at c
          rw [if_neg z] at c
          omega
      refine same_134 H hT.2 I (nx _ ?_)
      rw [r1, t0]
      rfl
    · have t0 : t ≠ 0 := by
        intro z
        unfold rch at c
        rw [if_pos z] at c
        omega
      have er : rch (yS A) t = zbest (qpu (yS A)) (t - 1) := if_neg t0
      obtain ⟨k, rfl⟩ : ∃ k, t = k + 1 := ⟨t - 1, by omega⟩
      have er : rch (yS A) (k + 1) = zbest (qpu (yS A)) k := er
      have zb1 := zbest_in (qpu (yS A)) k
      rw [er, w.pu (t := zbest (qpu (yS A)) k) (by omega)]
      have e2 : zbest (qpu (yS A)) (k + 1) = if qpu (yS A) (zbest (qpu (yS A)) k) < qpu (yS A) ((k : Int) + 1) then ((k : Int) + 1) else zbest (qpu (yS A)) k := by rw [zbest]
      have ek : ((k + 1 : Nat) : Int) = (k : Int) + 1 := by omega
      refine ⟨by omega, H.pu _, H.pu _, fun c2 => ?_, fun c2 => ?_⟩
      · refine same_134 H hT.2 I (nx _ ?_)
        rw [r1, e2, if_neg (by rw [← ek]; omega)]
      · refine same_134 H hT.2 I (nx _ ?_)
        rw [r1, e2, if_pos (by rw [← ek]; exact c2), ek]
theorem c_same (H : smH M A h kk) (C : cSt M A) : CIn l m_L_same 4 808 [zr 8 0, zr 64 h] M (smP M A) := by
  have ok := H.ok
  have hn := H.2.1.1.1
  have I0 : sm M M A := ⟨Lr.rf, C⟩
  refine vL_same ((I0.count ok (by decide)).mono ?_)
  rintro x M1 ⟨hx, I⟩
  have hx : x = qn (yS A) := hx
  rw [(H.w I).n, hx]
  refine ⟨by omega, by omega, fun z => absurd rfl z, fun _ => (I.count ok (by decide)).mono ?_⟩
  rintro x M2 ⟨hx, I⟩
  have hx : x = qfee (yS A) := hx
  have hf := ok.2.2.1
  rw [show M2 64 h 1 = qfee (yS A) from (H.w I).sc (by decide), hx]
  refine ⟨by omega, by omega, fun z => absurd rfl z, fun _ => (I.count ok (by decide)).mono ?_⟩
  rintro x M3 ⟨hx, I⟩
  have hx : x = qlaw (yS A) := hx
  have hf := ok.2.2.2
  rw [show M3 64 h 2 = qlaw (yS A) from (H.w I).sc (by decide), hx]
  refine ⟨by omega, by omega, fun z => absurd rfl z, fun _ => (I.count ok (by decide)).mono ?_⟩
  rintro x M4 ⟨hx, I⟩
  have hx : x = -1 := hx.trans (aCount_n (.inr (by decide)))
  rw [hx]
  refine ⟨by decide, fun z => absurd rfl z, fun _ => ?_⟩
  have := same_64 (l := l) H (qn (yS A)).toNat 0 M4 (by omega) I
  rw [show ((0 : Nat) : Int) = 0 from rfl, zsum_0, zsum_0] at this
  exact this
end
