/-! ===== the law: its cases ===== -/
def lI (v3 kk : Int) (M : zM) (A : zY) : Prop := (cSt M A ∧ mSy M A) ∧ wfY kk A ∧ (0 ≤ kk ∧ 6 * kk ≤ v3)
def lV (G : lwG) (v3 : Int) : Prop := 0 ≤ v3 ∧ v3 + 6 ≤ sL G ∧ sL G ≤ 3072
def lK (l : Launch) (G : lwG) (v3 : Int) : Prop := ∀ (M : zM) (A : zY) (kk : Int), lI (v3 + 6) kk M A → LL_law_18 l G (v3 + 6) M
theorem lV.bd {G : lwG} {v3 : Int} (h : lV G v3) (j : Int) (hj : 0 ≤ j ∧ j ≤ 5) : (0 ≤ v3 + j ∧ v3 + j < sL G) ∧ sL G < 2000000000 := by
  obtain ⟨h1, h2, h3⟩ := h
  omega
section
variable {l : Launch} {G : lwG} {v3 kk : Int} {M : zM} {A : zY}
theorem lI.c (h : lI v3 kk M A) : cSt M A := h.1.1
theorem lI.m (h : lI v3 kk M A) : mSy M A := h.1.2
theorem lI.w (h : lI v3 kk M A) : wfY kk A := h.2.1
theorem lI.k0 (h : lI v3 kk M A) : 0 ≤ kk := h.2.2.1
theorem lI.kb (h : lI v3 kk M A) (v : lV G v3) : kk ≤ 1000 := by
  have h1 := h.2.2
  obtain ⟨a, b, c⟩ := v
  omega
theorem lI.cx (h : lI v3 kk M A) : CX M (yS A) := ⟨h.c.1, h.w.1.ok⟩
theorem lI.mx (h : lI v3 kk M A) : MX M (yS A) := h.m.mx h.w.1.ok
theorem lI.z (h : lI v3 kk M A) : zo (yS A) := by
  rw [← h.c.1.2]
  exact zo_hS
theorem lI.pu (h : lI v3 kk M A) (v : lV G v3) (t : Int) : zI (qpu (yS A) t) := by
  have kb := h.kb v
  have w := h.w.1
  have h5 := w.2.2.2.1
  by_cases c : 0 ≤ t ∧ t < qn (yS A)
  · have := (w.2.2.2.2.2.1 t c).2.2.2
    omega
  · have := (h.z.2.1 t c).2.2.2.1
    omega
theorem lK.go (hk : lK l G v3) {M2 : zM} {A2 : zY} {k2 : Int} (c : cSt M2 A2) (m : mSy M2 A2) (w : wfY k2 A2) (h : 0 ≤ k2 ∧ 6 * k2 ≤ v3 + 6) : LL_law_1609 l G v3 M2 := vL_law_1609 (hk M2 A2 k2 ⟨⟨c, m⟩, w, h⟩)
theorem md_s {M M1 : zM} (f : Fr kScr M M1) : ∀ k i, isMd k → M1 k i = M k i := fun k i hk => f k i (fun q => by
  unfold kScr at q
  unfold isMd at hk
  omega)
theorem mSy.cl {M M1 : zM} {A : zY} (h : mSy M A) (f : ∀ k i, isMd k → M1 k i = M k i) : mSy M1 A := by
  refine ⟨h.1.cl (fun k i hk => f k i (Classical.not_not.mp hk)), ?_⟩
  rw [f 9 0 (.inl rfl)]
  exact h.2
theorem lw_q {X8 X9 : zD} {B8 B9 : List zV} {a : Int} (I : lI v3 kk M A) (hk : lK l G v3) (h8 : CI l X8 B8 M (fun x M' => x = a ∧ Fr kScr M M')) (h9 : ∀ M1, lI v3 kk M1 A → CI l X9 B9 M1 (fun x M' => x = a ∧ mQ M1 M')) :
    CI l X8 B8 M (fun x M1 => CI l X9 B9 M1 (fun y M2 => x = y ∧ LL_law_1609 l G v3 M2)) := by
  refine h8.mono ?_
  rintro x M1 ⟨ex, f1⟩
  have I1 : lI v3 kk M1 A := ⟨⟨I.c.scr f1, I.m.cl (md_s f1)⟩, I.2⟩
  refine (h9 M1 I1).mono ?_
  rintro y M2 ⟨ey, f2⟩
  refine ⟨ex.trans ey.symm, hk.go (I1.c.md (fun k i hk => md_q f2 k i hk)) (I1.m.q f2) I.w ?_⟩
  have := I.2.2
  omega
theorem lw_ql {X8 X9 : zD} {B8 B9 : List zV} {a : Int} (I : lI v3 kk M A) (hk : lK l G v3) (h8 : CL l X8 B8 M (fun x M' => x = a ∧ Fr kScr M M')) (h9 : ∀ M1, lI v3 kk M1 A → CL l X9 B9 M1 (fun x M' => x = a ∧ mQ M1 M')) :
    CL l X8 B8 M (fun x M1 => CL l X9 B9 M1 (fun y M2 => x = y ∧ LL_law_1609 l G v3 M2)) := by
  refine h8.mono ?_
  rintro x M1 ⟨ex, f1⟩
  have I1 : lI v3 kk M1 A := ⟨⟨I.c.scr f1, I.m.cl (md_s f1)⟩, I.2⟩
  refine (h9 M1 I1).mono ?_
  rintro y M2 ⟨ey, f2⟩
  refine ⟨ex.trans ey.symm, hk.go (I1.c.md (fun k i hk => md_q f2 k i hk)) (I1.m.q f2) I.w ?_⟩
  have := I.2.2
  omega
theorem lw_a {X8 X9 : zD} {B8 B9 : List zV} {p : Int × zY} {k2 : Int} (I : lI v3 kk M A) (hk : lK l G v3) (w : wfY k2 p.2) (hk2 : 0 ≤ k2 ∧ 6 * k2 ≤ v3 + 6) (h8 : CI l X8 B8 M (rC p M)) (h9 : ∀ M1, mSy M1 A → CI l X9 B9 M1 (rR p M1)) :
    CI l X8 B8 M (fun x M1 => CI l X9 B9 M1 (fun y M2 => x = y ∧ LL_law_1609 l G v3 M2)) := by
  refine h8.mono ?_
  rintro x M1 ⟨ex, c1, f1⟩
  refine (h9 M1 (I.m.cl f1)).mono ?_
  rintro y M2 ⟨ey, m2, f2⟩
  exact ⟨ex.trans ey.symm, hk.go (c1.md f2) m2 w hk2⟩
theorem lI.k6 (h : lI v3 kk M A) : 0 ≤ kk ∧ 6 * kk ≤ v3 + 6 := by
  have := h.2.2
  omega
theorem cL_220 (I : lI v3 kk M A) (v : lV G v3) (hk : lK l G v3) : LL_law_220 l G v3 M := vL_law_220 ⟨v.bd 1 (by decide), v.bd 2 (by decide), v.bd 3 (by decide), v.bd 4 (by decide), v.bd 5 (by decide), lw_a (k2 := kk) I hk (w_feed I.w) I.k6 (a8_feed I.c I.w ) (fun M1 h1 => a9_feed h1 I.w )⟩
theorem cL_283 (I : lI v3 kk M A) (v : lV G v3) (hk : lK l G v3) : LL_law_283 l G v3 M := vL_law_283 ⟨v.bd 1 (by decide), lw_a (k2 := kk) I hk (w_end I.w) I.k6 (a8_end I.c I.w sx_z) (fun M1 h1 => a9_end h1 I.w sx_z)⟩
theorem cL_306 (I : lI v3 kk M A) (v : lV G v3) (hk : lK l G v3) : LL_law_306 l G v3 M := vL_law_306 (lw_a (k2 := kk) I hk (w_tell I.k0 I.w) I.k6 (a8_tell I.k0 I.c I.w ) (fun M1 h1 => a9_tell I.k0 h1 I.w ))
theorem cL_319 (I : lI v3 kk M A) (v : lV G v3) (hk : lK l G v3) : LL_law_319 l G v3 M := vL_law_319 ⟨v.bd 1 (by decide), sx_z, fun _ => ⟨v.bd 2 (by decide), lw_a (k2 := kk) I hk (w_come I.w I.z (.inl rfl)) I.k6 (a8_come I.c I.w (.inl rfl) sx_z) (fun M1 h1 => a9_come h1 I.w (.inl rfl) sx_z)⟩, fun _ => ⟨v.bd 2 (by decide), lw_a (k2 := kk) I hk (w_come I.w I.z (.inr rfl)) I.k6 (a8_come I.c I.w (.inr rfl) sx_z) (fun M1 h1 => a9_come h1 I.w (.inr rfl) sx_z)⟩⟩
theorem cL_368 (I : lI v3 kk M A) (v : lV G v3) (hk : lK l G v3) : LL_law_368 l G v3 M := vL_law_368 ⟨v.bd 1 (by decide), v.bd 2 (by decide), lw_a (k2 := kk) I hk (w_add I.w) I.k6 (a8_add I.c I.w sx_z sx_z) (fun M1 h1 => a9_add h1 I.w sx_z sx_z)⟩
theorem cL_401 (I : lI v3 kk M A) (v : lV G v3) (hk : lK l G v3) : LL_law_401 l G v3 M := vL_law_401 ⟨v.bd 1 (by decide), v.bd 2 (by decide), v.bd 3 (by decide), lw_a (k2 := kk) I hk (w_say I.w) I.k6 (a8_say I.c I.w sx_z sx_z sx_z) (fun M1 h1 => a9_say h1 I.w sx_z sx_z sx_z)⟩
theorem cL_444 (I : lI v3 kk M A) (v : lV G v3) (hk : lK l G v3) : LL_law_444 l G v3 M := vL_law_444 ⟨v.bd 1 (by decide), lw_a (k2 := kk) I hk (w_leave I.w I.z) I.k6 (a8_leave I.c I.w sx_z) (fun M1 h1 => a9_leave h1 I.w sx_z)⟩
theorem cL_467 (I : lI v3 kk M A) (v : lV G v3) (hk : lK l G v3) : LL_law_467 l G v3 M := vL_law_467 ⟨v.bd 1 (by decide), lw_a (k2 := kk) I hk (w_fee I.w) I.k6 (a8_fee I.c I.w sx_z) (fun M1 h1 => a9_fee h1 I.w sx_z)⟩
theorem cL_490 (I : lI v3 kk M A) (v : lV G v3) (hk : lK l G v3) : LL_law_490 l G v3 M := vL_law_490 ⟨v.bd 1 (by decide), lw_a (k2 := kk) I hk (w_law I.w) I.k6 (a8_law I.c I.w sx_z) (fun M1 h1 => a9_law h1 I.w sx_z)⟩
theorem cL_513 (I : lI v3 kk M A) (v : lV G v3) (hk : lK l G v3) : LL_law_513 l G v3 M := vL_law_513 ⟨v.bd 1 (by decide), lw_a (k2 := kk + 1) I hk (w_close I.w) (by have := I.2.2; omega) (a8_close I.c I.w (I.kb v) sx_z) (fun M1 h1 => a9_close h1 I.w (I.kb v) sx_z)⟩
theorem cL_536 (I : lI v3 kk M A) (v : lV G v3) (hk : lK l G v3) : LL_law_536 l G v3 M := vL_law_536 (lw_a (k2 := kk) I hk (w_undo I.w) I.k6 (a8_undo I.c I.w ) (fun M1 h1 => a9_undo h1 I.w ))
theorem cL_549 (I : lI v3 kk M A) (v : lV G v3) (hk : lK l G v3) : LL_law_549 l G v3 M := vL_law_549 ⟨v.bd 1 (by decide), lw_a (k2 := kk) I hk (w_keep I.w) I.k6 (a8_keep I.c I.w sx_z) (fun M1 h1 => a9_keep h1 I.w sx_z)⟩
theorem cL_572 (I : lI v3 kk M A) (v : lV G v3) (hk : lK l G v3) : LL_law_572 l G v3 M := vL_law_572 ⟨v.bd 1 (by decide), lw_a (k2 := kk) I hk (w_back I.w) I.k6 (a8_back I.c I.w sx_z) (fun M1 h1 => a9_back h1 I.w sx_z)⟩
theorem cL_595 (I : lI v3 kk M A) (v : lV G v3) (hk : lK l G v3) : LL_law_595 l G v3 M := vL_law_595 ⟨v.bd 1 (by decide), v.bd 2 (by decide), lw_q I hk (q8_trader I.cx sx_z sx_z) (fun M1 I1 => q9_trader I1.mx sx_z sx_z)⟩
theorem cL_628 (I : lI v3 kk M A) (v : lV G v3) (hk : lK l G v3) : LL_law_628 l G v3 M := vL_law_628 ⟨v.bd 1 (by decide), v.bd 2 (by decide), sx_z, fun _ => ⟨v.bd 3 (by decide), v.bd 4 (by decide), lw_q I hk (q8_row I.cx sx_z (.inl rfl) sx_z sx_z) (fun M1 I1 => q9_row I1.mx sx_z (.inl rfl) sx_z sx_z)⟩, fun _ => ⟨v.bd 3 (by decide), v.bd 4 (by decide), lw_q I hk (q8_row I.cx sx_z (.inr rfl) sx_z sx_z) (fun M1 I1 => q9_row I1.mx sx_z (.inr rfl) sx_z sx_z)⟩⟩
theorem cL_697 (I : lI v3 kk M A) (v : lV G v3) (hk : lK l G v3) : LL_law_697 l G v3 M := vL_law_697 ⟨v.bd 1 (by decide), v.bd 2 (by decide), lw_q I hk (q8_market I.cx sx_z sx_z) (fun M1 I1 => m_market I1.mx sx_z sx_z)⟩
theorem cL_730 (I : lI v3 kk M A) (v : lV G v3) (hk : lK l G v3) : LL_law_730 l G v3 M := vL_law_730 ⟨v.bd 1 (by decide), v.bd 2 (by decide), lw_q I hk (q8_deal I.cx sx_z sx_z) (fun M1 I1 => q9_deal I1.mx sx_z sx_z)⟩
theorem cL_763 (I : lI v3 kk M A) (v : lV G v3) (hk : lK l G v3) : LL_law_763 l G v3 M := vL_law_763 ⟨v.bd 1 (by decide), v.bd 2 (by decide), lw_q I hk (q8_lie I.cx sx_z sx_z) (fun M1 I1 => q9_lie I1.mx sx_z sx_z)⟩
theorem cL_796 (I : lI v3 kk M A) (v : lV G v3) (hk : lK l G v3) : LL_law_796 l G v3 M := vL_law_796 ⟨v.bd 1 (by decide), v.bd 2 (by decide), lw_q I hk (q8_tempted I.cx sx_z sx_z) (fun M1 I1 => q9_tempted I1.mx sx_z sx_z)⟩
theorem cL_829 (I : lI v3 kk M A) (v : lV G v3) (hk : lK l G v3) : LL_law_829 l G v3 M := vL_law_829 ⟨v.bd 1 (by decide), lw_q I hk (q8_missed I.cx sx_z) (fun M1 I1 => q9_missed I1.mx sx_z)⟩
theorem cL_852 (I : lI v3 kk M A) (v : lV G v3) (hk : lK l G v3) : LL_law_852 l G v3 M := vL_law_852 ⟨v.bd 1 (by decide), v.bd 2 (by decide), lw_q I hk (q8_open I.cx sx_z sx_z) (fun M1 I1 => q9_open I1.mx sx_z sx_z)⟩
theorem cL_885 (I : lI v3 kk M A) (v : lV G v3) (hk : lK l G v3) : LL_law_885 l G v3 M := vL_law_885 ⟨v.bd 1 (by decide), lw_ql I hk (q8_ties I.cx sx_z) (fun M1 I1 => q9_ties I1.mx sx_z)⟩
theorem cL_909 (I : lI v3 kk M A) (v : lV G v3) (hk : lK l G v3) : LL_law_909 l G v3 M := vL_law_909 ⟨v.bd 1 (by decide), v.bd 2 (by decide), v.bd 3 (by decide), lw_q I hk (q8_under I.cx sx_z sx_z sx_z) (fun M1 I1 => q9_under I1.mx sx_z sx_z sx_z)⟩
theorem cL_952 (I : lI v3 kk M A) (v : lV G v3) (hk : lK l G v3) : LL_law_952 l G v3 M := vL_law_952 ⟨v.bd 1 (by decide), v.bd 2 (by decide), v.bd 3 (by decide), lw_q I hk (q8_feeing I.cx sx_z sx_z sx_z) (fun M1 I1 => q9_feeing I1.mx sx_z sx_z sx_z)⟩
theorem cL_995 (I : lI v3 kk M A) (v : lV G v3) (hk : lK l G v3) : LL_law_995 l G v3 M := vL_law_995 ⟨v.bd 1 (by decide), lw_q I hk (q8_bestFee I.cx sx_z) (fun M1 I1 => q9_bestFee I1.mx sx_z)⟩
theorem cL_1018 (I : lI v3 kk M A) (v : lV G v3) (hk : lK l G v3) : LL_law_1018 l G v3 M := vL_law_1018 ⟨v.bd 1 (by decide), lw_q I hk (q8_served I.cx sx_z) (fun M1 I1 => q9_served I1.mx sx_z)⟩
theorem cL_1041 (I : lI v3 kk M A) (v : lV G v3) (hk : lK l G v3) : LL_law_1041 l G v3 M := vL_law_1041 (lw_ql I hk (q8_share I.cx ) (fun M1 I1 => q9_share I1.mx ))
theorem cL_1055 (I : lI v3 kk M A) (v : lV G v3) (hk : lK l G v3) : LL_law_1055 l G v3 M := vL_law_1055 ⟨v.bd 1 (by decide), lw_q I hk (q8_audit I.cx (I.pu v) sx_z) (fun M1 I1 => q9_audit I1.mx (I.pu v) sx_z)⟩
theorem cL_1078 (I : lI v3 kk M A) (v : lV G v3) (hk : lK l G v3) : LL_law_1078 l G v3 M := vL_law_1078 ⟨v.bd 1 (by decide), sx_z, fun _ => ⟨v.bd 2 (by decide), lw_q I hk (q8_entry I.cx (.inl rfl) sx_z) (fun M1 I1 => q9_entry I1.mx (.inl rfl) sx_z)⟩, fun _ => ⟨v.bd 2 (by decide), lw_q I hk (q8_entry I.cx (.inr rfl) sx_z) (fun M1 I1 => q9_entry I1.mx (.inr rfl) sx_z)⟩⟩
theorem cL_1127 (I : lI v3 kk M A) (v : lV G v3) (hk : lK l G v3) : LL_law_1127 l G v3 M := vL_law_1127 ⟨v.bd 1 (by decide), lw_q I hk (q8_letter I.cx sx_z) (fun M1 I1 => q9_letter I1.mx sx_z)⟩
theorem cL_1150 (I : lI v3 kk M A) (v : lV G v3) (hk : lK l G v3) : LL_law_1150 l G v3 M := vL_law_1150 ⟨v.bd 1 (by decide), v.bd 2 (by decide), v.bd 3 (by decide), lw_q I hk (q8_match I.cx sx_z sx_z sx_z) (fun M1 I1 => q9_match I1.mx sx_z sx_z sx_z)⟩
theorem cL_1193 (I : lI v3 kk M A) (v : lV G v3) (hk : lK l G v3) : LL_law_1193 l G v3 M := vL_law_1193 ⟨v.bd 1 (by decide), v.bd 2 (by decide), v.bd 3 (by decide), lw_q I hk (q8_merged I.cx sx_z sx_z sx_z) (fun M1 I1 => q9_merged I1.mx sx_z sx_z sx_z)⟩
theorem cL_1236 (I : lI v3 kk M A) (v : lV G v3) (hk : lK l G v3) : LL_law_1236 l G v3 M := vL_law_1236 ⟨v.bd 1 (by decide), v.bd 2 (by decide), lw_q I hk (q8_prices I.cx sx_z sx_z) (fun M1 I1 => q9_prices I1.mx sx_z sx_z)⟩
theorem cL_1269 (I : lI v3 kk M A) (v : lV G v3) (hk : lK l G v3) : LL_law_1269 l G v3 M := vL_law_1269 ⟨v.bd 1 (by decide), lw_q I hk (q8_bar I.cx sx_z) (fun M1 I1 => q9_bar I1.mx sx_z)⟩
theorem cL_1292 (I : lI v3 kk M A) (v : lV G v3) (hk : lK l G v3) : LL_law_1292 l G v3 M := vL_law_1292 ⟨v.bd 1 (by decide), v.bd 2 (by decide), lw_q I hk (q8_helps I.cx sx_z sx_z) (fun M1 I1 => q9_helps I1.mx sx_z sx_z)⟩
theorem cL_1325 (I : lI v3 kk M A) (v : lV G v3) (hk : lK l G v3) : LL_law_1325 l G v3 M := vL_law_1325 ⟨v.bd 1 (by decide), v.bd 2 (by decide), lw_q I hk (q8_winner I.cx sx_z sx_z) (fun M1 I1 => q9_winner I1.mx sx_z sx_z)⟩
theorem cL_1358 (I : lI v3 kk M A) (v : lV G v3) (hk : lK l G v3) : LL_law_1358 l G v3 M := vL_law_1358 ⟨v.bd 1 (by decide), v.bd 2 (by decide), v.bd 3 (by decide), lw_q I hk (q8_demand I.cx sx_z sx_z sx_z) (fun M1 I1 => q9_demand I1.mx sx_z sx_z sx_z)⟩
theorem cL_1401 (I : lI v3 kk M A) (v : lV G v3) (hk : lK l G v3) : LL_law_1401 l G v3 M := vL_law_1401 ⟨v.bd 1 (by decide), v.bd 2 (by decide), lw_q I hk (q8_lively I.cx sx_z sx_z) (fun M1 I1 => q9_lively I1.mx sx_z sx_z)⟩
theorem cL_1434 (I : lI v3 kk M A) (v : lV G v3) (hk : lK l G v3) : LL_law_1434 l G v3 M := vL_law_1434 ⟨v.bd 1 (by decide), v.bd 2 (by decide), v.bd 3 (by decide), lw_q I hk (q8_pact I.cx sx_z sx_z sx_z) (fun M1 I1 => q9_pact I1.mx sx_z sx_z sx_z)⟩
theorem cL_1477 (I : lI v3 kk M A) (v : lV G v3) (hk : lK l G v3) : LL_law_1477 l G v3 M := vL_law_1477 ⟨v.bd 1 (by decide), v.bd 2 (by decide), lw_q I hk (q8_moved I.cx sx_z sx_z) (fun M1 I1 => q9_moved I1.mx sx_z sx_z)⟩
theorem cL_1510 (I : lI v3 kk M A) (v : lV G v3) (hk : lK l G v3) : LL_law_1510 l G v3 M := vL_law_1510 ⟨v.bd 1 (by decide), v.bd 2 (by decide), lw_q I hk (q8_ranked I.cx sx_z sx_z) (fun M1 I1 => q9_ranked I1.mx sx_z sx_z)⟩
theorem cL_1543 (I : lI v3 kk M A) (v : lV G v3) (hk : lK l G v3) : LL_law_1543 l G v3 M := vL_law_1543 ⟨v.bd 1 (by decide), v.bd 2 (by decide), v.bd 3 (by decide), lw_q I hk (q8_skim I.cx sx_z sx_z sx_z) (fun M1 I1 => q9_skim I1.mx sx_z sx_z sx_z)⟩
theorem cL_1586 (I : lI v3 kk M A) (v : lV G v3) (hk : lK l G v3) : LL_law_1586 l G v3 M := vL_law_1586 ⟨v.bd 1 (by decide), lw_q I hk (q8_count I.cx I.c.2.2.1.2.1 I.c.2.2.2.2.1 I.c.2.2.2.1.1 sx_z) (fun M1 I1 => q9_count I1.mx I1.m.1.2.1.1 I1.m.1.2.2.2.1.1 I1.m.1.2.2.1.1.1 I1.m.1.2.2.1.1.2 (I.w.kf.1) (I.w.kf.2) sx_z)⟩
theorem cL_18 (v0 : 0 ≤ v3 ∧ v3 ≤ 4000 ∧ sL G ≤ 3072) (I : lI v3 kk M A) (hk : lV G v3 → lK l G v3) : LL_law_18 l G v3 M := by
  have h0 : 0 ≤ sL G := by
    show (0 : Int) ≤ ((G.1.2.2.2.1 : Nat) : Int)
    omega
  by_cases e : v3 ≤ sL G - 6
  · have v : lV G v3 := ⟨v0.1, by omega, v0.2.2⟩
    have k := hk v
    refine vL_law_18 ⟨by omega, by omega, fun c => by omega, fun _ => ⟨by omega, zI_and, fun _ => cL_220 I v k, fun _ => cL_283 I v k, fun _ => cL_306 I v k, fun _ => cL_319 I v k, fun _ => cL_368 I v k, fun _ => cL_401 I v k, fun _ => cL_444 I v k, fun _ => cL_467 I v k, fun _ => cL_490 I v k, fun _ => cL_513 I v k, fun _ => cL_536 I v k, fun _ => cL_549 I v k, fun _ => cL_572 I v k, fun _ => cL_595 I v k, fun _ => cL_628 I v k, fun _ => cL_697 I v k, fun _ => cL_730 I v k, fun _ => cL_763 I v k, fun _ => cL_796 I v k, fun _ => cL_829 I v k, fun _ => cL_852 I v k, fun _ => cL_885 I v k, fun _ => cL_909 I v k, fun _ => cL_952 I v k, fun _ => cL_995 I v k, fun _ => cL_1018 I v k, fun _ => cL_1041 I v k, fun _ => cL_1055 I v k, fun _ => cL_1078 I v k, fun _ => cL_1127 I v k, fun _ => cL_1150 I v k, fun _ => cL_1193 I v k, fun _ => cL_1236 I v k, fun _ => cL_1269 I v k, fun _ => cL_1292 I v k, fun _ => cL_1325 I v k, fun _ => cL_1358 I v k, fun _ => cL_1401 I v k, fun _ => cL_1434 I v k, fun _ => cL_1477 I v k, fun _ => cL_1510 I v k, fun _ => cL_1543 I v k, fun _ => cL_1586 I v k, fun _ => k.go I.c I.m I.w I.k6⟩⟩
  · exact vL_law_18 ⟨by omega, by omega, fun _ => rfl, fun c => absurd c e⟩
end
