/-! ===== served: what is asked, and the class ===== -/
def wB (x : Int) : Int := kbv x * 128 - 1
def wA (f x : Int) : Int := -(kav f x * 128)
theorem wB_an : ∀ a b : Int, a < b → wB b ≤ wB a := by
  intro a b h
  unfold wB kbv
  omega
theorem wA_an (f : Int) : ∀ a b : Int, a < b → wA f b ≤ wA f a := by
  intro a b h
  unfold wA kav
  omega
def h0 (o : Int) : Int := if o = 0 then 0 else -1000000000
def sv (S : zS) : Nat → (Int → Int) → Prop
  | 0, h => ∀ o, 0 ≤ o ∧ o ≤ 80 → h o = h0 o
  | g + 1, h => ∃ f m, sv S g f ∧ DP (-1) (wA (qfee S)) f (qA S (g : Int)) m ∧ DP 1 wB m (qB S (g : Int)) h
theorem sv_u {S : zS} : ∀ {g : Nat} {h h' : Int → Int}, sv S g h → sv S g h' → ∀ o, 0 ≤ o ∧ o ≤ 80 → h o = h' o
  | 0, h, h', a, b => fun o ho => by rw [a o ho, b o ho]
  | g + 1, h, h', a, b => by
    obtain ⟨f, m, a1, a2, a3⟩ := a
    obtain ⟨f', m', b1, b2, b3⟩ := b
    exact DP_uniq (DP_uniq (sv_u a1 b1) a2 b2) a3 b3
theorem qB_w {S : zS} (h : okS S) {g : Int} : ∀ x ∈ qB S g, wB x ≤ 1279871 := by
  intro x hx
  obtain ⟨t, u, c, rfl⟩ := ((mB_ok h.1).2 x).mp hx
  have h1 := h.1.rng c.1
  have h2 := (kB_d h1).2.2.1
  unfold wB
  omega
theorem qA_w {S : zS} (h : okS S) {g : Int} : ∀ x ∈ qA S g, wA (qfee S) x ≤ 1279871 := by
  intro x hx
  obtain ⟨t, u, c, rfl⟩ := ((mA_ok h.1).2 x).mp hx
  have h1 := h.1.rng c.1
  have h2 := (kA_d h1).2.2.1 (qfee S)
  have h3 := h.2.2.1
  unfold wA
  omega
theorem sv_b {S : zS} (ok : okS S) : ∀ {g : Nat} {h : Int → Int}, sv S g h → (∀ o, 0 ≤ o ∧ o ≤ 80 → -1000000000 ≤ h o ∧ h o ≤ 204779360 * (g : Int)) ∧ 0 ≤ h 0
  | 0, h, a => ⟨fun o ho => by rw [a o ho]; unfold h0; split <;> omega, by rw [a 0 (by omega)]; decide⟩
  | g + 1, h, a => by
    obtain ⟨f, m, a1, a2, a3⟩ := a
    have ih := sv_b ok a1
    have k1 := DP_bd (lo := 0) a2 (qA_w ok) (by omega) (A_len ok.1 (mA_ok ok.1)) ih.1
    have k2 := DP_bd (lo := 0) a3 (qB_w ok) (by omega) (B_len ok.1 (mB_ok ok.1)) (fun o ho => (k1 o ho).2)
    refine ⟨fun o ho => ?_, ?_⟩
    · have := k2 o ho
      push_cast
      omega
    · have := k1 0 (by omega)
      have := k2 0 (by omega)
      omega
theorem sv_ex {S : zS} (ok : okS S) : ∀ g : Nat, ∃ h, sv S g h
  | 0 => ⟨h0, fun _ _ => rfl⟩
  | g + 1 => by
    obtain ⟨f, hf⟩ := sv_ex ok g
    obtain ⟨m, hm⟩ := DP_ex (d := -1) (f := f) (.inr rfl) (wA_an (qfee S)) (L := qA S (g : Int)) (mA_ok ok.1).1
    obtain ⟨h, hh⟩ := DP_ex (d := 1) (f := m) (.inl rfl) wB_an (L := qB S (g : Int)) (mB_ok ok.1).1
    exact ⟨h, f, m, hf, hm, hh⟩
noncomputable def hv (S : zS) : Int := @dite _ (∃ h, sv S 4 h) (Classical.propDecidable _) (fun h => h.choose 0) (fun _ => 0)
theorem hv_is {S : zS} {h : Int → Int} (a : sv S 4 h) : hv S = h 0 := by
  have hx : ∃ h, sv S 4 h := ⟨h, a⟩
  unfold hv
  rw [dif_pos hx]
  exact sv_u hx.choose_spec a 0 (by omega)
noncomputable def aServed (S : zS) (w : Int) : Int :=
  if w < 0 ∨ 2 < w then -1 else if w = 1 then (hv S + 127) / 128 * 128 - hv S else if w = 0 then (hv S + 127) / 128 else (hv S + 127) / 128 - wAll S
/-- of the units c those before trader t's unit u -/
def bf (c : Int → Int → Prop) (k : Int → Int → Int) (t u x : Int) : Prop := ∃ t' u', c t' u' ∧ (t' < t ∨ (t' = t ∧ u' < u)) ∧ x = k t' u'
def cz (S : zS) (g z t u : Int) : Prop := qU S t u ∧ qgr S t = g ∧ (qsl S t = 1 ↔ z ≠ 0)
def kz (S : zS) (z : Int) : Int → Int → Int := if z = 0 then kB (qsy S) else kA (qsy S)
def wz (S : zS) (z : Int) : Int → Int := if z = 0 then wB else wA (qfee S)
def dz (z : Int) : Int := if z = 0 then 1 else -1
noncomputable def qz (S : zS) (z g : Int) : List Int := if z = 0 then qB S g else qA S g
theorem wz_an {S : zS} {z : Int} : ∀ a b : Int, a < b → wz S z b ≤ wz S z a := by
  unfold wz
  split
  · exact wB_an
  · exact wA_an _
theorem dz_1 {z : Int} : dz z = 1 ∨ dz z = -1 := by
  unfold dz
  split
  · exact .inl rfl
  · exact .inr rfl
theorem kz_d {S : zS} (ok : okS S) {z t u t' u' : Int} (h : qU S t u) (h' : qU S t' u') (e : kz S z t u = kz S z t' u') : t = t' ∧ u = u' := by
  have h1 := ok.1.rng h
  have h2 := ok.1.rng h'
  unfold kz at e
  split at e
  · have a := kB_d h1
    have b := kB_d h2
    rw [e] at a
    omega
  · have a := kA_d h1
    have b := kA_d h2
    rw [e] at a
    refine ⟨a.1.symm.trans b.1, a.2.1.symm.trans b.2.1⟩
theorem kz_w {S : zS} (ok : okS S) {z t u : Int} (h : qU S t u) : wz S z (kz S z t u) = if z = 0 then qsy S t u * 128 - 1 else -((qsy S t u + qfee S) * 128) := by
  have h1 := ok.1.rng h
  unfold wz kz
  split
  · have a := kB_d h1
    unfold wB
    rw [a.2.2.1]
  · have a := kA_d h1
    unfold wA
    rw [a.2.2.1]
theorem bf_len {S : zS} (ok : okS S) {g z t u : Int} {L : List Int} (h : isRow L (bf (cz S g z) (kz S z) t u)) : L.length ≤ 80 ∧ ∀ x ∈ L, wz S z x ≤ 1279871 := by
  refine ⟨?_, fun x hx => ?_⟩
  · by_cases c : z = 0
    · refine PB_len (E := fun t => qgr S t = g) ok.1 h.1 fun x hx => ?_
      obtain ⟨t', u', a, -, rfl⟩ := (h.2 x).mp hx
      exact ⟨t', u', ⟨a.1, a.2.1, fun q => (a.2.2.mp q) c⟩, by unfold kz; rw [if_pos c]⟩
    · refine PA_len (E := fun t => qgr S t = g) ok.1 h.1 fun x hx => ?_
      obtain ⟨t', u', a, -, rfl⟩ := (h.2 x).mp hx
      exact ⟨t', u', ⟨a.1, a.2.1, a.2.2.mpr c⟩, by unfold kz; rw [if_neg c]⟩
  · obtain ⟨t', u', a, -, rfl⟩ := (h.2 x).mp hx
    rw [kz_w ok a.1]
    have := ok.1.rng a.1
    have := ok.2.2.1
    split <;> omega
theorem bf_end {S : zS} (ok : okS S) {g z : Int} {L : List Int} (h : isRow L (bf (cz S g z) (kz S z) (qn S) 0)) : L = qz S z g := by
  unfold qz
  by_cases c : z = 0
  · rw [if_pos c]
    refine h.uniq (mB_ok ok.1) fun x => ⟨?_, ?_⟩
    · rintro ⟨t', u', a, -, rfl⟩
      exact ⟨t', u', ⟨a.1, a.2.1, fun q => (a.2.2.mp q) c⟩, by unfold kz; rw [if_pos c]⟩
    · rintro ⟨t', u', a, rfl⟩
      exact ⟨t', u', ⟨a.1, a.2.1, ⟨fun q => absurd q a.2.2, fun q => absurd c q⟩⟩, .inl a.1.2.1, by unfold kz; rw [if_pos c]⟩
  · rw [if_neg c]
    refine h.uniq (mA_ok ok.1) fun x => ⟨?_, ?_⟩
    · rintro ⟨t', u', a, -, rfl⟩
      exact ⟨t', u', ⟨a.1, a.2.1, a.2.2.mpr c⟩, by unfold kz; rw [if_neg c]⟩
    · rintro ⟨t', u', a, rfl⟩
      exact ⟨t', u', ⟨a.1, a.2.1, ⟨fun _ => c, fun _ => a.2.2⟩⟩, .inl a.1.2.1, by unfold kz; rw [if_neg c]⟩
theorem bf_0 {S : zS} {g z : Int} : isRow [] (bf (cz S g z) (kz S z) 0 0) := by
  refine ⟨List.Pairwise.nil, fun x => ⟨fun q => absurd q List.not_mem_nil, ?_⟩⟩
  rintro ⟨t', u', a, b, -⟩
  have := a.1.1
  have := a.1.2.2.1
  omega
theorem bf_s {S : zS} (ok : okS S) {g z t u : Int} {L : List Int} (h : isRow L (bf (cz S g z) (kz S z) t u)) (c : cz S g z t u) : isRow (ins (kz S z t u) L) (bf (cz S g z) (kz S z) t (u + 1)) := by
  refine (ins_row h ?_).to fun x => ⟨?_, ?_⟩
  · rintro ⟨t', u', a, b, e⟩
    have := kz_d ok c.1 a.1 e
    omega
  · rintro (⟨t', u', a, b, rfl⟩ | rfl)
    · exact ⟨t', u', a, by omega, rfl⟩
    · exact ⟨t, u, c, by omega, rfl⟩
  · rintro ⟨t', u', a, b, rfl⟩
    by_cases q : t' = t ∧ u' = u
    · rw [q.1, q.2]
      exact .inr rfl
    · exact .inl ⟨t', u', a, by omega, rfl⟩
theorem bf_n {S : zS} {g z t u : Int} {L : List Int} (h : isRow L (bf (cz S g z) (kz S z) t u)) (hu : ∀ u', cz S g z t u' → u' < u) : isRow L (bf (cz S g z) (kz S z) (t + 1) 0) := by
  refine h.to fun x => ⟨?_, ?_⟩
  · rintro ⟨t', u', a, b, rfl⟩
    exact ⟨t', u', a, by omega, rfl⟩
  · rintro ⟨t', u', a, b, rfl⟩
    refine ⟨t', u', a, ?_, rfl⟩
    have := a.1.2.2.1
    by_cases q : t' = t
    · subst q
      have := hu u' a
      omega
    · omega
section
variable {l : Launch} {M : zM} {S : zS}
def LX5_offerAsk_3 (l : Launch) (P : zM → Prop) (v1 : Int) (v2 : Int) (M : zM) : Prop := AW l m_X5_offerAsk (zTv m_X5_offerAsk P) 3 [(0, zr 5 0), (1, zi v1), (2, zi v2)] [] M
theorem vX5_offerAsk_3 {l : Launch} {P : zM → Prop} {v1 : Int} {v2 : Int} {M : zM}
    (H0 : (zI v2 ∧ (v2 < 1 → P M) ∧ (1 ≤ v2 → ((0 ≤ v2 ∧ v2 < 81) ∧ ((0 ≤ (v2 - 1) ∧ (v2 - 1) < 81) ∧ (zI (M 22 0 v2) ∧ zI ((M 22 0 (v2 - 1)) - v1) ∧ (∀ M14 : zM, M14 = zu M 22 0 v2 (max (M 22 0 v2) ((M 22 0 (v2 - 1)) - v1)) → LX5_offerAsk_3 l P v1 (v2 - 1) M14))))))) :
    LX5_offerAsk_3 l P v1 v2 M :=
(aw_iload_n d_X5_offerAsk_3 rfl rfl 2 rfl
(aw_iconst d_X5_offerAsk_4 rfl
(have z1 := H0.1; have e2 := H0.2; aw_icmp_lt d_X5_offerAsk_5 rfl rfl z1 (by decide) (fun c3 => have e5 := e2.1 c3; (aw_rv d_X5_offerAsk_39 rfl e5)) (fun c4 => have e6 := e2.2 c4; (aw_aload_n d_X5_offerAsk_8 rfl rfl 0 rfl (by decide)
(aw_getR (k' := 22) (a := 0) (b := 0) (j := 0) d_X5_offerAsk_9 rfl fl5_9 rfl zj0 ⟨by decide, fun _ => by decide⟩
(aw_iload_n d_X5_offerAsk_12 rfl rfl 2 rfl
(aw_aload_n d_X5_offerAsk_13 rfl rfl 0 rfl (by decide)
(aw_getR (k' := 22) (a := 0) (b := 0) (j := 0) d_X5_offerAsk_14 rfl fl5_9 rfl zj0 ⟨by decide, fun _ => by decide⟩
(aw_iload_n d_X5_offerAsk_17 rfl rfl 2 rfl
(have z7 := e6.1; have e8 := e6.2; (aw_iald d_X5_offerAsk_18 rfl za22 z7
(aw_aload_n d_X5_offerAsk_19 rfl rfl 0 rfl (by decide)
(aw_getR (k' := 22) (a := 0) (b := 0) (j := 0) d_X5_offerAsk_20 rfl fl5_9 rfl zj0 ⟨by decide, fun _ => by decide⟩
(aw_iload_n d_X5_offerAsk_23 rfl rfl 2 rfl
(aw_iconst d_X5_offerAsk_24 rfl
(aw_isub d_X5_offerAsk_25 rfl
(have z9 := e8.1; have e10 := e8.2; (aw_iald d_X5_offerAsk_26 rfl za22 z9
(aw_iload_n d_X5_offerAsk_27 rfl rfl 1 rfl
(aw_isub d_X5_offerAsk_28 rfl
(have z11 := e10.1; have z12 := e10.2.1; have e13 := e10.2.2; (aw_max d_X5_offerAsk_29 rfl cm5_60 ⟨Nat.le_of_ble_eq_true rfl, Nat.le_of_ble_eq_true rfl⟩ z11 z12
(have e15 := e13 _ rfl; aw_iast d_X5_offerAsk_32 rfl za22 z7
(aw_iinc (lv' := [(2, zi (v2 - 1)), (0, zr 5 0), (1, zi v1)]) (y := (v2 - 1)) d_X5_offerAsk_33 rfl 2 rfl (by decide) rfl rfl
(aw_goto d_X5_offerAsk_36 rfl
(aw_sub [1, 2, 0] rfl e15)))))))))))))))))))))))))))
theorem vX5_offerAsk {l : Launch} {P : zM → Prop} {v1 : Int} {M : zM}
    (H0 : LX5_offerAsk_3 l P v1 80 M) :
    CV l m_X5_offerAsk [zr 5 0, zi v1] M P :=
(aw_bipush d_X5_offerAsk_0 rfl (by decide)
(aw_istore_n (lv' := [(2, zi 80), (0, zr 5 0), (1, zi v1)]) d_X5_offerAsk_2 rfl rfl (by decide) rfl
(aw_sub [1, 2, 0] rfl H0)))
def LX5_offerBid_2 (l : Launch) (P : zM → Prop) (v1 : Int) (v2 : Int) (M : zM) : Prop := AW l m_X5_offerBid (zTv m_X5_offerBid P) 2 [(0, zr 5 0), (1, zi v1), (2, zi v2)] [] M
theorem vX5_offerBid_2 {l : Launch} {P : zM → Prop} {v1 : Int} {v2 : Int} {M : zM}
    (H0 : (zI v2 ∧ (80 ≤ v2 → P M) ∧ (v2 < 80 → ((0 ≤ v2 ∧ v2 < 81) ∧ ((0 ≤ (v2 + 1) ∧ (v2 + 1) < 81) ∧ (zI (M 22 0 v2) ∧ zI ((M 22 0 (v2 + 1)) + v1) ∧ (∀ M14 : zM, M14 = zu M 22 0 v2 (max (M 22 0 v2) ((M 22 0 (v2 + 1)) + v1)) → LX5_offerBid_2 l P v1 (v2 + 1) M14))))))) :
    LX5_offerBid_2 l P v1 v2 M :=
(aw_iload_n d_X5_offerBid_2 rfl rfl 2 rfl
(aw_bipush d_X5_offerBid_3 rfl (by decide)
(have z1 := H0.1; have e2 := H0.2; aw_icmp_ge d_X5_offerBid_5 rfl rfl z1 (by decide) (fun c3 => have e5 := e2.1 c3; (aw_rv d_X5_offerBid_39 rfl e5)) (fun c4 => have e6 := e2.2 c4; (aw_aload_n d_X5_offerBid_8 rfl rfl 0 rfl (by decide)
(aw_getR (k' := 22) (a := 0) (b := 0) (j := 0) d_X5_offerBid_9 rfl fl5_9 rfl zj0 ⟨by decide, fun _ => by decide⟩
(aw_iload_n d_X5_offerBid_12 rfl rfl 2 rfl
(aw_aload_n d_X5_offerBid_13 rfl rfl 0 rfl (by decide)
(aw_getR (k' := 22) (a := 0) (b := 0) (j := 0) d_X5_offerBid_14 rfl fl5_9 rfl zj0 ⟨by decide, fun _ => by decide⟩
(aw_iload_n d_X5_offerBid_17 rfl rfl 2 rfl
(have z7 := e6.1; have e8 := e6.2; (aw_iald d_X5_offerBid_18 rfl za22 z7
(aw_aload_n d_X5_offerBid_19 rfl rfl 0 rfl (by decide)
(aw_getR (k' := 22) (a := 0) (b := 0) (j := 0) d_X5_offerBid_20 rfl fl5_9 rfl zj0 ⟨by decide, fun _ => by decide⟩
(aw_iload_n d_X5_offerBid_23 rfl rfl 2 rfl
(aw_iconst d_X5_offerBid_24 rfl
(aw_iadd d_X5_offerBid_25 rfl
(have z9 := e8.1; have e10 := e8.2; (aw_iald d_X5_offerBid_26 rfl za22 z9
(aw_iload_n d_X5_offerBid_27 rfl rfl 1 rfl
(aw_iadd d_X5_offerBid_28 rfl
(have z11 := e10.1; have z12 := e10.2.1; have e13 := e10.2.2; (aw_max d_X5_offerBid_29 rfl cm5_60 ⟨Nat.le_of_ble_eq_true rfl, Nat.le_of_ble_eq_true rfl⟩ z11 z12
(have e15 := e13 _ rfl; aw_iast d_X5_offerBid_32 rfl za22 z7
(aw_iinc (lv' := [(2, zi (v2 + 1)), (0, zr 5 0), (1, zi v1)]) (y := (v2 + 1)) d_X5_offerBid_33 rfl 2 rfl (by decide) rfl rfl
(aw_goto d_X5_offerBid_36 rfl
(aw_sub [1, 2, 0] rfl e15)))))))))))))))))))))))))))
theorem vX5_offerBid {l : Launch} {P : zM → Prop} {v1 : Int} {M : zM}
    (H0 : LX5_offerBid_2 l P v1 0 M) :
    CV l m_X5_offerBid [zr 5 0, zi v1] M P :=
(aw_iconst d_X5_offerBid_0 rfl
(aw_istore_n (lv' := [(2, zi 0), (0, zr 5 0), (1, zi v1)]) d_X5_offerBid_1 rfl rfl (by decide) rfl
(aw_sub [1, 2, 0] rfl H0)))
def LX5_offerUnits_3 (l : Launch) (P : zM → Prop) (h1 : Nat) (v2 : Int) (v3 : Int) (v4 : Int) (M : zM) : Prop := AW l m_X5_offerUnits (zTv m_X5_offerUnits P) 3 [(0, zr 5 0), (1, zr 1 h1), (2, zi v2), (3, zi v3), (4, zi v4)] [] M
theorem vX5_offerUnits_3 {l : Launch} {P : zM → Prop} {h1 : Nat} {v2 : Int} {v3 : Int} {v4 : Int} {M : zM}
    (H0 : ((hW M h1 ∧ zI v2) ∧ (zI v4 ∧ zI (qun (hS M h1) v2) ∧ ((qun (hS M h1) v2) ≤ v4 → P M) ∧ (v4 < (qun (hS M h1) v2) → (zI v3 ∧ (v3 = 0 → ((hW M h1 ∧ zI v2 ∧ zI v4) ∧ (CV l m_X5_offerBid [zr 5 0, zi (((qsy (hS M h1) v2 v4) * 128) - 1)] M (fun M18 => LX5_offerUnits_3 l P h1 v2 v3 (v4 + 1) M18)))) ∧ (v3 ≠ 0 → ((hW M h1 ∧ zI v2 ∧ zI v4) ∧ (CV l m_X5_offerAsk [zr 5 0, zi (((qsy (hS M h1) v2 v4) + (M 1 h1 7)) * 128)] M (fun M23 => LX5_offerUnits_3 l P h1 v2 v3 (v4 + 1) M23))))))))) :
    LX5_offerUnits_3 l P h1 v2 v3 v4 M :=
(aw_iload d_X5_offerUnits_3 rfl 4 rfl
(aw_aload_n d_X5_offerUnits_5 rfl rfl 1 rfl (by decide)
(aw_iload_n d_X5_offerUnits_6 rfl rfl 2 rfl
(have z1 := H0.1; have e2 := H0.2; (aw_VI (As := [zi v2]) (st := [zi v4]) d_X5_offerUnits_7 rfl cv5_43 ⟨Nat.le_of_ble_eq_true rfl, Nat.le_of_ble_eq_true rfl⟩ rfl rfl (Nat.le_of_ble_eq_true rfl) (Nat.le_of_ble_eq_true rfl) (s_X1_unitsOf z1) (fun _ _ hq => aw_eqs hq
(have z3 := e2.1; have z4 := e2.2.1; have e5 := e2.2.2; aw_icmp_ge d_X5_offerUnits_10 rfl rfl z3 z4 (fun c6 => have e8 := e5.1 c6; (aw_rv d_X5_offerUnits_63 rfl e8)) (fun c7 => have e9 := e5.2 c7; (aw_iload_n d_X5_offerUnits_13 rfl rfl 3 rfl
(have z10 := e9.1; have e11 := e9.2; aw_if_eq d_X5_offerUnits_14 rfl rfl z10 (fun c12 => have e14 := e11.1 c12; (aw_aload_n d_X5_offerUnits_40 rfl rfl 0 rfl (by decide)
(aw_aload_n d_X5_offerUnits_41 rfl rfl 1 rfl (by decide)
(aw_iload_n d_X5_offerUnits_42 rfl rfl 2 rfl
(aw_iload d_X5_offerUnits_43 rfl 4 rfl
(have z16 := e14.1; have e17 := e14.2; (aw_VI (As := [zi v2, zi v4]) (st := [zr 5 0]) d_X5_offerUnits_45 rfl cv5_46 ⟨Nat.le_of_ble_eq_true rfl, Nat.le_of_ble_eq_true rfl⟩ rfl rfl (Nat.le_of_ble_eq_true rfl) (Nat.le_of_ble_eq_true rfl) (s_X1_said z16) (fun _ _ hq => aw_eqs hq
(aw_sipush d_X5_offerUnits_48 rfl (by decide)
(aw_imul d_X5_offerUnits_51 rfl
(aw_iconst d_X5_offerUnits_52 rfl
(aw_isub d_X5_offerUnits_53 rfl
(aw_VV (As := [zi (((qsy (hS M h1) v2 v4) * 128) - 1)]) (st := []) d_X5_offerUnits_54 rfl cv5_57 ⟨Nat.le_of_ble_eq_true rfl, Nat.le_of_ble_eq_true rfl⟩ rfl rfl (Nat.le_of_ble_eq_true rfl) (Nat.le_of_ble_eq_true rfl) e17 (fun M18 e19 => (aw_iinc (lv' := [(4, zi (v4 + 1)), (0, zr 5 0), (1, zr 1 h1), (2, zi v2), (3, zi v3)]) (y := (v4 + 1)) d_X5_offerUnits_57 rfl 4 rfl (by decide) rfl rfl
(aw_goto d_X5_offerUnits_60 rfl
(aw_sub [1, 2, 3, 4, 0] rfl e19))))))))))))))))) (fun c13 => have e15 := e11.2 c13; (aw_aload_n d_X5_offerUnits_17 rfl rfl 0 rfl (by decide)
(aw_aload_n d_X5_offerUnits_18 rfl rfl 1 rfl (by decide)
(aw_iload_n d_X5_offerUnits_19 rfl rfl 2 rfl
(aw_iload d_X5_offerUnits_20 rfl 4 rfl
(have z21 := e15.1; have e22 := e15.2; (aw_VI (As := [zi v2, zi v4]) (st := [zr 5 0]) d_X5_offerUnits_22 rfl cv5_46 ⟨Nat.le_of_ble_eq_true rfl, Nat.le_of_ble_eq_true rfl⟩ rfl rfl (Nat.le_of_ble_eq_true rfl) (Nat.le_of_ble_eq_true rfl) (s_X1_said z21) (fun _ _ hq => aw_eqs hq
(aw_aload_n d_X5_offerUnits_25 rfl rfl 1 rfl (by decide)
(aw_getI (kc := 7) d_X5_offerUnits_26 rfl fl5_50 rfl rfl
(aw_iadd d_X5_offerUnits_29 rfl
(aw_sipush d_X5_offerUnits_30 rfl (by decide)
(aw_imul d_X5_offerUnits_33 rfl
(aw_VV (As := [zi (((qsy (hS M h1) v2 v4) + (M 1 h1 7)) * 128)]) (st := []) d_X5_offerUnits_34 rfl cv5_53 ⟨Nat.le_of_ble_eq_true rfl, Nat.le_of_ble_eq_true rfl⟩ rfl rfl (Nat.le_of_ble_eq_true rfl) (Nat.le_of_ble_eq_true rfl) e22 (fun M23 e24 => (aw_goto d_X5_offerUnits_37 rfl
(aw_iinc (lv' := [(4, zi (v4 + 1)), (0, zr 5 0), (1, zr 1 h1), (2, zi v2), (3, zi v3)]) (y := (v4 + 1)) d_X5_offerUnits_57 rfl 4 rfl (by decide) rfl rfl
(aw_goto d_X5_offerUnits_60 rfl
(aw_sub [1, 2, 3, 4, 0] rfl e24)))))))))))))))))))))))))))))
theorem vX5_offerUnits {l : Launch} {P : zM → Prop} {h1 : Nat} {v2 : Int} {v3 : Int} {M : zM}
    (H0 : LX5_offerUnits_3 l P h1 v2 v3 0 M) :
    CV l m_X5_offerUnits [zr 5 0, zr 1 h1, zi v2, zi v3] M P :=
(aw_iconst d_X5_offerUnits_0 rfl
(aw_istore (lv' := [(4, zi 0), (0, zr 5 0), (1, zr 1 h1), (2, zi v2), (3, zi v3)]) d_X5_offerUnits_1 rfl (by decide) rfl
(aw_sub [1, 2, 3, 4, 0] rfl H0)))
def LX5_offerGrade_3 (l : Launch) (P : zM → Prop) (h1 : Nat) (v2 : Int) (v3 : Int) (v4 : Int) (M : zM) : Prop := AW l m_X5_offerGrade (zTv m_X5_offerGrade P) 3 [(0, zr 5 0), (1, zr 1 h1), (2, zi v2), (3, zi v3), (4, zi v4)] [] M
theorem vX5_offerGrade_3 {l : Launch} {P : zM → Prop} {h1 : Nat} {v2 : Int} {v3 : Int} {v4 : Int} {M : zM}
    (H0 : (zI v4 ∧ zI (M 1 h1 6) ∧ ((M 1 h1 6) ≤ v4 → P M) ∧ (v4 < (M 1 h1 6) → ((hW M h1 ∧ 0 ≤ v4 ∧ v4 < M 1 h1 6) ∧ (zI (qgr (hS M h1) v4) ∧ zI v2 ∧ ((qgr (hS M h1) v4) ≠ v2 → LX5_offerGrade_3 l P h1 v2 v3 (v4 + 1) M) ∧ ((qgr (hS M h1) v4) = v2 → ((hW M h1 ∧ zI v4) ∧ (zI v3 ∧ ((zb (qsl (hS M h1) v4 = 1)) ≠ v3 → LX5_offerGrade_3 l P h1 v2 v3 (v4 + 1) M) ∧ ((zb (qsl (hS M h1) v4 = 1)) = v3 → (CV l m_X5_offerUnits [zr 5 0, zr 1 h1, zi v4, zi v3] M (fun M25 => LX5_offerGrade_3 l P h1 v2 v3 (v4 + 1) M25))))))))))) :
    LX5_offerGrade_3 l P h1 v2 v3 v4 M :=
(aw_iload d_X5_offerGrade_3 rfl 4 rfl
(aw_aload_n d_X5_offerGrade_5 rfl rfl 1 rfl (by decide)
(aw_getI (kc := 6) d_X5_offerGrade_6 rfl fl5_27 rfl rfl
(have z1 := H0.1; have z2 := H0.2.1; have e3 := H0.2.2; aw_icmp_ge d_X5_offerGrade_9 rfl rfl z1 z2 (fun c4 => have e6 := e3.1 c4; (aw_rv d_X5_offerGrade_46 rfl e6)) (fun c5 => have e7 := e3.2 c5; (aw_aload_n d_X5_offerGrade_12 rfl rfl 1 rfl (by decide)
(aw_iload d_X5_offerGrade_13 rfl 4 rfl
(have z8 := e7.1; have e9 := e7.2; (aw_VI (As := [zi v4]) (st := []) d_X5_offerGrade_15 rfl cv5_32 ⟨Nat.le_of_ble_eq_true rfl, Nat.le_of_ble_eq_true rfl⟩ rfl rfl (Nat.le_of_ble_eq_true rfl) (Nat.le_of_ble_eq_true rfl) (s_X1_gradeOf z8) (fun _ _ hq => aw_eqs hq
(aw_iload_n d_X5_offerGrade_18 rfl rfl 2 rfl
(have z10 := e9.1; have z11 := e9.2.1; have e12 := e9.2.2; aw_icmp_ne d_X5_offerGrade_19 rfl rfl z10 z11 (fun c13 => have e15 := e12.1 c13; (aw_iinc (lv' := [(4, zi (v4 + 1)), (0, zr 5 0), (1, zr 1 h1), (2, zi v2), (3, zi v3)]) (y := (v4 + 1)) d_X5_offerGrade_40 rfl 4 rfl (by decide) rfl rfl
(aw_goto d_X5_offerGrade_43 rfl
(aw_sub [1, 2, 3, 4, 0] rfl e15)))) (fun c14 => have e16 := e12.2 c14; (aw_aload_n d_X5_offerGrade_22 rfl rfl 1 rfl (by decide)
(aw_iload d_X5_offerGrade_23 rfl 4 rfl
(have z17 := e16.1; have e18 := e16.2; (aw_VI (As := [zi v4]) (st := []) d_X5_offerGrade_25 rfl cv5_36 ⟨Nat.le_of_ble_eq_true rfl, Nat.le_of_ble_eq_true rfl⟩ rfl rfl (Nat.le_of_ble_eq_true rfl) (Nat.le_of_ble_eq_true rfl) (s_X1_isSeller z17) (fun _ _ hq => aw_eqs hq
(aw_iload_n d_X5_offerGrade_28 rfl rfl 3 rfl
(have z19 := e18.1; have e20 := e18.2; aw_icmp_ne d_X5_offerGrade_29 rfl rfl zb_I z19 (fun c21 => have e23 := e20.1 c21; (aw_iinc (lv' := [(4, zi (v4 + 1)), (0, zr 5 0), (1, zr 1 h1), (2, zi v2), (3, zi v3)]) (y := (v4 + 1)) d_X5_offerGrade_40 rfl 4 rfl (by decide) rfl rfl
(aw_goto d_X5_offerGrade_43 rfl
(aw_sub [1, 2, 3, 4, 0] rfl e23)))) (fun c22 => have e24 := e20.2 c22; (aw_aload_n d_X5_offerGrade_32 rfl rfl 0 rfl (by decide)
(aw_aload_n d_X5_offerGrade_33 rfl rfl 1 rfl (by decide)
(aw_iload d_X5_offerGrade_34 rfl 4 rfl
(aw_iload_n d_X5_offerGrade_36 rfl rfl 3 rfl
(aw_VV (As := [zr 1 h1, zi v4, zi v3]) (st := []) d_X5_offerGrade_37 rfl cv5_40 ⟨Nat.le_of_ble_eq_true rfl, Nat.le_of_ble_eq_true rfl⟩ rfl rfl (Nat.le_of_ble_eq_true rfl) (Nat.le_of_ble_eq_true rfl) e24 (fun M25 e26 => (aw_iinc (lv' := [(4, zi (v4 + 1)), (0, zr 5 0), (1, zr 1 h1), (2, zi v2), (3, zi v3)]) (y := (v4 + 1)) d_X5_offerGrade_40 rfl 4 rfl (by decide) rfl rfl
(aw_goto d_X5_offerGrade_43 rfl
(aw_sub [1, 2, 3, 4, 0] rfl e26))))))))))))))))))))))))))))))
theorem vX5_offerGrade {l : Launch} {P : zM → Prop} {h1 : Nat} {v2 : Int} {v3 : Int} {M : zM}
    (H0 : LX5_offerGrade_3 l P h1 v2 v3 0 M) :
    CV l m_X5_offerGrade [zr 5 0, zr 1 h1, zi v2, zi v3] M P :=
(aw_iconst d_X5_offerGrade_0 rfl
(aw_istore (lv' := [(4, zi 0), (0, zr 5 0), (1, zr 1 h1), (2, zi v2), (3, zi v3)]) d_X5_offerGrade_1 rfl (by decide) rfl
(aw_sub [1, 2, 3, 4, 0] rfl H0)))
def LX5_serve_2 (l : Launch) (P : zM → Prop) (h1 : Nat) (v2 : Int) (M : zM) : Prop := AW l m_X5_serve (zTv m_X5_serve P) 2 [(0, zr 5 0), (1, zr 1 h1), (2, zi v2)] [] M
def LX5_serve_32 (l : Launch) (P : zM → Prop) (h1 : Nat) (v2 : Int) (M : zM) : Prop := AW l m_X5_serve (zTv m_X5_serve P) 32 [(0, zr 5 0), (1, zr 1 h1), (2, zi v2)] [] M
theorem vX5_serve_2 {l : Launch} {P : zM → Prop} {h1 : Nat} {v2 : Int} {M : zM}
    (H0 : (zI v2 ∧ (80 < v2 → LX5_serve_32 l P h1 0 M) ∧ (v2 ≤ 80 → ((v2 ≠ 0 → ((0 ≤ v2 ∧ v2 < 81) ∧ ∀ M12 : zM, M12 = zu M 22 0 v2 (-1000000000) → LX5_serve_2 l P h1 (v2 + 1) M12)) ∧ (v2 = 0 → ((0 ≤ v2 ∧ v2 < 81) ∧ ∀ M15 : zM, M15 = zu M 22 0 v2 0 → LX5_serve_2 l P h1 (v2 + 1) M15)))))) :
    LX5_serve_2 l P h1 v2 M :=
(aw_iload_n d_X5_serve_2 rfl rfl 2 rfl
(aw_bipush d_X5_serve_3 rfl (by decide)
(have z1 := H0.1; have e2 := H0.2; aw_icmp_gt d_X5_serve_5 rfl rfl z1 (by decide) (fun c3 => have e5 := e2.1 c3; (aw_iconst d_X5_serve_30 rfl
(aw_istore_n (lv' := [(2, zi 0), (0, zr 5 0), (1, zr 1 h1)]) d_X5_serve_31 rfl rfl (by decide) rfl
(aw_sub [1, 2, 0] rfl e5)))) (fun c4 => have e6 := e2.2 c4; (aw_aload_n d_X5_serve_8 rfl rfl 0 rfl (by decide)
(aw_getR (k' := 22) (a := 0) (b := 0) (j := 0) d_X5_serve_9 rfl fl5_9 rfl zj0 ⟨by decide, fun _ => by decide⟩
(aw_iload_n d_X5_serve_12 rfl rfl 2 rfl
(aw_iload_n d_X5_serve_13 rfl rfl 2 rfl
(aw_if_ne d_X5_serve_14 rfl rfl z1 (fun c7 => have e9 := e6.1 c7; (aw_ldc d_X5_serve_21 rfl ci5_15
(have z11 := e9.1; have e13 := e9.2 _ rfl; aw_iast d_X5_serve_23 rfl za22 z11
(aw_iinc (lv' := [(2, zi (v2 + 1)), (0, zr 5 0), (1, zr 1 h1)]) (y := (v2 + 1)) d_X5_serve_24 rfl 2 rfl (by decide) rfl rfl
(aw_goto d_X5_serve_27 rfl
(aw_sub [1, 2, 0] rfl e13)))))) (fun c8 => have e10 := e6.2 c8; (aw_iconst d_X5_serve_17 rfl
(aw_goto d_X5_serve_18 rfl
(have z14 := e10.1; have e16 := e10.2 _ rfl; aw_iast d_X5_serve_23 rfl za22 z14
(aw_iinc (lv' := [(2, zi (v2 + 1)), (0, zr 5 0), (1, zr 1 h1)]) (y := (v2 + 1)) d_X5_serve_24 rfl 2 rfl (by decide) rfl rfl
(aw_goto d_X5_serve_27 rfl
(aw_sub [1, 2, 0] rfl e16))))))))))))))))
theorem vX5_serve_32 {l : Launch} {P : zM → Prop} {h1 : Nat} {v2 : Int} {M : zM}
    (H0 : (zI v2 ∧ (4 ≤ v2 → (zI (((M 22 0 0) + 128) - 1) ∧ (∀ M25 : zM, M25 = zu M 5 0 1 (Int.tdiv (((M 22 0 0) + 128) - 1) 128) → (∀ M27 : zM, M27 = zu M25 5 0 2 (((M25 5 0 1) * 128) - (M25 22 0 0)) → P M27)))) ∧ (v2 < 4 → (CV l m_X5_offerGrade [zr 5 0, zr 1 h1, zi v2, zi 1] M (fun M29 => (CV l m_X5_offerGrade [zr 5 0, zr 1 h1, zi v2, zi 0] M29 (fun M32 => LX5_serve_32 l P h1 (v2 + 1) M32))))))) :
    LX5_serve_32 l P h1 v2 M :=
(aw_iload_n d_X5_serve_32 rfl rfl 2 rfl
(aw_iconst d_X5_serve_33 rfl
(have z17 := H0.1; have e18 := H0.2; aw_icmp_ge d_X5_serve_34 rfl rfl z17 (by decide) (fun c19 => have e21 := e18.1 c19; (aw_aload_n d_X5_serve_57 rfl rfl 0 rfl (by decide)
(aw_aload_n d_X5_serve_58 rfl rfl 0 rfl (by decide)
(aw_getR (k' := 22) (a := 0) (b := 0) (j := 0) d_X5_serve_59 rfl fl5_9 rfl zj0 ⟨by decide, fun _ => by decide⟩
(aw_iconst d_X5_serve_62 rfl
(aw_iald d_X5_serve_63 rfl za22 (by decide)
(aw_sipush d_X5_serve_64 rfl (by decide)
(aw_iadd d_X5_serve_67 rfl
(aw_iconst d_X5_serve_68 rfl
(aw_isub d_X5_serve_69 rfl
(aw_sipush d_X5_serve_70 rfl (by decide)
(have z23 := e21.1; have e24 := e21.2; (aw_idiv d_X5_serve_73 rfl z23 (by decide) (by decide)
(have e26 := e24 _ rfl; aw_put (kc := 1) d_X5_serve_74 rfl fp5_20 rfl rfl rfl rfl
(aw_aload_n d_X5_serve_77 rfl rfl 0 rfl (by decide)
(aw_aload_n d_X5_serve_78 rfl rfl 0 rfl (by decide)
(aw_getI (kc := 1) d_X5_serve_79 rfl fl5_20 rfl rfl
(aw_sipush d_X5_serve_82 rfl (by decide)
(aw_imul d_X5_serve_85 rfl
(aw_aload_n d_X5_serve_86 rfl rfl 0 rfl (by decide)
(aw_getR (k' := 22) (a := 0) (b := 0) (j := 0) d_X5_serve_87 rfl fl5_9 rfl zj0 ⟨by decide, fun _ => by decide⟩
(aw_iconst d_X5_serve_90 rfl
(aw_iald d_X5_serve_91 rfl za22 (by decide)
(aw_isub d_X5_serve_92 rfl
(have e28 := e26 _ rfl; aw_put (kc := 2) d_X5_serve_93 rfl fp5_24 rfl rfl rfl rfl
(aw_rv d_X5_serve_96 rfl e28)))))))))))))))))))))))))) (fun c20 => have e22 := e18.2 c20; (aw_aload_n d_X5_serve_37 rfl rfl 0 rfl (by decide)
(aw_aload_n d_X5_serve_38 rfl rfl 1 rfl (by decide)
(aw_iload_n d_X5_serve_39 rfl rfl 2 rfl
(aw_iconst d_X5_serve_40 rfl
(aw_VV (As := [zr 1 h1, zi v2, zi 1]) (st := []) d_X5_serve_41 rfl cv5_16 ⟨Nat.le_of_ble_eq_true rfl, Nat.le_of_ble_eq_true rfl⟩ rfl rfl (Nat.le_of_ble_eq_true rfl) (Nat.le_of_ble_eq_true rfl) e22 (fun M29 e30 => (aw_aload_n d_X5_serve_44 rfl rfl 0 rfl (by decide)
(aw_aload_n d_X5_serve_45 rfl rfl 1 rfl (by decide)
(aw_iload_n d_X5_serve_46 rfl rfl 2 rfl
(aw_iconst d_X5_serve_47 rfl
(aw_VV (As := [zr 1 h1, zi v2, zi 0]) (st := []) d_X5_serve_48 rfl cv5_16 ⟨Nat.le_of_ble_eq_true rfl, Nat.le_of_ble_eq_true rfl⟩ rfl rfl (Nat.le_of_ble_eq_true rfl) (Nat.le_of_ble_eq_true rfl) e30 (fun M32 e33 => (aw_iinc (lv' := [(2, zi (v2 + 1)), (0, zr 5 0), (1, zr 1 h1)]) (y := (v2 + 1)) d_X5_serve_51 rfl 2 rfl (by decide) rfl rfl
(aw_goto d_X5_serve_54 rfl
(aw_sub [1, 2, 0] rfl e33)))))))))))))))))))
theorem vX5_serve {l : Launch} {P : zM → Prop} {h1 : Nat} {M : zM}
    (H0 : LX5_serve_2 l P h1 0 M) :
    CV l m_X5_serve [zr 5 0, zr 1 h1] M P :=
(aw_iconst d_X5_serve_0 rfl
(aw_istore_n (lv' := [(2, zi 0), (0, zr 5 0), (1, zr 1 h1)]) d_X5_serve_1 rfl rfl (by decide) rfl
(aw_sub [1, 2, 0] rfl H0)))
theorem vX8_served {l : Launch} {P : Int → zM → Prop} {v1 : Int} {M : zM}
    (H0 : (zI v1 ∧ (v1 < 0 → P (-1) M) ∧ (0 ≤ v1 → ((v1 ≤ 2 → (CV l m_X5_serve [zr 5 0, zr 1 0] M (fun M11 => ((v1 ≠ 1 → ((v1 ≠ 0 → (CI l m_X8_worthOfAll [zr 8 0] M11 (fun x25 M22 => P ((M11 5 0 1) - x25) M22))) ∧ (v1 = 0 → P (M11 5 0 1) M11))) ∧ (v1 = 1 → P (M11 5 0 2) M11))))) ∧ (2 < v1 → P (-1) M))))) :
    CI l m_X8_served [zr 8 0, zi v1] M P :=
(aw_iload_n d_X8_served_0 rfl rfl 1 rfl
(have z1 := H0.1; have e2 := H0.2; aw_if_lt d_X8_served_1 rfl rfl z1 (fun c3 => have e5 := e2.1 c3; (aw_iconst d_X8_served_9 rfl
(aw_ri d_X8_served_10 rfl e5))) (fun c4 => have e6 := e2.2 c4; (aw_iload_n d_X8_served_4 rfl rfl 1 rfl
(aw_iconst d_X8_served_5 rfl
(aw_icmp_le d_X8_served_6 rfl rfl z1 (by decide) (fun c7 => have e9 := e6.1 c7; (aw_aload_n d_X8_served_11 rfl rfl 0 rfl (by decide)
(aw_getR (k' := 5) (a := 0) (b := 0) (j := 0) d_X8_served_12 rfl fl8_64 rfl zj0 ⟨by decide, fun _ => by decide⟩
(aw_aload_n d_X8_served_15 rfl rfl 0 rfl (by decide)
(aw_getR (k' := 1) (a := 0) (b := 0) (j := 0) d_X8_served_16 rfl fl8_12 rfl zj0 ⟨by decide, fun _ => by decide⟩
(aw_VV (As := [zr 1 0]) (st := []) d_X8_served_19 rfl cv8_299 ⟨Nat.le_of_ble_eq_true rfl, Nat.le_of_ble_eq_true rfl⟩ rfl rfl (Nat.le_of_ble_eq_true rfl) (Nat.le_of_ble_eq_true rfl) e9 (fun M11 e12 => (aw_iload_n d_X8_served_22 rfl rfl 1 rfl
(aw_iconst d_X8_served_23 rfl
(aw_icmp_ne d_X8_served_24 rfl rfl z1 (by decide) (fun c14 => have e16 := e12.1 c14; (aw_iload_n d_X8_served_35 rfl rfl 1 rfl
(aw_if_ne d_X8_served_36 rfl rfl z1 (fun c18 => have e20 := e16.1 c18; (aw_aload_n d_X8_served_49 rfl rfl 0 rfl (by decide)
(aw_getR (k' := 5) (a := 0) (b := 0) (j := 0) d_X8_served_50 rfl fl8_64 rfl zj0 ⟨by decide, fun _ => by decide⟩
(aw_getI (kc := 1) d_X8_served_53 rfl fl8_305 rfl rfl
(aw_aload_n d_X8_served_56 rfl rfl 0 rfl (by decide)
(aw_VI (As := []) (st := [zi (M11 5 0 1)]) d_X8_served_57 rfl cv8_308 ⟨Nat.le_of_ble_eq_true rfl, Nat.le_of_ble_eq_true rfl⟩ rfl rfl (Nat.le_of_ble_eq_true rfl) (Nat.le_of_ble_eq_true rfl) e20 (fun x25 M22 e23 => (aw_isub d_X8_served_60 rfl
(aw_ri d_X8_served_61 rfl e23))))))))) (fun c19 => have e21 := e16.2 c19; (aw_aload_n d_X8_served_39 rfl rfl 0 rfl (by decide)
(aw_getR (k' := 5) (a := 0) (b := 0) (j := 0) d_X8_served_40 rfl fl8_64 rfl zj0 ⟨by decide, fun _ => by decide⟩
(aw_getI (kc := 1) d_X8_served_43 rfl fl8_305 rfl rfl
(aw_goto d_X8_served_46 rfl
(aw_ri d_X8_served_61 rfl e21))))))))) (fun c15 => have e17 := e12.2 c15; (aw_aload_n d_X8_served_27 rfl rfl 0 rfl (by decide)
(aw_getR (k' := 5) (a := 0) (b := 0) (j := 0) d_X8_served_28 rfl fl8_64 rfl zj0 ⟨by decide, fun _ => by decide⟩
(aw_getI (kc := 2) d_X8_served_31 rfl fl8_302 rfl rfl
(aw_ri d_X8_served_34 rfl e17))))))))))))))) (fun c8 => have e10 := e6.2 c8; (aw_iconst d_X8_served_9 rfl
(aw_ri d_X8_served_10 rfl e10)))))))))
def stp (d w : Int) (f h : Int → Int) : Prop := ∀ o, 0 ≤ o ∧ o ≤ 80 → h o = if 0 ≤ o + d ∧ o + d ≤ 80 then max (f o) (f (o + d) + w) else f o
theorem c_X5_offerAsk {c : Int} (hc : 0 ≤ c ∧ c ≤ 2000000) (hf : ∀ o, 0 ≤ o ∧ o ≤ 80 → -1000000000 ≤ M 22 0 o ∧ M 22 0 o ≤ 2000000000) : CV l m_X5_offerAsk [zr 5 0, zi c] M (fun M' => Fr kScr M M' ∧ stp (-1) (-c) (M 22 0) (M' 22 0)) := by
  have loop : ∀ (n : Nat) (k : Int) (M' : zM), k.toNat = n → 0 ≤ k ∧ k ≤ 80 → Fr kScr M M' → (∀ o, 0 ≤ o ∧ o ≤ 80 → M' 22 0 o = if k < o then max (M 22 0 o) (M 22 0 (o - 1) - c) else M 22 0 o) → LX5_offerAsk_3 l (fun M' => Fr kScr M M' ∧ stp (-1) (-c) (M 22 0) (M' 22 0)) c k M' := by
    intro n
    induction n with
    | zero =>
      intro k M' hn hk f e
      refine vX5_offerAsk_3 ⟨by omega, fun _ => ⟨f, fun o ho => ?_⟩, fun q => by omega⟩
      rw [e o ho]
      by_cases q : k < o
      · rw [if_pos q, if_pos (by omega), show o + -1 = o - 1 by omega, Int.sub_eq_add_neg]
      · rw [if_neg q, if_neg (by omega)]
    | succ n ih =>
      intro k M' hn hk f e
      have b1 := hf k (by omega)
      have b2 := hf (k - 1) (by omega)
      have e1 := e k (by omega)
      have e2 := e (k - 1) (by omega)
      rw [if_neg (by omega)] at e1 e2
      refine vX5_offerAsk_3 ⟨by omega, fun q => by omega, fun _ => ⟨by omega, by omega, by omega, by omega, ?_⟩⟩
      rintro M2 rfl
      refine ih (k - 1) _ (by omega) (by omega) (f.tr (Fr.zu (by unfold kScr; omega))) fun o ho => ?_
      rw [zu_at]
      by_cases q : o = k
      · subst q
        rw [if_pos rfl, if_pos (by omega), e1, e2]
      · rw [if_neg q, e o ho]
        by_cases r : k < o
        · rw [if_pos r, if_pos (by omega)]
        · rw [if_neg r, if_neg (by omega)]
  exact vX5_offerAsk (loop _ 80 M rfl (by omega) Fr.rf fun o ho => by rw [if_neg (by omega)])
theorem c_X5_offerBid {c : Int} (hc : -1 ≤ c ∧ c ≤ 2000000) (hf : ∀ o, 0 ≤ o ∧ o ≤ 80 → -1000000000 ≤ M 22 0 o ∧ M 22 0 o ≤ 2000000000) : CV l m_X5_offerBid [zr 5 0, zi c] M (fun M' => Fr kScr M M' ∧ stp 1 c (M 22 0) (M' 22 0)) := by
  have loop : ∀ (n : Nat) (k : Int) (M' : zM), (80 - k).toNat = n → 0 ≤ k ∧ k ≤ 80 → Fr kScr M M' → (∀ o, 0 ≤ o ∧ o ≤ 80 → M' 22 0 o = if o < k then max (M 22 0 o) (M 22 0 (o + 1) + c) else M 22 0 o) → LX5_offerBid_2 l (fun M' => Fr kScr M M' ∧ stp 1 c (M 22 0) (M' 22 0)) c k M' := by
    intro n
    induction n with
    | zero =>
      intro k M' hn hk f e
      refine vX5_offerBid_2 ⟨by omega, fun _ => ⟨f, fun o ho => ?_⟩, fun q => by omega⟩
      rw [e o ho]
      by_cases q : o < k
      · rw [if_pos q, if_pos (by omega)]
      · rw [if_neg q, if_neg (by omega)]
    | succ n ih =>
      intro k M' hn hk f e
      have b1 := hf k (by omega)
      have b2 := hf (k + 1) (by omega)
      have e1 := e k (by omega)
      have e2 := e (k + 1) (by omega)
      rw [if_neg (by omega)] at e1 e2
      refine vX5_offerBid_2 ⟨by omega, fun q => by omega, fun _ => ⟨by omega, by omega, by omega, by omega, ?_⟩⟩
      rintro M2 rfl
      refine ih (k + 1) _ (by omega) (by omega) (f.tr (Fr.zu (by unfold kScr; omega))) fun o ho => ?_
      rw [zu_at]
      by_cases q : o = k
      · subst q
        rw [if_pos rfl, if_pos (by omega), e1, e2]
      · rw [if_neg q, e o ho]
        by_cases r : o < k
        · rw [if_pos r, if_pos (by omega)]
        · rw [if_neg r, if_neg (by omega)]
  exact vX5_offerBid (loop _ 0 M rfl (by omega) Fr.rf fun o ho => by rw [if_neg (by omega)])
/-- the rows so far: of M's row f the best by the units before t, u -/
def sZ (S : zS) (g z t u : Int) (f : Int → Int) (h : Int → Int) : Prop := ∃ L, isRow L (bf (cz S g z) (kz S z) t u) ∧ DP (dz z) (wz S z) f L h
theorem sZ.bd {g z t u : Int} {f h : Int → Int} (ok : okS S) (H : sZ S g z t u f h) (hf : ∀ o, 0 ≤ o ∧ o ≤ 80 → -1000000000 ≤ f o ∧ f o ≤ 1000000000) : ∀ o, 0 ≤ o ∧ o ≤ 80 → -1000000000 ≤ h o ∧ h o ≤ 2000000000 := by
  obtain ⟨L, hL, hd⟩ := H
  have k := bf_len ok hL
  have b := DP_bd (lo := 0) hd k.2 (by omega) k.1 hf
  intro o ho
  have := b o ho
  omega
theorem sZ.st {g z t u : Int} {f h h' : Int → Int} (ok : okS S) (H : sZ S g z t u f h) (c : cz S g z t u) (e : stp (dz z) (wz S z (kz S z t u)) h h') : sZ S g z t (u + 1) f h' := by
  obtain ⟨L, hL, hd⟩ := H
  exact ⟨_, bf_s ok hL c, DP_step dz_1 wz_an hL.1 hd e⟩
theorem c_X5_offerUnits {g z t : Int} {f : Int → Int} (c : CX M S) (ht : 0 ≤ t ∧ t < qn S) (hg : qgr S t = g) (hz : qsl S t = 1 ↔ z ≠ 0) (zz : zI z) (hf : ∀ o, 0 ≤ o ∧ o ≤ 80 → -1000000000 ≤ f o ∧ f o ≤ 1000000000) (H : sZ S g z t 0 f (M 22 0)) :
    CV l m_X5_offerUnits [zr 5 0, zr 1 0, zi t, zi z] M (fun M' => Fr kScr M M' ∧ sZ S g z (t + 1) 0 f (M' 22 0)) := by
  have hu := c.2.1.2.1 t ht
  have loop : ∀ (n : Nat) (u : Int) (M' : zM), (qun S t - u).toNat = n → 0 ≤ u ∧ u ≤ qun S t → Fr kScr M M' → sZ S g z t u f (M' 22 0) → LX5_offerUnits_3 l (fun M' => Fr kScr M M' ∧ sZ S g z (t + 1) 0 f (M' 22 0)) 0 t z u M' := by
    intro n
    induction n with
    | zero =>
      intro u M' hn hk fr H
      have c1 := c.scr fr
      have hn20 := c.2.1.1
      refine vX5_offerUnits_3 ?_
      rw [c1.1.2]
      refine ⟨⟨c1.1.1, by omega⟩, by omega, by omega, fun _ => ⟨fr, ?_⟩, fun q => by omega⟩
      obtain ⟨L, hL, hd⟩ := H
      exact ⟨L, bf_n hL fun u' a => by have := a.1.2.2.2; omega, hd⟩
    | succ n ih =>
      intro u M' hn hk fr H
      have c1 := c.scr fr
      have hn20 := c.2.1.1
      have qu : qU S t u := ⟨ht.1, ht.2, hk.1, by omega⟩
      have cc : cz S g z t u := ⟨qu, hg, hz⟩
      have hs := (c.2.1.rng qu).2.2
      have hfee := c.2.2.2.1
      have e := kz_w c.2 (z := z) qu
      have b := H.bd c.2 hf
      refine vX5_offerUnits_3 ?_
      rw [c1.1.2, c1.fee]
      refine ⟨⟨c1.1.1, by omega⟩, by omega, by omega, fun q => by omega, fun _ => ⟨zz, fun z0 => ⟨⟨c1.1.1, by omega, by omega⟩, ?_⟩, fun z0 => ⟨⟨c1.1.1, by omega, by omega⟩, ?_⟩⟩⟩
      · rw [if_pos z0] at e
        refine (c_X5_offerBid (by omega) b).mono fun M2 r => ih (u + 1) M2 (by omega) (by omega) (fr.tr r.1) (H.st c.2 cc ?_)
        rw [e]
        unfold dz
        rw [if_pos z0]
        exact r.2
      · rw [if_neg z0] at e
        refine (c_X5_offerAsk (by omega) b).mono fun M2 r => ih (u + 1) M2 (by omega) (by omega) (fr.tr r.1) (H.st c.2 cc ?_)
        rw [e]
        unfold dz
        rw [if_neg z0]
        exact r.2
  exact vX5_offerUnits (loop _ 0 M rfl (by omega) Fr.rf H)
theorem c_X5_offerGrade {g z : Int} (c : CX M S) (hg : 0 ≤ g ∧ g < 4) (zz : z = 0 ∨ z = 1) (hf : ∀ o, 0 ≤ o ∧ o ≤ 80 → -1000000000 ≤ M 22 0 o ∧ M 22 0 o ≤ 1000000000) :
    CV l m_X5_offerGrade [zr 5 0, zr 1 0, zi g, zi z] M (fun M' => Fr kScr M M' ∧ DP (dz z) (wz S z) (M 22 0) (qz S z g) (M' 22 0)) := by
  have hn20 := c.2.1.1
  have loop : ∀ (n : Nat) (t : Int) (M' : zM), (qn S - t).toNat = n → 0 ≤ t ∧ t ≤ qn S → Fr kScr M M' → sZ S g z t 0 (M 22 0) (M' 22 0) → LX5_offerGrade_3 l (fun M' => Fr kScr M M' ∧ DP (dz z) (wz S z) (M 22 0) (qz S z g) (M' 22 0)) 0 g z t M' := by
    intro n
    induction n with
    | zero =>
      intro t M' hn ht fr H
      have c1 := c.scr fr
      refine vX5_offerGrade_3 ?_
      rw [c1.n]
      refine ⟨by omega, by omega, fun _ => ⟨fr, ?_⟩, fun q => by omega⟩
      obtain ⟨L, hL, hd⟩ := H
      have et : t = qn S := by omega
      subst et
      rw [← bf_end c.2 hL]
      exact hd
    | succ n ih =>
      intro t M' hn ht fr H
      have c1 := c.scr fr
      have hgr := c.2.2.1 t (by omega)
      have skip : (∀ u', ¬ cz S g z t u') → sZ S g z (t + 1) 0 (M 22 0) (M' 22 0) := by
        intro no
        obtain ⟨L, hL, hd⟩ := H
        exact ⟨L, bf_n hL fun u' a => absurd a (no u'), hd⟩
      refine vX5_offerGrade_3 ?_
      rw [c1.n, c1.1.2]
      refine ⟨by omega, by omega, fun q => by omega, fun _ => ⟨⟨c1.1.1, by omega, by omega⟩, by omega, by omega, fun q => ?_, fun q => ⟨⟨c1.1.1, by omega⟩, by omega, fun r => ?_, fun r => ?_⟩⟩⟩
      · exact ih (t + 1) M' (by omega) (by omega) fr (skip fun u' a => q a.2.1)
      · refine ih (t + 1) M' (by omega) (by omega) fr (skip fun u' a => r ?_)
        by_cases s : qsl S t = 1
        · rw [zb_1 s]
          have := a.2.2.mp s
          omega
        · rw [zb_f s]
          have : ¬ z ≠ 0 := fun w => s (a.2.2.mpr w)
          omega
      · refine (c_X5_offerUnits (g := g) (f := M 22 0) c1 (by omega) q ?_ (by omega) hf H).mono fun M2 r2 => ih (t + 1) M2 (by omega) (by omega) (fr.tr r2.1) r2.2
        constructor
        · intro s
          rw [zb_1 s] at r
          omega
        · intro s
          exact zb_n0 (by omega)
  exact vX5_offerGrade (loop _ 0 M rfl (by omega) Fr.rf ⟨[], bf_0, DP_nil fun _ _ => rfl⟩)
theorem c_X5_serve (c : CX M S) : CV l m_X5_serve [zr 5 0, zr 1 0] M (fun M' => Fr kScr M M' ∧ M' 5 0 1 = (hv S + 127) / 128 ∧ M' 5 0 2 = (hv S + 127) / 128 * 128 - hv S) := by
  have loop2 : ∀ (n : Nat) (g : Nat) (M' : zM), 4 - g = n → g ≤ 4 → Fr kScr M M' → sv S g (M' 22 0) → LX5_serve_32 l (fun M' => Fr kScr M M' ∧ M' 5 0 1 = (hv S + 127) / 128 ∧ M' 5 0 2 = (hv S + 127) / 128 * 128 - hv S) 0 (g : Int) M' := by
    intro n
    induction n with
    | zero =>
      intro g M' hn hg fr H
      have eg : g = 4 := by omega
      subst eg
      have b := sv_b c.2 H
      have b1 := b.1 0 (by omega)
      have e := hv_is H
      have ed : Int.tdiv (M' 22 0 0 + 128 - 1) 128 = (hv S + 127) / 128 := by
        rw [Int.tdiv_eq_ediv_of_nonneg (by omega), e]
        omega
      refine vX5_serve_32 ⟨by omega, fun _ => ⟨by omega, ?_⟩, fun q => by omega⟩
      intro M2 q2 M3 q3
      have k1 : M3 5 0 1 = (hv S + 127) / 128 := by rw [q3, zu_at, if_neg (by decide), q2, zu_at, if_pos rfl, ed]
      refine ⟨(fr.tr (q2 ▸ Fr.zu (by unfold kScr; omega))).tr (q3 ▸ Fr.zu (by unfold kScr; omega)), k1, ?_⟩
      rw [q3, zu_at, if_pos rfl, q2, zu_at, if_pos rfl, zu_k (by decide), ed, e]
    | succ n ih =>
      intro g M' hn hg fr H
      have b := (sv_b c.2 H).1
      have b' : ∀ o, 0 ≤ o ∧ o ≤ 80 → -1000000000 ≤ M' 22 0 o ∧ M' 22 0 o ≤ 700000000 := fun o ho => by have := b o ho; omega
      refine vX5_serve_32 ⟨by omega, fun q => by omega, fun _ => (c_X5_offerGrade (c.scr fr) (by omega) (.inr rfl) (fun o ho => by have := b' o ho; omega)).mono ?_⟩
      rintro M2 ⟨f2, d2⟩
      unfold qz wz dz at d2
      rw [if_neg (by decide), if_neg (by decide), if_neg (by decide)] at d2
      have b2 := DP_bd (lo := 0) d2 (qA_w c.2) (by omega) (A_len c.2.1 (mA_ok c.2.1)) b'
      refine (c_X5_offerGrade (c.scr (fr.tr f2)) (by omega) (.inl rfl) (fun o ho => by have := b2 o ho; omega)).mono ?_
      rintro M3 ⟨f3, d3⟩
      unfold qz wz dz at d3
      rw [if_pos rfl, if_pos rfl, if_pos rfl] at d3
      have := ih (g + 1) M3 (by omega) (by omega) ((fr.tr f2).tr f3) ⟨_, _, H, d2, d3⟩
      rw [show ((g + 1 : Nat) : Int) = (g : Int) + 1 by omega] at this
      exact this
  have loop : ∀ (n : Nat) (k : Int) (M' : zM), (81 - k).toNat = n → 0 ≤ k ∧ k ≤ 81 → Fr kScr M M' → (∀ o, 0 ≤ o ∧ o < k → M' 22 0 o = h0 o) → LX5_serve_2 l (fun M' => Fr kScr M M' ∧ M' 5 0 1 = (hv S + 127) / 128 ∧ M' 5 0 2 = (hv S + 127) / 128 * 128 - hv S) 0 k M' := by
    intro n
    induction n with
    | zero =>
      intro k M' hn hk fr H
      refine vX5_serve_2 ⟨by omega, fun _ => ?_, fun q => by omega⟩
      exact loop2 _ 0 M' rfl (by omega) fr fun o ho => H o (by omega)
    | succ n ih =>
      intro k M' hn hk fr H
      have nx : ∀ M2 : zM, M2 = zu M' 22 0 k (h0 k) → LX5_serve_2 l (fun M' => Fr kScr M M' ∧ M' 5 0 1 = (hv S + 127) / 128 ∧ M' 5 0 2 = (hv S + 127) / 128 * 128 - hv S) 0 (k + 1) M2 := by
        rintro M2 rfl
        refine ih (k + 1) _ (by omega) (by omega) (fr.tr (Fr.zu (by unfold kScr; omega))) fun o ho => ?_
        rw [zu_at]
        by_cases q : o = k
        · rw [if_pos q, q]
        · rw [if_neg q]
          exact H o (by omega)
      refine vX5_serve_2 ⟨by omega, fun q => by omega, fun _ => ⟨fun q => ⟨by omega, fun M2 e => nx M2 ?_⟩, fun q => ⟨by omega, fun M2 e => nx M2 ?_⟩⟩⟩
      · rw [e, show h0 k = -1000000000 from if_neg q]
      · rw [e, show h0 k = 0 from if_pos q]
  exact vX5_serve (loop _ 0 M rfl (by omega) Fr.rf fun o ho => by omega)
theorem q8_served {w : Int} (c : CX M S) (zw : zI w) : CI l m_X8_served [zr 8 0, zi w] M (fun x M' => x = aServed S w ∧ Fr kScr M M') := by
  refine vX8_served ⟨zw, fun a => ⟨by unfold aServed; rw [if_pos (.inl a)], Fr.rf⟩, fun a => ⟨fun b => ?_, fun b => ⟨by unfold aServed; rw [if_pos (.inr b)], Fr.rf⟩⟩⟩
  refine (c_X5_serve c).mono ?_
  rintro M1 ⟨f1, e1, e2⟩
  have na : ¬ (w < 0 ∨ 2 < w) := by omega
  refine ⟨fun q1 => ⟨fun q0 => ?_, fun q0 => ⟨?_, f1⟩⟩, fun q1 => ⟨?_, f1⟩⟩
  · refine (c_worthOfAll (c.scr f1)).mono ?_
    rintro x M2 ⟨rfl, f2⟩
    refine ⟨?_, f1.tr f2.scr⟩
    unfold aServed
    rw [if_neg na, if_neg q1, if_neg q0, e1]
  · unfold aServed
    rw [if_neg na, if_neg q1, if_pos q0, e1]
  · unfold aServed
    rw [if_neg na, if_pos q1, e2]
end
