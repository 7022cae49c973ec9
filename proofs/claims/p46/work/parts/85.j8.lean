/-! ===== objects made: the class ===== -/
def Sh8 (cs : Nat → ClassId) (h0 : Nat) (ws : va_W) : Prop := ∃ (q1 : Nat) (w1 : va_W) (q2 : Nat) (w2 : va_W) (q3 : Nat) (w3 : va_W) (q4 : Nat) (w4 : va_W) (q5 : Nat) (w5 : va_W) (q6 : Nat) (w6 : va_W) (q7 : Nat) (w7 : va_W) (q8 : Nat) (w8 : va_W) (q9 : Nat) (w9 : va_W) (q10 : Nat) (q11 : Nat), Sh1 cs q1 w1 ∧ Sh7 cs q2 w2 ∧ Sh2 cs q3 w3 ∧ Sh6 cs q4 w4 ∧ Sh3 cs q5 w5 ∧ Sh0 cs q6 w6 ∧ Sh0 cs q7 w7 ∧ Sh4 cs q8 w8 ∧ Sh5 cs q9 w9 ∧ ws = (h0, .inr (8, [.ref q1, .ref q2, .ref q3, .ref q4, .ref q5, .ref q6, .ref q7, .ref q8, .ref q9, .ref q10, .ref q11])) :: ((((((((((([] ++ w1) ++ w2) ++ w3) ++ w4) ++ w5) ++ w6) ++ w7) ++ w8) ++ w9) ++ [(q10, .inl (cs 0, 501, .inl fun _ => Int32.ofInt 0))]) ++ [(q11, .inl (cs 3, 81, .inr (.inl fun _ => Int64.ofInt 0)))])
set_option maxRecDepth 100000 in
theorem n_X8 (l : Launch) (D : va_G) (cs : Nat → ClassId) : NCt l m_X8_init 8 119 4819 D cs (Sh8 cs) := by
  intro sz h0
  refine Met.ofW (cc := m_X8_init.2.1) (maxL := m_X8_init.2.2.1) (ret := none) (by decide +kernel) rfl ?_
  intro p e s m args below meth c s₁ B hml hv
  obtain ⟨rfl, hsz, hP, hK⟩ := hv
  have hx := B.exec
  have hb := B.bytes
  have hr := B.returns
  have hts0 := atoms_spec (ws := zwd m_X8_init) B.pre
  have hts : ∀ w ∈ zTB, w.before _ s = true := fun w hw => hts0 w (List.mem_cons_of_mem _ hw)
  have hown : s.vm.findClass m_X8_init.1.cls = some m.cls := findClass_of_methodNamed B.named
  have hlocks := B.notSynchronized
  have hin : meth.name = "<init>" := (name_of_methodNamed B.named B.method).1
  subst hsz
  have hD : va_D (nA 8 h0 s.heap.size) [(h0, .inr (8, nfs 8))] := va_one
  have hA : ∀ q, s.heap.size ≤ q → nA 8 h0 s.heap.size q := fun q h => Or.inr h
  have hS : va_S (nA 8 h0 s.heap.size) s.heap s.heap [] := va_S.rf
  have hl := lv_entry ([.ref h0]) (n := m_X8_init.2.2.1) (Nat.le_of_ble_eq_true rfl)
  rw [lg_entry_eq]
  generalize (lg_sl ([.ref h0]) ++ List.replicate (m_X8_init.2.2.1 - (lg_sl ([.ref h0])).length) Slot.unset).toArray = ls at hl ⊢
  have hl : lv_has ls m_X8_init.2.2.1 [(0, .ref h0)] := hl
  refine lv_aload_n hx hb d_X8_init_0 rfl (lv_at hl 0 rfl) ?_
  refine W.objInit hx hb hown (hts _ ol8) (hts _ oi_) (hts _ oc_) rfl (by rw [hml]; exact hl.1) rfl d_X8_init_1 (Nat.le_of_ble_eq_true rfl) (Nat.le_of_ble_eq_true rfl) ?_
  refine W.eq (g2 := F0 m 4 ls []) rfl ?_
  have ex0 : nfs 8 = [.null, .null, .null, .null, .null, .null, .null, .null, .null, .null, .null] := rfl
  have hP : va_P D vwCl ((h0, .inr (8, nfs 8)) :: []) s.heap := hP
  have hD : va_D (nA 8 h0 s.heap.size) ((h0, .inr (8, nfs 8)) :: []) := hD
  refine nw_mfield (X := m_X8_init) (Y := m_X1_init) (k := 8) (N := 11) (j := 0) (pc := 4) (C := RX8) (T := TX8) (k1 := 1) (C1 := RX1) (T1 := TX1) (N1 := 13) (fty := .object "TradeHall$Hall") (n_X1 l D cs) hx hb hml hts hown hin hK rfl inT8 tyX8 tyX8_ok nmX8 rfl inT1 tyX1 tyX1_ok nf1 cl8_9 ic1 ini1 cI8_11 ⟨(Nat.le_of_ble_eq_true rfl), (Nat.le_of_ble_eq_true rfl)⟩ hl d_X8_init_4 d_X8_init_5 d_X8_init_8 d_X8_init_9 d_X8_init_12 (by decide) rfl (zti 247 (by decide +kernel) (by decide +kernel)) rfl (by decide +kernel) (fun _ => rfl) (fun _ => rfl) (rfl : (nfs 8).length = 11) hP hD hS hA (Nat.le_of_ble_eq_true rfl) (Nat.le_of_ble_eq_true rfl) (fun q1 w1 H locs f1 u1 sh1 ef1 eu1 hlen hP hD hS => ?_)
  have ex1 : f1 = [.ref q1, .null, .null, .null, .null, .null, .null, .null, .null, .null, .null] := ef1.trans (by rw [ex0]; rfl)
  refine W.widen (k := 7) (n := 193) (Nat.le_of_ble_eq_true rfl) (Nat.le_of_ble_eq_true rfl) ?_
  refine nw_mfield (X := m_X8_init) (Y := m_X7_init) (k := 8) (N := 11) (j := 1) (pc := 15) (C := RX8) (T := TX8) (k1 := 7) (C1 := RX7) (T1 := TX7) (N1 := 7) (fty := .object "TradeHall$Tape") (n_X7 l D cs) hx hb hml hts hown hin hK rfl inT8 tyX8 tyX8_ok nmX8 rfl inT7 tyX7 tyX7_ok nf7 cl8_16 ic7 ini7 cI8_18 ⟨(Nat.le_of_ble_eq_true rfl), (Nat.le_of_ble_eq_true rfl)⟩ hl d_X8_init_15 d_X8_init_16 d_X8_init_19 d_X8_init_20 d_X8_init_23 (by decide) rfl (zti 248 (by decide +kernel) (by decide +kernel)) rfl (by decide +kernel) (fun _ => rfl) (fun _ => rfl) hlen hP hD hS hA (Nat.le_of_ble_eq_true rfl) (Nat.le_of_ble_eq_true rfl) (fun q2 w2 H locs f2 u2 sh2 ef2 eu2 hlen hP hD hS => ?_)
  have ex2 : f2 = [.ref q1, .ref q2, .null, .null, .null, .null, .null, .null, .null, .null, .null] := ef2.trans (by rw [ex1]; rfl)
  refine W.widen (k := 16) (n := 793) (Nat.le_of_ble_eq_true rfl) (Nat.le_of_ble_eq_true rfl) ?_
  refine nw_mfield (X := m_X8_init) (Y := m_X2_init) (k := 8) (N := 11) (j := 2) (pc := 26) (C := RX8) (T := TX8) (k1 := 2) (C1 := RX2) (T1 := TX2) (N1 := 3) (fty := .object "TradeHall$History") (n_X2 l D cs) hx hb hml hts hown hin hK rfl inT8 tyX8 tyX8_ok nmX8 rfl inT2 tyX2 tyX2_ok nf2 cl8_23 ic2 ini2 cI8_25 ⟨(Nat.le_of_ble_eq_true rfl), (Nat.le_of_ble_eq_true rfl)⟩ hl d_X8_init_26 d_X8_init_27 d_X8_init_30 d_X8_init_31 d_X8_init_34 (by decide) rfl (zti 249 (by decide +kernel) (by decide +kernel)) rfl (by decide +kernel) (fun _ => rfl) (fun _ => rfl) hlen hP hD hS hA (Nat.le_of_ble_eq_true rfl) (Nat.le_of_ble_eq_true rfl) (fun q3 w3 H locs f3 u3 sh3 ef3 eu3 hlen hP hD hS => ?_)
  have ex3 : f3 = [.ref q1, .ref q2, .ref q3, .null, .null, .null, .null, .null, .null, .null, .null] := ef3.trans (by rw [ex2]; rfl)
  refine W.widen (k := 88) (n := 2736) (Nat.le_of_ble_eq_true rfl) (Nat.le_of_ble_eq_true rfl) ?_
  refine nw_mfield (X := m_X8_init) (Y := m_X6_init) (k := 8) (N := 11) (j := 3) (pc := 37) (C := RX8) (T := TX8) (k1 := 6) (C1 := RX6) (T1 := TX6) (N1 := 2) (fty := .object "TradeHall$Shelves") (n_X6 l D cs) hx hb hml hts hown hin hK rfl inT8 tyX8 tyX8_ok nmX8 rfl inT6 tyX6 tyX6_ok nf6 cl8_30 ic6 ini6 cI8_32 ⟨(Nat.le_of_ble_eq_true rfl), (Nat.le_of_ble_eq_true rfl)⟩ hl d_X8_init_37 d_X8_init_38 d_X8_init_41 d_X8_init_42 d_X8_init_45 (by decide) rfl (zti 250 (by decide +kernel) (by decide +kernel)) rfl (by decide +kernel) (fun _ => rfl) (fun _ => rfl) hlen hP hD hS hA (Nat.le_of_ble_eq_true rfl) (Nat.le_of_ble_eq_true rfl) (fun q4 w4 H locs f4 u4 sh4 ef4 eu4 hlen hP hD hS => ?_)
  have ex4 : f4 = [.ref q1, .ref q2, .ref q3, .ref q4, .null, .null, .null, .null, .null, .null, .null] := ef4.trans (by rw [ex3]; rfl)
  refine W.widen (k := 104) (n := 3126) (Nat.le_of_ble_eq_true rfl) (Nat.le_of_ble_eq_true rfl) ?_
  refine nw_mfield (X := m_X8_init) (Y := m_X3_init) (k := 8) (N := 11) (j := 4) (pc := 48) (C := RX8) (T := TX8) (k1 := 3) (C1 := RX3) (T1 := TX3) (N1 := 2) (fty := .object "TradeHall$Letters") (n_X3 l D cs) hx hb hml hts hown hin hK rfl inT8 tyX8 tyX8_ok nmX8 rfl inT3 tyX3 tyX3_ok nf3 cl8_37 ic3 ini3 cI8_39 ⟨(Nat.le_of_ble_eq_true rfl), (Nat.le_of_ble_eq_true rfl)⟩ hl d_X8_init_48 d_X8_init_49 d_X8_init_52 d_X8_init_53 d_X8_init_56 (by decide) rfl (zti 251 (by decide +kernel) (by decide +kernel)) rfl (by decide +kernel) (fun _ => rfl) (fun _ => rfl) hlen hP hD hS hA (Nat.le_of_ble_eq_true rfl) (Nat.le_of_ble_eq_true rfl) (fun q5 w5 H locs f5 u5 sh5 ef5 eu5 hlen hP hD hS => ?_)
  have ex5 : f5 = [.ref q1, .ref q2, .ref q3, .ref q4, .ref q5, .null, .null, .null, .null, .null, .null] := ef5.trans (by rw [ex4]; rfl)
  refine W.widen (k := 106) (n := 3768) (Nat.le_of_ble_eq_true rfl) (Nat.le_of_ble_eq_true rfl) ?_
  refine nw_mfield (X := m_X8_init) (Y := m_X0_init) (k := 8) (N := 11) (j := 5) (pc := 59) (C := RX8) (T := TX8) (k1 := 0) (C1 := RX0) (T1 := TX0) (N1 := 11) (fty := .object "TradeHall$Book") (n_X0 l D cs) hx hb hml hts hown hin hK rfl inT8 tyX8 tyX8_ok nmX8 rfl inT0 tyX0 tyX0_ok nf0 cl8_44 ic0 ini0 cI8_46 ⟨(Nat.le_of_ble_eq_true rfl), (Nat.le_of_ble_eq_true rfl)⟩ hl d_X8_init_59 d_X8_init_60 d_X8_init_63 d_X8_init_64 d_X8_init_67 (by decide) rfl (zti 252 (by decide +kernel) (by decide +kernel)) rfl (by decide +kernel) (fun _ => rfl) (fun _ => rfl) hlen hP hD hS hA (Nat.le_of_ble_eq_true rfl) (Nat.le_of_ble_eq_true rfl) (fun q6 w6 H locs f6 u6 sh6 ef6 eu6 hlen hP hD hS => ?_)
  have ex6 : f6 = [.ref q1, .ref q2, .ref q3, .ref q4, .ref q5, .ref q6, .null, .null, .null, .null, .null] := ef6.trans (by rw [ex5]; rfl)
  refine W.widen (k := 109) (n := 3939) (Nat.le_of_ble_eq_true rfl) (Nat.le_of_ble_eq_true rfl) ?_
  refine nw_mfield (X := m_X8_init) (Y := m_X0_init) (k := 8) (N := 11) (j := 6) (pc := 70) (C := RX8) (T := TX8) (k1 := 0) (C1 := RX0) (T1 := TX0) (N1 := 11) (fty := .object "TradeHall$Book") (n_X0 l D cs) hx hb hml hts hown hin hK rfl inT8 tyX8 tyX8_ok nmX8 rfl inT0 tyX0 tyX0_ok nf0 cl8_44 ic0 ini0 cI8_46 ⟨(Nat.le_of_ble_eq_true rfl), (Nat.le_of_ble_eq_true rfl)⟩ hl d_X8_init_70 d_X8_init_71 d_X8_init_74 d_X8_init_75 d_X8_init_78 (by decide) rfl (zti 253 (by decide +kernel) (by decide +kernel)) rfl (by decide +kernel) (fun _ => rfl) (fun _ => rfl) hlen hP hD hS hA (Nat.le_of_ble_eq_true rfl) (Nat.le_of_ble_eq_true rfl) (fun q7 w7 H locs f7 u7 sh7 ef7 eu7 hlen hP hD hS => ?_)
  have ex7 : f7 = [.ref q1, .ref q2, .ref q3, .ref q4, .ref q5, .ref q6, .ref q7, .null, .null, .null, .null] := ef7.trans (by rw [ex6]; rfl)
  refine W.widen (k := 112) (n := 4110) (Nat.le_of_ble_eq_true rfl) (Nat.le_of_ble_eq_true rfl) ?_
  refine nw_mfield (X := m_X8_init) (Y := m_X4_init) (k := 8) (N := 11) (j := 7) (pc := 81) (C := RX8) (T := TX8) (k1 := 4) (C1 := RX4) (T1 := TX4) (N1 := 3) (fty := .object "TradeHall$Ranking") (n_X4 l D cs) hx hb hml hts hown hin hK rfl inT8 tyX8 tyX8_ok nmX8 rfl inT4 tyX4 tyX4_ok nf4 cl8_54 ic4 ini4 cI8_56 ⟨(Nat.le_of_ble_eq_true rfl), (Nat.le_of_ble_eq_true rfl)⟩ hl d_X8_init_81 d_X8_init_82 d_X8_init_85 d_X8_init_86 d_X8_init_89 (by decide) rfl (zti 254 (by decide +kernel) (by decide +kernel)) rfl (by decide +kernel) (fun _ => rfl) (fun _ => rfl) hlen hP hD hS hA (Nat.le_of_ble_eq_true rfl) (Nat.le_of_ble_eq_true rfl) (fun q8 w8 H locs f8 u8 sh8 ef8 eu8 hlen hP hD hS => ?_)
  have ex8 : f8 = [.ref q1, .ref q2, .ref q3, .ref q4, .ref q5, .ref q6, .ref q7, .ref q8, .null, .null, .null] := ef8.trans (by rw [ex7]; rfl)
  refine W.widen (k := 115) (n := 4153) (Nat.le_of_ble_eq_true rfl) (Nat.le_of_ble_eq_true rfl) ?_
  refine nw_mfield (X := m_X8_init) (Y := m_X5_init) (k := 8) (N := 11) (j := 8) (pc := 92) (C := RX8) (T := TX8) (k1 := 5) (C1 := RX5) (T1 := TX5) (N1 := 3) (fty := .object "TradeHall$Serving") (n_X5 l D cs) hx hb hml hts hown hin hK rfl inT8 tyX8 tyX8_ok nmX8 rfl inT5 tyX5 tyX5_ok nf5 cl8_61 ic5 ini5 cI8_63 ⟨(Nat.le_of_ble_eq_true rfl), (Nat.le_of_ble_eq_true rfl)⟩ hl d_X8_init_92 d_X8_init_93 d_X8_init_96 d_X8_init_97 d_X8_init_100 (by decide) rfl (zti 255 (by decide +kernel) (by decide +kernel)) rfl (by decide +kernel) (fun _ => rfl) (fun _ => rfl) hlen hP hD hS hA (Nat.le_of_ble_eq_true rfl) (Nat.le_of_ble_eq_true rfl) (fun q9 w9 H locs f9 u9 sh9 ef9 eu9 hlen hP hD hS => ?_)
  have ex9 : f9 = [.ref q1, .ref q2, .ref q3, .ref q4, .ref q5, .ref q6, .ref q7, .ref q8, .ref q9, .null, .null] := ef9.trans (by rw [ex8]; rfl)
  refine W.widen (k := 117) (n := 4237) (Nat.le_of_ble_eq_true rfl) (Nat.le_of_ble_eq_true rfl) ?_
  refine nw_field (X := m_X8_init) (k := 8) (N := 11) (L := 3) (j := 9) (t0 := 0) (pc := 103) (C := RX8) (T := TX8) (ty := .int) (cA := cs 0) (v := 501) (N' := 501) (a0 := (501, .inl fun _ => Int32.ofInt 0)) (fty := .array .int) hx hb hts hown hin hK rfl inT8 tyX8 tyX8_ok nmX8 rfl an_int rfl (fun _ _ h => h) (fun _ => rfl) (by decide) rfl (by decide) hl d_X8_init_103 (.inr (.inl ⟨rfl, d_X8_init_104, by decide⟩)) d_X8_init_107 d_X8_init_109 (by decide) rfl (zti 256 (by decide +kernel) (by decide +kernel)) rfl (by decide +kernel) (fun _ => rfl) (fun _ => rfl) hlen hP hD hS hA (Nat.le_of_ble_eq_true rfl) (Nat.le_of_ble_eq_true rfl) (fun q10 H locs f10 u10 ef10 eu10 hlen hP hD hS => ?_)
  have ex10 : f10 = [.ref q1, .ref q2, .ref q3, .ref q4, .ref q5, .ref q6, .ref q7, .ref q8, .ref q9, .ref q10, .null] := ef10.trans (by rw [ex9]; rfl)
  refine W.widen (k := 118) (n := 4738) (Nat.le_of_ble_eq_true rfl) (Nat.le_of_ble_eq_true rfl) ?_
  refine nw_field (X := m_X8_init) (k := 8) (N := 11) (L := 2) (j := 10) (t0 := 3) (pc := 112) (C := RX8) (T := TX8) (ty := .long) (cA := cs 3) (v := 81) (N' := 81) (a0 := (81, .inr (.inl fun _ => Int64.ofInt 0))) (fty := .array .long) hx hb hts hown hin hK rfl inT8 tyX8 tyX8_ok nmX8 rfl an_long rfl (fun _ _ h => h) (fun _ => rfl) (by decide) rfl (by decide) hl d_X8_init_112 (.inl ⟨rfl, d_X8_init_113, by decide⟩) d_X8_init_115 d_X8_init_117 (by decide) rfl (zti 257 (by decide +kernel) (by decide +kernel)) rfl (by decide +kernel) (fun _ => rfl) (fun _ => rfl) hlen hP hD hS hA (Nat.le_of_ble_eq_true rfl) (Nat.le_of_ble_eq_true rfl) (fun q11 H locs f11 u11 ef11 eu11 hlen hP hD hS => ?_)
  have ex11 : f11 = [.ref q1, .ref q2, .ref q3, .ref q4, .ref q5, .ref q6, .ref q7, .ref q8, .ref q9, .ref q10, .ref q11] := ef11.trans (by rw [ex10]; rfl)
  refine W.widen (k := 119) (n := 4819) (Nat.le_of_ble_eq_true rfl) (Nat.le_of_ble_eq_true rfl) ?_
  have efs := ex11
  have ews : u11 = ((((((((((([] ++ w1) ++ w2) ++ w3) ++ w4) ++ w5) ++ w6) ++ w7) ++ w8) ++ w9) ++ [(q10, .inl (cs 0, 501, .inl fun _ => Int32.ofInt 0))]) ++ [(q11, .inl (cs 3, 81, .inr (.inl fun _ => Int64.ofInt 0)))]) := by rw [eu11, eu10, eu9, eu8, eu7, eu6, eu5, eu4, eu3, eu2, eu1]
  rw [efs, ews] at hP hD
  exact W.vret hx hb hr (fun t ht hW => ⟨⟨_, rfl, ⟨q1, w1, q2, w2, q3, w3, q4, w4, q5, w5, q6, w6, q7, w7, q8, w8, q9, w9, q10, q11, sh1, sh2, sh3, sh4, sh5, sh6, sh7, sh8, sh9, rfl⟩, by rw [ht]; exact hP, hD⟩, hS.F ht⟩) hS.2.2 d_X8_init_120
