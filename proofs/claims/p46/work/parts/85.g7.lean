/-! ===== objects made: the constructor of kind 7 ===== -/
def Sh7 (cs : Nat → ClassId) (h0 : Nat) (ws : va_W) : Prop := ∃ (q1 : Nat) (q2 : Nat) (w2 : va_W), Sh1 cs q2 w2 ∧ ws = (h0, .inr (7, [.ref q1, .ref q2, .int (Int32.ofInt 0), .int (Int32.ofInt 0), .int (Int32.ofInt 0), .int (Int32.ofInt 0), .int (Int32.ofInt 0)])) :: (([] ++ [(q1, .inl (cs 0, 400, .inl fun _ => Int32.ofInt 0))]) ++ w2)
set_option maxRecDepth 100000 in
theorem n_X7 (l : Launch) (D : va_G) (cs : Nat → ClassId) : NCt l m_X7_init 7 8 593 D cs (Sh7 cs) := by
  intro sz h0
  refine Met.ofW (cc := m_X7_init.2.1) (maxL := m_X7_init.2.2.1) (ret := none) (by decide +kernel) rfl ?_
  intro p e s m args below meth c s₁ B hml hv
  obtain ⟨rfl, hsz, hP, hK⟩ := hv
  have hx := B.exec
  have hb := B.bytes
  have hr := B.returns
  have hts0 := atoms_spec (ws := zwd m_X7_init) B.pre
  have hts : ∀ w ∈ zTB, w.before _ s = true := fun w hw => hts0 w (List.mem_cons_of_mem _ hw)
  have hown : s.vm.findClass m_X7_init.1.cls = some m.cls := findClass_of_methodNamed B.named
  have hlocks := B.notSynchronized
  have hin : meth.name = "<init>" := (name_of_methodNamed B.named B.method).1
  subst hsz
  have hD : va_D (nA 7 h0 s.heap.size) [(h0, .inr (7, nfs 7))] := va_one
  have hA : ∀ q, s.heap.size ≤ q → nA 7 h0 s.heap.size q := fun q h => Or.inr h
  have hS : va_S (nA 7 h0 s.heap.size) s.heap s.heap [] := va_S.rf
  have hl := lv_entry ([.ref h0]) (n := m_X7_init.2.2.1) (Nat.le_of_ble_eq_true rfl)
  rw [lg_entry_eq]
  generalize (lg_sl ([.ref h0]) ++ List.replicate (m_X7_init.2.2.1 - (lg_sl ([.ref h0])).length) Slot.unset).toArray = ls at hl ⊢
  have hl : lv_has ls m_X7_init.2.2.1 [(0, .ref h0)] := hl
  refine lv_aload_n hx hb d_X7_init_0 rfl (lv_at hl 0 rfl) ?_
  refine W.objInit hx hb hown (hts _ ol7) (hts _ oi_) (hts _ oc_) rfl (by rw [hml]; exact hl.1) rfl d_X7_init_1 (Nat.le_of_ble_eq_true rfl) (Nat.le_of_ble_eq_true rfl) ?_
  refine W.eq (g2 := F0 m 4 ls []) rfl ?_
  have ex0 : nfs 7 = [.null, .null, .int (Int32.ofInt 0), .int (Int32.ofInt 0), .int (Int32.ofInt 0), .int (Int32.ofInt 0), .int (Int32.ofInt 0)] := rfl
  have hP : va_P D vwCl ((h0, .inr (7, nfs 7)) :: []) s.heap := hP
  have hD : va_D (nA 7 h0 s.heap.size) ((h0, .inr (7, nfs 7)) :: []) := hD
  refine nw_field (X := m_X7_init) (k := 7) (N := 7) (L := 3) (j := 0) (t0 := 0) (pc := 4) (C := RX7) (T := TX7) (ty := .int) (cA := cs 0) (v := 400) (N' := 400) (a0 := (400, .inl fun _ => Int32.ofInt 0)) (fty := .array .int) hx hb hts hown hin hK rfl inT7 tyX7 tyX7_ok nmX7 rfl an_int rfl (fun _ _ h => h) (fun _ => rfl) (by decide) rfl (by decide) hl d_X7_init_4 (.inr (.inl ⟨rfl, d_X7_init_5, by decide⟩)) d_X7_init_8 d_X7_init_10 (by decide) rfl (zti 101 (by decide +kernel) (by decide +kernel)) rfl (by decide +kernel) (fun _ => rfl) (fun _ => rfl) (rfl : (nfs 7).length = 7) hP hD hS hA (Nat.le_of_ble_eq_true rfl) (Nat.le_of_ble_eq_true rfl) (fun q1 H locs f1 u1 ef1 eu1 hlen hP hD hS => ?_)
  have ex1 : f1 = [.ref q1, .null, .int (Int32.ofInt 0), .int (Int32.ofInt 0), .int (Int32.ofInt 0), .int (Int32.ofInt 0), .int (Int32.ofInt 0)] := ef1.trans (by rw [ex0]; rfl)
  refine W.widen (k := 1) (n := 400) (Nat.le_of_ble_eq_true rfl) (Nat.le_of_ble_eq_true rfl) ?_
  refine nw_mfield (X := m_X7_init) (Y := m_X1_init) (k := 7) (N := 7) (j := 1) (pc := 13) (C := RX7) (T := TX7) (k1 := 1) (C1 := RX1) (T1 := TX1) (N1 := 13) (fty := .object "TradeHall$Hall") (n_X1 l D cs) hx hb hml hts hown hin hK rfl inT7 tyX7 tyX7_ok nmX7 rfl inT1 tyX1 tyX1_ok nf1 cl7_15 ic1 ini1 cI7_17 ⟨(Nat.le_of_ble_eq_true rfl), (Nat.le_of_ble_eq_true rfl)⟩ hl d_X7_init_13 d_X7_init_14 d_X7_init_17 d_X7_init_18 d_X7_init_21 (by decide) rfl (zti 102 (by decide +kernel) (by decide +kernel)) rfl (by decide +kernel) (fun _ => rfl) (fun _ => rfl) hlen hP hD hS hA (Nat.le_of_ble_eq_true rfl) (Nat.le_of_ble_eq_true rfl) (fun q2 w2 H locs f2 u2 sh2 ef2 eu2 hlen hP hD hS => ?_)
  have ex2 : f2 = [.ref q1, .ref q2, .int (Int32.ofInt 0), .int (Int32.ofInt 0), .int (Int32.ofInt 0), .int (Int32.ofInt 0), .int (Int32.ofInt 0)] := ef2.trans (by rw [ex1]; rfl)
  refine W.widen (k := 8) (n := 593) (Nat.le_of_ble_eq_true rfl) (Nat.le_of_ble_eq_true rfl) ?_
  have efs := ex2
  have ews : u2 = (([] ++ [(q1, .inl (cs 0, 400, .inl fun _ => Int32.ofInt 0))]) ++ w2) := by rw [eu2, eu1]
  rw [efs, ews] at hP hD
  exact W.vret hx hb hr (fun t ht hW => ⟨⟨_, rfl, ⟨q1, q2, w2, sh2, rfl⟩, by rw [ht]; exact hP, hD⟩, hS.F ht⟩) hS.2.2 d_X7_init_24
