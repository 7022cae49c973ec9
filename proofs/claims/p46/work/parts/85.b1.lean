/-! ===== objects made: the constructor of kind 1 ===== -/
def Sh1 (cs : Nat → ClassId) (h0 : Nat) (ws : va_W) : Prop := ∃ (q1 : Nat) (q2 : Nat) (q3 : Nat) (q4 : Nat) (q5 : Nat) (q6 : Nat), ws = (h0, .inr (1, [.ref q1, .ref q2, .ref q3, .ref q4, .ref q5, .ref q6, .int (Int32.ofInt 0), .int (Int32.ofInt 0), .int (Int32.ofInt 0), .int (Int32.ofInt 0), .int (Int32.ofInt 0), .int (Int32.ofInt 0), .int (Int32.ofInt 0)])) :: (((((([] ++ [(q1, .inl (cs 1, 20, .inl fun _ => Int32.ofInt 0))]) ++ [(q2, .inl (cs 0, 20, .inl fun _ => Int32.ofInt 0))]) ++ [(q3, .inl (cs 0, 20, .inl fun _ => Int32.ofInt 0))]) ++ [(q4, .inl (cs 0, 80, .inl fun _ => Int32.ofInt 0))]) ++ [(q5, .inl (cs 0, 20, .inl fun _ => Int32.ofInt 0))]) ++ [(q6, .inl (cs 0, 20, .inl fun _ => Int32.ofInt 0))])
set_option maxRecDepth 100000 in
theorem n_X1 (l : Launch) (D : va_G) (cs : Nat → ClassId) : NCt l m_X1_init 1 6 180 D cs (Sh1 cs) := by
  intro sz h0
  refine Met.ofW (cc := m_X1_init.2.1) (maxL := m_X1_init.2.2.1) (ret := none) (by decide +kernel) rfl ?_
  intro p e s m args below meth c s₁ B hml hv
  obtain ⟨rfl, hsz, hP, hK⟩ := hv
  have hx := B.exec
  have hb := B.bytes
  have hr := B.returns
  have hts0 := atoms_spec (ws := zwd m_X1_init) B.pre
  have hts : ∀ w ∈ zTB, w.before _ s = true := fun w hw => hts0 w (List.mem_cons_of_mem _ hw)
  have hown : s.vm.findClass m_X1_init.1.cls = some m.cls := findClass_of_methodNamed B.named
  have hlocks := B.notSynchronized
  have hin : meth.name = "<init>" := (name_of_methodNamed B.named B.method).1
  subst hsz
  have hD : va_D (nA 1 h0 s.heap.size) [(h0, .inr (1, nfs 1))] := va_one
  have hA : ∀ q, s.heap.size ≤ q → nA 1 h0 s.heap.size q := fun q h => Or.inr h
  have hS : va_S (nA 1 h0 s.heap.size) s.heap s.heap [] := va_S.rf
  have hl := lv_entry ([.ref h0]) (n := m_X1_init.2.2.1) (Nat.le_of_ble_eq_true rfl)
  rw [lg_entry_eq]
  generalize (lg_sl ([.ref h0]) ++ List.replicate (m_X1_init.2.2.1 - (lg_sl ([.ref h0])).length) Slot.unset).toArray = ls at hl ⊢
  have hl : lv_has ls m_X1_init.2.2.1 [(0, .ref h0)] := hl
  refine lv_aload_n hx hb d_X1_init_0 rfl (lv_at hl 0 rfl) ?_
  refine W.objInit hx hb hown (hts _ ol1) (hts _ oi_) (hts _ oc_) rfl (by rw [hml]; exact hl.1) rfl d_X1_init_1 (Nat.le_of_ble_eq_true rfl) (Nat.le_of_ble_eq_true rfl) ?_
  refine W.eq (g2 := F0 m 4 ls []) rfl ?_
  have ex0 : nfs 1 = [.null, .null, .null, .null, .null, .null, .int (Int32.ofInt 0), .int (Int32.ofInt 0), .int (Int32.ofInt 0), .int (Int32.ofInt 0), .int (Int32.ofInt 0), .int (Int32.ofInt 0), .int (Int32.ofInt 0)] := rfl
  have hP : va_P D vwCl ((h0, .inr (1, nfs 1)) :: []) s.heap := hP
  have hD : va_D (nA 1 h0 s.heap.size) ((h0, .inr (1, nfs 1)) :: []) := hD
  refine nw_field (X := m_X1_init) (k := 1) (N := 13) (L := 2) (j := 0) (t0 := 1) (pc := 4) (C := RX1) (T := TX1) (ty := .boolean) (cA := cs 1) (v := 20) (N' := 20) (a0 := (20, .inl fun _ => Int32.ofInt 0)) (fty := .array .boolean) hx hb hts hown hin hK rfl inT1 tyX1 tyX1_ok nmX1 rfl an_boolean rfl (fun _ _ h => h) (fun _ => rfl) (by decide) rfl (by decide) hl d_X1_init_4 (.inl ⟨rfl, d_X1_init_5, by decide⟩) d_X1_init_7 d_X1_init_9 (by decide) rfl (zti 37 (by decide +kernel) (by decide +kernel)) rfl (by decide +kernel) (fun _ => rfl) (fun _ => rfl) (rfl : (nfs 1).length = 13) hP hD hS hA (Nat.le_of_ble_eq_true rfl) (Nat.le_of_ble_eq_true rfl) (fun q1 H locs f1 u1 ef1 eu1 hlen hP hD hS => ?_)
  have ex1 : f1 = [.ref q1, .null, .null, .null, .null, .null, .int (Int32.ofInt 0), .int (Int32.ofInt 0), .int (Int32.ofInt 0), .int (Int32.ofInt 0), .int (Int32.ofInt 0), .int (Int32.ofInt 0), .int (Int32.ofInt 0)] := ef1.trans (by rw [ex0]; rfl)
  refine W.widen (k := 1) (n := 20) (Nat.le_of_ble_eq_true rfl) (Nat.le_of_ble_eq_true rfl) ?_
  refine nw_field (X := m_X1_init) (k := 1) (N := 13) (L := 2) (j := 1) (t0 := 0) (pc := 12) (C := RX1) (T := TX1) (ty := .int) (cA := cs 0) (v := 20) (N' := 20) (a0 := (20, .inl fun _ => Int32.ofInt 0)) (fty := .array .int) hx hb hts hown hin hK rfl inT1 tyX1 tyX1_ok nmX1 rfl an_int rfl (fun _ _ h => h) (fun _ => rfl) (by decide) rfl (by decide) hl d_X1_init_12 (.inl ⟨rfl, d_X1_init_13, by decide⟩) d_X1_init_15 d_X1_init_17 (by decide) rfl (zti 38 (by decide +kernel) (by decide +kernel)) rfl (by decide +kernel) (fun _ => rfl) (fun _ => rfl) hlen hP hD hS hA (Nat.le_of_ble_eq_true rfl) (Nat.le_of_ble_eq_true rfl) (fun q2 H locs f2 u2 ef2 eu2 hlen hP hD hS => ?_)
  have ex2 : f2 = [.ref q1, .ref q2, .null, .null, .null, .null, .int (Int32.ofInt 0), .int (Int32.ofInt 0), .int (Int32.ofInt 0), .int (Int32.ofInt 0), .int (Int32.ofInt 0), .int (Int32.ofInt 0), .int (Int32.ofInt 0)] := ef2.trans (by rw [ex1]; rfl)
  refine W.widen (k := 2) (n := 40) (Nat.le_of_ble_eq_true rfl) (Nat.le_of_ble_eq_true rfl) ?_
  refine nw_field (X := m_X1_init) (k := 1) (N := 13) (L := 2) (j := 2) (t0 := 0) (pc := 20) (C := RX1) (T := TX1) (ty := .int) (cA := cs 0) (v := 20) (N' := 20) (a0 := (20, .inl fun _ => Int32.ofInt 0)) (fty := .array .int) hx hb hts hown hin hK rfl inT1 tyX1 tyX1_ok nmX1 rfl an_int rfl (fun _ _ h => h) (fun _ => rfl) (by decide) rfl (by decide) hl d_X1_init_20 (.inl ⟨rfl, d_X1_init_21, by decide⟩) d_X1_init_23 d_X1_init_25 (by decide) rfl (zti 39 (by decide +kernel) (by decide +kernel)) rfl (by decide +kernel) (fun _ => rfl) (fun _ => rfl) hlen hP hD hS hA (Nat.le_of_ble_eq_true rfl) (Nat.le_of_ble_eq_true rfl) (fun q3 H locs f3 u3 ef3 eu3 hlen hP hD hS => ?_)
  have ex3 : f3 = [.ref q1, .ref q2, .ref q3, .null, .null, .null, .int (Int32.ofInt 0), .int (Int32.ofInt 0), .int (Int32.ofInt 0), .int (Int32.ofInt 0), .int (Int32.ofInt 0), .int (Int32.ofInt 0), .int (Int32.ofInt 0)] := ef3.trans (by rw [ex2]; rfl)
  refine W.widen (k := 3) (n := 60) (Nat.le_of_ble_eq_true rfl) (Nat.le_of_ble_eq_true rfl) ?_
  refine nw_field (X := m_X1_init) (k := 1) (N := 13) (L := 2) (j := 3) (t0 := 0) (pc := 28) (C := RX1) (T := TX1) (ty := .int) (cA := cs 0) (v := 80) (N' := 80) (a0 := (80, .inl fun _ => Int32.ofInt 0)) (fty := .array .int) hx hb hts hown hin hK rfl inT1 tyX1 tyX1_ok nmX1 rfl an_int rfl (fun _ _ h => h) (fun _ => rfl) (by decide) rfl (by decide) hl d_X1_init_28 (.inl ⟨rfl, d_X1_init_29, by decide⟩) d_X1_init_31 d_X1_init_33 (by decide) rfl (zti 40 (by decide +kernel) (by decide +kernel)) rfl (by decide +kernel) (fun _ => rfl) (fun _ => rfl) hlen hP hD hS hA (Nat.le_of_ble_eq_true rfl) (Nat.le_of_ble_eq_true rfl) (fun q4 H locs f4 u4 ef4 eu4 hlen hP hD hS => ?_)
  have ex4 : f4 = [.ref q1, .ref q2, .ref q3, .ref q4, .null, .null, .int (Int32.ofInt 0), .int (Int32.ofInt 0), .int (Int32.ofInt 0), .int (Int32.ofInt 0), .int (Int32.ofInt 0), .int (Int32.ofInt 0), .int (Int32.ofInt 0)] := ef4.trans (by rw [ex3]; rfl)
  refine W.widen (k := 4) (n := 140) (Nat.le_of_ble_eq_true rfl) (Nat.le_of_ble_eq_true rfl) ?_
  refine nw_field (X := m_X1_init) (k := 1) (N := 13) (L := 2) (j := 4) (t0 := 0) (pc := 36) (C := RX1) (T := TX1) (ty := .int) (cA := cs 0) (v := 20) (N' := 20) (a0 := (20, .inl fun _ => Int32.ofInt 0)) (fty := .array .int) hx hb hts hown hin hK rfl inT1 tyX1 tyX1_ok nmX1 rfl an_int rfl (fun _ _ h => h) (fun _ => rfl) (by decide) rfl (by decide) hl d_X1_init_36 (.inl ⟨rfl, d_X1_init_37, by decide⟩) d_X1_init_39 d_X1_init_41 (by decide) rfl (zti 41 (by decide +kernel) (by decide +kernel)) rfl (by decide +kernel) (fun _ => rfl) (fun _ => rfl) hlen hP hD hS hA (Nat.le_of_ble_eq_true rfl) (Nat.le_of_ble_eq_true rfl) (fun q5 H locs f5 u5 ef5 eu5 hlen hP hD hS => ?_)
  have ex5 : f5 = [.ref q1, .ref q2, .ref q3, .ref q4, .ref q5, .null, .int (Int32.ofInt 0), .int (Int32.ofInt 0), .int (Int32.ofInt 0), .int (Int32.ofInt 0), .int (Int32.ofInt 0), .int (Int32.ofInt 0), .int (Int32.ofInt 0)] := ef5.trans (by rw [ex4]; rfl)
  refine W.widen (k := 5) (n := 160) (Nat.le_of_ble_eq_true rfl) (Nat.le_of_ble_eq_true rfl) ?_
  refine nw_field (X := m_X1_init) (k := 1) (N := 13) (L := 2) (j := 5) (t0 := 0) (pc := 44) (C := RX1) (T := TX1) (ty := .int) (cA := cs 0) (v := 20) (N' := 20) (a0 := (20, .inl fun _ => Int32.ofInt 0)) (fty := .array .int) hx hb hts hown hin hK rfl inT1 tyX1 tyX1_ok nmX1 rfl an_int rfl (fun _ _ h => h) (fun _ => rfl) (by decide) rfl (by decide) hl d_X1_init_44 (.inl ⟨rfl, d_X1_init_45, by decide⟩) d_X1_init_47 d_X1_init_49 (by decide) rfl (zti 42 (by decide +kernel) (by decide +kernel)) rfl (by decide +kernel) (fun _ => rfl) (fun _ => rfl) hlen hP hD hS hA (Nat.le_of_ble_eq_true rfl) (Nat.le_of_ble_eq_true rfl) (fun q6 H locs f6 u6 ef6 eu6 hlen hP hD hS => ?_)
  have ex6 : f6 = [.ref q1, .ref q2, .ref q3, .ref q4, .ref q5, .ref q6, .int (Int32.ofInt 0), .int (Int32.ofInt 0), .int (Int32.ofInt 0), .int (Int32.ofInt 0), .int (Int32.ofInt 0), .int (Int32.ofInt 0), .int (Int32.ofInt 0)] := ef6.trans (by rw [ex5]; rfl)
  refine W.widen (k := 6) (n := 180) (Nat.le_of_ble_eq_true rfl) (Nat.le_of_ble_eq_true rfl) ?_
  have efs := ex6
  have ews : u6 = (((((([] ++ [(q1, .inl (cs 1, 20, .inl fun _ => Int32.ofInt 0))]) ++ [(q2, .inl (cs 0, 20, .inl fun _ => Int32.ofInt 0))]) ++ [(q3, .inl (cs 0, 20, .inl fun _ => Int32.ofInt 0))]) ++ [(q4, .inl (cs 0, 80, .inl fun _ => Int32.ofInt 0))]) ++ [(q5, .inl (cs 0, 20, .inl fun _ => Int32.ofInt 0))]) ++ [(q6, .inl (cs 0, 20, .inl fun _ => Int32.ofInt 0))]) := by rw [eu6, eu5, eu4, eu3, eu2, eu1]
  rw [efs, ews] at hP hD
  exact W.vret hx hb hr (fun t ht hW => ⟨⟨_, rfl, ⟨q1, q2, q3, q4, q5, q6, rfl⟩, by rw [ht]; exact hP, hD⟩, hS.F ht⟩) hS.2.2 d_X1_init_52
