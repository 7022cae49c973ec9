/-! ===== objects made: the constructor of kind 0 ===== -/
def Sh0 (cs : Nat → ClassId) (h0 : Nat) (ws : va_W) : Prop := ∃ (q1 : Nat) (q2 : Nat), ws = (h0, .inr (0, [.ref q1, .ref q2, .int (Int32.ofInt 0), .int (Int32.ofInt 0), .int (Int32.ofInt 0), .int (Int32.ofInt 0), .int (Int32.ofInt 0), .int (Int32.ofInt 0), .int (Int32.ofInt 0), .int (Int32.ofInt 0), .int (Int32.ofInt 0)])) :: (([] ++ [(q1, .inl (cs 0, 80, .inl fun _ => Int32.ofInt 0))]) ++ [(q2, .inl (cs 0, 80, .inl fun _ => Int32.ofInt 0))])
set_option maxRecDepth 100000 in
theorem n_X0 (l : Launch) (D : va_G) (cs : Nat → ClassId) : NCt l m_X0_init 0 2 160 D cs (Sh0 cs) := by
  intro sz h0
  refine Met.ofW (cc := m_X0_init.2.1) (maxL := m_X0_init.2.2.1) (ret := none) (by decide +kernel) rfl ?_
  intro p e s m args below meth c s₁ B hml hv
  obtain ⟨rfl, hsz, hP, hK⟩ := hv
  have hx := B.exec
  have hb := B.bytes
  have hr := B.returns
  have hts0 := atoms_spec (ws := zwd m_X0_init) B.pre
  have hts : ∀ w ∈ zTB, w.before _ s = true := fun w hw => hts0 w (List.mem_cons_of_mem _ hw)
  have hown : s.vm.findClass m_X0_init.1.cls = some m.cls := findClass_of_methodNamed B.named
  have hlocks := B.notSynchronized
  have hin : meth.name = "<init>" := (name_of_methodNamed B.named B.method).1
  subst hsz
  have hD : va_D (nA 0 h0 s.heap.size) [(h0, .inr (0, nfs 0))] := va_one
  have hA : ∀ q, s.heap.size ≤ q → nA 0 h0 s.heap.size q := fun q h => Or.inr h
  have hS : va_S (nA 0 h0 s.heap.size) s.heap s.heap [] := va_S.rf
  have hl := lv_entry ([.ref h0]) (n := m_X0_init.2.2.1) (Nat.le_of_ble_eq_true rfl)
  rw [lg_entry_eq]
  generalize (lg_sl ([.ref h0]) ++ List.replicate (m_X0_init.2.2.1 - (lg_sl ([.ref h0])).length) Slot.unset).toArray = ls at hl ⊢
  have hl : lv_has ls m_X0_init.2.2.1 [(0, .ref h0)] := hl
  refine lv_aload_n hx hb d_X0_init_0 rfl (lv_at hl 0 rfl) ?_
  refine W.objInit hx hb hown (hts _ ol0) (hts _ oi_) (hts _ oc_) rfl (by rw [hml]; exact hl.1) rfl d_X0_init_1 (Nat.le_of_ble_eq_true rfl) (Nat.le_of_ble_eq_true rfl) ?_
  refine W.eq (g2 := F0 m 4 ls []) rfl ?_
  have ex0 : nfs 0 = [.null, .null, .int (Int32.ofInt 0), .int (Int32.ofInt 0), .int (Int32.ofInt 0), .int (Int32.ofInt 0), .int (Int32.ofInt 0), .int (Int32.ofInt 0), .int (Int32.ofInt 0), .int (Int32.ofInt 0), .int (Int32.ofInt 0)] := rfl
  have hP : va_P D vwCl ((h0, .inr (0, nfs 0)) :: []) s.heap := hP
  have hD : va_D (nA 0 h0 s.heap.size) ((h0, .inr (0, nfs 0)) :: []) := hD
  refine nw_field (X := m_X0_init) (k := 0) (N := 11) (L := 2) (j := 0) (t0 := 0) (pc := 4) (C := RX0) (T := TX0) (ty := .int) (cA := cs 0) (v := 80) (N' := 80) (a0 := (80, .inl fun _ => Int32.ofInt 0)) (fty := .array .int) hx hb hts hown hin hK rfl inT0 tyX0 tyX0_ok nmX0 rfl an_int rfl (fun _ _ h => h) (fun _ => rfl) (by decide) rfl (by decide) hl d_X0_init_4 (.inl ⟨rfl, d_X0_init_5, by decide⟩) d_X0_init_7 d_X0_init_9 (by decide) rfl (zti 181 (by decide +kernel) (by decide +kernel)) rfl (by decide +kernel) (fun _ => rfl) (fun _ => rfl) (rfl : (nfs 0).length = 11) hP hD hS hA (Nat.le_of_ble_eq_true rfl) (Nat.le_of_ble_eq_true rfl) (fun q1 H locs f1 u1 ef1 eu1 hlen hP hD hS => ?_)
  have ex1 : f1 = [.ref q1, .null, .int (Int32.ofInt 0), .int (Int32.ofInt 0), .int (Int32.ofInt 0), .int (Int32.ofInt 0), .int (Int32.ofInt 0), .int (Int32.ofInt 0), .int (Int32.ofInt 0), .int (Int32.ofInt 0), .int (Int32.ofInt 0)] := ef1.trans (by rw [ex0]; rfl)
  refine W.widen (k := 1) (n := 80) (Nat.le_of_ble_eq_true rfl) (Nat.le_of_ble_eq_true rfl) ?_
  refine nw_field (X := m_X0_init) (k := 0) (N := 11) (L := 2) (j := 1) (t0 := 0) (pc := 12) (C := RX0) (T := TX0) (ty := .int) (cA := cs 0) (v := 80) (N' := 80) (a0 := (80, .inl fun _ => Int32.ofInt 0)) (fty := .array .int) hx hb hts hown hin hK rfl inT0 tyX0 tyX0_ok nmX0 rfl an_int rfl (fun _ _ h => h) (fun _ => rfl) (by decide) rfl (by decide) hl d_X0_init_12 (.inl ⟨rfl, d_X0_init_13, by decide⟩) d_X0_init_15 d_X0_init_17 (by decide) rfl (zti 182 (by decide +kernel) (by decide +kernel)) rfl (by decide +kernel) (fun _ => rfl) (fun _ => rfl) hlen hP hD hS hA (Nat.le_of_ble_eq_true rfl) (Nat.le_of_ble_eq_true rfl) (fun q2 H locs f2 u2 ef2 eu2 hlen hP hD hS => ?_)
  have ex2 : f2 = [.ref q1, .ref q2, .int (Int32.ofInt 0), .int (Int32.ofInt 0), .int (Int32.ofInt 0), .int (Int32.ofInt 0), .int (Int32.ofInt 0), .int (Int32.ofInt 0), .int (Int32.ofInt 0), .int (Int32.ofInt 0), .int (Int32.ofInt 0)] := ef2.trans (by rw [ex1]; rfl)
  refine W.widen (k := 2) (n := 160) (Nat.le_of_ble_eq_true rfl) (Nat.le_of_ble_eq_true rfl) ?_
  have efs := ex2
  have ews : u2 = (([] ++ [(q1, .inl (cs 0, 80, .inl fun _ => Int32.ofInt 0))]) ++ [(q2, .inl (cs 0, 80, .inl fun _ => Int32.ofInt 0))]) := by rw [eu2, eu1]
  rw [efs, ews] at hP hD
  exact W.vret hx hb hr (fun t ht hW => ⟨⟨_, rfl, ⟨q1, q2, rfl⟩, by rw [ht]; exact hP, hD⟩, hS.F ht⟩) hS.2.2 d_X0_init_20
