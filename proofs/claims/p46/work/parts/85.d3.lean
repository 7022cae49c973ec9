/-! ===== objects made: the constructor of kind 3 ===== -/
def Sh3 (cs : Nat → ClassId) (h0 : Nat) (ws : va_W) : Prop := ∃ (q1 : Nat), ws = (h0, .inr (3, [.ref q1, .int (Int32.ofInt 0)])) :: ([] ++ [(q1, .inl (cs 0, 640, .inl fun _ => Int32.ofInt 0))])
set_option maxRecDepth 100000 in
theorem n_X3 (l : Launch) (D : va_G) (cs : Nat → ClassId) : NCt l m_X3_init 3 1 640 D cs (Sh3 cs) := by
  intro sz h0
  refine Met.ofW (cc := m_X3_init.2.1) (maxL := m_X3_init.2.2.1) (ret := none) (by decide +kernel) rfl ?_
  intro p e s m args below meth c s₁ B hml hv
  obtain ⟨rfl, hsz, hP, hK⟩ := hv
  have hx := B.exec
  have hb := B.bytes
  have hr := B.returns
  have hts0 := atoms_spec (ws := zwd m_X3_init) B.pre
  have hts : ∀ w ∈ zTB, w.before _ s = true := fun w hw => hts0 w (List.mem_cons_of_mem _ hw)
  have hown : s.vm.findClass m_X3_init.1.cls = some m.cls := findClass_of_methodNamed B.named
  have hlocks := B.notSynchronized
  have hin : meth.name = "<init>" := (name_of_methodNamed B.named B.method).1
  subst hsz
  have hD : va_D (nA 3 h0 s.heap.size) [(h0, .inr (3, nfs 3))] := va_one
  have hA : ∀ q, s.heap.size ≤ q → nA 3 h0 s.heap.size q := fun q h => Or.inr h
  have hS : va_S (nA 3 h0 s.heap.size) s.heap s.heap [] := va_S.rf
  have hl := lv_entry ([.ref h0]) (n := m_X3_init.2.2.1) (Nat.le_of_ble_eq_true rfl)
  rw [lg_entry_eq]
  generalize (lg_sl ([.ref h0]) ++ List.replicate (m_X3_init.2.2.1 - (lg_sl ([.ref h0])).length) Slot.unset).toArray = ls at hl ⊢
  have hl : lv_has ls m_X3_init.2.2.1 [(0, .ref h0)] := hl
  refine lv_aload_n hx hb d_X3_init_0 rfl (lv_at hl 0 rfl) ?_
  refine W.objInit hx hb hown (hts _ ol3) (hts _ oi_) (hts _ oc_) rfl (by rw [hml]; exact hl.1) rfl d_X3_init_1 (Nat.le_of_ble_eq_true rfl) (Nat.le_of_ble_eq_true rfl) ?_
  refine W.eq (g2 := F0 m 4 ls []) rfl ?_
  have ex0 : nfs 3 = [.null, .int (Int32.ofInt 0)] := rfl
  have hP : va_P D vwCl ((h0, .inr (3, nfs 3)) :: []) s.heap := hP
  have hD : va_D (nA 3 h0 s.heap.size) ((h0, .inr (3, nfs 3)) :: []) := hD
  refine nw_field (X := m_X3_init) (k := 3) (N := 2) (L := 3) (j := 0) (t0 := 0) (pc := 4) (C := RX3) (T := TX3) (ty := .int) (cA := cs 0) (v := 640) (N' := 640) (a0 := (640, .inl fun _ => Int32.ofInt 0)) (fty := .array .int) hx hb hts hown hin hK rfl inT3 tyX3 tyX3_ok nmX3 rfl an_int rfl (fun _ _ h => h) (fun _ => rfl) (by decide) rfl (by decide) hl d_X3_init_4 (.inr (.inl ⟨rfl, d_X3_init_5, by decide⟩)) d_X3_init_8 d_X3_init_10 (by decide) rfl (zti 167 (by decide +kernel) (by decide +kernel)) rfl (by decide +kernel) (fun _ => rfl) (fun _ => rfl) (rfl : (nfs 3).length = 2) hP hD hS hA (Nat.le_of_ble_eq_true rfl) (Nat.le_of_ble_eq_true rfl) (fun q1 H locs f1 u1 ef1 eu1 hlen hP hD hS => ?_)
  have ex1 : f1 = [.ref q1, .int (Int32.ofInt 0)] := ef1.trans (by rw [ex0]; rfl)
  refine W.widen (k := 1) (n := 640) (Nat.le_of_ble_eq_true rfl) (Nat.le_of_ble_eq_true rfl) ?_
  have efs := ex1
  have ews : u1 = ([] ++ [(q1, .inl (cs 0, 640, .inl fun _ => Int32.ofInt 0))]) := by rw [eu1]
  rw [efs, ews] at hP hD
  exact W.vret hx hb hr (fun t ht hW => ⟨⟨_, rfl, ⟨q1, rfl⟩, by rw [ht]; exact hP, hD⟩, hS.F ht⟩) hS.2.2 d_X3_init_13
