/-! ===== objects made: the history ===== -/
def wS2 (cs : Nat → ClassId) (h0 a : Nat) (L : List (Nat × va_W)) : va_W := (h0, .inr (2, [.ref a, .int (Int32.ofInt 0), .int (Int32.ofInt 0)])) :: (a, .inl (cs 4, 10, .inr (.inr (.inr (.inr fun j => (L.map Prod.fst)[j]?))))) :: L.flatMap Prod.snd
def Sh2 (cs : Nat → ClassId) (h0 : Nat) (ws : va_W) : Prop := ∃ (a : Nat) (L : List (Nat × va_W)), L.length = 10 ∧ (∀ x ∈ L, Sh1 cs x.1 x.2) ∧ ws = wS2 cs h0 a L
set_option maxRecDepth 100000 in
theorem n_X2 (l : Launch) (D : va_G) (cs : Nat → ClassId) : NCt l m_X2_init 2 71 1940 D cs (Sh2 cs) := by
  intro sz h0
  refine Met.ofW (cc := m_X2_init.2.1) (maxL := m_X2_init.2.2.1) (ret := none) (by decide +kernel) rfl ?_
  intro p e s m args below meth c s₁ B hml hv
  obtain ⟨rfl, hsz, hP, hK⟩ := hv
  have hx := B.exec
  have hb := B.bytes
  have hr := B.returns
  have hts0 := atoms_spec (ws := zwd m_X2_init) B.pre
  have hts : ∀ w ∈ zTB, w.before _ s = true := fun w hw => hts0 w (List.mem_cons_of_mem _ hw)
  have hown : s.vm.findClass m_X2_init.1.cls = some m.cls := findClass_of_methodNamed B.named
  have hlocks := B.notSynchronized
  have hin : meth.name = "<init>" := (name_of_methodNamed B.named B.method).1
  subst hsz
  have hD : va_D (nA 2 h0 s.heap.size) [(h0, .inr (2, nfs 2))] := va_one
  have hA : ∀ q, s.heap.size ≤ q → nA 2 h0 s.heap.size q := fun q h => Or.inr h
  have hS : va_S (nA 2 h0 s.heap.size) s.heap s.heap [] := va_S.rf
  have hl := lv_entry ([.ref h0]) (n := m_X2_init.2.2.1) (Nat.le_of_ble_eq_true rfl)
  rw [lg_entry_eq]
  generalize (lg_sl ([.ref h0]) ++ List.replicate (m_X2_init.2.2.1 - (lg_sl ([.ref h0])).length) Slot.unset).toArray = ls at hl ⊢
  have hl : lv_has ls m_X2_init.2.2.1 [(0, .ref h0)] := hl
  refine lv_aload_n hx hb d_X2_init_0 rfl (lv_at hl 0 rfl) ?_
  refine W.objInit hx hb hown (hts _ ol2) (hts _ oi_) (hts _ oc_) rfl (by rw [hml]; exact hl.1) rfl d_X2_init_1 (Nat.le_of_ble_eq_true rfl) (Nat.le_of_ble_eq_true rfl) ?_
  refine W.eq (g2 := F0 m 4 ls []) rfl ?_
  have hP : va_P D vwCl [(h0, .inr (2, [.null, .int (Int32.ofInt 0), .int (Int32.ofInt 0)]))] s.heap := hP
  have hD : va_D (nA 2 h0 s.heap.size) [(h0, .inr (2, [.null, .int (Int32.ofInt 0), .int (Int32.ofInt 0)]))] := hD
  refine lv_aload_n hx hb d_X2_init_4 rfl (lv_at hl 0 rfl) ?_
  refine lv_bipush (v := 10) hx hb d_X2_init_5 (by decide) ?_
  refine nw_arrq (X := m_X2_init) (N' := 10) hx hb hts hown cl2_9 hK hP hD hS hA (by decide) rfl (by decide) (Nat.le_of_ble_eq_true rfl) (Nat.le_of_ble_eq_true rfl) d_X2_init_7 (fun a H hP hD hS => ?_)
  refine W.widen (k := 1) (n := 10) (Nat.le_of_ble_eq_true rfl) (Nat.le_of_ble_eq_true rfl) ?_
  refine va_putF (D := D) (cl := vwCl) (ci := 2) (v := .ref a) (ty := .array (.object "TradeHall$Hall")) (C := RX2) (T := TX2) (N := 3) hx hb hts inT2 tyX2 tyX2_ok nmX2 hown hK.1 hP hD hS 0 rfl rfl 0 (by decide) (hts (.fieldLink "TradeHall$History" 11 "TradeHall$History" "past" "[LTradeHall$Hall;") (zti 134 (by decide +kernel) (by decide +kernel))) (fun _ h9 => h9) rfl hin rfl (by decide +kernel) rfl rfl (Nat.le_of_ble_eq_true rfl) d_X2_init_10 (fun H locs hP hD hS => ?_)
  have hP : va_P D vwCl (wS2 cs h0 a []) H := hP
  have hD : va_D (nA 2 h0 s.heap.size) (wS2 cs h0 a []) := hD
  refine lv_iconst (v := Int32.ofInt ((0 : Nat) : Int)) hx hb d_X2_init_13 rfl ?_
  refine lv_istore_n hx hb d_X2_init_14 rfl hl (Nat.le_of_ble_eq_true rfl) rfl (fun ls1 hl1 => ?_)
  have loop : ∀ (r i : Nat) (L : List (Nat × va_W)) (H : Heap) (locs : List Loc) (ls : Array Slot), i + r = 10 → L.length = i → (∀ x ∈ L, Sh1 cs x.1 x.2) → va_P D vwCl (wS2 cs h0 a L) H → va_D (nA 2 h0 s.heap.size) (wS2 cs h0 a L) → va_S (nA 2 h0 s.heap.size) s.heap H locs → lv_has ls m_X2_init.2.2.1 [(1, .int (Int32.ofInt (i : Int))), (0, .ref h0)] →
      W p l e (headSpec (zwd m_X2_init) (nRm m_X2_init 71 1940)).room s m [Value.ref h0].toArray below meth c H locs (1 + 7 * i) (10 + 193 * i) (MQ below (va_Qv (Sh2 cs h0) (nB D 2 s.heap.size h0) (nA 2 h0 s.heap.size)) [Value.ref h0].toArray s 71 1940 (nA 2 h0 s.heap.size)) (F0 m 15 ls []) := by
    intro r
    induction r with
    | zero =>
      intro i L H locs ls hi hL hsh hP hD hS hl
      refine lv_iload_n hx hb d_X2_init_15 rfl (lv_at hl 0 rfl) ?_
      refine lv_bipush (v := Int32.ofInt 10) hx hb d_X2_init_16 rfl ?_
      refine lv_icmp_ge hx hb d_X2_init_18 rfl (fun _ => ?_) (fun h => absurd ((zI_le (by omega) (by omega)).mpr (by omega)) h)
      refine W.widen (k := 71) (n := 1940) (by omega) (by omega) ?_
      exact W.vret hx hb hr (fun t ht hW => ⟨⟨_, rfl, ⟨a, L, by omega, hsh, rfl⟩, by rw [ht]; exact hP, hD⟩, hS.F ht⟩) hS.2.2 d_X2_init_40
    | succ r ih =>
      intro i L H locs ls hi hL hsh hP hD hS hl
      refine lv_iload_n hx hb d_X2_init_15 rfl (lv_at hl 0 rfl) ?_
      refine lv_bipush (v := Int32.ofInt 10) hx hb d_X2_init_16 rfl ?_
      refine lv_icmp_ge hx hb d_X2_init_18 rfl (fun h => absurd ((zI_le (by omega) (by omega)).mp h) (by omega)) (fun _ => ?_)
      refine lv_aload_n hx hb d_X2_init_21 rfl (lv_at hl 1 rfl) ?_
      refine va_get (D := D) (cl := vwCl) (ci := 2) (v := .ref a) (C := RX2) (T := TX2) (N := 3) hx hb hts inT2 hown hK.1 hP 0 rfl rfl 0 (by decide) (hts (.fieldLink "TradeHall$History" 11 "TradeHall$History" "past" "[LTradeHall$Hall;") (zti 134 (by decide +kernel) (by decide +kernel))) (fun _ h9 => h9) rfl d_X2_init_22 ?_
      refine lv_iload_n hx hb d_X2_init_25 rfl (lv_at hl 0 rfl) ?_
      refine nw_make (X := m_X2_init) (Y := m_X1_init) (k := 1) (C := RX1) (T := TX1) (N := 13) (n_X1 l D cs) hx hb hml hts hown rfl inT1 tyX1 tyX1_ok nf1 cl2_9 ic1 ini1 cI2_17 ⟨(Nat.le_of_ble_eq_true rfl), (Nat.le_of_ble_eq_true rfl)⟩ (Nat.le_of_ble_eq_true rfl) hl.1 hK hP hD hS hA (show 1 + 7 * i + 1 + 6 ≤ 71 by omega) (show 10 + 193 * i + 13 + 180 ≤ 1940 by omega) d_X2_init_26 d_X2_init_29 d_X2_init_30 (fun q w1 H locs sh hP hD hS => ?_)
      have sh2 := sh
      obtain ⟨q1, q2, q3, q4, q5, q6, ew⟩ := sh2
      have hv : (wS2 cs h0 a L ++ w1)[(wS2 cs h0 a L).length]? = w1[0]? := by rw [List.getElem?_append_right (Nat.le_refl _), Nat.sub_self]
      refine va_astq (cl := vwCl) (r := (RX1, TX1, 13)) (n := 10) (f := fun j => (L.map Prod.fst)[j]?) hx hb hK.1 hP hD hS 1 4 (wS2 cs h0 a L).length 1 (a := a) (cA := cs 4) rfl rfl (hv.trans (by rw [ew]; rfl)) rfl (i := Int32.ofInt (i : Int)) (zin_of (by decide) (by omega)) d_X2_init_33 (fun H locs hP hD hS => ?_)
      have hf : va_up (fun j => (L.map Prod.fst)[j]?) (Int32.ofInt (i : Int)).toNatClampNeg (some q) = fun j => ((L ++ [(q, w1)]).map Prod.fst)[j]? := by
        funext j
        have hz : (Int32.ofInt (i : Int)).toNatClampNeg = L.length := by
          have := zcl_of (j := (i : Int)) (by omega)
          omega
        unfold va_up
        rw [hz, List.map_append]
        by_cases hj : j = L.length
        · rw [if_pos hj, hj, List.getElem?_append_right (by rw [List.length_map]; exact Nat.le_refl _), List.length_map, Nat.sub_self]
          rfl
        · rw [if_neg hj]
          by_cases hj2 : j < L.length
          · rw [List.getElem?_append_left (by rw [List.length_map]; exact hj2)]
          · have n1 : (L.map Prod.fst)[j]? = none := List.getElem?_eq_none (by rw [List.length_map]; omega)
            have n2 : (L.map Prod.fst ++ [(q, w1)].map Prod.fst)[j]? = none := List.getElem?_eq_none (by rw [List.length_append, List.length_map]; show L.length + 1 ≤ j; omega)
            rw [n2]
            exact n1
      have ew2 : (wS2 cs h0 a L ++ w1).set 1 (a, .inl (cs 4, 10, .inr (.inr (.inr (.inr (va_up (fun j => (L.map Prod.fst)[j]?) (Int32.ofInt (i : Int)).toNatClampNeg (some q))))))) = wS2 cs h0 a (L ++ [(q, w1)]) := by
        show (h0, .inr (2, [.ref a, .int (Int32.ofInt 0), .int (Int32.ofInt 0)])) :: (a, .inl (cs 4, 10, .inr (.inr (.inr (.inr (va_up (fun j => (L.map Prod.fst)[j]?) (Int32.ofInt (i : Int)).toNatClampNeg (some q))))))) :: (L.flatMap Prod.snd ++ w1) = _
        unfold wS2
        rw [hf, List.flatMap_append, List.flatMap_singleton]
      rw [ew2] at hP hD
      refine lv_iinc (k := 0) (x := Int32.ofInt (i : Int)) (v := Int32.ofInt (((i + 1 : Nat)) : Int)) hx hb d_X2_init_34 hl rfl (by rw [← Int32.ofInt_add]; rfl) (Nat.le_of_ble_eq_true rfl) rfl (fun ls2 hl2 => ?_)
      refine lv_goto hx hb d_X2_init_37 rfl ?_
      refine W.widen (k := 1 + 7 * (i + 1)) (n := 10 + 193 * (i + 1)) (by omega) (by omega) ?_
      refine ih (i + 1) (L ++ [(q, w1)]) H locs ls2 (by omega) (by rw [List.length_append, List.length_singleton, hL]) (fun x hx2 => ?_) hP hD hS hl2
      rcases List.mem_append.mp hx2 with h | h
      · exact hsh x h
      · rw [List.mem_singleton.mp h]
        exact sh
  exact loop 10 0 [] H locs ls1 (by omega) rfl (fun x hx2 => by cases hx2) hP hD hS hl1
