/-! ===== rows: clones, inherited calls, faces, null, digits, blocks out of constants ===== -/
section
variable {l : Launch} {X : zD} {T : zT} {pc pc' : Nat} {lv lv' : List (Nat × zV)} {st st' : List zV} {M M' : zM}
theorem zent_cl0 {g : zG} {k i i0 q : Nat} (hO : zO g M) (hk : zaG k 0 ∨ zaG k 5) (hk2 : 64 ≤ k ∧ k < 96) (hi : (i : Int) = M 97 0 k) (hm : (k, i0) ∈ zall g) : zent (zN g k i q) (zcl M k i i0) k i = zent g M k i0 := by
  rw [← zent_N0 (q := q) hO hk2 hi hm]
  have hn : ¬ zob k := by rcases hk with h | h <;> exact h.1.2.2
  rw [zent_arr hn, zent_arr hn]
  unfold zarr zln zcl
  rw [zmg_s (by omega)]
/-- the pool entry ix of own is clone of the arrays ad -/
def zCC (own : String) (ix : Nat) (ad : String) : Prop := Cond.methodLink own ix ⟨ad, "clone", "()Ljava/lang/Object;"⟩ ∈ zTB ∧ Cond.sameMethod ad "java/lang/Object" "clone" "()Ljava/lang/Object;" ∈ zTB ∧ Cond.native ⟨"java/lang/Object", "clone", "()Ljava/lang/Object;"⟩ ∈ zTB ∧
  Cond.instanceMethod ⟨"java/lang/Object", "clone", "()Ljava/lang/Object;"⟩ ∈ zTB ∧ Cond.selects ad ⟨ad, "clone", "()Ljava/lang/Object;"⟩ ⟨"java/lang/Object", "clone", "()Ljava/lang/Object;"⟩ ∈ zTB ∧ Cond.castable ad "java/lang/Cloneable" ∈ znest
theorem aw_cloneI {ix k i0 : Nat} (hd : dec X pc = .ok (.invokevirtual ix, 3)) (hp : pc + 3 = pc') (hc : zCC X.1.cls ix "[I") (hk : zad k 0) (hroom : 1 ≤ T.1.frames ∧ zsz st + 14 ≤ T.1.locals) (hrm : T.2.1 + 1 ≤ T.1.cells ∧ T.2.2.1 + zln M k i0 ≤ T.1.slots)
    (kk : ∀ i : Nat, (i : Int) = M 97 0 k → AW l X (zT2 T 1 (zln M k i0)) pc' lv (zr k i :: st) (zcl M k i i0)) : AW l X T pc lv (zr k i0 :: st) M := by
  subst hp
  intro g p e s m args below meth c H locs ls hC hW hS hlv hol host
  obtain ⟨hx, hb, hml, hown, hts, hr, hlo, hK, hnm, hcl1, hsl1⟩ := id hC
  have h0 := hW.2.2.2.2.2 k
  obtain ⟨i, hi⟩ : ∃ i : Nat, (i : Int) = M 97 0 k := ⟨(M 97 0 k).toNat, by omega⟩
  have hm := zok_in (by omega) (host (zr k i0) List.mem_cons_self)
  obtain ⟨n, hn⟩ := List.getElem?_of_mem hm
  have he := zws_get (g := g) (M := M) hn
  have hE := zent_cl0 (q := 0) hW.2.2 (.inl hk.G) (by omega) hi hm
  rw [zent_arr hk.G.1.2.2, zarr_i (by omega), hk.2] at he
  rw [List.map_cons, zcv_r (by omega)]
  refine va_clone (ty := .int) hx hb (hml.trans hlv.1.symm) hown (hts _ hc.1) (hts _ hc.2.1) (hts _ hc.2.2.1) (hts _ hc.2.2.2.1) (hts _ hc.2.2.2.2.1) (hK.2.1 _ hc.2.2.2.2.2) hK.1 hW.1 hW.2.1 hS (fun q hq => Nat.le_trans hnm.2 hq) n 0 he rfl (va_nm_int (hK.1.2 0 _ rfl).2) (fun j v hv => ?_) hroom.1 (by rw [zst_cat]; exact hroom.2) hrm.1 hrm.2 hd (fun q H1 _ h1 h2 h3 => ?_)
  · have hv' : (arrV (g.2.2.1 0) (zln M k i0) (fun j => Value.int (Int32.ofInt (M k i0 (j : Int))))).slots[j]? = some v := hv
    by_cases hj : j < zln M k i0
    · rw [arrV_read _ _ hj] at hv'
      cases hv'
      rfl
    · rw [Array.getElem?_eq_none (by rw [arrV_size]; omega)] at hv'
      cases hv'
  · have hE := zent_cl0 (q := q) hW.2.2 (.inl hk.G) (by omega) hi hm
    rw [zent_arr (g := g) (M := M) hk.G.1.2.2, zarr_i (by omega), hk.2] at hE
    exact zgrow hC hW.2.2 (by omega) hi (fun j k' h1 h2 => by rw [zrp_na hk.G.1.2.2 (by omega)] at h2; cases h2) hrm h1 h2 h3 hE hlv hol (zokt host) (kk i hi)
theorem aw_cloneR {ix k i0 : Nat} (hd : dec X pc = .ok (.invokevirtual ix, 3)) (hp : pc + 3 = pc') (hc : zCC X.1.cls ix "[[I") (hk : zad k 5) (hroom : 1 ≤ T.1.frames ∧ zsz st + 14 ≤ T.1.locals) (hrm : T.2.1 + 1 ≤ T.1.cells ∧ T.2.2.1 + zln M k i0 ≤ T.1.slots)
    (kk : ∀ i : Nat, (i : Int) = M 97 0 k → AW l X (zT2 T 1 (zln M k i0)) pc' lv (zr k i :: st) (zcl M k i i0)) : AW l X T pc lv (zr k i0 :: st) M := by
  subst hp
  intro g p e s m args below meth c H locs ls hC hW hS hlv hol host
  obtain ⟨hx, hb, hml, hown, hts, hr, hlo, hK, hnm, hcl1, hsl1⟩ := id hC
  have h0 := hW.2.2.2.2.2 k
  obtain ⟨i, hi⟩ : ∃ i : Nat, (i : Int) = M 97 0 k := ⟨(M 97 0 k).toNat, by omega⟩
  have hm := zok_in (by omega) (host (zr k i0) List.mem_cons_self)
  obtain ⟨n, hn⟩ := List.getElem?_of_mem hm
  have he := zws_get (g := g) (M := M) hn
  rw [zent_arr hk.G.1.2.2, zarr_r hk.2, hk.2] at he
  rw [List.map_cons, zcv_r (by omega)]
  have nm : s.vm.findClass "[[I" = some (g.2.2.1 5) := (hK.1.2 5 _ rfl).2
  have h5 := zety_5 hk.2
  have hcnt : (i0 : Int) < M 97 0 k := by
    rcases List.mem_append.mp hm with z | z
    · have := (zlocs_mem.mp z).1; omega
    · exact ((hW.2.2.2.1 _ _).mp z).2
  refine va_clone (ty := .array .int) hx hb (hml.trans hlv.1.symm) hown (hts _ hc.1) (hts _ hc.2.1) (hts _ hc.2.2.1) (hts _ hc.2.2.2.1) (hts _ hc.2.2.2.2.1) (hK.2.1 _ hc.2.2.2.2.2) hK.1 hW.1 hW.2.1 hS (fun q hq => Nat.le_trans hnm.2 hq) n 5 he rfl nm (fun j v hv => ?_) hroom.1 (by rw [zst_cat]; exact hroom.2) hrm.1 hrm.2 hd (fun q H1 _ h1 h2 h3 => ?_)
  · have hv' : (arrV (g.2.2.1 5) (zln M k i0) (fun j => va_rf (zdo g (zel k) (M k i0 (j : Int))))).slots[j]? = some v := hv
    by_cases hj : j < zln M k i0
    · rw [arrV_read _ _ hj] at hv'
      cases hv'
      show fits (.array .int) (va_rf (zdo g (zel k) (M k i0 (j : Int)))) = true
      cases zdo g (zel k) (M k i0 (j : Int)) <;> rfl
    · rw [Array.getElem?_eq_none (by rw [arrV_size]; omega)] at hv'
      cases hv'
  · have hE := zent_cl0 (q := q) hW.2.2 (.inr hk.G) (by omega) hi hm
    rw [zent_arr (g := g) (M := M) hk.G.1.2.2, zarr_r hk.2, hk.2] at hE
    exact zgrow hC hW.2.2 (by omega) hi (fun j k' q1 q2 => by
      unfold zrp at q2
      rw [if_pos hk.2] at q2
      cases q2
      exact hW.2.2.2.2.1 k i0 j (zel k) (by omega) hcnt q1 (by unfold zrp; rw [if_pos hk.2])) hrm h1 h2 h3 hE hlv hol (zokt host) (kk i hi)
/-- a cast that holds -/
theorem aw_cast {ix k i t : Nat} {nm : String} (hd : dec X pc = .ok (.checkcast ix, 3)) (hp : pc + 3 = pc') (hk : zad k t) (hc : Cond.classLink X.1.cls ix nm ∈ zTB) (hn : (t = 0 ∧ nm = "[I") ∨ (t = 5 ∧ nm = "[[I")) (kk : AW l X T pc' lv (zr k i :: st) M) : AW l X T pc lv (zr k i :: st) M := by
  subst hp
  refine AW.go (fun _ h _ => h) ?_ kk
  intro g p e s m args below meth c H locs ls Q hC hW hS hlv host h
  obtain ⟨hx, hb, hml, hown, hts, hr, hlo, hK, hnm, hcl1, hsl1⟩ := id hC
  obtain ⟨n, hn'⟩ := zws_at (by omega) (host (zr k i) List.mem_cons_self)
  have he := zws_get (g := g) (M := M) hn'
  rw [zent_arr hk.G.1.2.2, hk.2] at he
  rw [List.map_cons, zcv_r (by omega)] at h ⊢
  refine va_castA hx hb hown (hts _ hc) hW.1 n he ?_ hd h
  rcases hn with ⟨rfl, rfl⟩ | ⟨rfl, rfl⟩
  · exact va_nm_int (hK.1.2 0 _ rfl).2
  · exact (hK.1.2 5 _ rfl).2
/-- the pool entry ix of own names the method x of AbstractStringBuilder; on a StringBuilder Y runs -/
def zCU (own : String) (ix : Nat) (x : MethodName) (Y : zD) (n : Nat) : Prop :=
  plainName Y.1.cls = true ∧ Cond.code Y.1 Y.2.1 Y.2.2.1 Y.2.2.2.1 ∈ zTB ∧ Cond.initialized Y.1.cls ∈ zTB ∧ (x.cls ≠ "java/lang/invoke/MethodHandle" ∧ x.cls ≠ "java/lang/invoke/VarHandle") ∧ (parseMethodDescriptor x.desc).map (fun d => d.parameters.length) = some n ∧
  Cond.methodLink own ix x ∈ zTB ∧ Cond.sameMethod x.cls x.cls x.name x.desc ∈ zTB ∧ (Cond.instanceMethod x ∈ zTB ∧ ∃ b m r, Cond.code x b m r ∈ zTB) ∧ Cond.selects "java/lang/StringBuilder" x Y.1 ∈ zTB ∧ Cond.instanceMethod Y.1 ∈ zTB
theorem zgo_len {d : String} {n : Nat} (h : (parseMethodDescriptor d).map (fun d => d.parameters.length) = some n) : ∀ sig, parseMethodDescriptor d = some sig → n = sig.parameters.length := by
  intro sig hs
  rw [hs] at h
  exact (Option.some.inj h).symm
theorem aw_callUn {Y : zD} {x : MethodName} {ix n i mc ms : Nat} {As st0 : List zV} {Q : Option zV → zM → Prop} (hd : dec X pc = .ok (.invokevirtual ix, 3)) (hp : pc + 3 = pc') (hc : zCU X.1.cls ix x Y n) (hroom : Y.2.2.2.2.1 + 1 ≤ T.1.frames ∧ 8 + (Y.2.2.1 + 11) + Y.2.2.2.2.2 ≤ T.1.locals)
    (hrm : T.2.1 + mc ≤ T.1.cells ∧ T.2.2.1 + ms ≤ T.1.slots) (hst : As.reverse ++ zr 67 i :: st = st0) (hn : As.length = n) (hsz : zsz (zr 67 i :: As) ≤ Y.2.2.1) (hcat : zsz st ≤ 8) (hcall : CWn l Y mc ms (zr 67 i :: As) M Q) (kk : ∀ r M', Q r M' → AW l X (zT2 T mc ms) pc' lv (r.toList ++ st) M') : AW l X T pc lv st0 M := by
  subst hp; subst hst
  intro g p e s m args below meth c H locs ls hC hW hS hlv hol host
  obtain ⟨hpl, hcode, hini, hx0, hdesc, hlink, hsame, ⟨hix, b0, m0, r0, hcx⟩, hsel, hiy⟩ := hc
  have hargs : ∀ v ∈ zr 67 i :: As, zok g v := fun v hv => by
    rcases List.mem_cons.mp hv with rfl | hv
    · exact host _ (List.mem_append_right _ List.mem_cons_self)
    · exact host _ (List.mem_append_left _ (List.mem_reverse.mpr hv))
  have hM := hcall.met hpl hsz g hargs
  obtain ⟨hx, hb, hml, hown, hts, hr, hlo, hK, hnm, hcl1, hsl1⟩ := id hC
  obtain ⟨n', hn'⟩ := zws_at (by omega) (hargs (zr 67 i) List.mem_cons_self)
  have he : (zws g M)[n']? = some (g.2.1 67 i, .inr (zci 67, zfl g M 67 i)) := by rw [zws_get hn', zent_ob (by decide)]
  have hrecv := va_recv (q := (RJ4, TJ4, 4)) hK.1 hW.1 rfl he
  have hstack : ((As.reverse ++ zr 67 i :: st).map (zcv g)) = (As.map (zcv g)).reverse ++ .ref (g.2.1 67 i) :: st.map (zcv g) := by
    rw [List.map_append, List.map_reverse, List.map_cons, zcv_r (by omega)]
  rw [hstack]
  have hPre : PreV s H "java/lang/StringBuilder" (g.2.1 67 i) (zPc g (zr 67 i :: As) M) (As.map (zcv g)) := ⟨zPc_blind _ _ _, hrecv, fun U hU hW' => ⟨by rw [List.map_cons, zcv_r (by omega)], by rw [hU]; exact hW, by rw [hU]; exact hK.go hW' hS, by rw [hU]; exact Nat.le_trans hnm.2 hS.1⟩⟩
  have hokst : ∀ v ∈ st, zok g v := fun v hv => host v (List.mem_append_right _ (List.mem_cons_of_mem _ hv))
  have hG := zgoodIn hcode
  refine zrun hC hS hlv hol hokst hrm (va_runU (x := x) (owner := x.cls) (As := As.map (zcv g)) (rest := st.map (zcv g)) (Ts := zTB) ⟨hx, hb, hml, hown, hts⟩ hM
    ⟨⟨rfl, rfl, hroom.1, hroom.2, pay_in hts hG, List.mem_cons_self⟩, hts _ hcode, hts _ hini, hx0, zgo_len hdesc, hts _ hlink, hts _ hsame, va_Decl.of (hts _ hix) (hts _ hcx), hts _ hsel, hts _ hiy⟩ hPre rfl (by rw [List.length_map]; exact hn) hlv.1 rfl (lv_room (by rw [zst_cat]; exact hcat)) hd hrm) kk
/-- the superclass's own method Y, on this -/
def zCP (own : String) (ix : Nat) (Y : zD) (n : Nat) : Prop :=
  own = "java/lang/StringBuilder" ∧ plainName Y.1.cls = true ∧ Cond.code Y.1 Y.2.1 Y.2.2.1 Y.2.2.2.1 ∈ zTB ∧ Cond.initialized Y.1.cls ∈ zTB ∧ (parseMethodDescriptor Y.1.desc).map (fun d => d.parameters.length) = some n ∧
  Cond.methodLink own ix Y.1 ∈ zTB ∧ Cond.sameMethod Y.1.cls Y.1.cls Y.1.name Y.1.desc ∈ zTB ∧ Cond.superclass own Y.1.cls ∈ zTB ∧ Cond.instanceMethod Y.1 ∈ zTB ∧ Y.1.name ≠ "<init>"
theorem aw_callPn {Y : zD} {ix n i mc ms : Nat} {As st0 : List zV} {Q : Option zV → zM → Prop} (hd : dec X pc = .ok (.invokespecial ix, 3)) (hp : pc + 3 = pc') (hc : zCP X.1.cls ix Y n) (hroom : Y.2.2.2.2.1 + 1 ≤ T.1.frames ∧ 8 + (Y.2.2.1 + 11) + Y.2.2.2.2.2 ≤ T.1.locals)
    (hrm : T.2.1 + mc ≤ T.1.cells ∧ T.2.2.1 + ms ≤ T.1.slots) (hst : As.reverse ++ zr 67 i :: st = st0) (hn : As.length = n) (hsz : zsz (zr 67 i :: As) ≤ Y.2.2.1) (hcat : zsz st ≤ 8) (hcall : CWn l Y mc ms (zr 67 i :: As) M Q) (kk : ∀ r M', Q r M' → AW l X (zT2 T mc ms) pc' lv (r.toList ++ st) M') : AW l X T pc lv st0 M := by
  subst hp; subst hst
  intro g p e s m args below meth c H locs ls hC hW hS hlv hol host
  obtain ⟨ho, hpl, hcode, hini, hdesc, hlink, hsame, hsup, hiy, hno⟩ := hc
  have hargs : ∀ v ∈ zr 67 i :: As, zok g v := fun v hv => by
    rcases List.mem_cons.mp hv with rfl | hv
    · exact host _ (List.mem_append_right _ List.mem_cons_self)
    · exact host _ (List.mem_append_left _ (List.mem_reverse.mpr hv))
  have hM := hcall.met hpl hsz g hargs
  obtain ⟨hx, hb, hml, hown, hts, hr, hlo, hK, hnm, hcl1, hsl1⟩ := id hC
  obtain ⟨n', hn'⟩ := zws_at (by omega) (hargs (zr 67 i) List.mem_cons_self)
  have he : (zws g M)[n']? = some (g.2.1 67 i, .inr (zci 67, zfl g M 67 i)) := by rw [zws_get hn', zent_ob (by decide)]
  have hrecv := va_recv (q := (RJ4, TJ4, 4)) hK.1 hW.1 rfl he
  have hat := (hK.1.1 (zci 67) (RJ4, TJ4, 4) rfl).2
  have hstack : ((As.reverse ++ zr 67 i :: st).map (zcv g)) = (As.map (zcv g)).reverse ++ .ref (g.2.1 67 i) :: st.map (zcv g) := by
    rw [List.map_append, List.map_reverse, List.map_cons, zcv_r (by omega)]
  rw [hstack]
  have hPre : PreV s H RJ4 (g.2.1 67 i) (zPc g (zr 67 i :: As) M) (As.map (zcv g)) := ⟨zPc_blind _ _ _, hrecv, fun U hU hW' => ⟨by rw [List.map_cons, zcv_r (by omega)], by rw [hU]; exact hW, by rw [hU]; exact hK.go hW' hS, by rw [hU]; exact Nat.le_trans hnm.2 hS.1⟩⟩
  have hokst : ∀ v ∈ st, zok g v := fun v hv => host v (List.mem_append_right _ (List.mem_cons_of_mem _ hv))
  have hG := zgoodIn hcode
  refine zrun hC hS hlv hol hokst hrm (va_runSU (C := RJ4) (As := As.map (zcv g)) (rest := st.map (zcv g)) (Ts := zTB) hat ⟨hx, hb, hml, hown, hts⟩ hM
    ⟨⟨rfl, rfl, hroom.1, hroom.2, pay_in hts hG, List.mem_cons_self⟩, hts _ hlink, hts _ hsame, hts _ hsup, hts _ hiy, hts _ hini, hts _ hcode, hno, zgo_len hdesc⟩ hPre rfl (by rw [List.length_map]; exact hn) hlv.1 rfl (lv_room (by rw [zst_cat]; exact hcat)) hd hrm) kk
theorem zrun5 {g : zG} {p : Program} {e : Jvm.Env} {s : State} {m : MethodId} {args : Array Value} {below : List Frame} {meth : Method} {c : Code} {H : Heap} {locs : List Loc} {ls : Array Slot} {Q : Option zV → zM → Prop} {A : Array Value} {st0 : List Value} {mc ms : Nat}
    (hC : zC X T g p s m args meth c) (hS : va_S (zA g) s.heap H locs) (hlv : lv_has ls X.2.2.1 (zlv g lv)) (hol : ∀ q ∈ lv, zok g q.2) (host : ∀ v ∈ st, zok g v) (hrm : T.2.1 + mc ≤ T.1.cells ∧ T.2.2.1 + ms ≤ T.1.slots)
    (hr : va_Run5 p l e T.1 s m args below meth c H locs T.2.1 T.2.2.1 mc ms (F0 m pc ls st0) (st.map (zcv g)) (zQc g Q A) (zA g))
    (kk : ∀ r M', Q r M' → AW l X (zT2 T mc ms) (pc + 5) lv (r.toList ++ st) M') : W p l e T.1 s m args below meth c H locs T.2.1 T.2.2.1 (zPo T g s args below) (F0 m pc ls st0) := by
  intro U hU hX
  obtain ⟨v, st₀, t, T', L, h0, X', hL, e1, e2, ⟨⟨g', r, M', hx, hv, hok, hq, hw⟩, hz, hk⟩, st1⟩ := hr U hU hX
  cases hv
  rw [h0] at hz hk
  have hS' : va_S (zA g) s.heap T'.heap (locs ++ L) := ⟨Nat.le_trans hS.1 (by rw [e1]; exact hz), fun q h1 h2 => by rw [e1, hk q (Nat.lt_of_lt_of_le h1 hS.1) h2]; exact hS.2.1 q h1 h2, fun q hq => by
      rcases List.mem_append.mp hq with h | h
      · exact hS.2.2 q h
      · exact hL q h⟩
  have hko : ∀ v ∈ r.toList ++ st, zok g' v := fun v hv => (List.mem_append.mp hv).elim (fun h => hok v (Option.mem_toList.mp h)) (fun h => hx.ok (host v h))
  obtain ⟨t2, a1, b1⟩ := kk r M' hq g' p e s m args below meth c T'.heap (locs ++ L) ls (zC.of2 (hx.C hC) hrm) (by rw [e1]; exact hw) (by rw [hx.A]; exact hS') (by rw [hx.lv hol]; exact hlv) (fun q hq => hx.ok (hol q hq)) hko T' rfl X'
  refine ⟨t2, st1 t2 ?_, zPo.of hx t2 b1⟩
  have e3 : (r.map (zcv g')).toList ++ st.map (zcv g) = (r.toList ++ st).map (zcv g') := by rw [List.map_append, hx.st host]; cases r <;> simp
  show Steps p.tables e below (T'.setTop (F0 m (pc + 5) ls ((r.map (zcv g')).toList ++ st.map (zcv g)))) t2
  rw [e3]
  exact a1
/-- the pool entry ix of own is the method x of CharSequence; on a String Y runs -/
def zCF (own : String) (ix : Nat) (x : MethodName) (Y : zD) (n : Nat) : Prop :=
  (∀ g : zG, ∀ U : State, ∀ H : Heap, zK g U H → va_Fw "java/lang/String" x Y.1 U) ∧ plainName Y.1.cls = true ∧ Cond.code Y.1 Y.2.1 Y.2.2.1 Y.2.2.2.1 ∈ zTB ∧ Cond.initialized Y.1.cls ∈ zTB ∧ (x.cls ≠ "java/lang/invoke/MethodHandle" ∧ x.cls ≠ "java/lang/invoke/VarHandle") ∧ (parseMethodDescriptor x.desc).map (fun d => d.parameters.length) = some n ∧
  Cond.methodLink own ix x ∈ zTB ∧ Cond.selects "java/lang/String" x Y.1 ∈ zTB ∧ Cond.instanceMethod Y.1 ∈ zTB
theorem aw_callFn {Y : zD} {x : MethodName} {ix n i mc ms ct : Nat} {As st0 : List zV} {Q : Option zV → zM → Prop} (hd : dec X pc = .ok (.invokeinterface ix ct, 5)) (hp : pc + 5 = pc') (hc : zCF X.1.cls ix x Y n) (hroom : Y.2.2.2.2.1 + 1 ≤ T.1.frames ∧ 8 + (Y.2.2.1 + 11) + Y.2.2.2.2.2 ≤ T.1.locals)
    (hrm : T.2.1 + mc ≤ T.1.cells ∧ T.2.2.1 + ms ≤ T.1.slots) (hst : As.reverse ++ zr 66 i :: st = st0) (hn : As.length = n) (hsz : zsz (zr 66 i :: As) ≤ Y.2.2.1) (hcat : zsz st ≤ 8) (hcall : CWn l Y mc ms (zr 66 i :: As) M Q) (kk : ∀ r M', Q r M' → AW l X (zT2 T mc ms) pc' lv (r.toList ++ st) M') : AW l X T pc lv st0 M := by
  subst hp; subst hst
  intro g p e s m args below meth c H locs ls hC hW hS hlv hol host
  obtain ⟨hF, hpl, hcode, hini, hx0, hdesc, hlink, hsel, hiy⟩ := hc
  have hargs : ∀ v ∈ zr 66 i :: As, zok g v := fun v hv => by
    rcases List.mem_cons.mp hv with rfl | hv
    · exact host _ (List.mem_append_right _ List.mem_cons_self)
    · exact host _ (List.mem_append_left _ (List.mem_reverse.mpr hv))
  have hM := hcall.met hpl hsz g hargs
  obtain ⟨hx, hb, hml, hown, hts, hr, hlo, hK, hnm, hcl1, hsl1⟩ := id hC
  obtain ⟨n', hn'⟩ := zws_at (by omega) (hargs (zr 66 i) List.mem_cons_self)
  have he : (zws g M)[n']? = some (g.2.1 66 i, .inr (zci 66, zfl g M 66 i)) := by rw [zws_get hn', zent_ob (by decide)]
  have hrecv := va_recv (q := (RJ0, TJ0, 4)) hK.1 hW.1 rfl he
  have hat := (hK.1.1 (zci 66) (RJ0, TJ0, 4) rfl).2
  have hstack : ((As.reverse ++ zr 66 i :: st).map (zcv g)) = (As.map (zcv g)).reverse ++ .ref (g.2.1 66 i) :: st.map (zcv g) := by
    rw [List.map_append, List.map_reverse, List.map_cons, zcv_r (by omega)]
  rw [hstack]
  have hPre : PreV s H RJ0 (g.2.1 66 i) (zPc g (zr 66 i :: As) M) (As.map (zcv g)) := ⟨zPc_blind _ _ _, hrecv, fun U hU hW' => ⟨by rw [List.map_cons, zcv_r (by omega)], by rw [hU]; exact hW, by rw [hU]; exact hK.go hW' hS, by rw [hU]; exact Nat.le_trans hnm.2 hS.1⟩⟩
  have hokst : ∀ v ∈ st, zok g v := fun v hv => host v (List.mem_append_right _ (List.mem_cons_of_mem _ hv))
  have hG := zgoodIn hcode
  obtain ⟨w1, w2, w3, w4, w5⟩ := hF g s s.heap hK
  refine zrun5 hC hS hlv hol hokst hrm (va_runF (x := x) (C := RJ0) (As := As.map (zcv g)) (rest := st.map (zcv g)) (Ts := zTB) hat ⟨hx, hb, hml, hown, hts⟩ hM
    ⟨⟨rfl, rfl, hroom.1, hroom.2, pay_in hts hG, List.mem_cons_self⟩, hts _ hlink, va_any rfl w1, va_any rfl w2, hts _ hsel, hts _ hiy, va_any rfl w3, va_any rfl w4, va_any rfl w5, hts _ hini, hts _ hcode, hx0, zgo_len hdesc⟩ hPre rfl (by rw [List.length_map]; exact hn) hlv.1 rfl (lv_room (by rw [zst_cat]; exact hcat)) hd hrm) kk
/-- Object's constructor -/
def zOb (own : String) (ix : Nat) : Prop := Cond.methodLink own ix Lib.objectInit ∈ zTB ∧ Cond.instanceMethod Lib.objectInit ∈ zTB ∧ Cond.code Lib.objectInit ⟨#[0xb1]⟩ 1 none ∈ zTB
theorem aw_obj {ix k i : Nat} (hd : dec X pc = .ok (.invokespecial ix, 3)) (hp : pc + 3 = pc') (hk : k ≠ 63) (hc : zOb X.1.cls ix) (hroom : 1 ≤ T.1.frames ∧ zsz st + 12 ≤ T.1.locals) (kk : AW l X T pc' lv st M) : AW l X T pc lv (zr k i :: st) M := by
  subst hp
  refine AW.go (fun _ h _ => zokt h) ?_ kk
  intro g p e s m args below meth c H locs ls Q hC hW hS hlv host h
  obtain ⟨hx, hb, hml, hown, hts, hr, hlo, hK, hnm, hcl1, hsl1⟩ := id hC
  rw [List.map_cons, zcv_r hk]
  exact W.objInit hx hb hown (hts _ hc.1) (hts _ hc.2.1) (hts _ hc.2.2) rfl (hlv.1.trans hml.symm) rfl hd hroom.1 (by show 2 * 0 + _ + 12 ≤ _; rw [zst_cat]; omega) h
-- null, references that may be null
theorem aw_null (hd : dec X pc = .ok (.aconst_null, 1)) (hp : pc + 1 = pc') (kk : AW l X T pc' lv (zn :: st) M) : AW l X T pc lv st M := by
  subst hp
  refine AW.go (fun _ h _ => zok1 (v := zn) (zok_n (by decide) (by decide)) h) ?_ kk
  intro g p e s m args below meth c H locs ls Q hC hW hS hlv host h
  exact lv_null hC.1 hC.2.1 hd h
/-- the r-th of kind k; below 0 null -/
def zq (k : Nat) (r : Int) : zV := zr (if r < 0 then 63 else k) (if r < 0 then 1 else r.toNat)
theorem zq_n {k : Nat} {r : Int} (h : r < 0) : zq k r = zn := by unfold zq; rw [if_pos h, if_pos h]
theorem zq_p {k : Nat} {r : Int} (h : 0 ≤ r) : zq k r = zr k r.toNat := by unfold zq; rw [if_neg (by omega), if_neg (by omega)]
theorem zq_of {k n : Nat} : zq k (n : Int) = zr k n := by rw [zq_p (by omega), Int.toNat_natCast]
theorem zq_or {r : Int} (a : 0 ≤ r → AW l X T pc lv st M) (b : r < 0 → AW l X T pc lv st M) : AW l X T pc lv st M := by
  by_cases h : 0 ≤ r
  · exact a h
  · exact b (by omega)
theorem aw_storeN {i : Nat} {f : Fin 4} (hd : dec X pc = .ok (.astore_n f, 1)) (hp : pc + 1 = pc') (hi : (f : Nat) = i) (hn : i < X.2.2.1) (hl : zst lv i zn = lv') (kk : AW l X T pc' lv' st M) : AW l X T pc lv (zn :: st) M := by
  subst hp; subst hl
  intro g p e s m args below meth c H locs ls hC hW hS hlv hol host
  exact lv_astore_nN hC.1 hC.2.1 hd hi hlv hn (by rw [← zst_lv1 rfl]; rfl) (fun ls' hls' => kk g p e s m args below meth c H locs ls' hC hW hS hls' (zst_ok (host _ List.mem_cons_self) hol) (zokt host))
theorem aw_loadN {i : Nat} {f : Fin 4} (hd : dec X pc = .ok (.aload_n f, 1)) (hp : pc + 1 = pc') (hi : (f : Nat) = i) (n : Nat) (hl : lv[n]? = some (i, zn)) (kk : AW l X T pc' lv (zn :: st) M) : AW l X T pc lv (st) M := by
  subst hp
  refine AW.go (fun _ h hl0 => zok1 (hl0 _ (List.mem_of_getElem? hl)) h) ?_ kk
  intro g p e s m args below meth c H locs ls Q hC hW hS hlv host hk
  exact lv_aload_nN hC.1 hC.2.1 hd hi (lv_at hlv n (zlv_at hl)) hk
theorem aw_nonnullN {off : Int} (hd : dec X pc = .ok (.ifnonnull off, 3)) (hp : pc + 3 = pc') (kk : AW l X T pc' lv st M) : AW l X T pc lv (zn :: st) M := by
  subst hp
  refine AW.go (fun _ h _ => zokt h) ?_ kk
  intro g p e s m args below meth c H locs ls Q hC hW hS hlv host h
  exact lv_ifnonnullN hC.1 hC.2.1 hd h
theorem aw_lveq (h : lv = lv') (kk : AW l X T pc lv' st M) : AW l X T pc lv st M := h ▸ kk
theorem aw_dup_x1 {v w : zV} (hd : dec X pc = .ok (.dup_x1, 1)) (hp : pc + 1 = pc') (hv : zcat v = 1) (hw : zcat w = 1) (kk : AW l X T pc' lv (v :: w :: v :: st) M) : AW l X T pc lv (v :: w :: st) M := by
  subst hp
  refine AW.go (fun _ h _ => zok1 (h v List.mem_cons_self) (zok1 (h w (List.mem_cons_of_mem _ List.mem_cons_self)) (zok1 (h v List.mem_cons_self) (zokt (zokt h))))) ?_ kk
  intro g p e s m args below meth c H locs ls Q hC hW hS hlv host hk
  exact lv_dup_x1 hC.1 hC.2.1 hd (by rw [zcat_cv]; exact hv) (by rw [zcat_cv]; exact hw) hk
theorem aw_astore {i : Nat} {k j : Nat} (hk0 : k ≠ 63) (hd : dec X pc = .ok (.astore i, 2)) (hp : pc + 2 = pc') (hn : i < X.2.2.1) (hl : zst lv i (zr k j) = lv') (kk : AW l X T pc' lv' st M) : AW l X T pc lv (zr k j :: st) M := by
  subst hp; subst hl
  intro g p e s m args below meth c H locs ls hC hW hS hlv hol host
  rw [List.map_cons, zcv_r hk0]
  exact lv_astore hC.1 hC.2.1 hd hlv hn (by rw [← zst_lv1 rfl, zcv_r hk0]) (fun ls' hls' => kk g p e s m args below meth c H locs ls' hC hW hS hls' (zst_ok (host _ List.mem_cons_self) hol) (zokt host))
-- the digits
theorem aw_digs {ix : Nat} {q : String × Nat × (Nat → Int)} (hq : q ∈ zDigs) (hd : dec X pc = .ok (.getstatic ix, 3)) (hp : pc + 3 = pc') (hc : Cond.fieldLink X.1.cls ix "java/lang/Integer" q.1 "[B" ∈ zTB) (kk : AW l X T pc' lv (zr 60 q.2.1 :: st) M) : AW l X T pc lv st M := by
  subst hp
  have h4 : q.2.1 < zcnt 60 := by
    have h5 : ∀ q ∈ zDigs, q.2.1 < zcnt 60 := by
      intro q hq
      simp only [zDigs, List.mem_cons, List.not_mem_nil, or_false] at hq
      rcases hq with rfl | rfl <;> decide
    exact h5 q hq
  refine AW.go (fun _ h _ => zok1 (v := zr 60 q.2.1) (zok_n (by decide) h4) h) ?_ kk
  intro g p e s m args below meth c H locs ls Q hC hW hS hlv host hk
  obtain ⟨hx', hb, hml, hown, hts, hr', hlo, hK, hnm, hcl1, hsl1⟩ := id hC
  rw [List.map_cons, zcv_r (by decide)] at hk
  exact va_gets hx' hb (hK.2.2.2.2.2.2.2.2.2.2.2 q hq).1 hS hown (hts _ hc) (fun x h => h) hd hk
theorem aw_digit {q : String × Nat × (Nat → Int)} {j : Int} (hq : q ∈ zDigs) (hd : dec X pc = .ok (.baload, 1)) (hp : pc + 1 = pc') (hj : 0 ≤ j ∧ j < 100) (kk : AW l X T pc' lv (zi (q.2.2 j.toNat) :: st) M) : AW l X T pc lv (zi j :: zr 60 q.2.1 :: st) M := by
  subst hp
  refine AW.go (fun _ h _ => zok1i (zokt (zokt h))) ?_ kk
  intro g p e s m args below meth c H locs ls Q hC hW hS hlv host hk
  obtain ⟨hx', hb, hml, hown, hts, hr', hlo, hK, hnm, hcl1, hsl1⟩ := id hC
  rw [List.map_cons, List.map_cons, zcv_r (by decide)]
  have e := zcl_of (j := j) (by omega)
  refine va_tb hx' hb (hK.2.2.2.2.2.2.2.2.2.2.2 q hq).2 hS (zin_of (by omega) hj) (v := .int (Int32.ofInt (q.2.2 j.toNat))) ?_ hd hk
  show Value.int _ = _
  rw [show (Int32.ofInt j).toNatClampNeg = j.toNat by omega]
/-- a constant's bytes moved into an array -/
def zcs (M : zM) (i : Nat) (k1 i1 : Nat) (d0 n : Int) : zM := fun k i' j => if k = k1 ∧ i' = i1 ∧ d0 ≤ j ∧ j < d0 + n then zsb i (j - d0) else M k i' j
theorem zsb_r (i : Nat) (j : Int) (h : i < zsN) : -128 ≤ zsb i j ∧ zsb i j < 128 := by
  have h1 : ∀ i, i < zsN → ∀ v ∈ zsByt.getD i [], (-128 : Int) ≤ v.toInt ∧ v.toInt < 128 := by decide +kernel
  unfold zsb
  rw [List.getD_eq_getElem?_getD]
  cases hq : (zsByt.getD i [])[j.toNat]? with
  | none =>
    show -128 ≤ (0 : Int32).toInt ∧ (0 : Int32).toInt < 128
    decide
  | some v => exact h1 i h v (List.mem_of_getElem? hq)
theorem aw_copyS {ix i k1 i1 : Nat} {d0 n : Int} (hd : dec X pc = .ok (.invokestatic ix, 3)) (hp : pc + 3 = pc') (hc : zCp X.1.cls ix) (hroom : 1 ≤ T.1.frames ∧ zsz st + 18 ≤ T.1.locals) (hk1 : zaG k1 2) (hn : n = (zsLen.getD i 0 : Nat) ∧ 0 ≤ d0 ∧ d0 + n ≤ (zln M k1 i1 : Nat)) (hl1 : zln M k1 i1 ≤ 1000000) (kk : AW l X T pc' lv st (zcs M i k1 i1 d0 n)) : AW l X T pc lv (zi n :: zi d0 :: zr k1 i1 :: zi 0 :: zr 62 i :: st) M := by
  subst hp
  intro g p e s m args below meth c H locs ls hC hW hS hlv hol host
  obtain ⟨hx', hb, hml, hown, hts, hr', hlo, hK, hnm, hcl1, hsl1⟩ := id hC
  obtain ⟨q1, hq1⟩ := zws_at hk1.1.1 (host (zr k1 i1) (by simp))
  have hi : i < zsN := zok_m (k := 62) (by decide) (host (zr 62 i) (by simp))
  have he1 := zws_get (g := g) (M := M) hq1
  have z1 := hk1.2
  rw [zent_arr hk1.1.2.2, zarr_i (by omega), hk1.2] at he1
  have cl : ∀ x : Int, 0 ≤ x → x ≤ 1000000 → (((Int32.ofInt x).toNatClampNeg : Nat) : Int) = x := fun x h1 h2 => by
    rw [Int32.toNatClampNeg_ofInt_of_le (by omega) (by omega)]
    omega
  have en := cl n (by omega) (by omega)
  have ed := cl d0 (by omega) (by omega)
  have ng : ∀ x : Int, 0 ≤ x → x ≤ 1000000 → ¬ Int32.ofInt x < 0 := fun x h1 h2 h => by
    rw [Int32.lt_iff_toInt_lt, Int32.toInt_ofInt_of_le (by omega) (by omega)] at h
    have : (0 : Int32).toInt = 0 := rfl
    omega
  have e0 : (0 : Int32).toNatClampNeg = 0 := rfl
  have hln : zln (zcs M i k1 i1 d0 n) k1 i1 = zln M k1 i1 := by
    unfold zln
    rw [show zcs M i k1 i1 d0 n k1 i1 (-1) = M k1 i1 (-1) from if_neg fun z => by omega]
  have hs := zws_set (g := g) hW.2.2 hq1 (M := M) (M' := zcs M i k1 i1 d0 n) (by
    intro k' i' h
    funext j
    exact if_neg fun q => h ⟨q.1, q.2.1⟩)
  rw [zent_arr hk1.1.2.2, zarr_i (by omega), hk1.2, hln] at hs
  have hcpy : (va_cpy (fun j : Nat => (zsByt.getD i []).getD j 0) (fun j : Nat => Int32.ofInt (M k1 i1 (j : Int))) (0 : Int32).toNatClampNeg (Int32.ofInt d0).toNatClampNeg (Int32.ofInt n).toNatClampNeg) = fun j : Nat => Int32.ofInt (zcs M i k1 i1 d0 n k1 i1 (j : Int)) := by
    funext j
    unfold va_cpy zcs
    rw [e0]
    by_cases h : d0 ≤ (j : Int) ∧ (j : Int) < d0 + n
    · rw [if_pos (by omega), if_pos ⟨rfl, rfl, h.1, h.2⟩, ← zsb_h]
      congr 1
      omega
    · rw [if_neg (by omega), if_neg (by rintro ⟨-, -, q⟩; exact h q)]
  rw [List.map_cons, List.map_cons, List.map_cons, List.map_cons, List.map_cons, zcv_r (by omega), zcv_r (by omega)]
  have hO' : zO g (zcs M i k1 i1 d0 n) := by
    have e : ∀ q, zcs M i k1 i1 d0 n 97 0 q = M 97 0 q := fun q => if_neg fun z => hk1.1.2.1 z.1.symm
    refine hW.2.2.u (fun q => e q) ?_
    intro k i2 j k' h1 h2 h3 h4
    rw [e] at h2 ⊢
    by_cases c : k = k1
    · rw [c, zrp_na hk1.1.2.2 (by omega)] at h4; cases h4
    · rw [show zcs M i k1 i1 d0 n k i2 j = M k i2 j from if_neg fun z => c z.1]
      exact hW.2.2.2.2.1 k i2 j k' h1 h2 h3 h4
  refine vk_copyt (f := fun j : Nat => (zsByt.getD i []).getD j 0) (sp := 0) (dp := Int32.ofInt d0) (n := Int32.ofInt n) hx' hb (hml.trans hlv.1.symm) hown (hts _ hc.1) (hts _ hc.2.1) (hts _ hc.2.2.1) (hts _ hc.2.2.2) hK.1 hW.1 hW.2.1 hS (hK.2.2.1.1 i hi).2.2.2 q1 2 he1 rfl (by decide) (ng _ (by omega) (by omega)) (ng _ (by omega) (by omega)) ?_ ?_ (fun j hj => ?_) hroom.1 (by rw [zst_cat]; exact hroom.2) hd (fun H1 locs1 h1 h2 h3 => ?_)
  · rw [e0]; omega
  · omega
  · have h := zsb_r i ((j : Int)) hi
    rw [e0, Nat.zero_add]
    have h5 : (zsByt.getD i []).getD j 0 = Int32.ofInt (zsb i (j : Int)) := by rw [← zsb_h, Int.toNat_natCast]
    rw [h5]
    exact zft_b h
  · rw [hcpy, hs] at h1 h2
    exact kk g p e s m args below meth c H1 locs1 ls hC ⟨h1, h2, hO'⟩ h3 hlv hol (zokt (zokt (zokt (zokt (zokt host)))))
end
