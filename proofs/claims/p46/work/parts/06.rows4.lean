/-! ===== rows: answers, calls ===== -/
section
variable {l : Launch} {X : zD} {T : zT} {pc pc' : Nat} {lv lv' : List (Nat × zV)} {st st' : List zV} {M M' : zM}
theorem zlk2 {dflt a b x : Int} : Op.lookupswitch.offset [((0 : Int), a), (1, b)] dflt x = if x = 0 then a else if x = 1 then b else dflt := by
  by_cases h0 : x = 0
  · subst h0; rfl
  · by_cases h1 : x = 1
    · subst h1; rfl
    · rw [if_neg h0, if_neg h1]
      have e0 : ¬ (0 : Int) = x := fun h => h0 h.symm
      have e1 : ¬ (1 : Int) = x := fun h => h1 h.symm
      simp [Op.lookupswitch.offset, h0, h1, e0, e1]
theorem aw_lookup2 {dflt a b x : Int} {len ta tb td : Nat} (hd : dec X pc = .ok (.lookupswitch dflt #[(0, a), (1, b)], len)) (hx : zI x) (ha : (pc : Int) + a = (ta : Int)) (hb : (pc : Int) + b = (tb : Int)) (hdf : (pc : Int) + dflt = (td : Int))
    (k0 : x = 0 → AW l X T ta lv st M) (k1 : x = 1 → AW l X T tb lv st M) (kd : (x ≠ 0 ∧ x ≠ 1) → AW l X T td lv st M) : AW l X T pc lv (zi x :: st) M := by
  refine aw_lookup hd hx rfl ?_
  rw [zlk2]
  by_cases h0 : x = 0
  · rw [if_pos h0]; exact ⟨ta, ha, k0 h0⟩
  · by_cases h1 : x = 1
    · rw [if_neg h0, if_pos h1]; exact ⟨tb, hb, k1 h1⟩
    · rw [if_neg h0, if_neg h1]; exact ⟨td, hdf, kd ⟨h0, h1⟩⟩
end
-- a method's contract
def zQc (g : zG) (Q : Option zV → zM → Prop) : Array Value → State → Outcome → State → Prop := fun _ st o t => (∃ (g' : zG) (r : Option zV) (M' : zM), zX g g' ∧ o = .returned (r.map (zcv g')) ∧ (∀ v, r = some v → zok g' v) ∧ Q r M' ∧ zW g' M' t.heap) ∧ va_F (zA g) st t
abbrev zRn (X : zD) (mc ms : Nat) : Room := { frames := X.2.2.2.2.1, cells := mc, slots := ms, locals := X.2.2.2.2.2 }
/-- with room for mc cells, ms slots, of which c, n are taken -/
def zTn (X : zD) (mc ms c n : Nat) (Q : Option zV → zM → Prop) : zT := (zRn X mc ms, c, n, fun g s args below => MQ below (zQc g Q) args s mc ms (zA g))
def zTm (X : zD) (Q : Option zV → zM → Prop) : zT := zTn X 0 0 0 0 Q
/-- more is taken -/
def zT2 (T : zT) (c n : Nat) : zT := (T.1, T.2.1 + c, T.2.2.1 + n, T.2.2.2)
def zargs : Nat → List zV → List (Nat × zV)
  | _, [] => []
  | i, v :: vs => (i, v) :: zargs (if zcat v = 2 then i + 2 else i + 1) vs
def zsz : List zV → Nat
  | [] => 0
  | v :: vs => zcat v + zsz vs
def CWn (l : Launch) (X : zD) (mc ms : Nat) (args : List zV) (M : zM) (Q : Option zV → zM → Prop) : Prop := AW l X (zTn X mc ms 0 0 Q) 0 (zargs 0 args) [] M
def CW (l : Launch) (X : zD) (args : List zV) (M : zM) (Q : Option zV → zM → Prop) : Prop := AW l X (zTm X Q) 0 (zargs 0 args) [] M
theorem MQ_mono {below : List Frame} {Qc Qc' : Array Value → State → Outcome → State → Prop} {a : Array Value} {s : State} {mc ms : Nat} {free : Addr → Prop} (h : ∀ a st o t, Qc a st o t → Qc' a st o t) {t : State} (k : MQ below Qc a s mc ms free t) : MQ below Qc' a s mc ms free t := by
  obtain ⟨o, h1, h2, h3, h4⟩ := k
  exact ⟨o, h1, h2, h _ _ _ _ h3, h4⟩
theorem zQc.of {g g' : zG} {Q : Option zV → zM → Prop} (h : zX g g') {a : Array Value} {st : State} {o : Outcome} {t : State} (k : zQc g' Q a st o t) : zQc g Q a st o t := by
  obtain ⟨⟨g2, r, M', h1, h2⟩, h3⟩ := k
  refine ⟨⟨g2, r, M', h.tr h1, h2⟩, ?_⟩
  rw [← h.A]
  exact h3
theorem zPo.met {X : zD} {mc ms c n : Nat} {Q : Option zV → zM → Prop} {g : zG} {s : State} {args : Array Value} {below : List Frame} {t : State} (k : zPo (zTn X mc ms c n Q) g s args below t) : MQ below (zQc g Q) args s mc ms (zA g) t := by
  obtain ⟨g', hx, o, h1, h2, h3, L, h4, h5⟩ := k
  refine ⟨o, h1, h2, h3.of hx, L, h4, ?_⟩
  rw [← hx.A]
  exact h5
theorem AW_mono {l : Launch} {X : zD} {mc ms c n : Nat} {Q Q' : Option zV → zM → Prop} {pc : Nat} {lv : List (Nat × zV)} {st : List zV} {M : zM} (k : AW l X (zTn X mc ms c n Q) pc lv st M) (h : ∀ r M', Q r M' → Q' r M') : AW l X (zTn X mc ms c n Q') pc lv st M := by
  intro g p e s m args below meth cc H locs ls hC hW hS hlv hol host T hT hX
  obtain ⟨t, h1, g', hx, h2⟩ := k g p e s m args below meth cc H locs ls hC hW hS hlv hol host T hT hX
  refine ⟨t, h1, g', hx, MQ_mono (fun a st o t hq => ?_) h2⟩
  obtain ⟨⟨g2, r, M', e0, e1, e2, e3, e4⟩, e5⟩ := hq
  exact ⟨⟨g2, r, M', e0, e1, e2, h _ _ e3, e4⟩, e5⟩
theorem CW.mono {l : Launch} {X : zD} {Q Q' : Option zV → zM → Prop} {args : List zV} {M : zM} (k : CW l X args M Q) (h : ∀ r M', Q r M' → Q' r M') : CW l X args M Q' := AW_mono k h
theorem CWn.mono {l : Launch} {X : zD} {mc ms : Nat} {Q Q' : Option zV → zM → Prop} {args : List zV} {M : zM} (k : CWn l X mc ms args M Q) (h : ∀ r M', Q r M' → Q' r M') : CWn l X mc ms args M Q' := AW_mono k h
theorem zlv_args (g : zG) : ∀ (vs : List zV) (i : Nat), lv_args i (vs.map (zcv g)) = zlv g (zargs i vs)
  | [], _ => rfl
  | v :: vs, i => by
    rw [List.map_cons, lv_args, zargs, zlv, List.map_cons, zcat_cv]
    exact congrArg _ (zlv_args g vs _)
theorem zsl_len (g : zG) : ∀ vs : List zV, (lg_sl (vs.map (zcv g))).length = zsz vs
  | [] => rfl
  | v :: vs => by
    have ih := zsl_len g vs
    have hc : zcat v = 1 ∨ zcat v = 2 := by
      rcases v with x | x | x | x
      · exact Or.inl rfl
      · exact Or.inr rfl
      · exact Or.inr rfl
      · exact Or.inl rfl
    simp only [lg_sl, List.map_cons, List.flatMap_cons, List.length_append, zsz, zcat_cv] at ih ⊢
    rw [ih]
    rcases hc with h | h <;> simp [h]
theorem znest_tab : znest.all (fun w => w.onTables) = true := by decide +kernel
theorem zK.same {g : zG} {s U : State} {H : Heap} (hv : s.vm = U.vm) (h : zK g s H) : zK g U H := by
  have ha : s.vm.Alike U.vm := by rw [hv]; exact Vm.Alike.refl U.vm
  exact h.mv ha (fun w hw => va_Nw.same (List.all_eq_true.mp znest_tab w hw) hv (h.2.1 w hw)) (fun q hq => vk_R.same hv.symm (h.2.2.2.1 q hq)) (Nat.le_refl _) (fun _ _ _ => rfl)
def zPc (g : zG) (args : List zV) (M : zM) : Array Value → State → Prop := fun a U => a = (args.map (zcv g)).toArray ∧ zW g M U.heap ∧ zK g U U.heap ∧ zgn g ≤ U.heap.size
def zwd (Y : zD) : List Cond := .code Y.1 Y.2.1 Y.2.2.1 Y.2.2.2.1 :: zTB
theorem CWn.met {l : Launch} {Y : zD} {mc ms : Nat} {args : List zV} {M : zM} {Q : Option zV → zM → Prop} (k : CWn l Y mc ms args M Q) (hpl : plainName Y.1.cls = true) (hsz : zsz args ≤ Y.2.2.1) (g : zG) (hok : ∀ v ∈ args, zok g v) : Met l Y.1 (zwd Y) (zRn Y mc ms) (zPc g args M) (zQc g Q) mc ms (zA g) := by
  refine Met.ofW (cc := Y.2.1) (maxL := Y.2.2.1) (ret := Y.2.2.2.1) hpl rfl ?_
  intro p e s m args' below meth c s₁ B hml hP
  obtain ⟨rfl, hW, hK, hz⟩ := hP
  have hts := atoms_spec (ws := zwd Y) B.pre
  have hentry := lv_entry (args.map (zcv g)) (n := Y.2.2.1) (by rw [zsl_len]; exact hsz)
  rw [zlv_args] at hentry
  rw [lg_entry_eq]
  have hok2 : ∀ (vs : List zV) (i : Nat), (∀ v ∈ vs, zok g v) → ∀ q ∈ zargs i vs, zok g q.2 := by
    intro vs
    induction vs with
    | nil => intro i _ q hq; cases hq
    | cons v vs ih =>
      intro i h q hq
      rcases List.mem_cons.mp hq with rfl | hq
      · exact h v List.mem_cons_self
      · exact ih _ (fun w hw => h w (List.mem_cons_of_mem _ hw)) q hq
  exact zWm (k g p e s m _ below meth c s.heap [] _ ⟨B.exec, B.bytes, hml, findClass_of_methodNamed B.named, fun w hw => hts w (List.mem_cons_of_mem _ hw), B.returns, B.notSynchronized, hK, ⟨(name_of_methodNamed B.named B.method).1, hz⟩, Nat.zero_le _, Nat.zero_le _⟩ hW va_S.rf hentry (hok2 args 0 hok) (fun v hv => by cases hv)) (fun t ht => zPo.met ht)
theorem zPc_blind (g : zG) (args : List zV) (M : zM) : FrameBlind (zPc g args M) := by
  intro a U f mk h
  exact ⟨h.1, h.2.1, zK.same (s := U) (U := U.calling f mk a) rfl h.2.2.1, h.2.2.2⟩
/-- the pool entry ix of own is the method Y -/
def zCB (own : String) (ix : Nat) (Y : zD) (n : Nat) : Prop :=
  plainName Y.1.cls = true ∧ Cond.code Y.1 Y.2.1 Y.2.2.1 Y.2.2.2.1 ∈ zTB ∧ Cond.initialized Y.1.cls ∈ zTB ∧
  (Y.1.cls ≠ "java/lang/invoke/MethodHandle" ∧ Y.1.cls ≠ "java/lang/invoke/VarHandle") ∧ (parseMethodDescriptor Y.1.desc).map (fun d => d.parameters.length) = some n ∧
  (Cond.methodLink own ix Y.1 ∈ zTB ∨ ∃ host, Cond.methodLinkNest own ix Y.1 host ∈ znest)
def zCV (own : String) (ix : Nat) (Y : zD) (n kd : Nat) : Prop := zCB own ix Y n ∧ Cond.instanceMethod Y.1 ∈ zTB ∧ Cond.selects Y.1.cls Y.1 Y.1 ∈ zTB ∧ zob kd ∧ ∃ (TT : u_T) (N : Nat), vwCl[zci kd]? = some (Y.1.cls, TT, N)
def zCS (own : String) (ix : Nat) (Y : zD) (n : Nat) : Prop := zCB own ix Y n ∧ Cond.static Y.1 ∈ zTB
theorem zgood {w : Cond} (h : w ∈ zTB) : (w.onTables && w.keeps) = true ∨ ∃ ty, w = .arrayClass ty := good_of_word (zTB_good h)
theorem zgoodIn {Y : zD} (hc : Cond.code Y.1 Y.2.1 Y.2.2.1 Y.2.2.2.1 ∈ zTB) : GoodIn zTB (zwd Y) := by
  intro w hw
  rcases List.mem_cons.mp hw with rfl | hw
  · exact ⟨hc, zgood hc⟩
  · exact ⟨hw, zgood hw⟩
section
variable {l : Launch} {X : zD} {T : zT} {pc pc' : Nat} {lv lv' : List (Nat × zV)} {st st' : List zV} {M M' : zM}
theorem zC.of2 {g : zG} {p : Program} {s : State} {m : MethodId} {args : Array Value} {meth : Method} {c : Code} {mc ms : Nat} (hC : zC X T g p s m args meth c) (h : T.2.1 + mc ≤ T.1.cells ∧ T.2.2.1 + ms ≤ T.1.slots) : zC X (zT2 T mc ms) g p s m args meth c := by
  obtain ⟨h1, h2, h3, h4, h5, h6, h7, h8, h9, h10, h11⟩ := hC
  exact ⟨h1, h2, h3, h4, h5, h6, h7, h8, h9, h.1, h.2⟩
theorem zrun {g : zG} {p : Program} {e : Jvm.Env} {s : State} {m : MethodId} {args : Array Value} {below : List Frame} {meth : Method} {c : Code} {H : Heap} {locs : List Loc} {ls : Array Slot} {Q : Option zV → zM → Prop} {A : Array Value} {st0 : List Value} {mc ms : Nat}
    (hC : zC X T g p s m args meth c) (hS : va_S (zA g) s.heap H locs) (hlv : lv_has ls X.2.2.1 (zlv g lv)) (hol : ∀ q ∈ lv, zok g q.2) (host : ∀ v ∈ st, zok g v) (hrm : T.2.1 + mc ≤ T.1.cells ∧ T.2.2.1 + ms ≤ T.1.slots)
    (hr : va_Run p l e T.1 s m args below meth c H locs T.2.1 T.2.2.1 mc ms (F0 m pc ls st0) (st.map (zcv g)) (zQc g Q A) (zA g))
    (kk : ∀ r M', Q r M' → AW l X (zT2 T mc ms) (pc + 3) lv (r.toList ++ st) M') : W p l e T.1 s m args below meth c H locs T.2.1 T.2.2.1 (zPo T g s args below) (F0 m pc ls st0) := by
  intro U hU hX
  obtain ⟨v, st₀, t, T', L, h0, X', hL, e1, e2, ⟨⟨g', r, M', hx, hv, hok, hq, hw⟩, hz, hk⟩, st1⟩ := hr U hU hX
  cases hv
  rw [h0] at hz hk
  have hS' : va_S (zA g) s.heap T'.heap (locs ++ L) := ⟨Nat.le_trans hS.1 (by rw [e1]; exact hz), fun q h1 h2 => by rw [e1, hk q (Nat.lt_of_lt_of_le h1 hS.1) h2]; exact hS.2.1 q h1 h2, fun q hq => by
      rcases List.mem_append.mp hq with h | h
      · exact hS.2.2 q h
      · exact hL q h⟩
  have hko : ∀ v ∈ r.toList ++ st, zok g' v := fun v hv => (List.mem_append.mp hv).elim (fun h => hok v (Option.mem_toList.mp h)) (fun h => hx.ok (host v h))
  obtain ⟨t2, a1, b1⟩ := kk r M' hq g' p e s m args below meth c T'.heap (locs ++ L) ls (zC.of2 (hx.C hC) hrm) (by rw [e1]; exact hw) (by rw [hx.A]; exact hS') (by rw [hx.lv hol]; exact hlv) (fun q hq => hx.ok (hol q hq)) hko T' rfl X'
  refine ⟨t2, st1 t2 ?_, zPo.of hx t2 b1⟩
  have e3 : (r.map (zcv g')).toList ++ st.map (zcv g) = (r.toList ++ st).map (zcv g') := by rw [List.map_append, hx.st host]; cases r <;> simp
  show Steps p.tables e below (T'.setTop (F0 m (pc + 3) ls ((r.map (zcv g')).toList ++ st.map (zcv g)))) t2
  rw [e3]
  exact a1
theorem zst_cat (g : zG) (st : List zV) : ((st.map (zcv g)).map fun v => v.category).sum = zsz st := by
  induction st with
  | nil => rfl
  | cons v st ih => simp only [List.map_cons, List.sum_cons, zsz, zcat_cv, ih]
theorem aw_callVn {Y : zD} {ix n kd i mc ms : Nat} {As st0 : List zV} {Q : Option zV → zM → Prop} (hd : dec X pc = .ok (.invokevirtual ix, 3)) (hp : pc + 3 = pc') (hc : zCV X.1.cls ix Y n kd) (hroom : Y.2.2.2.2.1 + 1 ≤ T.1.frames ∧ 8 + (Y.2.2.1 + 11) + Y.2.2.2.2.2 ≤ T.1.locals)
    (hrm : T.2.1 + mc ≤ T.1.cells ∧ T.2.2.1 + ms ≤ T.1.slots) (hst : As.reverse ++ zr kd i :: st = st0) (hn : As.length = n) (hsz : zsz (zr kd i :: As) ≤ Y.2.2.1) (hcat : zsz st ≤ 8) (hcall : CWn l Y mc ms (zr kd i :: As) M Q) (kk : ∀ r M', Q r M' → AW l X (zT2 T mc ms) pc' lv (r.toList ++ st) M') : AW l X T pc lv st0 M := by
  subst hp; subst hst
  intro g p e s m args below meth c H locs ls hC hW hS hlv hol host
  obtain ⟨⟨hpl, hcode, hini, hy, hdesc, hlink⟩, hinst, hsel, hkd, TT, N, hcl⟩ := hc
  have hn0 := zob_n hkd
  have hargs : ∀ v ∈ zr kd i :: As, zok g v := fun v hv => by
    rcases List.mem_cons.mp hv with rfl | hv
    · exact host _ (List.mem_append_right _ List.mem_cons_self)
    · exact host _ (List.mem_append_left _ (List.mem_reverse.mpr hv))
  have hM := hcall.met hpl hsz g hargs
  obtain ⟨hx, hb, hml, hown, hts, hr, hlo, hK, hnm, hcl1, hsl1⟩ := id hC
  obtain ⟨n', hn'⟩ := zws_at hn0.1 (hargs (zr kd i) List.mem_cons_self)
  have he : (zws g M)[n']? = some (g.2.1 kd i, .inr (zci kd, zfl g M kd i)) := by rw [zws_get hn', zent_ob hkd]
  have hrecv := va_recv hK.1 hW.1 hcl he
  have hstack : ((As.reverse ++ zr kd i :: st).map (zcv g)) = (As.map (zcv g)).reverse ++ .ref (g.2.1 kd i) :: st.map (zcv g) := by
    rw [List.map_append, List.map_reverse, List.map_cons, zcv_r hn0.2]
  rw [hstack]
  have hPre : PreV s H Y.1.cls (g.2.1 kd i) (zPc g (zr kd i :: As) M) (As.map (zcv g)) := ⟨zPc_blind _ _ _, hrecv, fun U hU hW' => ⟨by rw [List.map_cons, zcv_r hn0.2], by rw [hU]; exact hW, by rw [hU]; exact hK.go hW' hS, by rw [hU]; exact Nat.le_trans hnm.2 hS.1⟩⟩
  have hokst : ∀ v ∈ st, zok g v := fun v hv => host v (List.mem_append_right _ (List.mem_cons_of_mem _ hv))
  have hD : Y.1.cls = Y.1.cls ∧ Y.1.cls ≠ "java/lang/invoke/MethodHandle" ∧ Y.1.cls ≠ "java/lang/invoke/VarHandle" ∧ (parseMethodDescriptor Y.1.desc).map (fun d => d.parameters.length) = some n := ⟨rfl, hy.1, hy.2, hdesc⟩
  rcases hlink with hlink | ⟨hst', hlink⟩
  · refine zrun hC hS hlv hol hokst hrm (va_runV (As := As.map (zcv g)) (rest := st.map (zcv g)) ⟨hx, hb, hml, hown, hts⟩ hM (cwV (ws' := zTB) n hts ?_ rfl rfl rfl hD hroom) hPre rfl (by rw [List.length_map]; exact hn) hlv.1 rfl (lv_room (by rw [zst_cat]; exact hcat)) hd hrm) kk
    intro w hw
    rcases List.mem_append.mp hw with hw | hw
    · have : w ∈ zTB := by
        simp only [List.mem_cons, List.not_mem_nil, or_false] at hw
        rcases hw with rfl | rfl | rfl | rfl <;> assumption
      exact ⟨this, zgood this⟩
    · exact zgoodIn hcode w hw
  · exact zrun hC hS hlv hol hokst hrm (va_runVN (As := As.map (zcv g)) (rest := st.map (zcv g)) (Ts := zTB) (own := X.1.cls) ⟨hx, hb, hml, hown, hts⟩ hM ⟨va_cnB (ws' := zTB) n hts (zgoodIn hcode) rfl rfl rfl (hK.2.1 _ hlink) (hts _ hini) ⟨hy.1, hy.2, hdesc⟩ hroom, hts _ hinst, hts _ hsel⟩ hPre rfl (by rw [List.length_map]; exact hn) hlv.1 rfl (lv_room (by rw [zst_cat]; exact hcat)) hd hrm) kk
theorem aw_callV {Y : zD} {ix n kd i : Nat} {As st0 : List zV} {Q : Option zV → zM → Prop} (hd : dec X pc = .ok (.invokevirtual ix, 3)) (hp : pc + 3 = pc') (hc : zCV X.1.cls ix Y n kd) (hroom : Y.2.2.2.2.1 + 1 ≤ T.1.frames ∧ 8 + (Y.2.2.1 + 11) + Y.2.2.2.2.2 ≤ T.1.locals)
    (hst : As.reverse ++ zr kd i :: st = st0) (hn : As.length = n) (hsz : zsz (zr kd i :: As) ≤ Y.2.2.1) (hcat : zsz st ≤ 8) (hcall : CW l Y (zr kd i :: As) M Q) (kk : ∀ r M', Q r M' → AW l X T pc' lv (r.toList ++ st) M') : AW l X T pc lv st0 M :=
  fun g p e s m args below meth c H locs ls hC => aw_callVn (mc := 0) (ms := 0) hd hp hc hroom ⟨hC.2.2.2.2.2.2.2.2.2.1, hC.2.2.2.2.2.2.2.2.2.2⟩ hst hn hsz hcat hcall kk g p e s m args below meth c H locs ls hC
theorem aw_callSn {Y : zD} {ix n mc ms : Nat} {As st0 : List zV} {Q : Option zV → zM → Prop} (hd : dec X pc = .ok (.invokestatic ix, 3)) (hp : pc + 3 = pc') (hc : zCS X.1.cls ix Y n) (hroom : Y.2.2.2.2.1 + 1 ≤ T.1.frames ∧ 8 + (Y.2.2.1 + 11) + Y.2.2.2.2.2 ≤ T.1.locals)
    (hrm : T.2.1 + mc ≤ T.1.cells ∧ T.2.2.1 + ms ≤ T.1.slots) (hst : As.reverse ++ st = st0) (hn : As.length = n) (hsz : zsz As ≤ Y.2.2.1) (hcat : zsz st ≤ 8) (hcall : CWn l Y mc ms As M Q) (kk : ∀ r M', Q r M' → AW l X (zT2 T mc ms) pc' lv (r.toList ++ st) M') : AW l X T pc lv st0 M := by
  subst hp; subst hst
  intro g p e s m args below meth c H locs ls hC hW hS hlv hol host
  obtain ⟨⟨hpl, hcode, hini, hy, hdesc, hlink⟩, hstat⟩ := hc
  have hargs : ∀ v ∈ As, zok g v := fun v hv => host _ (List.mem_append_left _ (List.mem_reverse.mpr hv))
  have hM := hcall.met hpl hsz g hargs
  obtain ⟨hx, hb, hml, hown, hts, hr, hlo, hK, hnm, hcl1, hsl1⟩ := id hC
  have hstack : ((As.reverse ++ st).map (zcv g)) = (As.map (zcv g)).reverse ++ st.map (zcv g) := by
    rw [List.map_append, List.map_reverse]
  rw [hstack]
  have hPre : PreS s H (zPc g As M) (As.map (zcv g)) := ⟨zPc_blind _ _ _, fun U hU hW' => ⟨rfl, by rw [hU]; exact hW, by rw [hU]; exact hK.go hW' hS, by rw [hU]; exact Nat.le_trans hnm.2 hS.1⟩⟩
  have hokst : ∀ v ∈ st, zok g v := fun v hv => host v (List.mem_append_right _ hv)
  rcases hlink with hlink | ⟨hst', hlink⟩
  · refine zrun hC hS hlv hol hokst hrm (va_runS (As := As.map (zcv g)) (rest := st.map (zcv g)) (Ts := zTB) (own := X.1.cls) ⟨hx, hb, hml, hown, hts⟩ hM ⟨callB_of (ws' := zTB) n hts (zgoodIn hcode) rfl rfl rfl (hts _ hini) (hts _ hlink) ⟨hy.1, hy.2, hdesc⟩ hroom, hts _ hstat⟩ hPre rfl (by rw [List.length_map]; exact hn) hlv.1 rfl (lv_room (by rw [zst_cat]; exact hcat)) hd hrm) kk
  · exact zrun hC hS hlv hol hokst hrm (va_runSN (As := As.map (zcv g)) (rest := st.map (zcv g)) (Ts := zTB) (own := X.1.cls) ⟨hx, hb, hml, hown, hts⟩ hM ⟨va_cnB (ws' := zTB) n hts (zgoodIn hcode) rfl rfl rfl (hK.2.1 _ hlink) (hts _ hini) ⟨hy.1, hy.2, hdesc⟩ hroom, hts _ hstat, trivial⟩ hPre rfl (by rw [List.length_map]; exact hn) hlv.1 rfl (lv_room (by rw [zst_cat]; exact hcat)) hd hrm) kk
theorem aw_callS {Y : zD} {ix n : Nat} {As st0 : List zV} {Q : Option zV → zM → Prop} (hd : dec X pc = .ok (.invokestatic ix, 3)) (hp : pc + 3 = pc') (hc : zCS X.1.cls ix Y n) (hroom : Y.2.2.2.2.1 + 1 ≤ T.1.frames ∧ 8 + (Y.2.2.1 + 11) + Y.2.2.2.2.2 ≤ T.1.locals)
    (hst : As.reverse ++ st = st0) (hn : As.length = n) (hsz : zsz As ≤ Y.2.2.1) (hcat : zsz st ≤ 8) (hcall : CW l Y As M Q) (kk : ∀ r M', Q r M' → AW l X T pc' lv (r.toList ++ st) M') : AW l X T pc lv st0 M :=
  fun g p e s m args below meth c H locs ls hC => aw_callSn (mc := 0) (ms := 0) hd hp hc hroom ⟨hC.2.2.2.2.2.2.2.2.2.1, hC.2.2.2.2.2.2.2.2.2.2⟩ hst hn hsz hcat hcall kk g p e s m args below meth c H locs ls hC
/-- a constructor of a nest mate or another class, run on an object -/
theorem aw_callIn {Y : zD} {ix n kd i mc ms : Nat} {As st0 : List zV} {Q : Option zV → zM → Prop} (hd : dec X pc = .ok (.invokespecial ix, 3)) (hp : pc + 3 = pc') (hc : zCB X.1.cls ix Y n ∧ Cond.instanceMethod Y.1 ∈ zTB ∧ Y.1.name = "<init>" ∧ Y.2.2.2.1 = none ∧ kd ≠ 63) (hroom : Y.2.2.2.2.1 + 1 ≤ T.1.frames ∧ 8 + (Y.2.2.1 + 11) + Y.2.2.2.2.2 ≤ T.1.locals)
    (hrm : T.2.1 + mc ≤ T.1.cells ∧ T.2.2.1 + ms ≤ T.1.slots) (hst : As.reverse ++ zr kd i :: st = st0) (hn : As.length = n) (hsz : zsz (zr kd i :: As) ≤ Y.2.2.1) (hcat : zsz st ≤ 8) (hcall : CWn l Y mc ms (zr kd i :: As) M Q) (kk : ∀ r M', Q r M' → AW l X (zT2 T mc ms) pc' lv (r.toList ++ st) M') : AW l X T pc lv st0 M := by
  subst hp; subst hst
  intro g p e s m args below meth c H locs ls hC hW hS hlv hol host
  obtain ⟨⟨hpl, hcode, hini, hy, hdesc, hlink⟩, hinst, hname, hret, hn0⟩ := hc
  have hargs : ∀ v ∈ zr kd i :: As, zok g v := fun v hv => by
    rcases List.mem_cons.mp hv with rfl | hv
    · exact host _ (List.mem_append_right _ List.mem_cons_self)
    · exact host _ (List.mem_append_left _ (List.mem_reverse.mpr hv))
  have hM := hcall.met hpl hsz g hargs
  obtain ⟨hx, hb, hml, hown, hts, hr, hlo, hK, hnm, hcl1, hsl1⟩ := id hC
  have hstack : ((As.reverse ++ zr kd i :: st).map (zcv g)) = (As.map (zcv g)).reverse ++ .ref (g.2.1 kd i) :: st.map (zcv g) := by
    rw [List.map_append, List.map_reverse, List.map_cons, zcv_r hn0]
  rw [hstack]
  have hPre : PreS s H (zPc g (zr kd i :: As) M) (.ref (g.2.1 kd i) :: As.map (zcv g)) := ⟨zPc_blind _ _ _, fun U hU hW' => ⟨by rw [List.map_cons, zcv_r hn0], by rw [hU]; exact hW, by rw [hU]; exact hK.go hW' hS, by rw [hU]; exact Nat.le_trans hnm.2 hS.1⟩⟩
  have hokst : ∀ v ∈ st, zok g v := fun v hv => host v (List.mem_append_right _ (List.mem_cons_of_mem _ hv))
  have hG := zgoodIn hcode
  have hwd : zwd Y = .code Y.1 Y.2.1 Y.2.2.1 none :: zTB := by unfold zwd; rw [hret]
  rcases hlink with hlink | ⟨hst', hlink⟩
  · exact zrun hC hS hlv hol hokst hrm (va_runI (As := As.map (zcv g)) (rest := st.map (zcv g)) (Ts := zTB) (own := X.1.cls) ⟨hx, hb, hml, hown, hts⟩ hM ⟨callB_of (ws' := zTB) n hts hG hwd rfl rfl (hts _ hini) (hts _ hlink) ⟨hy.1, hy.2, hdesc⟩ hroom, hname, hts _ hinst⟩ hPre rfl (by rw [List.length_map]; exact hn) hlv.1 rfl (lv_room (by rw [zst_cat]; exact hcat)) hd hrm) kk
  · exact zrun hC hS hlv hol hokst hrm (va_runIN (As := As.map (zcv g)) (rest := st.map (zcv g)) (Ts := zTB) (own := X.1.cls) ⟨hx, hb, hml, hown, hts⟩ hM ⟨va_cnB (ws' := zTB) n hts hG hwd rfl rfl (hK.2.1 _ hlink) (hts _ hini) ⟨hy.1, hy.2, hdesc⟩ hroom, hname, hts _ hinst⟩ hPre rfl (by rw [List.length_map]; exact hn) hlv.1 rfl (lv_room (by rw [zst_cat]; exact hcat)) hd hrm) kk
-- answers
variable {mc ms c0 n0 : Nat}
theorem aw_ireturn {Q : Option zV → zM → Prop} {x : Int} (hd : dec X pc = .ok (.ireturn, 1)) (hr : X.2.2.2.1 = some .int) (h : Q (some (zi x)) M) : AW l X (zTn X mc ms c0 n0 Q) pc lv [zi x] M := by
  intro g p e s m args below meth c H locs ls hC hW hS hlv hol host
  obtain ⟨hx, hb, hml, hown, hts, hr', hlo, hK, hnm, hcl1, hsl1⟩ := id hC
  refine W.widen (k := mc) (n := ms) hcl1 hsl1 (zWm ?_ (fun t ht => ⟨g, zX.rf, ht⟩))
  exact W.iret hx hb (hr'.trans hr) (fun t ht hW' => ⟨⟨g, some (zi x), M, zX.rf, rfl, fun v hv => by cases hv; trivial, h, by rw [ht]; exact hW⟩, hS.F ht⟩) hS.2.2 hd hlo
theorem aw_zreturn {Q : Option zV → zM → Prop} {x : Int} (hd : dec X pc = .ok (.ireturn, 1)) (hr : X.2.2.2.1 = some .boolean) (hz : x = 0 ∨ x = 1) (h : Q (some (zi x)) M) : AW l X (zTn X mc ms c0 n0 Q) pc lv [zi x] M := by
  intro g p e s m args below meth c H locs ls hC hW hS hlv hol host
  obtain ⟨hx, hb, hml, hown, hts, hr', hlo, hK, hnm, hcl1, hsl1⟩ := id hC
  refine W.widen (k := mc) (n := ms) hcl1 hsl1 (zWm ?_ (fun t ht => ⟨g, zX.rf, ht⟩))
  exact W.zret hx hb (hr'.trans hr) (by rcases hz with rfl | rfl <;> decide) (fun t ht hW' => ⟨⟨g, some (zi x), M, zX.rf, rfl, fun v hv => by cases hv; trivial, h, by rw [ht]; exact hW⟩, hS.F ht⟩) hS.2.2 hd hlo
theorem aw_creturn {Q : Option zV → zM → Prop} {x : Int} (hd : dec X pc = .ok (.ireturn, 1)) (hr : X.2.2.2.1 = some .char) (hz : narrow .char (.int (Int32.ofInt x)) = .int (Int32.ofInt x)) (h : Q (some (zi x)) M) : AW l X (zTn X mc ms c0 n0 Q) pc lv [zi x] M := by
  intro g p e s m args below meth c H locs ls hC hW hS hlv hol host
  obtain ⟨hx, hb, hml, hown, hts, hr', hlo, hK, hnm, hcl1, hsl1⟩ := id hC
  refine W.widen (k := mc) (n := ms) hcl1 hsl1 (zWm ?_ (fun t ht => ⟨g, zX.rf, ht⟩))
  exact W.zret hx hb (hr'.trans hr) hz (fun t ht hW' => ⟨⟨g, some (zi x), M, zX.rf, rfl, fun v hv => by cases hv; trivial, h, by rw [ht]; exact hW⟩, hS.F ht⟩) hS.2.2 hd hlo
theorem aw_breturn {Q : Option zV → zM → Prop} {x : Int} (hd : dec X pc = .ok (.ireturn, 1)) (hr : X.2.2.2.1 = some .byte) (hz : narrow .byte (.int (Int32.ofInt x)) = .int (Int32.ofInt x)) (h : Q (some (zi x)) M) : AW l X (zTn X mc ms c0 n0 Q) pc lv [zi x] M := by
  intro g p e s m args below meth c H locs ls hC hW hS hlv hol host
  obtain ⟨hx, hb, hml, hown, hts, hr', hlo, hK, hnm, hcl1, hsl1⟩ := id hC
  refine W.widen (k := mc) (n := ms) hcl1 hsl1 (zWm ?_ (fun t ht => ⟨g, zX.rf, ht⟩))
  exact W.zret hx hb (hr'.trans hr) hz (fun t ht hW' => ⟨⟨g, some (zi x), M, zX.rf, rfl, fun v hv => by cases hv; trivial, h, by rw [ht]; exact hW⟩, hS.F ht⟩) hS.2.2 hd hlo
theorem aw_lreturn {Q : Option zV → zM → Prop} {x : Int} (hd : dec X pc = .ok (.lreturn, 1)) (hr : X.2.2.2.1 = some .long) (h : Q (some (zl x)) M) : AW l X (zTn X mc ms c0 n0 Q) pc lv [zl x] M := by
  intro g p e s m args below meth c H locs ls hC hW hS hlv hol host
  obtain ⟨hx, hb, hml, hown, hts, hr', hlo, hK, hnm, hcl1, hsl1⟩ := id hC
  refine W.widen (k := mc) (n := ms) hcl1 hsl1 (zWm ?_ (fun t ht => ⟨g, zX.rf, ht⟩))
  exact W.lret hx hb (hr'.trans hr) (fun t ht hW' => ⟨⟨g, some (zl x), M, zX.rf, rfl, fun v hv => by cases hv; trivial, h, by rw [ht]; exact hW⟩, hS.F ht⟩) hS.2.2 hd hlo
theorem aw_return {Q : Option zV → zM → Prop} (hd : dec X pc = .ok (.return_, 1)) (hr : X.2.2.2.1 = none) (h : Q none M) : AW l X (zTn X mc ms c0 n0 Q) pc lv [] M := by
  intro g p e s m args below meth c H locs ls hC hW hS hlv hol host
  obtain ⟨hx, hb, hml, hown, hts, hr', hlo, hK, hnm, hcl1, hsl1⟩ := id hC
  refine W.widen (k := mc) (n := ms) hcl1 hsl1 (zWm ?_ (fun t ht => ⟨g, zX.rf, ht⟩))
  exact W.vret hx hb (hr'.trans hr) (fun t ht hW' => ⟨⟨g, none, M, zX.rf, rfl, fun v hv => (by cases hv), h, by rw [ht]; exact hW⟩, hS.F ht⟩) hS.2.2 hd hlo
theorem aw_areturnG {Q : Option zV → zM → Prop} {k i : Nat} {ty : FieldType} (hd : dec X pc = .ok (.areturn, 1)) (hr : X.2.2.2.1 = some ty) (hty : (∃ n, ty = .object n) ∨ ∃ t, ty = .array t) (hk : k ≠ 63) (h : Q (some (zr k i)) M) : AW l X (zTn X mc ms c0 n0 Q) pc lv [zr k i] M := by
  intro g p e s m args below meth c H locs ls hC hW hS hlv hol host
  obtain ⟨hx, hb, hml, hown, hts, hr', hlo, hK, hnm, hcl1, hsl1⟩ := id hC
  refine W.widen (k := mc) (n := ms) hcl1 hsl1 (zWm ?_ (fun t ht => ⟨g, zX.rf, ht⟩))
  rw [List.map_cons, zcv_r hk, List.map_nil]
  exact W.aret hx hb (hr'.trans hr) hty (Or.inr ⟨_, rfl⟩) (fun t ht hW' => ⟨⟨g, some (zr k i), M, zX.rf, by rw [Option.map_some, zcv_r hk], fun v hv => by cases hv; exact host _ List.mem_cons_self, h, by rw [ht]; exact hW⟩, hS.F ht⟩) hS.2.2 hd hlo
theorem aw_areturn {Q : Option zV → zM → Prop} {k i : Nat} {nm : String} (hd : dec X pc = .ok (.areturn, 1)) (hr : X.2.2.2.1 = some (.object nm)) (hk : k ≠ 63) (h : Q (some (zr k i)) M) : AW l X (zTn X mc ms c0 n0 Q) pc lv [zr k i] M := aw_areturnG hd hr (Or.inl ⟨nm, rfl⟩) hk h
-- references against null
theorem aw_ifnonnull {off : Int} {k i : Nat} (hd : dec X pc = .ok (.ifnonnull off, 3)) (ht : (pc : Int) + off = (pc' : Int)) (hk : k ≠ 63) (kk : AW l X T pc' lv st M) : AW l X T pc lv (zr k i :: st) M := by
  refine AW.go (fun _ h _ => zokt h) ?_ kk
  intro g p e s m args below meth c H locs ls Q hC hW hS hlv host h
  rw [List.map_cons, zcv_r hk]
  exact lv_ifnonnull hC.1 hC.2.1 hd ht h
theorem aw_ifnull {off : Int} {k i : Nat} (hd : dec X pc = .ok (.ifnull off, 3)) (hp : pc + 3 = pc') (hk : k ≠ 63) (kk : AW l X T pc' lv st M) : AW l X T pc lv (zr k i :: st) M := by
  subst hp
  refine AW.go (fun _ h _ => zokt h) ?_ kk
  intro g p e s m args below meth c H locs ls Q hC hW hS hlv host h
  rw [List.map_cons, zcv_r hk]
  exact lv_ifnull hC.1 hC.2.1 hd h
-- strings
theorem aw_ldcS {ix i : Nat} {tx : String} (hd : dec X pc = .ok (.ldc ix, 2)) (hp : pc + 2 = pc') (h : (X.1.cls, ix, tx, i) ∈ zsRefs) (hi : i < zsN) (kk : AW l X T pc' lv (zr 61 i :: st) M) : AW l X T pc lv st M := by
  subst hp
  refine AW.go (fun _ h _ => zok1 (v := zr 61 i) (zok_n (by decide) hi) h) ?_ kk
  intro g p e s m args below meth c H locs ls Q hC hW hS hlv host hk
  rw [List.map_cons, zcv_r (by decide)] at hk
  exact va_ldcS hC.1 hC.2.1 hC.2.2.2.1 (hC.2.2.2.2.2.2.2.1.2.2.2.1 _ h) hd hk
-- Math
theorem zmax_i {x y : Int} (hx : zI x) (hy : zI y) : (if Int32.ofInt x < Int32.ofInt y then Int32.ofInt y else Int32.ofInt x) = Int32.ofInt (max x y) := by
  by_cases h : x < y
  · rw [if_pos ((zI_lt hx hy).mpr h), Int.max_eq_right (by omega)]
  · rw [if_neg (fun q => h ((zI_lt hx hy).mp q)), Int.max_eq_left (by omega)]
/-- Math.max of two ints is the pool entry ix of own -/
def zMx (own : String) (ix : Nat) : Prop := Cond.methodLink own ix Lib.Math.max.name ∈ zTB ∧ Cond.static Lib.Math.max.name ∈ zTB ∧ Cond.initialized "java/lang/Math" ∈ zTB ∧ Cond.code Lib.Math.max.name Lib.Math.max.code 2 (some .int) ∈ zTB
def zMn (own : String) (ix : Nat) : Prop := Cond.methodLink own ix Lib.Math.min.name ∈ zTB ∧ Cond.static Lib.Math.min.name ∈ zTB ∧ Cond.initialized "java/lang/Math" ∈ zTB ∧ Cond.code Lib.Math.min.name Lib.Math.min.code 2 (some .int) ∈ zTB
theorem aw_max {ix : Nat} {x y : Int} (hd : dec X pc = .ok (.invokestatic ix, 3)) (hp : pc + 3 = pc') (hc : zMx X.1.cls ix) (hroom : 1 ≤ T.1.frames ∧ zsz st + 13 ≤ T.1.locals) (hx : zI x) (hy : zI y) (kk : AW l X T pc' lv (zi (max x y) :: st) M) : AW l X T pc lv (zi y :: zi x :: st) M := by
  subst hp
  refine AW.go (fun _ h _ => zok1i (zokt (zokt h))) ?_ kk
  intro g p e s m args below meth c H locs ls Q hC hW hS hlv host hk
  obtain ⟨hx', hb, hml, hown, hts, hr', hlo, hK, hnm, hcl1, hsl1⟩ := id hC
  refine va_mmax hx' hb (hml.trans hlv.1.symm) hown (hts _ hc.1) (hts _ hc.2.1) (hts _ hc.2.2.1) (hts _ hc.2.2.2) hroom.1 (by rw [zst_cat]; exact hroom.2) hcl1 hsl1 hd ?_
  rw [zmax_i hx hy]
  exact hk
end
