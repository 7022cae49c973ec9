/-! ===== rows: one instruction each ===== -/
theorem zws_at {k i : Nat} (hk : k < 60) (hi : i < zcnt k) : ∃ n : Nat, zlocs[n]? = some (k, i) := List.getElem?_of_mem (zlocs_mem.mpr ⟨hk, hi⟩)
theorem zws_get {g : zG} {M : zM} {k i n : Nat} (h : zlocs[n]? = some (k, i)) : (zws g M)[n]? = some (g.2.1 k i, zent g M k i) := by
  simp [zws, h]
theorem zent_congr {g : zG} {M M' : zM} {k i : Nat} (h : M k i = M' k i) : zent g M k i = zent g M' k i := by
  unfold zent zfl zarr zfv
  rw [h]
theorem zws_set {g : zG} {M M' : zM} {k i n : Nat} (h : zlocs[n]? = some (k, i)) (hM : ∀ k' i', ¬ (k' = k ∧ i' = i) → M' k' i' = M k' i') : (zws g M).set n (g.2.1 k i, zent g M' k i) = zws g M' := by
  refine List.ext_getElem? fun n' => ?_
  have hlt : n < zlocs.length := (List.getElem?_eq_some_iff.mp h).1
  by_cases hn : n' = n
  · subst hn
    rw [List.getElem?_set_self (by simpa [zws] using hlt), zws_get h]
  · rw [List.getElem?_set_ne (Ne.symm hn)]
    cases hq : zlocs[n']? with
    | none => simp [zws, hq]
    | some q =>
      obtain ⟨k', i'⟩ := q
      rw [zws_get hq, zws_get hq]
      have hne : ¬ (k' = k ∧ i' = i) := by
        rintro ⟨rfl, rfl⟩
        have hl' : n' < zlocs.length := (List.getElem?_eq_some_iff.mp hq).1
        have e1 := (List.getElem?_eq_some_iff.mp hq).2
        have e2 := (List.getElem?_eq_some_iff.mp h).2
        exact hn ((List.getElem_inj zlocs_nodup).mp (e1.trans e2.symm))
      rw [zent_congr (hM k' i' hne).symm]
theorem zu_o {M : zM} {k i : Nat} {j x : Int} : ∀ k' i', ¬ (k' = k ∧ i' = i) → zu M k i j x k' i' = M k' i' := by
  intro k' i' h
  funext j'
  exact if_neg fun q => h ⟨q.1, q.2.1⟩
theorem zcv_r {g : zG} {k i : Nat} (h : k ≠ 63) : zcv g (zr k i) = .ref (g.2.1 k i) := if_neg h
theorem zk_ne {k : Nat} (h : k < 60) : k ≠ 63 := by omega
def zfld (kd : Nat) : vw_C := vwCl.getD kd ("", fun _ => ("", "", "", false), 0)
/-- the pool entry ix of the class own is the field k of the class kd -/
def zFL (own : String) (ix kd k : Nat) : Prop := ∃ (C : String) (T : u_T) (N : Nat), vwCl[kd]? = some (C, T, N) ∧ kd < 10 ∧ k < N ∧ (T k).1 = C ∧ (∀ w ∈ u_ws C T N, w ∈ zTB) ∧
  (Cond.fieldLink own ix C (T k).2.1 (T k).2.2.1 ∈ zTB ∨ ∃ host, Cond.fieldLinkNest own ix C (T k).2.1 (T k).2.2.1 host ∈ znest)
/-- it may be written; ty: its type -/
def zFP (own : String) (ix kd k : Nat) (ty : FieldType) : Prop := ∃ (C : String) (T : u_T) (N : Nat) (ty0 : Nat → FieldType), vwCl[kd]? = some (C, T, N) ∧ kd < 10 ∧ k < N ∧ (T k).1 = C ∧ (∀ w ∈ u_ws C T N, w ∈ zTB) ∧
  (Cond.fieldLink own ix C (T k).2.1 (T k).2.2.1 ∈ zTB ∨ ∃ host, Cond.fieldLinkNest own ix C (T k).2.1 (T k).2.2.1 host ∈ znest) ∧ (T k).2.2.2 = false ∧ parseFieldDescriptor (T k).2.2.1 = some ty ∧
  (∀ k, k < N → parseFieldDescriptor (T k).2.2.1 = some (ty0 k)) ∧ (∀ a, a < N → ∀ b, b < N → a ≠ b → (T a).2.1 ≠ (T b).2.1)
section
variable {l : Launch} {X : zD} {T : zT} {pc pc' : Nat} {lv lv' : List (Nat × zV)} {st st' : List zV} {M M' : zM}
/-- a step that changes neither heap nor locals -/
theorem AW.go (hok : (∀ v ∈ st, zok v) → (∀ q ∈ lv, zok q.2) → ∀ v ∈ st', zok v)
    (h : ∀ (g : zG) (p : Program) (e : Jvm.Env) (s : State) (m : MethodId) (args : Array Value) (below : List Frame) (meth : Method) (c : Code) (H : Heap) (locs : List Loc) (ls : Array Slot) (Q : State → Prop),
      zC X T g p s m args meth c → zW g M H → va_S (zA g) s.heap H locs → lv_has ls X.2.2.1 (zlv g lv) → (∀ v ∈ st, zok v) → W p l e T.1 s m args below meth c H locs T.2.1 T.2.2.1 Q (F0 m pc' ls (st'.map (zcv g))) → W p l e T.1 s m args below meth c H locs T.2.1 T.2.2.1 Q (F0 m pc ls (st.map (zcv g))))
    (kk : AW l X T pc' lv st' M) : AW l X T pc lv st M := by
  intro g p e s m args below meth c H locs ls hC hW hS hlv hol host
  exact h g p e s m args below meth c H locs ls _ hC hW hS hlv host (kk g p e s m args below meth c H locs ls hC hW hS hlv hol (hok host hol))
theorem aw_getI {ix kd k i : Nat} {kc : Int} (hd : dec X pc = .ok (.getfield ix, 3)) (hp : pc + 3 = pc') (hf : zFL X.1.cls ix kd k) (hl : (zlay kd)[k]? = some none) (hkc : (k : Int) = kc) (kk : AW l X T pc' lv (zi (M kd i kc) :: st) M) : AW l X T pc lv (zr kd i :: st) M := by
  subst hp; subst hkc
  refine AW.go (fun h _ v hv => ?_) ?_ kk
  · rcases List.mem_cons.mp hv with rfl | hv
    · trivial
    · exact h v (List.mem_cons_of_mem _ hv)
  · intro g p e s m args below meth c H locs ls Q hC hW hS hlv host hk
    obtain ⟨C, TT, N, hc, hkd, hkN, hT, hin, hlink⟩ := hf
    obtain ⟨n, hn⟩ := zws_at (Nat.lt_of_lt_of_le hkd (by decide)) (host (zr kd i) List.mem_cons_self)
    have he : (zws g M)[n]? = some (g.2.1 kd i, .inr (kd, zfl g M kd i)) := by rw [zws_get hn, zent, if_pos hkd]
    have hv : (zfl g M kd i)[k]? = some (.int (Int32.ofInt (M kd i k))) := by simp [zfl, List.getElem?_mapIdx, hl, zfv]
    obtain ⟨hx, hb, hml, hown, hts, -, -, hK, -⟩ := hC
    rw [List.map_cons, zcv_r (by omega)]
    rcases hlink with hlink | ⟨host', hlink⟩
    · exact va_get (T := TT) (N := N) (ref := C) hx hb hts hin hown hK.1 hW.1 n he hc k hkN (hts _ hlink) (fun x h => by rw [hT] at h; exact h) hv hd hk
    · exact va_getN (T := TT) (N := N) (ref := C) (host := host') hx hb hts hin hown hK.1 hW.1 n he hc k hkN (va_Nw.use rfl (hK.2.1 _ hlink)) (fun x h => by rw [hT] at h; exact h) hv hd hk
theorem aw_getR {ix kd k i k' a b j : Nat} (hd : dec X pc = .ok (.getfield ix, 3)) (hp : pc + 3 = pc') (hf : zFL X.1.cls ix kd k) (hl : (zlay kd)[k]? = some (some (k', a, b))) (hj : a * i + b = j) (hz : k' ≠ 63 ∧ (i < zcnt kd → j < zcnt k')) (kk : AW l X T pc' lv (zr k' j :: st) M) : AW l X T pc lv (zr kd i :: st) M := by
  subst hp
  refine AW.go (fun h _ v hv => ?_) ?_ kk
  · rcases List.mem_cons.mp hv with rfl | hv
    · exact hz.2 (h (zr kd i) List.mem_cons_self)
    · exact h v (List.mem_cons_of_mem _ hv)
  · intro g p e s m args below meth c H locs ls Q hC hW hS hlv host hk
    obtain ⟨C, TT, N, hc, hkd, hkN, hT, hin, hlink⟩ := hf
    obtain ⟨n, hn⟩ := zws_at (Nat.lt_of_lt_of_le hkd (by decide)) (host (zr kd i) List.mem_cons_self)
    have he : (zws g M)[n]? = some (g.2.1 kd i, .inr (kd, zfl g M kd i)) := by rw [zws_get hn, zent, if_pos hkd]
    have hv : (zfl g M kd i)[k]? = some (.ref (g.2.1 k' j)) := by simp [zfl, List.getElem?_mapIdx, hl, zfv, hj]
    obtain ⟨hx, hb, hml, hown, hts, -, -, hK, -⟩ := hC
    rw [List.map_cons, zcv_r hz.1] at hk
    rw [List.map_cons, zcv_r (by omega)]
    rcases hlink with hlink | ⟨host', hlink⟩
    · exact va_get (T := TT) (N := N) (ref := C) hx hb hts hin hown hK.1 hW.1 n he hc k hkN (hts _ hlink) (fun x h => by rw [hT] at h; exact h) hv hd hk
    · exact va_getN (T := TT) (N := N) (ref := C) (host := host') hx hb hts hin hown hK.1 hW.1 n he hc k hkN (va_Nw.use rfl (hK.2.1 _ hlink)) (fun x h => by rw [hT] at h; exact h) hv hd hk
theorem zfl_set {g : zG} {M : zM} {kd i k : Nat} {x : Int} (hl : (zlay kd)[k]? = some none) : (zfl g M kd i).set k (.int (Int32.ofInt x)) = zfl g (zu M kd i k x) kd i := by
  refine List.ext_getElem? fun n => ?_
  have hlt : k < (zlay kd).length := (List.getElem?_eq_some_iff.mp hl).1
  by_cases hn : n = k
  · subst hn
    rw [List.getElem?_set_self (by simpa [zfl] using hlt)]
    simp [zfl, List.getElem?_mapIdx, hl, zfv, zu_s]
  · rw [List.getElem?_set_ne (Ne.symm hn)]
    simp only [zfl, List.getElem?_mapIdx]
    cases hq : (zlay kd)[n]? with
    | none => rfl
    | some o =>
      cases o with
      | none =>
        have hn2 : ¬ (n : Int) = (k : Int) := by omega
        simp [zfv, zu, hn2]
      | some r => rfl
theorem aw_put {ix kd k i : Nat} {x kc : Int} {ty : FieldType} (hd : dec X pc = .ok (.putfield ix, 3)) (hp : pc + 3 = pc') (hf : zFP X.1.cls ix kd k ty) (hl : (zlay kd)[k]? = some none) (hkc : (k : Int) = kc) (hn : narrow ty (.int (Int32.ofInt x)) = .int (Int32.ofInt x)) (hfit : fits ty (.int (Int32.ofInt x)) = true) (kk : AW l X T pc' lv st (zu M kd i kc x)) : AW l X T pc lv (zi x :: zr kd i :: st) M := by
  subst hp; subst hkc
  intro g p e s m args below meth c H locs ls hC hW hS hlv hol host
  obtain ⟨C, TT, N, ty0, hc, hkd, hkN, hT, hin, hlink, hfin, hty, hty0, hnm⟩ := hf
  obtain ⟨n, hn'⟩ := zws_at (Nat.lt_of_lt_of_le hkd (by decide)) (host (zr kd i) (List.mem_cons_of_mem _ List.mem_cons_self))
  have he : (zws g M)[n]? = some (g.2.1 kd i, .inr (kd, zfl g M kd i)) := by rw [zws_get hn', zent, if_pos hkd]
  have hst : (zws g M).set n (g.2.1 kd i, .inr (kd, (zfl g M kd i).set k (.int (Int32.ofInt x)))) = zws g (zu M kd i k x) := by
    rw [← zws_set hn' (M' := zu M kd i k x) zu_o, zfl_set hl, zent, if_pos hkd]
  have hlen : k < (zfl g M kd i).length := by simpa [zfl] using (List.getElem?_eq_some_iff.mp hl).1
  obtain ⟨hx, hb, hml, hown, hts, hr, hlo, hK, hcl, hsl⟩ := id hC
  rw [List.map_cons, List.map_cons, zcv_r (by omega)]
  have key : ∀ (H1 : Heap) (locs1 : List Loc), va_P g.1 vwCl ((zws g M).set n (g.2.1 kd i, .inr (kd, (zfl g M kd i).set k (.int (Int32.ofInt x))))) H1 → va_D (zA g) ((zws g M).set n (g.2.1 kd i, .inr (kd, (zfl g M kd i).set k (.int (Int32.ofInt x))))) → va_S (zA g) s.heap H1 locs1 → W p l e T.1 s m args below meth c H1 locs1 T.2.1 T.2.2.1 (T.2.2.2 g s args below) (F0 m (pc + 3) ls (st.map (zcv g))) := by
    intro H1 locs1 h1 h2 h3
    rw [hst] at h1 h2
    exact kk g p e s m args below meth c H1 locs1 ls hC ⟨h1, h2⟩ h3 hlv hol (fun v hv => host v (List.mem_cons_of_mem _ (List.mem_cons_of_mem _ hv)))
  rcases hlink with hlink | ⟨host', hlink⟩
  · exact va_put (T := TT) (N := N) (ref := C) hx hb hts hin ty0 hty0 hnm hown hK.1 hW.1 hW.2 hS n he hc k hkN (hts _ hlink) (fun x h => by rw [hT] at h; exact h) hfin hty hn hfit hlen hd key
  · exact va_putN (T := TT) (N := N) (ref := C) (host := host') hx hb hts hin ty0 hty0 hnm hown hK.1 hW.1 hW.2 hS n he hc k hkN (va_Nw.use rfl (hK.2.1 _ hlink)) (fun x h => by rw [hT] at h; exact h) hfin hty hn hfit hlen hd key
end
