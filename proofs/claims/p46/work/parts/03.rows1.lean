/-! ===== rows: fields ===== -/
theorem zO_nd {g : zG} {M : zM} (h : zO g M) : (zall g).Nodup := by
  rw [List.nodup_append]
  refine ⟨zlocs_nodup, h.1, ?_⟩
  rintro ⟨k, i⟩ h1 ⟨k2, i2⟩ h2 e
  cases e
  have a := (zlocs_mem.mp h1).1
  have b := ((h.2.1 k i).mp h2).1
  omega
theorem zRV.u {M : zM} {k i : Nat} {j x : Int} (h : zRV M) (hk : k ≠ 97) (hx : ∀ k', zrp k j = some k' → x < M 97 0 k') : zRV (zu M k i j x) := by
  intro k2 i2 j2 k' h1 h2 h3 h4
  have e : ∀ q : Int, zu M k i j x 97 0 q = M 97 0 q := fun q => if_neg fun z => hk z.1.symm
  rw [e] at h2 ⊢
  by_cases c : k2 = k ∧ i2 = i ∧ j2 = j
  · obtain ⟨rfl, rfl, rfl⟩ := c
    rw [zu_s]
    exact hx k' h4
  · rw [zu_n c]
    exact h k2 i2 j2 k' h1 h2 h3 h4
theorem zO.u {g : zG} {M M' : zM} (h : zO g M) (e : ∀ k, M' 97 0 k = M 97 0 k) (hv : zRV M') : zO g M' := ⟨h.1, fun k i => by rw [e]; exact h.2.1 k i, hv, fun k => by rw [e]; exact h.2.2.2 k⟩
theorem zO.uu {g : zG} {M : zM} {k i : Nat} {j x : Int} (h : zO g M) (hk : k ≠ 97) (hx : ∀ k', zrp k j = some k' → x < M 97 0 k') : zO g (zu M k i j x) := h.u (fun q => if_neg fun z => hk z.1.symm) (h.2.2.1.u hk hx)
theorem zlay_na {k : Nat} (h : ¬ zob k) : zlay k = [] := by
  have h1 : ∀ n, n < 81 → (n < 10 ∨ (64 ≤ n ∧ n < 68)) ∨ zlayL.getD n [] = [] := by decide +kernel
  by_cases c : k < 81
  · exact (h1 k c).resolve_left h
  · unfold zlay
    rw [List.getD_eq_getElem?_getD, List.getElem?_eq_none (by have : zlayL.length = 81 := by decide +kernel
                                                              omega)]
    rfl
/-- an entry of a layout -/
def zlok (k : Nat) : Option (Nat × Nat × Nat) → Bool
  | none => true
  | some (k', a, _) => (decide (a ≠ 2) && decide (k' < 60) && decide (k < 60)) || (decide (a = 2) && decide (64 ≤ k) && decide (k < 68) && decide (64 ≤ k') && decide (k' < 96))
theorem zlok_all : ∀ n, n < 81 → (zlayL.getD n []).all (zlok n) = true := by decide +kernel
theorem zlay_f {k j k' a b : Nat} (h : (zlay k)[j]? = some (some (k', a, b))) : (a ≠ 2 ∧ k' < 60 ∧ k < 60) ∨ (a = 2 ∧ (64 ≤ k ∧ k < 68) ∧ (64 ≤ k' ∧ k' < 96)) := by
  by_cases c : k < 81
  · have h1 := List.all_eq_true.mp (zlok_all k c) _ (List.mem_of_getElem? h)
    simp only [zlok, Bool.or_eq_true, Bool.and_eq_true, decide_eq_true_eq] at h1
    omega
  · rw [zlay_na (by unfold zob; omega)] at h
    simp at h
theorem zety_5 {k : Nat} (h : zety k = 5) : (64 ≤ k ∧ k < 96) ∧ (64 ≤ zel k ∧ zel k < 96) := by
  have h1 : ∀ n, n < 81 → zetyL.getD n 0 = 5 → (64 ≤ n ∧ n < 96) ∧ (64 ≤ zelL.getD n 0 ∧ zelL.getD n 0 < 96) := by decide +kernel
  by_cases c : k < 81
  · exact h1 k c h
  · unfold zety at h
    rw [List.getD_eq_getElem?_getD, List.getElem?_eq_none (by have : zetyL.length = 81 := by decide +kernel
                                                              omega)] at h
    cases h
theorem zety_ob {k : Nat} (h : zob k) : zety k ≠ 5 := by
  have h1 : ∀ n, n < 68 → zetyL.getD n 0 ≠ 5 := by decide +kernel
  exact h1 k (by unfold zob at h; omega)
theorem zrp_na {k : Nat} {j : Int} (h : ¬ zob k) (h5 : zety k ≠ 5) : zrp k j = none := by
  unfold zrp
  rw [if_neg h5, zlay_na h]
  rfl
theorem zrp_no {k : Nat} {j : Nat} (h : zob k) (hl : (zlay k)[j]? = some none) : zrp k (j : Int) = none := by
  unfold zrp
  rw [if_neg (zety_ob h), Int.toNat_natCast, hl]
theorem zrp_r {k j k' b : Nat} (h : zob k) (hl : (zlay k)[j]? = some (some (k', 2, b))) : zrp k (j : Int) = some k' := by
  unfold zrp
  rw [if_neg (zety_ob h), Int.toNat_natCast, hl]
  rfl
theorem zok_in {g : zG} {k i : Nat} (hk : ¬ (60 ≤ k ∧ k < 64)) (h : zok g (zr k i)) : (k, i) ∈ zall g := by
  have h' : if 60 ≤ k ∧ k < 64 then i < zcnt k else (k, i) ∈ zall g := h
  rwa [if_neg hk] at h'
theorem zok_of {g : zG} {k i : Nat} (hk : ¬ (60 ≤ k ∧ k < 64)) (h : (k, i) ∈ zall g) : zok g (zr k i) := by
  show if 60 ≤ k ∧ k < 64 then i < zcnt k else (k, i) ∈ zall g
  rw [if_neg hk]; exact h
theorem zok_s {g : zG} {k i : Nat} (hk : k < 60) (h : i < zcnt k) : zok g (zr k i) := zok_of (by omega) (List.mem_append_left _ (zlocs_mem.mpr ⟨hk, h⟩))
theorem zok_n {g : zG} {k i : Nat} (hk : 60 ≤ k ∧ k < 64) (h : i < zcnt k) : zok g (zr k i) := by
  show if 60 ≤ k ∧ k < 64 then i < zcnt k else (k, i) ∈ zall g
  rw [if_pos hk]; exact h
theorem zok_c {g : zG} {M : zM} (hO : zO g M) {k i : Nat} (hk : k < 60) (h : zok g (zr k i)) : i < zcnt k := by
  rcases List.mem_append.mp (zok_in (by omega) h) with q | q
  · exact (zlocs_mem.mp q).2
  · have := ((hO.2.1 k i).mp q).1; omega
theorem zok_d {g : zG} {M : zM} (hO : zO g M) {k : Nat} {r : Int} (hk : 64 ≤ k ∧ k < 96) (h : 0 ≤ r ∧ r < M 97 0 k) : zok g (zr k r.toNat) := by
  refine zok_of (by omega) (List.mem_append_right _ ((hO.2.1 k r.toNat).mpr ⟨hk, ?_⟩))
  rw [Int.toNat_of_nonneg h.1]; exact h.2
theorem zws_at {g : zG} {k i : Nat} (hk : ¬ (60 ≤ k ∧ k < 64)) (h : zok g (zr k i)) : ∃ n : Nat, (zall g)[n]? = some (k, i) := List.getElem?_of_mem (zok_in hk h)
theorem zws_get {g : zG} {M : zM} {k i n : Nat} (h : (zall g)[n]? = some (k, i)) : (zws g M)[n]? = some (g.2.1 k i, zent g M k i) := by
  unfold zws
  rw [List.getElem?_map, h]
  rfl
theorem zent_congr {g : zG} {M M' : zM} {k i : Nat} (h : M k i = M' k i) : zent g M k i = zent g M' k i := by
  unfold zent zfl zarr zfv zln
  rw [h]
theorem zws_set {g : zG} {M M' : zM} {k i n : Nat} (hO : zO g M) (h : (zall g)[n]? = some (k, i)) (hM : ∀ k' i', ¬ (k' = k ∧ i' = i) → M' k' i' = M k' i') : (zws g M).set n (g.2.1 k i, zent g M' k i) = zws g M' := by
  refine List.ext_getElem? fun n' => ?_
  have hlt : n < (zall g).length := (List.getElem?_eq_some_iff.mp h).1
  by_cases hn : n' = n
  · subst hn
    rw [List.getElem?_set_self (by unfold zws; rw [List.length_map]; exact hlt), zws_get h]
  · rw [List.getElem?_set_ne (Ne.symm hn)]
    cases hq : (zall g)[n']? with
    | none => unfold zws; rw [List.getElem?_map, List.getElem?_map, hq]; rfl
    | some q =>
      obtain ⟨k', i'⟩ := q
      rw [zws_get hq, zws_get hq]
      have hne : ¬ (k' = k ∧ i' = i) := by
        rintro ⟨rfl, rfl⟩
        have hl' : n' < (zall g).length := (List.getElem?_eq_some_iff.mp hq).1
        have e1 := (List.getElem?_eq_some_iff.mp hq).2
        have e2 := (List.getElem?_eq_some_iff.mp h).2
        exact hn ((List.getElem_inj (zO_nd hO)).mp (e1.trans e2.symm))
      rw [zent_congr (hM k' i' hne).symm]
theorem zu_o {M : zM} {k i : Nat} {j x : Int} : ∀ k' i', ¬ (k' = k ∧ i' = i) → zu M k i j x k' i' = M k' i' := by
  intro k' i' h
  funext j'
  exact if_neg fun q => h ⟨q.1, q.2.1⟩
theorem zu_97 {M : zM} {k i : Nat} {j x : Int} (hk : k ≠ 97) : ∀ k', zu M k i j x 97 0 k' = M 97 0 k' := fun _ => if_neg fun q => hk q.1.symm
theorem zcv_r {g : zG} {k i : Nat} (h : k ≠ 63) : zcv g (zr k i) = .ref (g.2.1 k i) := if_neg h
theorem zk_ne {k : Nat} (h : k < 60) : k ≠ 63 := by omega
theorem zci_lt {k : Nat} (h : k < 10) : zci k = k := if_pos h
theorem zent_ob {g : zG} {M : zM} {k i : Nat} (hk : zob k) : zent g M k i = .inr (zci k, zfl g M k i) := if_pos hk
/-- the pool entry ix of the class own is the field k of the class kd -/
def zFL (own : String) (ix kd k : Nat) : Prop := ∃ (C : String) (T : u_T) (N : Nat), vwCl[zci kd]? = some (C, T, N) ∧ zob kd ∧ k < N ∧ (∀ w ∈ u_ws C T N, w ∈ zTB) ∧
  (Cond.fieldLink own ix (T k).1 (T k).2.1 (T k).2.2.1 ∈ zTB ∨ ∃ host, Cond.fieldLinkNest own ix (T k).1 (T k).2.1 (T k).2.2.1 host ∈ znest)
/-- it may be written; ty: its type -/
def zFP (own : String) (ix kd k : Nat) (ty : FieldType) : Prop := ∃ (C : String) (T : u_T) (N : Nat) (ty0 : Nat → FieldType), vwCl[zci kd]? = some (C, T, N) ∧ zob kd ∧ k < N ∧ (∀ w ∈ u_ws C T N, w ∈ zTB) ∧
  (Cond.fieldLink own ix (T k).1 (T k).2.1 (T k).2.2.1 ∈ zTB ∨ ∃ host, Cond.fieldLinkNest own ix (T k).1 (T k).2.1 (T k).2.2.1 host ∈ znest) ∧ (T k).2.2.2 = false ∧ parseFieldDescriptor (T k).2.2.1 = some ty ∧
  (∀ k, k < N → parseFieldDescriptor (T k).2.2.1 = some (ty0 k)) ∧ (∀ a, a < N → ∀ b, b < N → a ≠ b → (T a).2.1 ≠ (T b).2.1)
/-- a final field, written in the constructor -/
def zFF (own : String) (ix kd k : Nat) (ty : FieldType) : Prop := ∃ (C : String) (T : u_T) (N : Nat) (ty0 : Nat → FieldType), vwCl[zci kd]? = some (C, T, N) ∧ zob kd ∧ k < N ∧ (∀ w ∈ u_ws C T N, w ∈ zTB) ∧
  Cond.fieldLink own ix (T k).1 (T k).2.1 (T k).2.2.1 ∈ zTB ∧ (T k).2.2.2 = true ∧ (T k).1 = own ∧ parseFieldDescriptor (T k).2.2.1 = some ty ∧
  (∀ k, k < N → parseFieldDescriptor (T k).2.2.1 = some (ty0 k)) ∧ (∀ a, a < N → ∀ b, b < N → a ≠ b → (T a).2.1 ≠ (T b).2.1)
section
variable {l : Launch} {X : zD} {T : zT} {pc pc' : Nat} {lv lv' : List (Nat × zV)} {st st' : List zV} {M M' : zM}
/-- a step that changes neither heap nor locals -/
theorem AW.go (hok : ∀ g, (∀ v ∈ st, zok g v) → (∀ q ∈ lv, zok g q.2) → ∀ v ∈ st', zok g v)
    (h : ∀ (g : zG) (p : Program) (e : Jvm.Env) (s : State) (m : MethodId) (args : Array Value) (below : List Frame) (meth : Method) (c : Code) (H : Heap) (locs : List Loc) (ls : Array Slot) (Q : State → Prop),
      zC X T g p s m args meth c → zW g M H → va_S (zA g) s.heap H locs → lv_has ls X.2.2.1 (zlv g lv) → (∀ v ∈ st, zok g v) → W p l e T.1 s m args below meth c H locs T.2.1 T.2.2.1 Q (F0 m pc' ls (st'.map (zcv g))) → W p l e T.1 s m args below meth c H locs T.2.1 T.2.2.1 Q (F0 m pc ls (st.map (zcv g))))
    (kk : AW l X T pc' lv st' M) : AW l X T pc lv st M := by
  intro g p e s m args below meth c H locs ls hC hW hS hlv hol host
  exact h g p e s m args below meth c H locs ls _ hC hW hS hlv host (kk g p e s m args below meth c H locs ls hC hW hS hlv hol (hok g host hol))
theorem zob_n {k : Nat} (h : zob k) : ¬ (60 ≤ k ∧ k < 64) ∧ k ≠ 63 := by unfold zob at h; omega
/-- a field read: whatever it holds -/
theorem aw_getv {ix kd k i : Nat} {v : zV} {o : Option (Nat × Nat × Nat)} (hd : dec X pc = .ok (.getfield ix, 3)) (hp : pc + 3 = pc') (hf : zFL X.1.cls ix kd k) (hl : (zlay kd)[k]? = some o)
    (hv : ∀ g, zO g M → zok g (zr kd i) → zfv g M kd i k o = zcv g v ∧ zok g v) (kk : AW l X T pc' lv (v :: st) M) : AW l X T pc lv (zr kd i :: st) M := by
  subst hp
  intro g p e s m args below meth c H locs ls hC hW hS hlv hol host
  have hkk := kk g p e s m args below meth c H locs ls hC hW hS hlv hol (fun w hw => (List.mem_cons.mp hw).elim (fun q => q ▸ (hv g hW.2.2 (host _ List.mem_cons_self)).2) (fun q => host w (List.mem_cons_of_mem _ q)))
  obtain ⟨C, TT, N, hc, hkd, hkN, hin, hlink⟩ := hf
  have hn0 := zob_n hkd
  obtain ⟨n, hn⟩ := zws_at hn0.1 (host (zr kd i) List.mem_cons_self)
  have he : (zws g M)[n]? = some (g.2.1 kd i, .inr (zci kd, zfl g M kd i)) := by rw [zws_get hn, zent_ob hkd]
  have hv2 : (zfl g M kd i)[k]? = some (zcv g v) := by
    rw [← (hv g hW.2.2 (host _ List.mem_cons_self)).1]
    simp [zfl, List.getElem?_mapIdx, hl]
  obtain ⟨hx, hb, hml, hown, hts, -, -, hK, -⟩ := hC
  rw [List.map_cons, zcv_r hn0.2]
  rcases hlink with hlink | ⟨host', hlink⟩
  · exact va_get (T := TT) (N := N) (ref := (TT k).1) hx hb hts hin hown hK.1 hW.1 n he hc k hkN (hts _ hlink) (fun x h => h) hv2 hd hkk
  · exact va_getN (T := TT) (N := N) (ref := (TT k).1) (host := host') hx hb hts hin hown hK.1 hW.1 n he hc k hkN (va_Nw.use rfl (hK.2.1 _ hlink)) (fun x h => h) hv2 hd hkk
theorem aw_getI {ix kd k i : Nat} {kc : Int} (hd : dec X pc = .ok (.getfield ix, 3)) (hp : pc + 3 = pc') (hf : zFL X.1.cls ix kd k) (hl : (zlay kd)[k]? = some none) (hkc : (k : Int) = kc) (kk : AW l X T pc' lv (zi (M kd i kc) :: st) M) : AW l X T pc lv (zr kd i :: st) M := by
  subst hkc
  exact aw_getv (v := zi (M kd i k)) hd hp hf hl (fun g _ _ => ⟨rfl, trivial⟩) kk
theorem aw_getR {ix kd k i k' a b j : Nat} (hd : dec X pc = .ok (.getfield ix, 3)) (hp : pc + 3 = pc') (hf : zFL X.1.cls ix kd k) (hl : (zlay kd)[k]? = some (some (k', a, b))) (hj : a * i + b = j) (hz : k' < 60 ∧ (i < zcnt kd → j < zcnt k')) (kk : AW l X T pc' lv (zr k' j :: st) M) : AW l X T pc lv (zr kd i :: st) M := by
  have ha : a ≠ 2 ∧ kd < 60 := by rcases zlay_f hl with h | h <;> omega
  refine aw_getv hd hp hf hl (fun g hO ho => ⟨?_, ?_⟩) kk
  · rw [zcv_r (by omega), zfv, if_neg ha.1, hj]
  · exact zok_s hz.1 (hz.2 (zok_c hO ha.2 ho))
/-- a reference that is kept as a number -/
theorem aw_getD {ix kd k i k' b : Nat} {kc : Int} (hd : dec X pc = .ok (.getfield ix, 3)) (hp : pc + 3 = pc') (hf : zFL X.1.cls ix kd k) (hl : (zlay kd)[k]? = some (some (k', 2, b))) (hkc : (k : Int) = kc) (hk : 64 ≤ k' ∧ k' < 96) (hr : 0 ≤ M kd i kc ∧ M kd i kc < M 97 0 k') (kk : AW l X T pc' lv (zr k' (M kd i kc).toNat :: st) M) : AW l X T pc lv (zr kd i :: st) M := by
  subst hkc
  refine aw_getv hd hp hf hl (fun g hO ho => ⟨?_, zok_d hO hk hr⟩) kk
  rw [zcv_r (by omega), zfv, if_pos rfl, zdo, if_neg (by omega)]
  rfl
theorem zfl_set {g : zG} {M : zM} {kd i k : Nat} {x : Int} {o : Option (Nat × Nat × Nat)} {v : Value} (hl : (zlay kd)[k]? = some o) (hv : zfv g (zu M kd i k x) kd i k o = v) : (zfl g M kd i).set k v = zfl g (zu M kd i k x) kd i := by
  refine List.ext_getElem? fun n => ?_
  have hlt : k < (zlay kd).length := (List.getElem?_eq_some_iff.mp hl).1
  by_cases hn : n = k
  · subst hn
    rw [List.getElem?_set_self (by simpa [zfl] using hlt)]
    simp [zfl, List.getElem?_mapIdx, hl, hv]
  · rw [List.getElem?_set_ne (Ne.symm hn)]
    simp only [zfl, List.getElem?_mapIdx]
    cases hq : (zlay kd)[n]? with
    | none => rfl
    | some o =>
      have e : zu M kd i k x kd i n = M kd i n := zu_n (by rintro ⟨-, -, h⟩; exact hn (by omega))
      cases o with
      | none => simp [zfv, e]
      | some r => simp [zfv, e]
theorem aw_putv {ix kd k i : Nat} {x kc : Int} {ty : FieldType} {v : zV} {o : Option (Nat × Nat × Nat)} (hd : dec X pc = .ok (.putfield ix, 3)) (hp : pc + 3 = pc') (hf : zFP X.1.cls ix kd k ty ∨ (zFF X.1.cls ix kd k ty ∧ X.1.name = "<init>")) (hl : (zlay kd)[k]? = some o) (hkc : (k : Int) = kc)
    (hxx : zob kd → ∀ g, zO g M → zok g v → ∀ k', zrp kd kc = some k' → x < M 97 0 k')
    (hv : ∀ g, zO g M → zok g v → zfv g (zu M kd i kc x) kd i k o = zcv g v ∧ narrow ty (zcv g v) = zcv g v ∧ fits ty (zcv g v) = true) (kk : AW l X T pc' lv st (zu M kd i kc x)) : AW l X T pc lv (v :: zr kd i :: st) M := by
  subst hp; subst hkc
  intro g p e s m args below meth c H locs ls hC hW hS hlv hol host
  have hkd : zob kd := by
    rcases hf with ⟨_, _, _, _, _, h, _⟩ | ⟨⟨_, _, _, _, _, h, _⟩, _⟩ <;> exact h
  have hn0 := zob_n hkd
  obtain ⟨hv1, hv2, hv3⟩ := hv g hW.2.2 (host _ List.mem_cons_self)
  obtain ⟨n, hn'⟩ := zws_at hn0.1 (host (zr kd i) (List.mem_cons_of_mem _ List.mem_cons_self))
  have he : (zws g M)[n]? = some (g.2.1 kd i, .inr (zci kd, zfl g M kd i)) := by rw [zws_get hn', zent_ob hkd]
  have hst : (zws g M).set n (g.2.1 kd i, .inr (zci kd, (zfl g M kd i).set k (zcv g v))) = zws g (zu M kd i k x) := by
    rw [← zws_set hW.2.2 hn' (M' := zu M kd i k x) zu_o, zfl_set hl hv1, zent_ob hkd]
  have hlen : k < (zfl g M kd i).length := by simpa [zfl] using (List.getElem?_eq_some_iff.mp hl).1
  obtain ⟨hx, hb, hml, hown, hts, hr, hlo, hK, hnm, hcl, hsl⟩ := id hC
  rw [List.map_cons, List.map_cons, zcv_r hn0.2]
  have key : ∀ (H1 : Heap) (locs1 : List Loc), va_P g.1 vwCl ((zws g M).set n (g.2.1 kd i, .inr (zci kd, (zfl g M kd i).set k (zcv g v)))) H1 → va_D (zA g) ((zws g M).set n (g.2.1 kd i, .inr (zci kd, (zfl g M kd i).set k (zcv g v)))) → va_S (zA g) s.heap H1 locs1 → W p l e T.1 s m args below meth c H1 locs1 T.2.1 T.2.2.1 (zPo T g s args below) (F0 m (pc + 3) ls (st.map (zcv g))) := by
    intro H1 locs1 h1 h2 h3
    rw [hst] at h1 h2
    exact kk g p e s m args below meth c H1 locs1 ls hC ⟨h1, h2, hW.2.2.uu (by unfold zob at hkd; omega) (hxx hkd g hW.2.2 (host _ List.mem_cons_self))⟩ h3 hlv hol (fun v hv => host v (List.mem_cons_of_mem _ (List.mem_cons_of_mem _ hv)))
  rcases hf with ⟨C, TT, N, ty0, hc, -, hkN, hin, hlink, hfin, hty, hty0, hnm2⟩ | ⟨⟨C, TT, N, ty0, hc, -, hkN, hin, hlink, hfin, hdecl, hty, hty0, hnm2⟩, hi⟩
  · rcases hlink with hlink | ⟨host', hlink⟩
    · exact va_put (T := TT) (N := N) (ref := (TT k).1) hx hb hts hin ty0 hty0 hnm2 hown hK.1 hW.1 hW.2.1 hS n he hc k hkN (hts _ hlink) (fun x h => h) hfin hty hv2 hv3 hlen hd key
    · exact va_putN (T := TT) (N := N) (ref := (TT k).1) (host := host') hx hb hts hin ty0 hty0 hnm2 hown hK.1 hW.1 hW.2.1 hS n he hc k hkN (va_Nw.use rfl (hK.2.1 _ hlink)) (fun x h => h) hfin hty hv2 hv3 hlen hd key
  · exact va_putF (T := TT) (N := N) (ref := (TT k).1) hx hb hts hin ty0 hty0 hnm2 hown hK.1 hW.1 hW.2.1 hS n he hc k hkN (hts _ hlink) (fun x h => h) hfin (hnm.1.trans hi) hdecl hty hv2 hv3 hlen hd key
theorem aw_put {ix kd k i : Nat} {x kc : Int} {ty : FieldType} (hd : dec X pc = .ok (.putfield ix, 3)) (hp : pc + 3 = pc') (hf : zFP X.1.cls ix kd k ty) (hl : (zlay kd)[k]? = some none) (hkc : (k : Int) = kc) (hn : narrow ty (.int (Int32.ofInt x)) = .int (Int32.ofInt x)) (hfit : fits ty (.int (Int32.ofInt x)) = true) (kk : AW l X T pc' lv st (zu M kd i kc x)) : AW l X T pc lv (zi x :: zr kd i :: st) M := by
  refine aw_putv hd hp (.inl hf) hl hkc (fun ho g _ _ k' h => ?_) (fun g _ _ => ⟨?_, hn, hfit⟩) kk
  · rw [← hkc, zrp_no ho hl] at h
    cases h
  rw [zfv, hkc, zu_s]
  rfl
/-- the number of a reference is written -/
theorem aw_putD {ix kd k i k' b j : Nat} {kc : Int} {ty : FieldType} (hd : dec X pc = .ok (.putfield ix, 3)) (hp : pc + 3 = pc') (hf : zFP X.1.cls ix kd k ty ∨ (zFF X.1.cls ix kd k ty ∧ X.1.name = "<init>")) (hl : (zlay kd)[k]? = some (some (k', 2, b))) (hkc : (k : Int) = kc) (hk : 64 ≤ k' ∧ k' < 96) (hn : ∀ q : Nat, narrow ty (.ref q) = .ref q ∧ fits ty (.ref q) = true) (kk : AW l X T pc' lv st (zu M kd i kc (j : Int))) : AW l X T pc lv (zr k' j :: zr kd i :: st) M := by
  refine aw_putv hd hp hf hl hkc (fun ho g hO hv k2 h => ?_) (fun g _ _ => ?_) kk
  · rw [← hkc, zrp_r ho hl] at h
    cases h
    rcases List.mem_append.mp (zok_in (by omega) hv) with q | q
    · have := (zlocs_mem.mp q).1; omega
    · exact ((hO.2.1 _ _).mp q).2
  rw [zcv_r (by omega)]
  refine ⟨?_, hn _⟩
  rw [zfv, if_pos rfl, hkc, zu_s, zdo, if_neg (by omega)]
  show Value.ref (g.2.1 k' ((j : Int)).toNat) = _
  rw [Int.toNat_natCast]
end
