/-! ===== rows: arrays, switches, returns, calls ===== -/
theorem zent_arr {g : zG} {M : zM} {k i : Nat} (hk : ¬ k < 10) : zent g M k i = .inl (g.2.2.1 (zety k), zlen k, zarr g M k i) := if_neg hk
theorem zarr_i {g : zG} {M : zM} {k i : Nat} (h : zety k < 3) : zarr g M k i = .inl fun j : Nat => Int32.ofInt (M k i (j : Int)) := by
  unfold zarr
  rw [if_neg (by omega), if_neg (by omega)]
theorem zarr_l {g : zG} {M : zM} {k i : Nat} (h : zety k = 3) : zarr g M k i = .inr (.inl fun j : Nat => Int64.ofInt (M k i (j : Int))) := by
  unfold zarr
  rw [if_pos h]
theorem zarr_q {g : zG} {M : zM} {k i : Nat} (h : zety k = 4) : zarr g M k i = .inr (.inr (.inr (.inr fun j => some (g.2.1 1 (j + zoff k))))) := by
  unfold zarr
  rw [if_neg (by omega), if_pos h]
theorem zupd {M : zM} {k i : Nat} {j x : Int} (h : 0 ≤ j ∧ j < 2000000000) : (upd (fun j : Nat => Int32.ofInt (M k i (j : Int))) (Int32.ofInt j).toNatClampNeg (Int32.ofInt x)) = fun n : Nat => Int32.ofInt (zu M k i j x k i (n : Int)) := by
  funext n
  have e := zcl_of h
  by_cases hn : n = (Int32.ofInt j).toNatClampNeg
  · rw [hn]
    rw [pk_us, e, zu_s]
  · rw [pk_un hn, zu_n (by rintro ⟨-, -, h3⟩; exact hn (by omega))]
theorem zupdL {M : zM} {k i : Nat} {j x : Int} (h : 0 ≤ j ∧ j < 2000000000) : (vp_updL (fun j : Nat => Int64.ofInt (M k i (j : Int))) (Int32.ofInt j).toNatClampNeg (Int64.ofInt x)) = fun n : Nat => Int64.ofInt (zu M k i j x k i (n : Int)) := by
  funext n
  have e := zcl_of h
  by_cases hn : n = (Int32.ofInt j).toNatClampNeg
  · rw [hn]
    rw [pk_uLs, e, zu_s]
  · rw [pk_uLn hn, zu_n (by rintro ⟨-, -, h3⟩; exact hn (by omega))]
/-- kind k is an array of element kind t -/
abbrev zar (k t : Nat) : Prop := k < 60 ∧ ¬ k < 10 ∧ zety k = t
theorem zlen_small (k : Nat) : zlen k ≤ 2000000000 := by
  have h : ∀ n ∈ zlenL, n ≤ 2000000000 := by decide
  unfold zlen
  rw [List.getD_eq_getElem?_getD]
  cases hq : zlenL[k]? with
  | none => simp
  | some n => exact h n (List.mem_of_getElem? hq)
/-- a block of an array moved -/
def zcp (M : zM) (k0 i0 k1 i1 : Nat) (n : Int) : zM := fun k i j => if k = k1 ∧ i = i1 ∧ 0 ≤ j ∧ j < n then M k0 i0 j else M k i j
section
variable {l : Launch} {X : zD} {T : zT} {pc pc' : Nat} {lv lv' : List (Nat × zV)} {st st' : List zV} {M M' : zM}
theorem aw_iald {k i : Nat} {j : Int} (hd : dec X pc = .ok (.iaload, 1)) (hp : pc + 1 = pc') (hk : zar k 0) (hj : 0 ≤ j ∧ j < (zlen k : Nat)) (kk : AW l X T pc' lv (zi (M k i j) :: st) M) : AW l X T pc lv (zi j :: zr k i :: st) M := by
  subst hp
  refine AW.go (fun h _ => zok1i (zokt (zokt h))) ?_ kk
  intro g p e s m args below meth c H locs ls Q hC hW hS hlv host h
  obtain ⟨n, hn⟩ := zws_at hk.1 (host (zr k i) (List.mem_cons_of_mem _ List.mem_cons_self))
  have hl := zlen_small k
  have he := zws_get (g := g) (M := M) hn
  rw [zent_arr hk.2.1, zarr_i (by omega), hk.2.2] at he
  rw [List.map_cons, List.map_cons, zcv_r (by omega)]
  refine va_iald hC.1 hC.2.1 hC.2.2.2.2.2.2.2.1.1 hW.1 n 0 he rfl (zin_of hl hj) hd ?_
  rw [zcl_of (by omega)]
  exact h
theorem aw_zald {k i : Nat} {j : Int} (hd : dec X pc = .ok (.baload, 1)) (hp : pc + 1 = pc') (hk : zar k 1) (hj : 0 ≤ j ∧ j < (zlen k : Nat)) (kk : AW l X T pc' lv (zi (M k i j) :: st) M) : AW l X T pc lv (zi j :: zr k i :: st) M := by
  subst hp
  refine AW.go (fun h _ => zok1i (zokt (zokt h))) ?_ kk
  intro g p e s m args below meth c H locs ls Q hC hW hS hlv host h
  obtain ⟨n, hn⟩ := zws_at hk.1 (host (zr k i) (List.mem_cons_of_mem _ List.mem_cons_self))
  have hl := zlen_small k
  have he := zws_get (g := g) (M := M) hn
  rw [zent_arr hk.2.1, zarr_i (by omega), hk.2.2] at he
  rw [List.map_cons, List.map_cons, zcv_r (by omega)]
  refine va_zald hC.1 hC.2.1 hC.2.2.2.2.2.2.2.1.1 hW.1 n 1 he rfl (zin_of hl hj) hd ?_
  rw [zcl_of (by omega)]
  exact h
theorem aw_bald {k i : Nat} {j : Int} (hd : dec X pc = .ok (.baload, 1)) (hp : pc + 1 = pc') (hk : zar k 2) (hj : 0 ≤ j ∧ j < (zlen k : Nat)) (kk : AW l X T pc' lv (zi (M k i j) :: st) M) : AW l X T pc lv (zi j :: zr k i :: st) M := by
  subst hp
  refine AW.go (fun h _ => zok1i (zokt (zokt h))) ?_ kk
  intro g p e s m args below meth c H locs ls Q hC hW hS hlv host h
  obtain ⟨n, hn⟩ := zws_at hk.1 (host (zr k i) (List.mem_cons_of_mem _ List.mem_cons_self))
  have hl := zlen_small k
  have he := zws_get (g := g) (M := M) hn
  rw [zent_arr hk.2.1, zarr_i (by omega), hk.2.2] at he
  rw [List.map_cons, List.map_cons, zcv_r (by omega)]
  refine va_bald hC.1 hC.2.1 hC.2.2.2.2.2.2.2.1.1 hW.1 n 2 he rfl (zin_of hl hj) hd ?_
  rw [zcl_of (by omega)]
  exact h
theorem aw_lald {k i : Nat} {j : Int} (hd : dec X pc = .ok (.laload, 1)) (hp : pc + 1 = pc') (hk : zar k 3) (hj : 0 ≤ j ∧ j < (zlen k : Nat)) (kk : AW l X T pc' lv (zl (M k i j) :: st) M) : AW l X T pc lv (zi j :: zr k i :: st) M := by
  subst hp
  refine AW.go (fun h _ => zok1l (zokt (zokt h))) ?_ kk
  intro g p e s m args below meth c H locs ls Q hC hW hS hlv host h
  obtain ⟨n, hn⟩ := zws_at hk.1 (host (zr k i) (List.mem_cons_of_mem _ List.mem_cons_self))
  have hl := zlen_small k
  have he := zws_get (g := g) (M := M) hn
  rw [zent_arr hk.2.1, zarr_l hk.2.2, hk.2.2] at he
  rw [List.map_cons, List.map_cons, zcv_r (by omega)]
  refine va_lald hC.1 hC.2.1 hC.2.2.2.2.2.2.2.1.1 hW.1 n 3 he rfl (zin_of hl hj) hd ?_
  rw [zcl_of (by omega)]
  exact h
theorem aw_qald {k i : Nat} {j : Int} (hd : dec X pc = .ok (.aaload, 1)) (hp : pc + 1 = pc') (hk : zar k 4) (hj : 0 ≤ j ∧ j < (zlen k : Nat)) (hc : j.toNat + zoff k < 14) (kk : AW l X T pc' lv (zr 1 (j.toNat + zoff k) :: st) M) : AW l X T pc lv (zi j :: zr k i :: st) M := by
  subst hp
  refine AW.go (fun h _ => zok1 (v := zr 1 (j.toNat + zoff k)) hc (zokt (zokt h))) ?_ kk
  intro g p e s m args below meth c H locs ls Q hC hW hS hlv host h
  obtain ⟨n, hn⟩ := zws_at hk.1 (host (zr k i) (List.mem_cons_of_mem _ List.mem_cons_self))
  have hl := zlen_small k
  have he := zws_get (g := g) (M := M) hn
  rw [zent_arr hk.2.1, zarr_q hk.2.2, hk.2.2] at he
  rw [List.map_cons, List.map_cons, zcv_r (by omega)]
  refine va_aldq hC.1 hC.2.1 hC.2.2.2.2.2.2.2.1.1 hW.1 n 4 he rfl (zin_of hl hj) hd ?_
  have e := zcl_of (j := j) (by omega)
  rw [show (Int32.ofInt j).toNatClampNeg = j.toNat by omega]
  exact h
theorem aw_alen {k i : Nat} {x : Int} (hd : dec X pc = .ok (.arraylength, 1)) (hp : pc + 1 = pc') (hk : k < 60 ∧ ¬ k < 10 ∧ zety k < 4) (hx : ((zlen k : Nat) : Int) = x) (kk : AW l X T pc' lv (zi x :: st) M) : AW l X T pc lv (zr k i :: st) M := by
  subst hp; subst hx
  refine AW.go (fun h _ => zok1i (zokt h)) ?_ kk
  intro g p e s m args below meth c H locs ls Q hC hW hS hlv host h
  obtain ⟨n, hn⟩ := zws_at hk.1 (host (zr k i) List.mem_cons_self)
  have he := zws_get (g := g) (M := M) hn
  rw [zent_arr hk.2.1] at he
  rw [List.map_cons, zcv_r (by omega)]
  have ht : ∃ ty, (ztys g)[zety k]? = some (g.2.2.1 (zety k), ty) := by
    have h4 := hk.2.2
    generalize zety k = t at h4 ⊢
    match t, h4 with
    | 0, _ => exact ⟨_, rfl⟩
    | 1, _ => exact ⟨_, rfl⟩
    | 2, _ => exact ⟨_, rfl⟩
    | 3, _ => exact ⟨_, rfl⟩
  obtain ⟨ty, ht⟩ := ht
  exact va_alen (x := (zlen k, zarr g M k i)) hC.1 hC.2.1 hC.2.2.2.2.2.2.2.1.1 hW.1 n (zety k) he ht (by rw [← Int32.ofInt_eq_ofNat]) hd h
theorem aw_iast {k i : Nat} {j x : Int} (hd : dec X pc = .ok (.iastore, 1)) (hp : pc + 1 = pc') (hk : zar k 0) (hj : 0 ≤ j ∧ j < (zlen k : Nat)) (kk : AW l X T pc' lv st (zu M k i j x)) : AW l X T pc lv (zi x :: zi j :: zr k i :: st) M := by
  subst hp
  intro g p e s m args below meth c H locs ls hC hW hS hlv hol host
  obtain ⟨n, hn⟩ := zws_at hk.1 (host (zr k i) (List.mem_cons_of_mem _ (List.mem_cons_of_mem _ List.mem_cons_self)))
  have hl := zlen_small k
  have he := zws_get (g := g) (M := M) hn
  rw [zent_arr hk.2.1, zarr_i (by omega), hk.2.2] at he
  rw [List.map_cons, List.map_cons, List.map_cons, zcv_r (by omega)]
  have hs := zws_set (g := g) hn (M := M) (M' := zu M k i j x) zu_o
  rw [zent_arr hk.2.1, zarr_i (by omega), hk.2.2, ← zupd (by omega)] at hs
  refine va_iast hC.1 hC.2.1 hC.2.2.2.2.2.2.2.1.1 hW.1 hW.2 hS n 0 he rfl (zin_of hl hj) hd (fun H1 locs1 h1 h2 h3 => ?_)
  rw [hs] at h1 h2
  exact kk g p e s m args below meth c H1 locs1 ls hC ⟨h1, h2⟩ h3 hlv hol (zokt (zokt (zokt host)))
theorem aw_zast {k i : Nat} {j x : Int} (hd : dec X pc = .ok (.bastore, 1)) (hp : pc + 1 = pc') (hk : zar k 1) (hj : 0 ≤ j ∧ j < (zlen k : Nat)) (hx : x = 0 ∨ x = 1) (kk : AW l X T pc' lv st (zu M k i j x)) : AW l X T pc lv (zi x :: zi j :: zr k i :: st) M := by
  subst hp
  intro g p e s m args below meth c H locs ls hC hW hS hlv hol host
  obtain ⟨n, hn⟩ := zws_at hk.1 (host (zr k i) (List.mem_cons_of_mem _ (List.mem_cons_of_mem _ List.mem_cons_self)))
  have hl := zlen_small k
  have he := zws_get (g := g) (M := M) hn
  rw [zent_arr hk.2.1, zarr_i (by omega), hk.2.2] at he
  rw [List.map_cons, List.map_cons, List.map_cons, zcv_r (by omega)]
  have hs := zws_set (g := g) hn (M := M) (M' := zu M k i j x) zu_o
  rw [zent_arr hk.2.1, zarr_i (by omega), hk.2.2, ← zupd (by omega)] at hs
  have hnar : vp_nar .boolean (Int32.ofInt x) = Int32.ofInt x := by rcases hx with rfl | rfl <;> decide
  refine va_zast hC.1 hC.2.1 hC.2.2.2.2.2.2.2.1.1 hW.1 hW.2 hS n 1 he rfl (zin_of hl hj) hd (fun H1 locs1 h1 h2 h3 => ?_)
  rw [hnar, hs] at h1 h2
  exact kk g p e s m args below meth c H1 locs1 ls hC ⟨h1, h2⟩ h3 hlv hol (zokt (zokt (zokt host)))
theorem aw_bast {k i : Nat} {j x : Int} (hd : dec X pc = .ok (.bastore, 1)) (hp : pc + 1 = pc') (hk : zar k 2) (hj : 0 ≤ j ∧ j < (zlen k : Nat)) (hx : -128 ≤ x ∧ x < 128) (kk : AW l X T pc' lv st (zu M k i j x)) : AW l X T pc lv (zi x :: zi j :: zr k i :: st) M := by
  subst hp
  intro g p e s m args below meth c H locs ls hC hW hS hlv hol host
  obtain ⟨n, hn⟩ := zws_at hk.1 (host (zr k i) (List.mem_cons_of_mem _ (List.mem_cons_of_mem _ List.mem_cons_self)))
  have hl := zlen_small k
  have he := zws_get (g := g) (M := M) hn
  rw [zent_arr hk.2.1, zarr_i (by omega), hk.2.2] at he
  rw [List.map_cons, List.map_cons, List.map_cons, zcv_r (by omega)]
  have hs := zws_set (g := g) hn (M := M) (M' := zu M k i j x) zu_o
  rw [zent_arr hk.2.1, zarr_i (by omega), hk.2.2, ← zupd (by omega)] at hs
  have hnar : vp_nar .byte (Int32.ofInt x) = Int32.ofInt x := by
    rw [vp_nar_byte, ← Int32.toInt_inj, Int8.toInt_toInt32, Int32.toInt_toInt8, Int32.toInt_ofInt_of_le (by omega) (by omega)]
    exact Int.bmod_eq_of_le (by omega) (by omega)
  refine va_bast hC.1 hC.2.1 hC.2.2.2.2.2.2.2.1.1 hW.1 hW.2 hS n 2 he rfl (zin_of hl hj) hd (fun H1 locs1 h1 h2 h3 => ?_)
  rw [hnar, hs] at h1 h2
  exact kk g p e s m args below meth c H1 locs1 ls hC ⟨h1, h2⟩ h3 hlv hol (zokt (zokt (zokt host)))
theorem aw_last {k i : Nat} {j x : Int} (hd : dec X pc = .ok (.lastore, 1)) (hp : pc + 1 = pc') (hk : zar k 3) (hj : 0 ≤ j ∧ j < (zlen k : Nat)) (kk : AW l X T pc' lv st (zu M k i j x)) : AW l X T pc lv (zl x :: zi j :: zr k i :: st) M := by
  subst hp
  intro g p e s m args below meth c H locs ls hC hW hS hlv hol host
  obtain ⟨n, hn⟩ := zws_at hk.1 (host (zr k i) (List.mem_cons_of_mem _ (List.mem_cons_of_mem _ List.mem_cons_self)))
  have hl := zlen_small k
  have he := zws_get (g := g) (M := M) hn
  rw [zent_arr hk.2.1, zarr_l hk.2.2, hk.2.2] at he
  rw [List.map_cons, List.map_cons, List.map_cons, zcv_r (by omega)]
  have hs := zws_set (g := g) hn (M := M) (M' := zu M k i j x) zu_o
  rw [zent_arr hk.2.1, zarr_l hk.2.2, hk.2.2, ← zupdL (by omega)] at hs
  refine va_last hC.1 hC.2.1 hC.2.2.2.2.2.2.2.1.1 hW.1 hW.2 hS n 3 he rfl (zin_of hl hj) hd (fun H1 locs1 h1 h2 h3 => ?_)
  rw [hs] at h1 h2
  exact kk g p e s m args below meth c H1 locs1 ls hC ⟨h1, h2⟩ h3 hlv hol (zokt (zokt (zokt host)))
-- switches
def zTabs (l : Launch) (X : zD) (T : zT) (pc : Nat) (lv : List (Nat × zV)) (st : List zV) (M : zM) (x : Int) : Int → List Int → Prop
  | _, [] => True
  | k, o :: os => (x = k → ∃ tgt : Nat, (pc : Int) + o = (tgt : Int) ∧ AW l X T tgt lv st M) ∧ zTabs l X T pc lv st M x (k + 1) os
theorem zTabs_at {x : Int} : ∀ (os : List Int) (k : Int) (n : Nat), zTabs l X T pc lv st M x k os → x = k + n → ∀ o, os[n]? = some o → ∃ tgt : Nat, (pc : Int) + o = (tgt : Int) ∧ AW l X T tgt lv st M := by
  intro os
  induction os with
  | nil => intro k n _ _ o h; simp at h
  | cons a os ih =>
    intro k n h hx o ho
    cases n with
    | zero =>
      rw [List.getElem?_cons_zero] at ho
      cases ho
      exact h.1 (by simpa using hx)
    | succ n =>
      rw [List.getElem?_cons_succ] at ho
      exact ih (k + 1) n h.2 (by omega) o ho
theorem aw_table {dflt lo hi x : Int} {offs : List Int} {len tgt : Nat} (hd : dec X pc = .ok (.tableswitch dflt lo hi ⟨offs⟩, len)) (ht : (pc : Int) + dflt = (tgt : Int)) (hx : zI x) (hlen : (offs.length : Int) = hi - lo + 1) (hin : zTabs l X T pc lv st M x lo offs) (hout : (x < lo ∨ hi < x) → AW l X T tgt lv st M) : AW l X T pc lv (zi x :: st) M := by
  intro g p e s m args below meth c H locs ls hC hW hS hlv hol host
  have ex : (Int32.ofInt x).toInt = x := Int32.toInt_ofInt_of_le (by omega) (by omega)
  by_cases hx1 : x < lo ∨ hi < x
  · exact lv_tableOut hC.1 hC.2.1 hd (by rw [ex]; exact hx1) ht (hout hx1 g p e s m args below meth c H locs ls hC hW hS hlv hol (zokt host))
  · have hn : (x - lo).toNat < offs.length := by omega
    obtain ⟨t2, h1, h2⟩ := zTabs_at offs lo (x - lo).toNat hin (by omega) _ (List.getElem?_eq_getElem hn)
    exact lv_tableIn hC.1 hC.2.1 hd (by rw [ex]; omega) (by rw [ex]; omega) (by rw [ex, List.getElem?_toArray]; exact List.getElem?_eq_getElem hn) h1 (h2 g p e s m args below meth c H locs ls hC hW hS hlv hol (zokt host))
theorem aw_lookup {dflt x : Int} {ps : List (Int × Int)} {len : Nat} (hd : dec X pc = .ok (.lookupswitch dflt ⟨ps⟩, len)) (hx : zI x) (hsort : (ps.zip (ps.drop 1)).all (fun (a, next) => a.1 < next.1) = true) (kk : ∃ tgt : Nat, (pc : Int) + Op.lookupswitch.offset ps dflt x = (tgt : Int) ∧ AW l X T tgt lv st M) : AW l X T pc lv (zi x :: st) M := by
  intro g p e s m args below meth c H locs ls hC hW hS hlv hol host
  have ex : (Int32.ofInt x).toInt = x := Int32.toInt_ofInt_of_le (by omega) (by omega)
  obtain ⟨tgt, h1, h2⟩ := kk
  exact lv_lookup (ps := ⟨ps⟩) hC.1 hC.2.1 hd hsort rfl (by rw [ex]; exact h1) (h2 g p e s m args below meth c H locs ls hC hW hS hlv hol (zokt host))
-- long compares
theorem aw_lcmp {x y : Int} (hd : dec X pc = .ok (.lcmp, 1)) (hp : pc + 1 = pc') (hx : zJ x) (hy : zJ y) (kk : ∀ z : Int, (x < y ∧ z = -1 ∨ x = y ∧ z = 0 ∨ y < x ∧ z = 1) → AW l X T pc' lv (zi z :: st) M) : AW l X T pc lv (zl y :: zl x :: st) M := by
  have h1 := zJ_lt hx hy
  have h2 := zJ_lt hy hx
  have h3 := zJ_eq hx hy
  have hz : ∃ z : Int, (x < y ∧ z = -1 ∨ x = y ∧ z = 0 ∨ y < x ∧ z = 1) ∧ lg_cmp (Int64.ofInt x) (Int64.ofInt y) = Int32.ofInt z := by
    rcases Int.lt_trichotomy x y with h | h | h
    · refine ⟨-1, Or.inl ⟨h, rfl⟩, ?_⟩
      have a1 : ¬ Int64.ofInt y < Int64.ofInt x := fun q => by have := h2.mp q; omega
      have a2 : ¬ Int64.ofInt x = Int64.ofInt y := fun q => by have := h3.mp q; omega
      simp only [lg_cmp]
      first | (rw [if_neg a1, if_neg a2]; rfl) | (rw [if_pos (h1.mpr h)]; rfl) | simp [a1, a2, h1.mpr h]
    · subst h
      refine ⟨0, Or.inr (Or.inl ⟨rfl, rfl⟩), ?_⟩
      simp [lg_cmp]
    · refine ⟨1, Or.inr (Or.inr ⟨h, rfl⟩), ?_⟩
      simp [lg_cmp, h2.mpr h]
  obtain ⟨z, hz1, hz2⟩ := hz
  refine AW.go (fun h _ => zok1i (zokt (zokt h))) ?_ (kk z hz1)
  intro g p e s m args below meth c H locs ls Q hC hW hS hlv host h
  subst hp
  refine W.lcmp hC.1 hC.2.1 hd ?_
  rw [hz2]
  exact h
end
