/-! ===== rows: arrays, switches ===== -/
abbrev zaG (k t : Nat) : Prop := (¬ (60 ≤ k ∧ k < 64) ∧ k ≠ 97 ∧ ¬ zob k) ∧ zety k = t
/-- kind k is an array of element kind t, one of the fixed ones; one of those that are made -/
abbrev zar (k t : Nat) : Prop := k < 60 ∧ ¬ k < 10 ∧ zety k = t
abbrev zad (k t : Nat) : Prop := (68 ≤ k ∧ k < 96) ∧ zety k = t
theorem zar.G {k t : Nat} (h : zar k t) : zaG k t := ⟨⟨by omega, by omega, by unfold zob; omega⟩, h.2.2⟩
theorem zst_na {k t : Nat} {j x : Int} {M : zM} (hk : zaG k t) (ht : t ≠ 5 := by decide) : ∀ k', zrp k j = some k' → x < M 97 0 k' := by
  intro k' h
  rw [zrp_na hk.1.2.2 (by rw [hk.2]; exact ht)] at h
  cases h
theorem zad.G {k t : Nat} (h : zad k t) : zaG k t := ⟨⟨by omega, by omega, by unfold zob; omega⟩, h.2⟩
theorem zent_arr {g : zG} {M : zM} {k i : Nat} (hk : ¬ zob k) : zent g M k i = .inl (g.2.2.1 (zety k), zln M k i, zarr g M k i) := if_neg hk
theorem zarr_i {g : zG} {M : zM} {k i : Nat} (h : zety k < 3) : zarr g M k i = .inl fun j : Nat => Int32.ofInt (M k i (j : Int)) := by
  unfold zarr
  rw [if_neg (by omega), if_neg (by omega), if_neg (by omega)]
theorem zarr_l {g : zG} {M : zM} {k i : Nat} (h : zety k = 3) : zarr g M k i = .inr (.inl fun j : Nat => Int64.ofInt (M k i (j : Int))) := by
  unfold zarr
  rw [if_pos h]
theorem zarr_q {g : zG} {M : zM} {k i : Nat} (h : zety k = 4) : zarr g M k i = .inr (.inr (.inr (.inr fun j => some (g.2.1 1 (j + zoff k))))) := by
  unfold zarr
  rw [if_neg (by omega), if_pos h]
theorem zarr_r {g : zG} {M : zM} {k i : Nat} (h : zety k = 5) : zarr g M k i = .inr (.inr (.inr (.inr fun j : Nat => zdo g (zel k) (M k i (j : Int))))) := by
  unfold zarr
  rw [if_neg (by omega), if_neg (by omega), if_pos h]
theorem zupd {M : zM} {k i : Nat} {j x : Int} (h : 0 ≤ j ∧ j < 2000000000) : (upd (fun j : Nat => Int32.ofInt (M k i (j : Int))) (Int32.ofInt j).toNatClampNeg (Int32.ofInt x)) = fun n : Nat => Int32.ofInt (zu M k i j x k i (n : Int)) := by
  funext n
  have e := zcl_of h
  by_cases hn : n = (Int32.ofInt j).toNatClampNeg
  · rw [hn]
    rw [pk_us, e, zu_s]
  · rw [pk_un hn, zu_n (by rintro ⟨-, -, h3⟩; exact hn (by omega))]
theorem zupdL {M : zM} {k i : Nat} {j x : Int} (h : 0 ≤ j ∧ j < 2000000000) : (vp_updL (fun j : Nat => Int64.ofInt (M k i (j : Int))) (Int32.ofInt j).toNatClampNeg (Int64.ofInt x)) = fun n : Nat => Int64.ofInt (zu M k i j x k i (n : Int)) := by
  funext n
  have e := zcl_of h
  by_cases hn : n = (Int32.ofInt j).toNatClampNeg
  · rw [hn]
    rw [pk_uLs, e, zu_s]
  · rw [pk_uLn hn, zu_n (by rintro ⟨-, -, h3⟩; exact hn (by omega))]
theorem zupdR {g : zG} {M : zM} {k i k' r : Nat} {j : Int} (h : 0 ≤ j ∧ j < 2000000000) : (va_up (fun j : Nat => zdo g k' (M k i (j : Int))) (Int32.ofInt j).toNatClampNeg (some (g.2.1 k' r))) = fun n : Nat => zdo g k' (zu M k i j (r : Int) k i (n : Int)) := by
  funext n
  have e := zcl_of h
  unfold va_up
  by_cases hn : n = (Int32.ofInt j).toNatClampNeg
  · rw [if_pos hn, hn, e, zu_s, zdo, if_neg (by omega), Int.toNat_natCast]
  · rw [if_neg hn, zu_n (by rintro ⟨-, -, h3⟩; exact hn (by omega))]
theorem zlen_small (k : Nat) : zlen k ≤ 2000000000 := by
  have h : ∀ n ∈ zlenL, n ≤ 2000000000 := by decide
  unfold zlen
  rw [List.getD_eq_getElem?_getD]
  cases hq : zlenL[k]? with
  | none => simp
  | some n => exact h n (List.mem_of_getElem? hq)
theorem zln_s {M : zM} {k i : Nat} (h : zlen k ≠ 0) : zln M k i = zlen k := if_neg h
theorem zln_d {M : zM} {k i : Nat} (h : zlen k = 0) : zln M k i = (M k i (-1)).toNat := if_pos h
theorem zln_u {M : zM} {k i k' i' : Nat} {j x : Int} (hj : 0 ≤ j) : zln (zu M k i j x) k' i' = zln M k' i' := by
  unfold zln
  rw [zu_n (by rintro ⟨-, -, h⟩; omega)]
/-- an index that fits -/
def zix (M : zM) (k i : Nat) (j : Int) : Prop := (0 ≤ j ∧ j < (zln M k i : Nat)) ∧ zln M k i ≤ 2000000000
theorem zix_s {M : zM} {k i : Nat} {j : Int} (h : 0 ≤ j ∧ j < (zlen k : Nat)) : zix M k i j := by
  have := zlen_small k
  unfold zix
  rw [zln_s (by omega)]
  exact ⟨h, this⟩
theorem zix_d {M : zM} {k i : Nat} {j : Int} (hk : zlen k = 0) (h : 0 ≤ j ∧ j < M k i (-1) ∧ M k i (-1) ≤ 1000000) : zix M k i j := by
  unfold zix
  rw [zln_d hk]
  omega
theorem zix.u {M : zM} {k i k' i' : Nat} {j j' x : Int} (h : zix M k i j) (hj : 0 ≤ j') : zix (zu M k' i' j' x) k i j := by
  unfold zix at h ⊢
  rw [zln_u hj]
  exact h
/-- a block of an array moved -/
def zcp (M : zM) (k0 i0 k1 i1 : Nat) (n : Int) : zM := fun k i j => if k = k1 ∧ i = i1 ∧ 0 ≤ j ∧ j < n then M k0 i0 j else M k i j
theorem zty_at {g : zG} {t : Nat} (h : t < 6) : ∃ ty, (ztys g)[t]? = some (g.2.2.1 t, ty) := by
  match t, h with
  | 0, _ => exact ⟨_, rfl⟩
  | 1, _ => exact ⟨_, rfl⟩
  | 2, _ => exact ⟨_, rfl⟩
  | 3, _ => exact ⟨_, rfl⟩
  | 4, _ => exact ⟨_, rfl⟩
  | 5, _ => exact ⟨_, rfl⟩
theorem zasg {vm : Vm} {c : ClassId} : vm.assignable c c = true := by
  show vm.assignableAux (255 + 1) c c = true
  rw [Vm.assignableAux]
  simp
section
variable {l : Launch} {X : zD} {T : zT} {pc pc' : Nat} {lv lv' : List (Nat × zV)} {st st' : List zV} {M M' : zM}
theorem aw_ialdG {k i : Nat} {j : Int} (hd : dec X pc = .ok (.iaload, 1)) (hp : pc + 1 = pc') (hk : zaG k 0) (hj : zix M k i j) (kk : AW l X T pc' lv (zi (M k i j) :: st) M) : AW l X T pc lv (zi j :: zr k i :: st) M := by
  subst hp
  refine AW.go (fun _ h _ => zok1i (zokt (zokt h))) ?_ kk
  intro g p e s m args below meth c H locs ls Q hC hW hS hlv host h
  obtain ⟨n, hn⟩ := zws_at hk.1.1 (host (zr k i) (List.mem_cons_of_mem _ List.mem_cons_self))
  obtain ⟨hj, hl⟩ := hj
  have he := zws_get (g := g) (M := M) hn
  rw [zent_arr hk.1.2.2, zarr_i (by omega), hk.2] at he
  rw [List.map_cons, List.map_cons, zcv_r (by omega)]
  refine va_iald hC.1 hC.2.1 hC.2.2.2.2.2.2.2.1.1 hW.1 n 0 he rfl (zin_of hl hj) hd ?_
  rw [zcl_of (by omega)]
  exact h
theorem aw_iald {k i : Nat} {j : Int} (hd : dec X pc = .ok (.iaload, 1)) (hp : pc + 1 = pc') (hk : zar k 0) (hj : 0 ≤ j ∧ j < (zlen k : Nat)) (kk : AW l X T pc' lv (zi (M k i j) :: st) M) : AW l X T pc lv (zi j :: zr k i :: st) M := aw_ialdG hd hp hk.G (zix_s hj) kk
theorem aw_zaldG {k i : Nat} {j : Int} (hd : dec X pc = .ok (.baload, 1)) (hp : pc + 1 = pc') (hk : zaG k 1) (hj : zix M k i j) (kk : AW l X T pc' lv (zi (M k i j) :: st) M) : AW l X T pc lv (zi j :: zr k i :: st) M := by
  subst hp
  refine AW.go (fun _ h _ => zok1i (zokt (zokt h))) ?_ kk
  intro g p e s m args below meth c H locs ls Q hC hW hS hlv host h
  obtain ⟨n, hn⟩ := zws_at hk.1.1 (host (zr k i) (List.mem_cons_of_mem _ List.mem_cons_self))
  obtain ⟨hj, hl⟩ := hj
  have he := zws_get (g := g) (M := M) hn
  rw [zent_arr hk.1.2.2, zarr_i (by omega), hk.2] at he
  rw [List.map_cons, List.map_cons, zcv_r (by omega)]
  refine va_zald hC.1 hC.2.1 hC.2.2.2.2.2.2.2.1.1 hW.1 n 1 he rfl (zin_of hl hj) hd ?_
  rw [zcl_of (by omega)]
  exact h
theorem aw_zald {k i : Nat} {j : Int} (hd : dec X pc = .ok (.baload, 1)) (hp : pc + 1 = pc') (hk : zar k 1) (hj : 0 ≤ j ∧ j < (zlen k : Nat)) (kk : AW l X T pc' lv (zi (M k i j) :: st) M) : AW l X T pc lv (zi j :: zr k i :: st) M := aw_zaldG hd hp hk.G (zix_s hj) kk
theorem aw_baldG {k i : Nat} {j : Int} (hd : dec X pc = .ok (.baload, 1)) (hp : pc + 1 = pc') (hk : zaG k 2) (hj : zix M k i j) (kk : AW l X T pc' lv (zi (M k i j) :: st) M) : AW l X T pc lv (zi j :: zr k i :: st) M := by
  subst hp
  refine AW.go (fun _ h _ => zok1i (zokt (zokt h))) ?_ kk
  intro g p e s m args below meth c H locs ls Q hC hW hS hlv host h
  obtain ⟨n, hn⟩ := zws_at hk.1.1 (host (zr k i) (List.mem_cons_of_mem _ List.mem_cons_self))
  obtain ⟨hj, hl⟩ := hj
  have he := zws_get (g := g) (M := M) hn
  rw [zent_arr hk.1.2.2, zarr_i (by omega), hk.2] at he
  rw [List.map_cons, List.map_cons, zcv_r (by omega)]
  refine va_bald hC.1 hC.2.1 hC.2.2.2.2.2.2.2.1.1 hW.1 n 2 he rfl (zin_of hl hj) hd ?_
  rw [zcl_of (by omega)]
  exact h
theorem aw_bald {k i : Nat} {j : Int} (hd : dec X pc = .ok (.baload, 1)) (hp : pc + 1 = pc') (hk : zar k 2) (hj : 0 ≤ j ∧ j < (zlen k : Nat)) (kk : AW l X T pc' lv (zi (M k i j) :: st) M) : AW l X T pc lv (zi j :: zr k i :: st) M := aw_baldG hd hp hk.G (zix_s hj) kk
theorem aw_laldG {k i : Nat} {j : Int} (hd : dec X pc = .ok (.laload, 1)) (hp : pc + 1 = pc') (hk : zaG k 3) (hj : zix M k i j) (kk : AW l X T pc' lv (zl (M k i j) :: st) M) : AW l X T pc lv (zi j :: zr k i :: st) M := by
  subst hp
  refine AW.go (fun _ h _ => zok1l (zokt (zokt h))) ?_ kk
  intro g p e s m args below meth c H locs ls Q hC hW hS hlv host h
  obtain ⟨n, hn⟩ := zws_at hk.1.1 (host (zr k i) (List.mem_cons_of_mem _ List.mem_cons_self))
  obtain ⟨hj, hl⟩ := hj
  have he := zws_get (g := g) (M := M) hn
  rw [zent_arr hk.1.2.2, zarr_l hk.2, hk.2] at he
  rw [List.map_cons, List.map_cons, zcv_r (by omega)]
  refine va_lald hC.1 hC.2.1 hC.2.2.2.2.2.2.2.1.1 hW.1 n 3 he rfl (zin_of hl hj) hd ?_
  rw [zcl_of (by omega)]
  exact h
theorem aw_lald {k i : Nat} {j : Int} (hd : dec X pc = .ok (.laload, 1)) (hp : pc + 1 = pc') (hk : zar k 3) (hj : 0 ≤ j ∧ j < (zlen k : Nat)) (kk : AW l X T pc' lv (zl (M k i j) :: st) M) : AW l X T pc lv (zi j :: zr k i :: st) M := aw_laldG hd hp hk.G (zix_s hj) kk
theorem aw_qald {k i : Nat} {j : Int} (hd : dec X pc = .ok (.aaload, 1)) (hp : pc + 1 = pc') (hk : zar k 4) (hj : 0 ≤ j ∧ j < (zlen k : Nat)) (hc : j.toNat + zoff k < 14) (kk : AW l X T pc' lv (zr 1 (j.toNat + zoff k) :: st) M) : AW l X T pc lv (zi j :: zr k i :: st) M := by
  subst hp
  refine AW.go (fun _ h _ => zok1 (v := zr 1 (j.toNat + zoff k)) (zok_s (by decide) hc) (zokt (zokt h))) ?_ kk
  intro g p e s m args below meth c H locs ls Q hC hW hS hlv host h
  obtain ⟨n, hn⟩ := zws_at hk.G.1.1 (host (zr k i) (List.mem_cons_of_mem _ List.mem_cons_self))
  obtain ⟨hj, hl⟩ := zix_s (M := M) (i := i) hj
  have he := zws_get (g := g) (M := M) hn
  rw [zent_arr hk.G.1.2.2, zarr_q hk.2.2, hk.2.2] at he
  rw [List.map_cons, List.map_cons, zcv_r (by omega)]
  refine va_aldq hC.1 hC.2.1 hC.2.2.2.2.2.2.2.1.1 hW.1 n 4 he rfl (zin_of hl hj) hd ?_
  have e := zcl_of (j := j) (by omega)
  rw [show (Int32.ofInt j).toNatClampNeg = j.toNat by omega]
  exact h
/-- a row out of an array of rows -/
theorem aw_rald {k i : Nat} {j : Int} (hd : dec X pc = .ok (.aaload, 1)) (hp : pc + 1 = pc') (hk : zaG k 5) (hz : 64 ≤ zel k ∧ zel k < 96) (hj : zix M k i j) (hr : 0 ≤ M k i j ∧ M k i j < M 97 0 (zel k)) (kk : AW l X T pc' lv (zr (zel k) (M k i j).toNat :: st) M) : AW l X T pc lv (zi j :: zr k i :: st) M := by
  subst hp
  intro g p e s m args below meth c H locs ls hC hW hS hlv hol host
  have h := kk g p e s m args below meth c H locs ls hC hW hS hlv hol (fun w hw => (List.mem_cons.mp hw).elim (fun q => q ▸ zok_d hW.2.2 hz hr) (fun q => host w (List.mem_cons_of_mem _ (List.mem_cons_of_mem _ q))))
  obtain ⟨n, hn⟩ := zws_at hk.1.1 (host (zr k i) (List.mem_cons_of_mem _ List.mem_cons_self))
  obtain ⟨hj, hl⟩ := hj
  have he := zws_get (g := g) (M := M) hn
  rw [zent_arr hk.1.2.2, zarr_r hk.2, hk.2] at he
  rw [List.map_cons, List.map_cons, zcv_r (by omega)]
  have hlt : (Int32.ofInt j).toNatClampNeg < zln M k i := Nat.not_le.mp fun q => zin_of hl hj (Or.inr q)
  have e1 := zcl_of (j := j) (by omega)
  refine W.aald (v := .ref (g.2.1 (zel k) (M k i j).toNat)) (ty := .array .int) hC.1 hC.2.1 (hW.1 n _ he) ((hC.2.2.2.2.2.2.2.1.1.2 5 _ rfl).1 (zln M k i) (fun q => va_rf (zdo g (zel k) (M k i (q : Int))))) rfl (fun q => by cases q) (by show ¬ (Int32.ofInt j < 0 ∨ (arrV _ _ _).slots.size ≤ _); rw [arrV_size]; exact zin_of hl hj) (by
    show (arrV _ _ _).slots[_]? = _
    rw [arrV_read _ _ hlt]
    show some (va_rf (zdo g (zel k) (M k i (((Int32.ofInt j).toNatClampNeg : Nat) : Int)))) = _
    rw [e1, zdo, if_neg (by omega)]
    rfl) rfl rfl hd ?_
  rw [List.map_cons, zcv_r (by omega)] at h
  exact h
theorem aw_alenG {k i : Nat} {x : Int} (hd : dec X pc = .ok (.arraylength, 1)) (hp : pc + 1 = pc') (hk : ¬ (60 ≤ k ∧ k < 64) ∧ ¬ zob k ∧ zety k < 6) (hx : ((zln M k i : Nat) : Int) = x) (kk : AW l X T pc' lv (zi x :: st) M) : AW l X T pc lv (zr k i :: st) M := by
  subst hp; subst hx
  refine AW.go (fun _ h _ => zok1i (zokt h)) ?_ kk
  intro g p e s m args below meth c H locs ls Q hC hW hS hlv host h
  obtain ⟨n, hn⟩ := zws_at hk.1 (host (zr k i) List.mem_cons_self)
  have he := zws_get (g := g) (M := M) hn
  rw [zent_arr hk.2.1] at he
  rw [List.map_cons, zcv_r (by omega)]
  obtain ⟨ty, ht⟩ := zty_at (g := g) hk.2.2
  exact va_alen (x := (zln M k i, zarr g M k i)) hC.1 hC.2.1 hC.2.2.2.2.2.2.2.1.1 hW.1 n (zety k) he ht (by rw [← Int32.ofInt_eq_ofNat]) hd h
theorem zlen_0 {k : Nat} (h : k < 60 ∧ ¬ k < 10) (hz : zlen k = 0) : zcnt k = 0 := by
  have h1 : ∀ n, n < 60 → ¬ n < 10 → zlenL.getD n 0 = 0 → zcntL.getD n 0 = 0 := by decide +kernel
  exact h1 k h.1 h.2 hz
theorem aw_alen {k i : Nat} {x : Int} (hd : dec X pc = .ok (.arraylength, 1)) (hp : pc + 1 = pc') (hk : k < 60 ∧ ¬ k < 10 ∧ zety k < 4) (hx : ((zlen k : Nat) : Int) = x) (kk : AW l X T pc' lv (zi x :: st) M) : AW l X T pc lv (zr k i :: st) M := by
  by_cases hz : zlen k = 0
  · intro g p e s m args below meth c H locs ls hC hW hS hlv hol host
    have h1 := zok_c hW.2.2 hk.1 (host (zr k i) List.mem_cons_self)
    rw [zlen_0 ⟨hk.1, hk.2.1⟩ hz] at h1
    omega
  · exact aw_alenG hd hp ⟨by omega, by unfold zob; omega, by omega⟩ (by rw [zln_s hz]; exact hx) kk
theorem aw_iastG {k i : Nat} {j x : Int} (hd : dec X pc = .ok (.iastore, 1)) (hp : pc + 1 = pc') (hk : zaG k 0) (hj : zix M k i j) (kk : AW l X T pc' lv st (zu M k i j x)) : AW l X T pc lv (zi x :: zi j :: zr k i :: st) M := by
  subst hp
  intro g p e s m args below meth c H locs ls hC hW hS hlv hol host
  obtain ⟨n, hn⟩ := zws_at hk.1.1 (host (zr k i) (List.mem_cons_of_mem _ (List.mem_cons_of_mem _ List.mem_cons_self)))
  obtain ⟨hj, hl⟩ := hj
  have he := zws_get (g := g) (M := M) hn
  rw [zent_arr hk.1.2.2, zarr_i (by omega), hk.2] at he
  rw [List.map_cons, List.map_cons, List.map_cons, zcv_r (by omega)]
  have hs := zws_set (g := g) hW.2.2 hn (M := M) (M' := zu M k i j x) zu_o
  rw [zent_arr hk.1.2.2, zarr_i (by omega), hk.2, zln_u hj.1, ← zupd (by omega)] at hs
  refine va_iast hC.1 hC.2.1 hC.2.2.2.2.2.2.2.1.1 hW.1 hW.2.1 hS n 0 he rfl (zin_of hl hj) hd (fun H1 locs1 h1 h2 h3 => ?_)
  rw [hs] at h1 h2
  exact kk g p e s m args below meth c H1 locs1 ls hC ⟨h1, h2, hW.2.2.uu hk.1.2.1 (zst_na hk)⟩ h3 hlv hol (zokt (zokt (zokt host)))
theorem aw_iast {k i : Nat} {j x : Int} (hd : dec X pc = .ok (.iastore, 1)) (hp : pc + 1 = pc') (hk : zar k 0) (hj : 0 ≤ j ∧ j < (zlen k : Nat)) (kk : AW l X T pc' lv st (zu M k i j x)) : AW l X T pc lv (zi x :: zi j :: zr k i :: st) M := aw_iastG hd hp hk.G (zix_s hj) kk
theorem aw_zastG {k i : Nat} {j x : Int} (hd : dec X pc = .ok (.bastore, 1)) (hp : pc + 1 = pc') (hk : zaG k 1) (hj : zix M k i j) (hx : x = 0 ∨ x = 1) (kk : AW l X T pc' lv st (zu M k i j x)) : AW l X T pc lv (zi x :: zi j :: zr k i :: st) M := by
  subst hp
  intro g p e s m args below meth c H locs ls hC hW hS hlv hol host
  obtain ⟨n, hn⟩ := zws_at hk.1.1 (host (zr k i) (List.mem_cons_of_mem _ (List.mem_cons_of_mem _ List.mem_cons_self)))
  obtain ⟨hj, hl⟩ := hj
  have he := zws_get (g := g) (M := M) hn
  rw [zent_arr hk.1.2.2, zarr_i (by omega), hk.2] at he
  rw [List.map_cons, List.map_cons, List.map_cons, zcv_r (by omega)]
  have hs := zws_set (g := g) hW.2.2 hn (M := M) (M' := zu M k i j x) zu_o
  rw [zent_arr hk.1.2.2, zarr_i (by omega), hk.2, zln_u hj.1, ← zupd (by omega)] at hs
  have hnar : vp_nar .boolean (Int32.ofInt x) = Int32.ofInt x := by rcases hx with rfl | rfl <;> decide
  refine va_zast hC.1 hC.2.1 hC.2.2.2.2.2.2.2.1.1 hW.1 hW.2.1 hS n 1 he rfl (zin_of hl hj) hd (fun H1 locs1 h1 h2 h3 => ?_)
  rw [hnar, hs] at h1 h2
  exact kk g p e s m args below meth c H1 locs1 ls hC ⟨h1, h2, hW.2.2.uu hk.1.2.1 (zst_na hk)⟩ h3 hlv hol (zokt (zokt (zokt host)))
theorem aw_zast {k i : Nat} {j x : Int} (hd : dec X pc = .ok (.bastore, 1)) (hp : pc + 1 = pc') (hk : zar k 1) (hj : 0 ≤ j ∧ j < (zlen k : Nat)) (hx : x = 0 ∨ x = 1) (kk : AW l X T pc' lv st (zu M k i j x)) : AW l X T pc lv (zi x :: zi j :: zr k i :: st) M := aw_zastG hd hp hk.G (zix_s hj) hx kk
theorem aw_bastG {k i : Nat} {j x : Int} (hd : dec X pc = .ok (.bastore, 1)) (hp : pc + 1 = pc') (hk : zaG k 2) (hj : zix M k i j) (hx : -128 ≤ x ∧ x < 128) (kk : AW l X T pc' lv st (zu M k i j x)) : AW l X T pc lv (zi x :: zi j :: zr k i :: st) M := by
  subst hp
  intro g p e s m args below meth c H locs ls hC hW hS hlv hol host
  obtain ⟨n, hn⟩ := zws_at hk.1.1 (host (zr k i) (List.mem_cons_of_mem _ (List.mem_cons_of_mem _ List.mem_cons_self)))
  obtain ⟨hj, hl⟩ := hj
  have he := zws_get (g := g) (M := M) hn
  rw [zent_arr hk.1.2.2, zarr_i (by omega), hk.2] at he
  rw [List.map_cons, List.map_cons, List.map_cons, zcv_r (by omega)]
  have hs := zws_set (g := g) hW.2.2 hn (M := M) (M' := zu M k i j x) zu_o
  rw [zent_arr hk.1.2.2, zarr_i (by omega), hk.2, zln_u hj.1, ← zupd (by omega)] at hs
  have hnar : vp_nar .byte (Int32.ofInt x) = Int32.ofInt x := by
    rw [vp_nar_byte, ← Int32.toInt_inj, Int8.toInt_toInt32, Int32.toInt_toInt8, Int32.toInt_ofInt_of_le (by omega) (by omega)]
    exact Int.bmod_eq_of_le (by omega) (by omega)
  refine va_bast hC.1 hC.2.1 hC.2.2.2.2.2.2.2.1.1 hW.1 hW.2.1 hS n 2 he rfl (zin_of hl hj) hd (fun H1 locs1 h1 h2 h3 => ?_)
  rw [hnar, hs] at h1 h2
  exact kk g p e s m args below meth c H1 locs1 ls hC ⟨h1, h2, hW.2.2.uu hk.1.2.1 (zst_na hk)⟩ h3 hlv hol (zokt (zokt (zokt host)))
theorem aw_bast {k i : Nat} {j x : Int} (hd : dec X pc = .ok (.bastore, 1)) (hp : pc + 1 = pc') (hk : zar k 2) (hj : 0 ≤ j ∧ j < (zlen k : Nat)) (hx : -128 ≤ x ∧ x < 128) (kk : AW l X T pc' lv st (zu M k i j x)) : AW l X T pc lv (zi x :: zi j :: zr k i :: st) M := aw_bastG hd hp hk.G (zix_s hj) hx kk
theorem aw_lastG {k i : Nat} {j x : Int} (hd : dec X pc = .ok (.lastore, 1)) (hp : pc + 1 = pc') (hk : zaG k 3) (hj : zix M k i j) (kk : AW l X T pc' lv st (zu M k i j x)) : AW l X T pc lv (zl x :: zi j :: zr k i :: st) M := by
  subst hp
  intro g p e s m args below meth c H locs ls hC hW hS hlv hol host
  obtain ⟨n, hn⟩ := zws_at hk.1.1 (host (zr k i) (List.mem_cons_of_mem _ (List.mem_cons_of_mem _ List.mem_cons_self)))
  obtain ⟨hj, hl⟩ := hj
  have he := zws_get (g := g) (M := M) hn
  rw [zent_arr hk.1.2.2, zarr_l hk.2, hk.2] at he
  rw [List.map_cons, List.map_cons, List.map_cons, zcv_r (by omega)]
  have hs := zws_set (g := g) hW.2.2 hn (M := M) (M' := zu M k i j x) zu_o
  rw [zent_arr hk.1.2.2, zarr_l hk.2, hk.2, zln_u hj.1, ← zupdL (by omega)] at hs
  refine va_last hC.1 hC.2.1 hC.2.2.2.2.2.2.2.1.1 hW.1 hW.2.1 hS n 3 he rfl (zin_of hl hj) hd (fun H1 locs1 h1 h2 h3 => ?_)
  rw [hs] at h1 h2
  exact kk g p e s m args below meth c H1 locs1 ls hC ⟨h1, h2, hW.2.2.uu hk.1.2.1 (zst_na hk)⟩ h3 hlv hol (zokt (zokt (zokt host)))
theorem aw_last {k i : Nat} {j x : Int} (hd : dec X pc = .ok (.lastore, 1)) (hp : pc + 1 = pc') (hk : zar k 3) (hj : 0 ≤ j ∧ j < (zlen k : Nat)) (kk : AW l X T pc' lv st (zu M k i j x)) : AW l X T pc lv (zl x :: zi j :: zr k i :: st) M := aw_lastG hd hp hk.G (zix_s hj) kk
/-- a row put into an array of rows -/
theorem aw_rast {k i r : Nat} {j : Int} (hd : dec X pc = .ok (.aastore, 1)) (hp : pc + 1 = pc') (hk : zaG k 5) (he' : zaG (zel k) 0) (hz : 64 ≤ zel k ∧ zel k < 96) (hj : zix M k i j) (kk : AW l X T pc' lv st (zu M k i j (r : Int))) : AW l X T pc lv (zr (zel k) r :: zi j :: zr k i :: st) M := by
  subst hp
  intro g p e s m args below meth c H locs ls hC hW hS hlv hol host
  obtain ⟨n, hn⟩ := zws_at hk.1.1 (host (zr k i) (List.mem_cons_of_mem _ (List.mem_cons_of_mem _ List.mem_cons_self)))
  obtain ⟨n1, hn1⟩ := zws_at he'.1.1 (host (zr (zel k) r) List.mem_cons_self)
  obtain ⟨hj, hl⟩ := hj
  have he := zws_get (g := g) (M := M) hn
  rw [zent_arr hk.1.2.2, zarr_r hk.2, hk.2] at he
  have he1 := zws_get (g := g) (M := M) hn1
  rw [zent_arr he'.1.2.2, zarr_i (by omega), he'.2] at he1
  have hs := zws_set (g := g) hW.2.2 hn (M := M) (M' := zu M k i j (r : Int)) zu_o
  rw [zent_arr hk.1.2.2, zarr_r hk.2, hk.2, zln_u hj.1, ← zupdR (by omega)] at hs
  rw [List.map_cons, List.map_cons, List.map_cons, zcv_r (by omega), zcv_r (by omega)]
  have hlt : (Int32.ofInt j).toNatClampNeg < zln M k i := Nat.not_le.mp fun q => zin_of hl hj (Or.inr q)
  have h0 : ¬ Int32.ofInt j < 0 := fun q => zin_of hl hj (Or.inl q)
  obtain ⟨hx, hb, hml, hown, hts, hr, hlo, hK, hnm, hcl, hsl⟩ := id hC
  obtain ⟨comp, cc, kA, f1, -, f3, f4, f5⟩ := hK.2.2.2.2.2.2.2.2.2.1
  have c5 : s.vm.findClass ("[" ++ (FieldType.array .int).toString) = some (g.2.2.1 5) := (hK.1.2 5 _ rfl).2
  have c0 : s.vm.findClass ("[" ++ FieldType.int.toString) = some (g.2.2.1 0) := (hK.1.2 0 _ rfl).2
  have e5 : cc = g.2.2.1 5 := Option.some.inj (f5.symm.trans c5)
  have e0 : comp = g.2.2.1 0 := Option.some.inj (f1.symm.trans c0)
  subst e5; subst e0
  obtain ⟨kC, hkC, -⟩ := Vm.findClass_spec c0
  refine W.aast (t := .array .int) hx hb (hW.1 n _ he) (fun q h => by cases h) (fun h => by cases h) f3 f4 rfl hkC ⟨h0, by show _ < (arrV _ _ _).slots.size; rw [arrV_size]; exact hlt⟩ (hW.1 n1 _ he1) (fun q h => by cases h) hkC zasg rfl rfl hd fun H1 e1 z oq => ?_
  have hat : va_at g.1 vwCl (g.2.1 k i, .inl (g.2.2.1 5, zln M k i, .inr (.inr (.inr (.inr (va_up (fun j : Nat => zdo g (zel k) (M k i (j : Int))) (Int32.ofInt j).toNatClampNeg (some (g.2.1 (zel k) r)))))))) H1 := by
    show H1[g.2.1 k i]? = some (vp_cell _ _)
    rw [e1]
    rw [vp_cell_q, vp_cell_q, arrV_store]
    congr 2
    funext q
    by_cases hq : q = (Int32.ofInt j).toNatClampNeg
    · subst hq
      simp [updV, va_up, va_rf]
    · simp [updV, va_up, hq]
  have h1 := hW.1.set hW.2.1 he hat oq
  have h2 := hW.2.1.set (e := .inl (g.2.2.1 5, zln M k i, .inr (.inr (.inr (.inr (va_up (fun j : Nat => zdo g (zel k) (M k i (j : Int))) (Int32.ofInt j).toNatClampNeg (some (g.2.1 (zel k) r)))))))) he
  rw [hs] at h1 h2
  have hO1 : zO g (zu M k i j (r : Int)) := hW.2.2.uu hk.1.2.1 (fun k2 h => by
    unfold zrp at h
    rw [if_pos hk.2] at h
    cases h
    rcases List.mem_append.mp (zok_in (by omega) (host (zr (zel k) r) List.mem_cons_self)) with q | q
    · have := (zlocs_mem.mp q).1; omega
    · exact ((hW.2.2.2.1 _ _).mp q).2)
  exact kk g p e s m args below meth c H1 _ ls hC ⟨h1, h2, hO1⟩ (hS.put z oq (hW.2.1.2 n _ he)) hlv hol (zokt (zokt (zokt host)))
-- switches
def zTabs (l : Launch) (X : zD) (T : zT) (pc : Nat) (lv : List (Nat × zV)) (st : List zV) (M : zM) (x : Int) : Int → List Int → Prop
  | _, [] => True
  | k, o :: os => (x = k → ∃ tgt : Nat, (pc : Int) + o = (tgt : Int) ∧ AW l X T tgt lv st M) ∧ zTabs l X T pc lv st M x (k + 1) os
theorem zTabs_at {x : Int} : ∀ (os : List Int) (k : Int) (n : Nat), zTabs l X T pc lv st M x k os → x = k + n → ∀ o, os[n]? = some o → ∃ tgt : Nat, (pc : Int) + o = (tgt : Int) ∧ AW l X T tgt lv st M := by
  intro os
  induction os with
  | nil => intro k n _ _ o h; simp at h
  | cons a os ih =>
    intro k n h hx o ho
    cases n with
    | zero =>
      rw [List.getElem?_cons_zero] at ho
      cases ho
      exact h.1 (by simpa using hx)
    | succ n =>
      rw [List.getElem?_cons_succ] at ho
      exact ih (k + 1) n h.2 (by omega) o ho
theorem aw_table {dflt lo hi x : Int} {offs : List Int} {len tgt : Nat} (hd : dec X pc = .ok (.tableswitch dflt lo hi ⟨offs⟩, len)) (ht : (pc : Int) + dflt = (tgt : Int)) (hx : zI x) (hlen : (offs.length : Int) = hi - lo + 1) (hin : zTabs l X T pc lv st M x lo offs) (hout : (x < lo ∨ hi < x) → AW l X T tgt lv st M) : AW l X T pc lv (zi x :: st) M := by
  intro g p e s m args below meth c H locs ls hC hW hS hlv hol host
  have ex : (Int32.ofInt x).toInt = x := Int32.toInt_ofInt_of_le (by omega) (by omega)
  by_cases hx1 : x < lo ∨ hi < x
  · exact lv_tableOut hC.1 hC.2.1 hd (by rw [ex]; exact hx1) ht (hout hx1 g p e s m args below meth c H locs ls hC hW hS hlv hol (zokt host))
  · have hn : (x - lo).toNat < offs.length := by omega
    obtain ⟨t2, h1, h2⟩ := zTabs_at offs lo (x - lo).toNat hin (by omega) _ (List.getElem?_eq_getElem hn)
    exact lv_tableIn hC.1 hC.2.1 hd (by rw [ex]; omega) (by rw [ex]; omega) (by rw [ex, List.getElem?_toArray]; exact List.getElem?_eq_getElem hn) h1 (h2 g p e s m args below meth c H locs ls hC hW hS hlv hol (zokt host))
theorem aw_lookup {dflt x : Int} {ps : List (Int × Int)} {len : Nat} (hd : dec X pc = .ok (.lookupswitch dflt ⟨ps⟩, len)) (hx : zI x) (hsort : (ps.zip (ps.drop 1)).all (fun (a, next) => a.1 < next.1) = true) (kk : ∃ tgt : Nat, (pc : Int) + Op.lookupswitch.offset ps dflt x = (tgt : Int) ∧ AW l X T tgt lv st M) : AW l X T pc lv (zi x :: st) M := by
  intro g p e s m args below meth c H locs ls hC hW hS hlv hol host
  have ex : (Int32.ofInt x).toInt = x := Int32.toInt_ofInt_of_le (by omega) (by omega)
  obtain ⟨tgt, h1, h2⟩ := kk
  exact lv_lookup (ps := ⟨ps⟩) hC.1 hC.2.1 hd hsort rfl (by rw [ex]; exact h1) (h2 g p e s m args below meth c H locs ls hC hW hS hlv hol (zokt host))
-- long compares
theorem aw_lcmp {x y : Int} (hd : dec X pc = .ok (.lcmp, 1)) (hp : pc + 1 = pc') (hx : zJ x) (hy : zJ y) (kk : ∀ z : Int, (x < y ∧ z = -1 ∨ x = y ∧ z = 0 ∨ y < x ∧ z = 1) → AW l X T pc' lv (zi z :: st) M) : AW l X T pc lv (zl y :: zl x :: st) M := by
  have h1 := zJ_lt hx hy
  have h2 := zJ_lt hy hx
  have h3 := zJ_eq hx hy
  have hz : ∃ z : Int, (x < y ∧ z = -1 ∨ x = y ∧ z = 0 ∨ y < x ∧ z = 1) ∧ lg_cmp (Int64.ofInt x) (Int64.ofInt y) = Int32.ofInt z := by
    rcases Int.lt_trichotomy x y with h | h | h
    · refine ⟨-1, Or.inl ⟨h, rfl⟩, ?_⟩
      have a1 : ¬ Int64.ofInt y < Int64.ofInt x := fun q => by have := h2.mp q; omega
      have a2 : ¬ Int64.ofInt x = Int64.ofInt y := fun q => by have := h3.mp q; omega
      simp only [lg_cmp]
      first | (rw [if_neg a1, if_neg a2]; rfl) | (rw [if_pos (h1.mpr h)]; rfl) | simp [a1, a2, h1.mpr h]
    · subst h
      refine ⟨0, Or.inr (Or.inl ⟨rfl, rfl⟩), ?_⟩
      simp [lg_cmp]
    · refine ⟨1, Or.inr (Or.inr ⟨h, rfl⟩), ?_⟩
      simp [lg_cmp, h2.mpr h]
  obtain ⟨z, hz1, hz2⟩ := hz
  refine AW.go (fun _ h _ => zok1i (zokt (zokt h))) ?_ (kk z hz1)
  intro g p e s m args below meth c H locs ls Q hC hW hS hlv host h
  subst hp
  refine W.lcmp hC.1 hC.2.1 hd ?_
  rw [hz2]
  exact h
end
