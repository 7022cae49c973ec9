/-! ===== the law: rows ===== -/
abbrev lwG : Type := zG × Nat × Nat
def m_L_law : zD := (yL_law, cL_law, 4, some .boolean, 0, 0)
def lwC (G : lwG) (g : zG) (s : State) (args : Array Value) : Prop := g = G.1 ∧ args = #[.ref (g.2.1 60 0)] ∧ (∀ q, zA g q → s.heap.size ≤ q) ∧ G.2.1 ≤ 600000 ∧ G.2.2 ≤ 7302250
def lwT (G : lwG) : zT := (room_1, G.2.1, G.2.2, fun g s args below t => lwC G g s args → lw_Z below args s t)
def sx (G : lwG) (j : Int) : Int := (G.1.2.2.2.2 j.toNat).toInt
def sL (G : lwG) : Int := (G.1.2.2.2.1 : Nat)
theorem sx_z {G : lwG} {j : Int} : zI (sx G j) := zI_of _
theorem lw_skip {p : Program} {l : Launch} {e : Env} {R : Room} {s : State} {m : MethodId} {args : Array Value} {below : List Frame} {meth : Method} {c : Code} {H : Heap} {locs : List Loc} {cells slots : Nat} {C : Prop} {Q : State → Prop} {g : JFrame} (h : ¬ C) : W p l e R s m args below meth c H locs cells slots (fun t => C → Q t) g :=
  fun _ _ _ => ⟨_, Steps.refl _, fun c => absurd c h⟩
section
variable {l : Launch} {G : lwG} {pc : Nat} {lv : List (Nat × zV)} {st : List zV} {M : zM}
theorem lw_sld {j : Int} (hd : dec m_L_law pc = .ok (.iaload, 1)) (hj : (0 ≤ j ∧ j < sL G) ∧ sL G < 2000000000) (kk : AW l m_L_law (lwT G) (pc + 1) lv (zi (sx G j) :: st) M) : AW l m_L_law (lwT G) pc lv (zi j :: zr 60 0 :: st) M := by
  intro g p e s m args below meth c H locs ls hC hW hS hlv hol host
  by_cases hg : lwC G g s args
  · have eg := hg.1
    subst eg
    obtain ⟨hx, hb, hml, hown, hts, hr, hlo, hK, hcl1, hsl1⟩ := id hC
    have h1 : 0 ≤ j ∧ j < (G.1.2.2.2.1 : Nat) := hj.1
    have h2 : (G.1.2.2.2.1 : Int) < 2000000000 := hj.2
    rw [List.map_cons, List.map_cons, zcv_r (by decide)]
    have e1 := zcl_of (j := j) (by omega)
    refine va_sld hx hb hK.2.2.2.2.2.1 hK.2.2.2.2.2.2.2.1 hK.2.2.2.2.2.2.2.2 hS (zin_of (by omega) h1) hd ?_
    have k := kk G.1 p e s m args below meth c H locs ls hC hW hS hlv hol (zok1i (zokt (zokt host)))
    rw [List.map_cons] at k
    have e2 : zcv G.1 (zi (sx G j)) = .int (G.1.2.2.2.2 (Int32.ofInt j).toNatClampNeg) := by
      rw [show (Int32.ofInt j).toNatClampNeg = j.toNat by omega]
      show Value.int (Int32.ofInt (G.1.2.2.2.2 j.toNat).toInt) = _
      rw [Int32.ofInt_toInt]
    rw [e2] at k
    exact k
  · exact lw_skip hg
theorem lw_slen (hd : dec m_L_law pc = .ok (.arraylength, 1)) (kk : AW l m_L_law (lwT G) (pc + 1) lv (zi (sL G) :: st) M) : AW l m_L_law (lwT G) pc lv (zr 60 0 :: st) M := by
  intro g p e s m args below meth c H locs ls hC hW hS hlv hol host
  by_cases hg : lwC G g s args
  · have eg := hg.1
    subst eg
    obtain ⟨hx, hb, hml, hown, hts, hr, hlo, hK, hcl1, hsl1⟩ := id hC
    rw [List.map_cons, zcv_r (by decide)]
    refine va_slen hx hb hK.2.2.2.2.2.1 hK.2.2.2.2.2.2.2.1 hK.2.2.2.2.2.2.2.2 hS hd ?_
    have k := kk G.1 p e s m args below meth c H locs ls hC hW hS hlv hol (zok1i (zokt host))
    rw [List.map_cons] at k
    have e2 : zcv G.1 (zi (sL G)) = .int (Int32.ofNat G.1.2.2.2.1) := by
      show Value.int (Int32.ofInt ((G.1.2.2.2.1 : Nat) : Int)) = _
      rw [Int32.ofInt_eq_ofNat]
    rw [e2] at k
    exact k
  · exact lw_skip hg
theorem lw_icmp_eq {x y off : Int} {tgt : Nat} (hd : dec m_L_law pc = .ok (.if_icmp .eq off, 3)) (ht : (pc : Int) + off = (tgt : Int)) (h : x = y) (kt : AW l m_L_law (lwT G) tgt lv st M) : AW l m_L_law (lwT G) pc lv (zi y :: zi x :: st) M := by
  subst h
  intro g p e s m args below meth c H locs ls hC hW hS hlv hol host
  exact lv_icmp_eq hC.1 hC.2.1 hd ht (fun _ => kt g p e s m args below meth c H locs ls hC hW hS hlv hol (zokt (zokt host))) (fun q => absurd rfl q)
theorem lw_lcmp {x y off : Int} {tgt : Nat} (hd : dec m_L_law pc = .ok (.lcmp, 1)) (hd2 : dec m_L_law (pc + 1) = .ok (.ifCond .eq off, 3)) (ht : ((pc + 1 : Nat) : Int) + off = (tgt : Int)) (h : x = y) (kt : AW l m_L_law (lwT G) tgt lv st M) : AW l m_L_law (lwT G) pc lv (zl y :: zl x :: st) M := by
  subst h
  intro g p e s m args below meth c H locs ls hC hW hS hlv hol host
  refine W.lcmp hC.1 hC.2.1 hd ?_
  have e0 : lg_cmp (Int64.ofInt x) (Int64.ofInt x) = 0 := by simp [lg_cmp]
  rw [e0]
  exact lv_if_eq hC.1 hC.2.1 hd2 ht (fun _ => kt g p e s m args below meth c H locs ls hC hW hS hlv hol (zokt (zokt host))) (fun q => absurd rfl q)
theorem lw_rz {x : Int} (hd : dec m_L_law pc = .ok (.ireturn, 1)) (h : x = 1) : AW l m_L_law (lwT G) pc lv [zi x] M := by
  subst h
  intro g p e s m args below meth c H locs ls hC hW hS hlv hol host
  by_cases hg : lwC G g s args
  · have hg' := hg
    obtain ⟨eg, ea, hz, h1, h2⟩ := hg'
    subst eg
    subst ea
    obtain ⟨hx, hb, hml, hown, hts, hr, hlo, hK, hcl1, hsl1⟩ := id hC
    have go : W p l e room_1 s m #[Value.ref (G.1.2.1 60 0)] below meth c H locs G.2.1 G.2.2 (lw_Z below #[Value.ref (G.1.2.1 60 0)] s) (F0 m pc ls [.int 1]) := by
      refine va_forget (fun q hq => hz _ (hS.2.2 q hq)) ?_
      refine W.widen (k := 600000) (n := 7302250) h1 h2 ?_
      refine W.base ?_
      exact lw_ret (Drawn.sameBut.refl s.drawn lw_cs) hx hb hr hlo hd
    intro T hT X
    obtain ⟨t, a1, b1⟩ := go T hT X
    exact ⟨t, a1, fun _ => b1⟩
  · exact lw_skip hg
end
