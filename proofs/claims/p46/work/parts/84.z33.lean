/-! ===== the law: its walk ===== -/
abbrev lwG : Type := zG × Nat × Nat
def lwC (_ : lwG) (g : zG) (s : State) (args : Array Value) : Prop := (∃ b : Nat, args = #[.ref b]) ∧ ∀ q, zA g q → s.heap.size ≤ q
def lwT (G : lwG) (c n : Nat) : zT := (room_1, c, n, fun g s args below t => lwC G g s args → lw_Z below args s t)
theorem lw_skip {p : Program} {l : Launch} {e : Env} {R : Room} {s : State} {m : MethodId} {args : Array Value} {below : List Frame} {meth : Method} {c : Code} {H : Heap} {locs : List Loc} {cells slots : Nat} {Q : State → Prop} {g : JFrame} (h : ∀ t, Q t) : W p l e R s m args below meth c H locs cells slots Q g :=
  fun _ _ _ => ⟨_, Steps.refl _, h _⟩
theorem lw_rz {l : Launch} {G : lwG} {c n : Nat} {pc : Nat} {lv : List (Nat × zV)} {M : zM} {x : Int} (hd : dec m_L_law pc = .ok (.ireturn, 1)) (h : x = 1) : AW l m_L_law (lwT G c n) pc lv [zi x] M := by
  subst h
  intro g p e s m args below meth c' H locs ls hC hW hS hlv hol host
  obtain ⟨hx, hb, hml, hown, hts, hr, hlo, hK, hnm, hcl1, hsl1⟩ := id hC
  by_cases hg : lwC G g s args
  · obtain ⟨⟨b, rfl⟩, hz⟩ := id hg
    have go : W p l e room_1 s m #[.ref b] below meth c' H locs c n (lw_Z below #[.ref b] s) (F0 m pc ls [.int 1]) := by
      refine va_forget (fun q hq => hz _ (hS.2.2 q hq)) ?_
      refine W.widen (k := 668211) (n := 7097614) hcl1 hsl1 ?_
      exact lw_ret hx hb hr hlo hd
    intro T hT X
    obtain ⟨t, a1, b1⟩ := go T hT X
    exact ⟨t, a1, g, zX.rf, fun _ => b1⟩
  · exact lw_skip fun t => ⟨g, zX.rf, fun z => absurd z hg⟩
def LL_law_76 (l : Launch) (P : lwG) (c n : Nat) (r2 : Nat) (v3 : Int) (M : zM) : Prop := AW l m_L_law (lwT P c n) 76 [(0, zr 60 0), (1, zr 8 0), (2, zr 64 r2), (3, zq 64 v3)] [] M
def LL_law_82 (l : Launch) (P : lwG) (c n : Nat) (r2 : Nat) (v3 : Int) (v4 : Int) (v5 : Int) (M : zM) : Prop := AW l m_L_law (lwT P c n) 82 [(0, zr 60 0), (1, zr 8 0), (2, zr 64 r2), (3, zq 64 v3), (4, zi v4), (5, zi v5)] [] M
def LL_law_110 (l : Launch) (P : lwG) (c n : Nat) (r2 : Nat) (v3 : Int) (v5 : Int) (v6 : Int) (r7 : Nat) (M : zM) : Prop := AW l m_L_law (lwT P c n) 110 [(0, zr 60 0), (1, zr 8 0), (2, zr 64 r2), (3, zq 64 v3), (5, zi v5), (6, zi v6), (7, zr 64 r7)] [] M
def LL_law_134 (l : Launch) (P : lwG) (c n : Nat) (r2 : Nat) (v3 : Int) (v5 : Int) (v6 : Int) (r7 : Nat) (v8 : Int) (M : zM) : Prop := AW l m_L_law (lwT P c n) 134 [(0, zr 60 0), (1, zr 8 0), (2, zr 64 r2), (3, zq 64 v3), (5, zi v5), (6, zi v6), (7, zr 64 r7), (8, zi v8)] [] M
def LL_law_150 (l : Launch) (P : lwG) (c n : Nat) (r2 : Nat) (v3 : Int) (v5 : Int) (v6 : Int) (r7 : Nat) (v8 : Int) (v9 : Int) (M : zM) : Prop := AW l m_L_law (lwT P c n) 150 [(0, zr 60 0), (1, zr 8 0), (2, zr 64 r2), (3, zq 64 v3), (5, zi v5), (6, zi v6), (7, zr 64 r7), (8, zi v8), (9, zi v9)] [] M
def LL_law_169 (l : Launch) (P : lwG) (c n : Nat) (r2 : Nat) (v3 : Int) (v5 : Int) (v6 : Int) (r7 : Nat) (v8 : Int) (v9 : Int) (v10 : Int) (M : zM) : Prop := AW l m_L_law (lwT P c n) 169 [(0, zr 60 0), (1, zr 8 0), (2, zr 64 r2), (3, zq 64 v3), (5, zi v5), (6, zi v6), (7, zr 64 r7), (8, zi v8), (9, zi v9), (10, zi v10)] [] M
def LL_law_182 (l : Launch) (P : lwG) (c n : Nat) (r2 : Nat) (v3 : Int) (v5 : Int) (v6 : Int) (r7 : Nat) (v8 : Int) (v9 : Int) (v10 : Int) (v11 : Int) (M : zM) : Prop := AW l m_L_law (lwT P c n) 182 [(0, zr 60 0), (1, zr 8 0), (2, zr 64 r2), (3, zq 64 v3), (5, zi v5), (6, zi v6), (7, zr 64 r7), (8, zi v8), (9, zi v9), (10, zi v10), (11, zi v11)] [] M
def LL_law_252 (l : Launch) (P : lwG) (c n : Nat) (v3 : Int) (v5 : Int) (v6 : Int) (r7 : Nat) (M : zM) : Prop := AW l m_L_law (lwT P c n) 252 [(0, zr 60 0), (1, zr 8 0), (3, zq 64 v3), (5, zi v5), (6, zi v6), (7, zr 64 r7)] [] M
def LL_law_319 (l : Launch) (P : lwG) (c n : Nat) (r2 : Nat) (v3 : Int) (v5 : Int) (v6 : Int) (r7 : Nat) (M : zM) : Prop := AW l m_L_law (lwT P c n) 319 [(0, zr 60 0), (1, zr 8 0), (2, zr 64 r2), (3, zq 64 v3), (5, zi v5), (6, zi v6), (7, zr 64 r7)] [] M
def LL_law_434 (l : Launch) (P : lwG) (c n : Nat) (r2 : Nat) (v3 : Int) (v5 : Int) (v6 : Int) (r7 : Nat) (v8 : Int) (v9 : Int) (v10 : Int) (v11 : Int) (M : zM) : Prop := AW l m_L_law (lwT P c n) 434 [(0, zr 60 0), (1, zr 8 0), (2, zr 64 r2), (3, zq 64 v3), (5, zi v5), (6, zi v6), (7, zr 64 r7), (8, zi v8), (9, zi v9), (10, zi v10), (11, zi v11)] [] M
def LL_law_604 (l : Launch) (P : lwG) (c n : Nat) (r2 : Nat) (v3 : Int) (v5 : Int) (v6 : Int) (r7 : Nat) (v8 : Int) (v9 : Int) (v10 : Int) (v11 : Int) (M : zM) : Prop := AW l m_L_law (lwT P c n) 604 [(0, zr 60 0), (1, zr 8 0), (2, zr 64 r2), (3, zq 64 v3), (5, zi v5), (6, zi v6), (7, zr 64 r7), (8, zi v8), (9, zi v9), (10, zi v10), (11, zi v11)] [] M
def LL_law_859 (l : Launch) (P : lwG) (c n : Nat) (r2 : Nat) (v3 : Int) (v5 : Int) (v6 : Int) (r7 : Nat) (v8 : Int) (v10 : Int) (M : zM) : Prop := AW l m_L_law (lwT P c n) 859 [(0, zr 60 0), (1, zr 8 0), (2, zr 64 r2), (3, zq 64 v3), (5, zi v5), (6, zi v6), (7, zr 64 r7), (8, zi v8), (10, zi v10)] [] M
def LL_law_916 (l : Launch) (P : lwG) (c n : Nat) (r2 : Nat) (v3 : Int) (v5 : Int) (v6 : Int) (r7 : Nat) (M : zM) : Prop := AW l m_L_law (lwT P c n) 916 [(0, zr 60 0), (1, zr 8 0), (2, zr 64 r2), (3, zq 64 v3), (5, zi v5), (6, zi v6), (7, zr 64 r7)] [] M
def LL_law_991 (l : Launch) (P : lwG) (c n : Nat) (r2 : Nat) (v3 : Int) (v5 : Int) (v6 : Int) (r7 : Nat) (M : zM) : Prop := AW l m_L_law (lwT P c n) 991 [(0, zr 60 0), (1, zr 8 0), (2, zr 64 r2), (3, zq 64 v3), (5, zi v5), (6, zi v6), (7, zr 64 r7)] [] M
def LL_law_1064 (l : Launch) (P : lwG) (c n : Nat) (r2 : Nat) (v3 : Int) (v5 : Int) (v6 : Int) (r7 : Nat) (M : zM) : Prop := AW l m_L_law (lwT P c n) 1064 [(0, zr 60 0), (1, zr 8 0), (2, zr 64 r2), (3, zq 64 v3), (5, zi v5), (6, zi v6), (7, zr 64 r7)] [] M
def LL_law_1115 (l : Launch) (P : lwG) (c n : Nat) (r2 : Nat) (v3 : Int) (v5 : Int) (v6 : Int) (r7 : Nat) (M : zM) : Prop := AW l m_L_law (lwT P c n) 1115 [(0, zr 60 0), (1, zr 8 0), (2, zr 64 r2), (3, zq 64 v3), (5, zi v5), (6, zi v6), (7, zr 64 r7)] [] M
def LL_law_313 (l : Launch) (P : lwG) (c n : Nat) (r2 : Nat) (v3 : Int) (v5 : Int) (v6 : Int) (r7 : Nat) (v12 : Int) (M : zM) : Prop := AW l m_L_law (lwT P c n) 313 [(0, zr 60 0), (1, zr 8 0), (2, zr 64 r2), (3, zq 64 v3), (5, zi v5), (6, zi v6), (7, zr 64 r7), (12, zi v12)] [] M
def LL_law_316 (l : Launch) (P : lwG) (c n : Nat) (r2 : Nat) (v3 : Int) (v4 : Int) (v5 : Int) (v6 : Int) (r7 : Nat) (v12 : Int) (M : zM) : Prop := AW l m_L_law (lwT P c n) 316 [(0, zr 60 0), (1, zr 8 0), (2, zr 64 r2), (3, zq 64 v3), (4, zi v4), (5, zi v5), (6, zi v6), (7, zr 64 r7), (12, zi v12)] [] M
def LL_law_335 (l : Launch) (P : lwG) (c n : Nat) (r2 : Nat) (v3 : Int) (v5 : Int) (v6 : Int) (r7 : Nat) (v12 : Int) (M : zM) : Prop := AW l m_L_law (lwT P c n) 335 [(0, zr 60 0), (1, zr 8 0), (2, zr 64 r2), (3, zq 64 v3), (5, zi v5), (6, zi v6), (7, zr 64 r7), (12, zi v12)] [] M
def LL_law_481 (l : Launch) (P : lwG) (c n : Nat) (r2 : Nat) (v3 : Int) (v5 : Int) (v6 : Int) (r7 : Nat) (v8 : Int) (v9 : Int) (v10 : Int) (v11 : Int) (M : zM) : Prop := AW l m_L_law (lwT P c n) 481 [(0, zr 60 0), (1, zr 8 0), (2, zr 64 r2), (3, zq 64 v3), (5, zi v5), (6, zi v6), (7, zr 64 r7), (8, zi v8), (9, zi v9), (10, zi v10), (11, zi v11)] [] M
def LL_law_484 (l : Launch) (P : lwG) (c n : Nat) (r2 : Nat) (v3 : Int) (v5 : Int) (v6 : Int) (r7 : Nat) (v8 : Int) (v9 : Int) (v10 : Int) (v11 : Int) (v13 : Int) (M : zM) : Prop := AW l m_L_law (lwT P c n) 484 [(0, zr 60 0), (1, zr 8 0), (2, zr 64 r2), (3, zq 64 v3), (5, zi v5), (6, zi v6), (7, zr 64 r7), (8, zi v8), (9, zi v9), (10, zi v10), (11, zi v11), (13, zi v13)] [] M
def LL_law_632 (l : Launch) (P : lwG) (c n : Nat) (r2 : Nat) (v3 : Int) (v5 : Int) (v6 : Int) (r7 : Nat) (v8 : Int) (v10 : Int) (v11 : Int) (v13 : Int) (v14 : Int) (M : zM) : Prop := AW l m_L_law (lwT P c n) 632 [(0, zr 60 0), (1, zr 8 0), (2, zr 64 r2), (3, zq 64 v3), (5, zi v5), (6, zi v6), (7, zr 64 r7), (8, zi v8), (10, zi v10), (11, zi v11), (13, zi v13), (14, zi v14)] [] M
def LL_law_871 (l : Launch) (P : lwG) (c n : Nat) (r2 : Nat) (v3 : Int) (v5 : Int) (v6 : Int) (r7 : Nat) (v8 : Int) (v10 : Int) (v12 : Int) (M : zM) : Prop := AW l m_L_law (lwT P c n) 871 [(0, zr 60 0), (1, zr 8 0), (2, zr 64 r2), (3, zq 64 v3), (5, zi v5), (6, zi v6), (7, zr 64 r7), (8, zi v8), (10, zi v10), (12, zi v12)] [] M
def LL_law_941 (l : Launch) (P : lwG) (c n : Nat) (r2 : Nat) (v3 : Int) (v5 : Int) (v6 : Int) (r7 : Nat) (v12 : Int) (v13 : Int) (M : zM) : Prop := AW l m_L_law (lwT P c n) 941 [(0, zr 60 0), (1, zr 8 0), (2, zr 64 r2), (3, zq 64 v3), (5, zi v5), (6, zi v6), (7, zr 64 r7), (12, zi v12), (13, zi v13)] [] M
def LL_law_1016 (l : Launch) (P : lwG) (c n : Nat) (r2 : Nat) (v3 : Int) (v5 : Int) (v6 : Int) (r7 : Nat) (v12 : Int) (v13 : Int) (M : zM) : Prop := AW l m_L_law (lwT P c n) 1016 [(0, zr 60 0), (1, zr 8 0), (2, zr 64 r2), (3, zq 64 v3), (5, zi v5), (6, zi v6), (7, zr 64 r7), (12, zi v12), (13, zi v13)] [] M
def LL_law_1089 (l : Launch) (P : lwG) (c n : Nat) (r2 : Nat) (v3 : Int) (v5 : Int) (v6 : Int) (r7 : Nat) (v12 : Int) (v13 : Int) (M : zM) : Prop := AW l m_L_law (lwT P c n) 1089 [(0, zr 60 0), (1, zr 8 0), (2, zr 64 r2), (3, zq 64 v3), (5, zi v5), (6, zi v6), (7, zr 64 r7), (12, zi v12), (13, zi v13)] [] M
def LL_law_1132 (l : Launch) (P : lwG) (c n : Nat) (r2 : Nat) (v5 : Int) (v6 : Int) (r7 : Nat) (v12 : Int) (M : zM) : Prop := AW l m_L_law (lwT P c n) 1132 [(0, zr 60 0), (1, zr 8 0), (2, zr 64 r2), (5, zi v5), (6, zi v6), (7, zr 64 r7), (12, zi v12)] [] M
def LL_law_1159 (l : Launch) (P : lwG) (c n : Nat) (r3 : Nat) (v5 : Int) (v6 : Int) (r7 : Nat) (v12 : Int) (M : zM) : Prop := AW l m_L_law (lwT P c n) 1159 [(0, zr 60 0), (1, zr 8 0), (3, zr 64 r3), (5, zi v5), (6, zi v6), (7, zr 64 r7), (12, zi v12)] [] M
def LL_law_1191 (l : Launch) (P : lwG) (c n : Nat) (r2 : Nat) (v3 : Int) (v4 : Int) (v5 : Int) (v6 : Int) (r7 : Nat) (v12 : Int) (M : zM) : Prop := AW l m_L_law (lwT P c n) 1191 [(0, zr 60 0), (1, zr 8 0), (2, zr 64 r2), (3, zq 64 v3), (4, zi v4), (5, zi v5), (6, zi v6), (7, zr 64 r7), (12, zi v12)] [] M
def LL_law_393 (l : Launch) (P : lwG) (c n : Nat) (r2 : Nat) (v3 : Int) (v5 : Int) (v6 : Int) (r7 : Nat) (v12 : Int) (M : zM) : Prop := AW l m_L_law (lwT P c n) 393 [(0, zr 60 0), (1, zr 8 0), (2, zr 64 r2), (3, zq 64 v3), (5, zi v5), (6, zi v6), (7, zr 64 r7), (12, zi v12)] [] M
def LL_law_396 (l : Launch) (P : lwG) (c n : Nat) (r2 : Nat) (v3 : Int) (v4 : Int) (v5 : Int) (v6 : Int) (r7 : Nat) (v12 : Int) (M : zM) : Prop := AW l m_L_law (lwT P c n) 396 [(0, zr 60 0), (1, zr 8 0), (2, zr 64 r2), (3, zq 64 v3), (4, zi v4), (5, zi v5), (6, zi v6), (7, zr 64 r7), (12, zi v12)] [] M
def LL_law_550 (l : Launch) (P : lwG) (c n : Nat) (r2 : Nat) (v3 : Int) (v5 : Int) (v6 : Int) (r7 : Nat) (v8 : Int) (v10 : Int) (v11 : Int) (v12 : Int) (v13 : Int) (M : zM) : Prop := AW l m_L_law (lwT P c n) 550 [(0, zr 60 0), (1, zr 8 0), (2, zr 64 r2), (3, zq 64 v3), (5, zi v5), (6, zi v6), (7, zr 64 r7), (8, zi v8), (10, zi v10), (11, zi v11), (12, zi v12), (13, zi v13)] [] M
def LL_law_553 (l : Launch) (P : lwG) (c n : Nat) (r2 : Nat) (v3 : Int) (v4 : Int) (v5 : Int) (v6 : Int) (r7 : Nat) (v8 : Int) (v10 : Int) (v11 : Int) (v12 : Int) (v13 : Int) (M : zM) : Prop := AW l m_L_law (lwT P c n) 553 [(0, zr 60 0), (1, zr 8 0), (2, zr 64 r2), (3, zq 64 v3), (4, zi v4), (5, zi v5), (6, zi v6), (7, zr 64 r7), (8, zi v8), (10, zi v10), (11, zi v11), (12, zi v12), (13, zi v13)] [] M
def LL_law_659 (l : Launch) (P : lwG) (c n : Nat) (r2 : Nat) (v3 : Int) (v5 : Int) (v6 : Int) (r7 : Nat) (v8 : Int) (v10 : Int) (v11 : Int) (v13 : Int) (v14 : Int) (v15 : Int) (M : zM) : Prop := AW l m_L_law (lwT P c n) 659 [(0, zr 60 0), (1, zr 8 0), (2, zr 64 r2), (3, zq 64 v3), (5, zi v5), (6, zi v6), (7, zr 64 r7), (8, zi v8), (10, zi v10), (11, zi v11), (13, zi v13), (14, zi v14), (15, zi v15)] [] M
def LL_law_895 (l : Launch) (P : lwG) (c n : Nat) (r2 : Nat) (v3 : Int) (v5 : Int) (v6 : Int) (r7 : Nat) (v8 : Int) (v12 : Int) (M : zM) : Prop := AW l m_L_law (lwT P c n) 895 [(0, zr 60 0), (1, zr 8 0), (2, zr 64 r2), (3, zq 64 v3), (5, zi v5), (6, zi v6), (7, zr 64 r7), (8, zi v8), (12, zi v12)] [] M
def LL_law_898 (l : Launch) (P : lwG) (c n : Nat) (r2 : Nat) (v3 : Int) (v4 : Int) (v5 : Int) (v6 : Int) (r7 : Nat) (v8 : Int) (v12 : Int) (M : zM) : Prop := AW l m_L_law (lwT P c n) 898 [(0, zr 60 0), (1, zr 8 0), (2, zr 64 r2), (3, zq 64 v3), (4, zi v4), (5, zi v5), (6, zi v6), (7, zr 64 r7), (8, zi v8), (12, zi v12)] [] M
def LL_law_979 (l : Launch) (P : lwG) (c n : Nat) (r2 : Nat) (v3 : Int) (v5 : Int) (v6 : Int) (r7 : Nat) (v12 : Int) (v13 : Int) (M : zM) : Prop := AW l m_L_law (lwT P c n) 979 [(0, zr 60 0), (1, zr 8 0), (2, zr 64 r2), (3, zq 64 v3), (5, zi v5), (6, zi v6), (7, zr 64 r7), (12, zi v12), (13, zi v13)] [] M
def LL_law_982 (l : Launch) (P : lwG) (c n : Nat) (r2 : Nat) (v3 : Int) (v4 : Int) (v5 : Int) (v6 : Int) (r7 : Nat) (v12 : Int) (v13 : Int) (M : zM) : Prop := AW l m_L_law (lwT P c n) 982 [(0, zr 60 0), (1, zr 8 0), (2, zr 64 r2), (3, zq 64 v3), (4, zi v4), (5, zi v5), (6, zi v6), (7, zr 64 r7), (12, zi v12), (13, zi v13)] [] M
def LL_law_1052 (l : Launch) (P : lwG) (c n : Nat) (r2 : Nat) (v3 : Int) (v5 : Int) (v6 : Int) (r7 : Nat) (v12 : Int) (v13 : Int) (M : zM) : Prop := AW l m_L_law (lwT P c n) 1052 [(0, zr 60 0), (1, zr 8 0), (2, zr 64 r2), (3, zq 64 v3), (5, zi v5), (6, zi v6), (7, zr 64 r7), (12, zi v12), (13, zi v13)] [] M
def LL_law_1055 (l : Launch) (P : lwG) (c n : Nat) (r2 : Nat) (v3 : Int) (v4 : Int) (v5 : Int) (v6 : Int) (r7 : Nat) (v12 : Int) (v13 : Int) (M : zM) : Prop := AW l m_L_law (lwT P c n) 1055 [(0, zr 60 0), (1, zr 8 0), (2, zr 64 r2), (3, zq 64 v3), (4, zi v4), (5, zi v5), (6, zi v6), (7, zr 64 r7), (12, zi v12), (13, zi v13)] [] M
def LL_law_1109 (l : Launch) (P : lwG) (c n : Nat) (r2 : Nat) (v3 : Int) (v5 : Int) (v6 : Int) (r7 : Nat) (v12 : Int) (M : zM) : Prop := AW l m_L_law (lwT P c n) 1109 [(0, zr 60 0), (1, zr 8 0), (2, zr 64 r2), (3, zq 64 v3), (5, zi v5), (6, zi v6), (7, zr 64 r7), (12, zi v12)] [] M
def LL_law_1112 (l : Launch) (P : lwG) (c n : Nat) (r2 : Nat) (v3 : Int) (v4 : Int) (v5 : Int) (v6 : Int) (r7 : Nat) (v12 : Int) (M : zM) : Prop := AW l m_L_law (lwT P c n) 1112 [(0, zr 60 0), (1, zr 8 0), (2, zr 64 r2), (3, zq 64 v3), (4, zi v4), (5, zi v5), (6, zi v6), (7, zr 64 r7), (12, zi v12)] [] M
def LL_law_1148 (l : Launch) (P : lwG) (c n : Nat) (r2 : Nat) (v5 : Int) (v6 : Int) (r7 : Nat) (v12 : Int) (M : zM) : Prop := AW l m_L_law (lwT P c n) 1148 [(0, zr 60 0), (1, zr 8 0), (2, zr 64 r2), (5, zi v5), (6, zi v6), (7, zr 64 r7), (12, zi v12)] [] M
def LL_law_1151 (l : Launch) (P : lwG) (c n : Nat) (r2 : Nat) (v4 : Int) (v5 : Int) (v6 : Int) (r7 : Nat) (v12 : Int) (M : zM) : Prop := AW l m_L_law (lwT P c n) 1151 [(0, zr 60 0), (1, zr 8 0), (2, zr 64 r2), (4, zi v4), (5, zi v5), (6, zi v6), (7, zr 64 r7), (12, zi v12)] [] M
def LL_law_1183 (l : Launch) (P : lwG) (c n : Nat) (r3 : Nat) (v5 : Int) (v6 : Int) (r7 : Nat) (v12 : Int) (M : zM) : Prop := AW l m_L_law (lwT P c n) 1183 [(0, zr 60 0), (1, zr 8 0), (3, zr 64 r3), (5, zi v5), (6, zi v6), (7, zr 64 r7), (12, zi v12)] [] M
def LL_law_1186 (l : Launch) (P : lwG) (c n : Nat) (r3 : Nat) (v4 : Int) (v5 : Int) (v6 : Int) (r7 : Nat) (v12 : Int) (M : zM) : Prop := AW l m_L_law (lwT P c n) 1186 [(0, zr 60 0), (1, zr 8 0), (3, zr 64 r3), (4, zi v4), (5, zi v5), (6, zi v6), (7, zr 64 r7), (12, zi v12)] [] M
def LL_law_1208 (l : Launch) (P : lwG) (c n : Nat) (r2 : Nat) (v3 : Int) (v5 : Int) (v6 : Int) (r7 : Nat) (v12 : Int) (M : zM) : Prop := AW l m_L_law (lwT P c n) 1208 [(0, zr 60 0), (1, zr 8 0), (2, zr 64 r2), (3, zq 64 v3), (5, zi v5), (6, zi v6), (7, zr 64 r7), (12, zi v12)] [] M
def LL_law_1211 (l : Launch) (P : lwG) (c n : Nat) (r2 : Nat) (v3 : Int) (v4 : Int) (v5 : Int) (v6 : Int) (r7 : Nat) (v12 : Int) (M : zM) : Prop := AW l m_L_law (lwT P c n) 1211 [(0, zr 60 0), (1, zr 8 0), (2, zr 64 r2), (3, zq 64 v3), (4, zi v4), (5, zi v5), (6, zi v6), (7, zr 64 r7), (12, zi v12)] [] M
def LL_law_741 (l : Launch) (P : lwG) (c n : Nat) (r2 : Nat) (v3 : Int) (v5 : Int) (v6 : Int) (r7 : Nat) (v8 : Int) (v11 : Int) (v13 : Int) (v14 : Int) (v15 : Int) (M : zM) : Prop := AW l m_L_law (lwT P c n) 741 [(0, zr 60 0), (1, zr 8 0), (2, zr 64 r2), (3, zq 64 v3), (5, zi v5), (6, zi v6), (7, zr 64 r7), (8, zi v8), (11, zi v11), (13, zi v13), (14, zi v14), (15, zi v15)] [] M
def LL_law_744 (l : Launch) (P : lwG) (c n : Nat) (r2 : Nat) (v3 : Int) (v5 : Int) (v6 : Int) (r7 : Nat) (v8 : Int) (v11 : Int) (v12 : Int) (v13 : Int) (v14 : Int) (v15 : Int) (M : zM) : Prop := AW l m_L_law (lwT P c n) 744 [(0, zr 60 0), (1, zr 8 0), (2, zr 64 r2), (3, zq 64 v3), (5, zi v5), (6, zi v6), (7, zr 64 r7), (8, zi v8), (11, zi v11), (12, zi v12), (13, zi v13), (14, zi v14), (15, zi v15)] [] M
def LL_law_1279 (l : Launch) (P : lwG) (c n : Nat) (r2 : Nat) (v3 : Int) (v4 : Int) (v5 : Int) (M : zM) : Prop := AW l m_L_law (lwT P c n) 1279 [(0, zr 60 0), (1, zr 8 0), (2, zr 64 r2), (3, zq 64 v3), (4, zi v4), (5, zi v5)] [] M
def LL_law_1231 (l : Launch) (P : lwG) (c n : Nat) (v3 : Int) (v5 : Int) (r7 : Nat) (M : zM) : Prop := AW l m_L_law (lwT P c n) 1231 [(0, zr 60 0), (1, zr 8 0), (3, zq 64 v3), (5, zi v5), (7, zr 64 r7)] [] M
def LL_law_813 (l : Launch) (P : lwG) (c n : Nat) (r2 : Nat) (v3 : Int) (v5 : Int) (v6 : Int) (r7 : Nat) (v8 : Int) (v11 : Int) (v12 : Int) (v13 : Int) (M : zM) : Prop := AW l m_L_law (lwT P c n) 813 [(0, zr 60 0), (1, zr 8 0), (2, zr 64 r2), (3, zq 64 v3), (5, zi v5), (6, zi v6), (7, zr 64 r7), (8, zi v8), (11, zi v11), (12, zi v12), (13, zi v13)] [] M
def LL_law_816 (l : Launch) (P : lwG) (c n : Nat) (r2 : Nat) (v3 : Int) (v4 : Int) (v5 : Int) (v6 : Int) (r7 : Nat) (v8 : Int) (v11 : Int) (v12 : Int) (v13 : Int) (M : zM) : Prop := AW l m_L_law (lwT P c n) 816 [(0, zr 60 0), (1, zr 8 0), (2, zr 64 r2), (3, zq 64 v3), (4, zi v4), (5, zi v5), (6, zi v6), (7, zr 64 r7), (8, zi v8), (11, zi v11), (12, zi v12), (13, zi v13)] [] M
def LL_law_1238 (l : Launch) (P : lwG) (c n : Nat) (v3 : Int) (v5 : Int) (r7 : Nat) (v13 : Int) (M : zM) : Prop := AW l m_L_law (lwT P c n) 1238 [(0, zr 60 0), (1, zr 8 0), (3, zq 64 v3), (5, zi v5), (7, zr 64 r7), (13, zi v13)] [] M
def LL_law_1253 (l : Launch) (P : lwG) (c n : Nat) (v3 : Int) (v5 : Int) (r7 : Nat) (M : zM) : Prop := AW l m_L_law (lwT P c n) 1253 [(0, zr 60 0), (1, zr 8 0), (3, zq 64 v3), (5, zi v5), (7, zr 64 r7)] [] M
def LL_law_1256 (l : Launch) (P : lwG) (c n : Nat) (v3 : Int) (v4 : Int) (v5 : Int) (r7 : Nat) (M : zM) : Prop := AW l m_L_law (lwT P c n) 1256 [(0, zr 60 0), (1, zr 8 0), (3, zq 64 v3), (4, zi v4), (5, zi v5), (7, zr 64 r7)] [] M
def LL_law_1276 (l : Launch) (P : lwG) (c n : Nat) (r2 : Nat) (v3 : Int) (v5 : Int) (M : zM) : Prop := AW l m_L_law (lwT P c n) 1276 [(0, zr 60 0), (1, zr 8 0), (2, zr 64 r2), (3, zq 64 v3), (5, zi v5)] [] M
theorem vL_law_76 {l : Launch} {P : lwG} {c n : Nat} {r2 : Nat} {v3 : Int} {M : zM}
    (H0 : LL_law_82 l P c n r2 v3 0 0 M) :
    LL_law_76 l P c n r2 v3 M :=
(aw_iconst d_L_law_76 rfl
(aw_istore (lv' := [(4, zi 0), (0, zr 60 0), (1, zr 8 0), (2, zr 64 r2), (3, zq 64 v3)]) d_L_law_77 rfl (by decide) rfl
(aw_iconst d_L_law_79 rfl
(aw_istore (lv' := [(5, zi 0), (4, zi 0), (0, zr 60 0), (1, zr 8 0), (2, zr 64 r2), (3, zq 64 v3)]) d_L_law_80 rfl (by decide) rfl
(aw_sub [2, 3, 4, 5, 1, 0] rfl H0)))))
theorem vL_law_82 {l : Launch} {P : lwG} {c n : Nat} {r2 : Nat} {v3 : Int} {v4 : Int} {v5 : Int} {M : zM}
    (H0 : (zI v5 ∧ ((26 ≤ v5 → v4 = 1) ∧ (v5 < 26 → (zI v4 ∧ ((v4 = 0 → v4 = 1) ∧ (v4 ≠ 0 → (CI l m_L_cell [zr 60 0, zi v5] M (fun x79 M77 => (((c + 7) ≤ 668211 ∧ (n + 138) ≤ 7097614) ∧ (CRn l m_X9_copy 64 7 138 [zr 64 r2] M77 (fun (x84 : Nat) M81 => LL_law_110 l P (c + 7) (n + 138) r2 v3 v5 (zushr x79 1) x84 M81)))))))))))) :
    LL_law_82 l P c n r2 v3 v4 v5 M :=
(aw_iload d_L_law_82 rfl 5 rfl
(aw_bipush d_L_law_84 rfl (by decide)
(have z65 := H0.1; have e66 := H0.2; aw_icmp_ge d_L_law_86 rfl rfl z65 (by decide) (fun c67 => have e69 := e66.1 c67; (aw_iload d_L_law_1285 rfl 4 rfl
(lw_rz d_L_law_1287 e69))) (fun c68 => have e70 := e66.2 c68; (aw_iload d_L_law_89 rfl 4 rfl
(have z71 := e70.1; have e72 := e70.2; aw_if_eq d_L_law_91 rfl rfl z71 (fun c73 => have e75 := e72.1 c73; (aw_iload d_L_law_1285 rfl 4 rfl
(lw_rz d_L_law_1287 e75))) (fun c74 => have e76 := e72.2 c74; (aw_aload_n d_L_law_94 rfl rfl 0 rfl (by decide)
(aw_iload d_L_law_95 rfl 5 rfl
(aw_SI (As := [zr 60 0, zi v5]) (st := []) d_L_law_97 rfl csL_161 ⟨Nat.le_of_ble_eq_true rfl, Nat.le_of_ble_eq_true rfl⟩ rfl rfl (Nat.le_of_ble_eq_true rfl) (Nat.le_of_ble_eq_true rfl) e76 (fun x79 M77 e78 => (aw_iconst d_L_law_100 rfl
(aw_iushr d_L_law_101 rfl zushr_h
(aw_istore (lv' := [(6, zi (zushr x79 1)), (0, zr 60 0), (1, zr 8 0), (2, zr 64 r2), (3, zq 64 v3), (4, zi v4), (5, zi v5)]) d_L_law_102 rfl (by decide) rfl
(aw_aload_n d_L_law_104 rfl rfl 3 rfl (by decide)
(have z80 := e78.1; have e82 := e78.2; aw_VRn (As := []) (st := []) d_L_law_105 rfl cvL_60 ⟨Nat.le_of_ble_eq_true rfl, Nat.le_of_ble_eq_true rfl⟩ z80 rfl rfl (Nat.le_of_ble_eq_true rfl) (Nat.le_of_ble_eq_true rfl) e82 (fun x84 M81 e83 => (aw_astore (lv' := [(7, zr 64 x84), (6, zi (zushr x79 1)), (0, zr 60 0), (1, zr 8 0), (2, zr 64 r2), (3, zq 64 v3), (4, zi v4), (5, zi v5)]) (by decide) d_L_law_108 rfl (by decide) rfl
(aw_sub [2, 3, 4, 5, 7, 1, 0] rfl e83)))))))))))))))))))
theorem vL_law_110 {l : Launch} {P : lwG} {c n : Nat} {r2 : Nat} {v3 : Int} {v5 : Int} {v6 : Int} {r7 : Nat} {M : zM}
    (H0 : (zI (M 64 r2 0) ∧ (((M 64 r2 0) ≠ 0 → (zI ((M 64 r2 0) + 1) ∧ ((M 64 r2 0) + 1) ≠ 0 ∧ LL_law_134 l P c n r2 v3 v5 v6 r7 (Int.tmod (zushr v6 4) ((M 64 r2 0) + 1)) M)) ∧ ((M 64 r2 0) = 0 → LL_law_134 l P c n r2 v3 v5 v6 r7 0 M)))) :
    LL_law_110 l P c n r2 v3 v5 v6 r7 M :=
(aw_aload_n d_L_law_110 rfl rfl 2 rfl (by decide)
(aw_getI (kc := 0) d_L_law_111 rfl flL_80 rfl rfl
(have z85 := H0.1; have e86 := H0.2; aw_if_ne d_L_law_114 rfl rfl z85 (fun c87 => have e89 := e86.1 c87; (aw_iload d_L_law_121 rfl 5 rfl
(aw_iconst d_L_law_123 rfl
(aw_iushr d_L_law_124 rfl zushr_h
(aw_aload_n d_L_law_125 rfl rfl 2 rfl (by decide)
(aw_getI (kc := 0) d_L_law_126 rfl flL_80 rfl rfl
(aw_iconst d_L_law_129 rfl
(aw_iadd d_L_law_130 rfl
(have z91 := e89.1; have z92 := e89.2.1; aw_irem d_L_law_131 rfl zI_ushr z91 z92
(have e93 := e89.2.2; (aw_istore (lv' := [(8, zi (Int.tmod (zushr v6 4) ((M 64 r2 0) + 1))), (0, zr 60 0), (1, zr 8 0), (2, zr 64 r2), (3, zq 64 v3), (5, zi v5), (6, zi v6), (7, zr 64 r7)]) d_L_law_132 rfl (by decide) rfl
(aw_sub [1, 2, 3, 4, 5, 6, 7, 0] rfl e93)))))))))))) (fun c88 => have e90 := e86.2 c88; (aw_iconst d_L_law_117 rfl
(aw_goto d_L_law_118 rfl
(aw_istore (lv' := [(8, zi 0), (0, zr 60 0), (1, zr 8 0), (2, zr 64 r2), (3, zq 64 v3), (5, zi v5), (6, zi v6), (7, zr 64 r7)]) d_L_law_132 rfl (by decide) rfl
(aw_sub [1, 2, 3, 4, 5, 6, 7, 0] rfl e90))))))))
theorem vL_law_134 {l : Launch} {P : lwG} {c n : Nat} {r2 : Nat} {v3 : Int} {v5 : Int} {v6 : Int} {r7 : Nat} {v8 : Int} {M : zM}
    (H0 : (zI v8 ∧ zI (M 64 r2 0) ∧ (((M 64 r2 0) ≤ v8 → LL_law_150 l P c n r2 v3 v5 v6 r7 v8 0 M) ∧ (v8 < (M 64 r2 0) → LL_law_150 l P c n r2 v3 v5 v6 r7 v8 1 M)))) :
    LL_law_134 l P c n r2 v3 v5 v6 r7 v8 M :=
(aw_iload d_L_law_134 rfl 7 rfl
(aw_aload_n d_L_law_136 rfl rfl 2 rfl (by decide)
(aw_getI (kc := 0) d_L_law_137 rfl flL_80 rfl rfl
(have z94 := H0.1; have z95 := H0.2.1; have e96 := H0.2.2; aw_icmp_ge d_L_law_140 rfl rfl z94 z95 (fun c97 => have e99 := e96.1 c97; (aw_iconst d_L_law_147 rfl
(aw_istore (lv' := [(9, zi 0), (0, zr 60 0), (1, zr 8 0), (2, zr 64 r2), (3, zq 64 v3), (5, zi v5), (6, zi v6), (7, zr 64 r7), (8, zi v8)]) d_L_law_148 rfl (by decide) rfl
(aw_sub [1, 2, 3, 4, 5, 6, 7, 8, 0] rfl e99)))) (fun c98 => have e100 := e96.2 c98; (aw_iconst d_L_law_143 rfl
(aw_goto d_L_law_144 rfl
(aw_istore (lv' := [(9, zi 1), (0, zr 60 0), (1, zr 8 0), (2, zr 64 r2), (3, zq 64 v3), (5, zi v5), (6, zi v6), (7, zr 64 r7), (8, zi v8)]) d_L_law_148 rfl (by decide) rfl
(aw_sub [1, 2, 3, 4, 5, 6, 7, 8, 0] rfl e100)))))))))
theorem vL_law_150 {l : Launch} {P : lwG} {c n : Nat} {r2 : Nat} {v3 : Int} {v5 : Int} {v6 : Int} {r7 : Nat} {v8 : Int} {v9 : Int} {M : zM}
    (H0 : (zI v9 ∧ ((v9 = 0 → LL_law_169 l P c n r2 v3 v5 v6 r7 v8 v9 0 M) ∧ (v9 ≠ 0 → ((0 ≤ M 64 r2 11 ∧ M 64 r2 11 < M 97 0 74) ∧ ∀ r108 : Nat, (r108 : Int) = M 64 r2 11 → ((0 ≤ v8 ∧ v8 < 21) ∧ (0 ≤ M 74 r108 v8 ∧ M 74 r108 v8 < M 97 0 75) ∧ ∀ r112 : Nat, (r112 : Int) = M 74 r108 v8 → (0 ≤ M 75 r112 (-1) ∧ LL_law_169 l P c n r2 v3 v5 v6 r7 v8 v9 (M 75 r112 (-1)) M))))))) :
    LL_law_150 l P c n r2 v3 v5 v6 r7 v8 v9 M :=
(aw_iload d_L_law_150 rfl 8 rfl
(have z101 := H0.1; have e102 := H0.2; aw_if_eq d_L_law_152 rfl rfl z101 (fun c103 => have e105 := e102.1 c103; (aw_iconst d_L_law_166 rfl
(aw_istore (lv' := [(10, zi 0), (0, zr 60 0), (1, zr 8 0), (2, zr 64 r2), (3, zq 64 v3), (5, zi v5), (6, zi v6), (7, zr 64 r7), (8, zi v8), (9, zi v9)]) d_L_law_167 rfl (by decide) rfl
(aw_sub [1, 2, 3, 4, 5, 6, 7, 8, 9, 0] rfl e105)))) (fun c104 => have e106 := e102.2 c104; (aw_aload_n d_L_law_155 rfl rfl 2 rfl (by decide)
(have z107 := e106.1; aw_getE (kc := 11) d_L_law_156 rfl flL_64 rfl rfl (by decide) z107
(fun r108 hqr108 => (have e109 := e106.2 r108 hqr108; (aw_iload d_L_law_159 rfl 7 rfl
(have z110 := e109.1; have z111 := e109.2.1; aw_rale d_L_law_161 rfl zd74.G (by decide) (zix_s z110) z111
(fun r112 hqr112 => (have e113 := e109.2.2 r112 hqr112; (have z114 := e113.1; aw_alenD d_L_law_162 rfl (by decide) z114
(have e115 := e113.2; (aw_goto d_L_law_163 rfl
(aw_istore (lv' := [(10, zi (M 75 r112 (-1))), (0, zr 60 0), (1, zr 8 0), (2, zr 64 r2), (3, zq 64 v3), (5, zi v5), (6, zi v6), (7, zr 64 r7), (8, zi v8), (9, zi v9)]) d_L_law_167 rfl (by decide) rfl
(aw_sub [1, 2, 3, 4, 5, 6, 7, 8, 9, 0] rfl e115))))))))))))))))
theorem vL_law_169 {l : Launch} {P : lwG} {c n : Nat} {r2 : Nat} {v3 : Int} {v5 : Int} {v6 : Int} {r7 : Nat} {v8 : Int} {v9 : Int} {v10 : Int} {M : zM}
    (H0 : LL_law_182 l P c n r2 v3 v5 v6 r7 v8 v9 v10 (Int.tmod (zushr v6 8) 60) M) :
    LL_law_169 l P c n r2 v3 v5 v6 r7 v8 v9 v10 M :=
(aw_iload d_L_law_169 rfl 5 rfl
(aw_bipush d_L_law_171 rfl (by decide)
(aw_iushr d_L_law_173 rfl zushr_h
(aw_bipush d_L_law_174 rfl (by decide)
(aw_irem d_L_law_176 rfl zI_ushr (by decide) (by decide)
(aw_istore (lv' := [(11, zi (Int.tmod (zushr v6 8) 60)), (0, zr 60 0), (1, zr 8 0), (2, zr 64 r2), (3, zq 64 v3), (5, zi v5), (6, zi v6), (7, zr 64 r7), (8, zi v8), (9, zi v9), (10, zi v10)]) d_L_law_177 rfl (by decide) rfl
(aw_iconst d_L_law_179 rfl
(aw_istore (lv' := [(12, zi 1), (11, zi (Int.tmod (zushr v6 8) 60)), (0, zr 60 0), (1, zr 8 0), (2, zr 64 r2), (3, zq 64 v3), (5, zi v5), (6, zi v6), (7, zr 64 r7), (8, zi v8), (9, zi v9), (10, zi v10)]) d_L_law_180 rfl (by decide) rfl
(aw_sub [2, 3, 4, 5, 6, 7, 8, 9, 10, 11, 1] rfl H0)))))))))
theorem vL_law_182 {l : Launch} {P : lwG} {c n : Nat} {r2 : Nat} {v3 : Int} {v5 : Int} {v6 : Int} {r7 : Nat} {v8 : Int} {v9 : Int} {v10 : Int} {v11 : Int} {M : zM}
    (H0 : (zI v5 ∧ ((v5 ≠ 0 → (zI v6 ∧ (zI (Int.tmod v6 11) ∧ (((Int.tmod v6 11) = 0 → LL_law_252 l P c n v3 v5 v6 r7 M) ∧ ((Int.tmod v6 11) = 1 → LL_law_319 l P c n r2 v3 v5 v6 r7 M) ∧ ((Int.tmod v6 11) = 2 → LL_law_434 l P c n r2 v3 v5 v6 r7 v8 v9 v10 v11 M) ∧ ((Int.tmod v6 11) = 3 → LL_law_434 l P c n r2 v3 v5 v6 r7 v8 v9 v10 v11 M) ∧ ((Int.tmod v6 11) = 4 → LL_law_604 l P c n r2 v3 v5 v6 r7 v8 v9 v10 v11 M) ∧ ((Int.tmod v6 11) = 5 → LL_law_859 l P c n r2 v3 v5 v6 r7 v8 v10 M) ∧ ((Int.tmod v6 11) = 6 → LL_law_916 l P c n r2 v3 v5 v6 r7 M) ∧ ((Int.tmod v6 11) = 7 → LL_law_991 l P c n r2 v3 v5 v6 r7 M) ∧ ((Int.tmod v6 11) = 8 → LL_law_1064 l P c n r2 v3 v5 v6 r7 M) ∧ ((Int.tmod v6 11) = 9 → LL_law_1064 l P c n r2 v3 v5 v6 r7 M) ∧ (((Int.tmod v6 11) < 0 ∨ 9 < (Int.tmod v6 11)) → LL_law_1115 l P c n r2 v3 v5 v6 r7 M))))) ∧ (v5 = 0 → LL_law_252 l P c n v3 v5 v6 r7 M)))) :
    LL_law_182 l P c n r2 v3 v5 v6 r7 v8 v9 v10 v11 M :=
(aw_iload d_L_law_182 rfl 4 rfl
(have z116 := H0.1; have e117 := H0.2; aw_if_ne d_L_law_184 rfl rfl z116 (fun c118 => have e120 := e117.1 c118; (aw_iload d_L_law_191 rfl 5 rfl
(aw_bipush d_L_law_193 rfl (by decide)
(have z122 := e120.1; aw_irem d_L_law_195 rfl z122 (by decide) (by decide)
(have e123 := e120.2; (have z124 := e123.1; have e125 := e123.2; aw_table (offs := [56, 123, 238, 238, 408, 663, 720, 795, 868, 868]) d_L_law_196 rfl z124 rfl ⟨fun c126 => ⟨252, rfl, have e127 := e125.1 c126; (aw_sub [0, 1, 3, 4, 5, 6] rfl e127)⟩, ⟨fun c128 => ⟨319, rfl, have e129 := e125.2.1 c128; (aw_sub [0, 1, 2, 3, 4, 5, 6] rfl e129)⟩, ⟨fun c130 => ⟨434, rfl, have e131 := e125.2.2.1 c130; e131⟩, ⟨fun c132 => ⟨434, rfl, have e133 := e125.2.2.2.1 c132; e133⟩, ⟨fun c134 => ⟨604, rfl, have e135 := e125.2.2.2.2.1 c134; e135⟩, ⟨fun c136 => ⟨859, rfl, have e137 := e125.2.2.2.2.2.1 c136; (aw_sub [0, 1, 2, 3, 4, 5, 6, 7, 9] rfl e137)⟩, ⟨fun c138 => ⟨916, rfl, have e139 := e125.2.2.2.2.2.2.1 c138; (aw_sub [0, 1, 2, 3, 4, 5, 6] rfl e139)⟩, ⟨fun c140 => ⟨991, rfl, have e141 := e125.2.2.2.2.2.2.2.1 c140; (aw_sub [0, 1, 2, 3, 4, 5, 6] rfl e141)⟩, ⟨fun c142 => ⟨1064, rfl, have e143 := e125.2.2.2.2.2.2.2.2.1 c142; (aw_sub [0, 1, 2, 3, 4, 5, 6] rfl e143)⟩, ⟨fun c144 => ⟨1064, rfl, have e145 := e125.2.2.2.2.2.2.2.2.2.1 c144; (aw_sub [0, 1, 2, 3, 4, 5, 6] rfl e145)⟩, trivial⟩⟩⟩⟩⟩⟩⟩⟩⟩⟩ (fun c146 => have e147 := e125.2.2.2.2.2.2.2.2.2.2 c146; (aw_sub [0, 1, 2, 3, 4, 5, 6] rfl e147)))))))) (fun c119 => have e121 := e117.2 c119; (aw_iconst d_L_law_187 rfl
(aw_goto d_L_law_188 rfl
(aw_table (offs := [56, 123, 238, 238, 408, 663, 720, 795, 868, 868]) d_L_law_196 rfl (by decide) rfl ⟨fun _ => ⟨252, rfl, (aw_sub [0, 1, 3, 4, 5, 6] rfl e121)⟩, ⟨fun c156 => absurd c156 (by decide), ⟨fun c155 => absurd c155 (by decide), ⟨fun c154 => absurd c154 (by decide), ⟨fun c153 => absurd c153 (by decide), ⟨fun c152 => absurd c152 (by decide), ⟨fun c151 => absurd c151 (by decide), ⟨fun c150 => absurd c150 (by decide), ⟨fun c149 => absurd c149 (by decide), ⟨fun c148 => absurd c148 (by decide), trivial⟩⟩⟩⟩⟩⟩⟩⟩⟩⟩ (fun c158 => absurd c158 (by decide))))))))
theorem vL_law_252 {l : Launch} {P : lwG} {c n : Nat} {v3 : Int} {v5 : Int} {v6 : Int} {r7 : Nat} {M : zM}
    (H0 : (((c + 13) ≤ 668211 ∧ (n + 138) ≤ 7097614) ∧ (CRn l m_X9_some 64 13 138 [zr 60 0, zi (40 + (30 * v5)), zi 6, zi 3] M (fun (x163 : Nat) M160 => ((((c + 13) + 4) ≤ 668211 ∧ ((n + 138) + 808) ≤ 7097614) ∧ (CRn l m_X9_told 66 4 808 [zr 64 x163] M160 (fun (x168 : Nat) M165 => (((((c + 13) + 4) + 20) ≤ 668211 ∧ (((n + 138) + 808) + 100) ≤ 7097614) ∧ (CIn l m_L_says 20 100 [zr 8 0, zr 66 x168] M165 (fun x173 M170 => (zI x173 ∧ ((x173 = 0 → LL_law_313 l P (((c + 13) + 4) + 20) (((n + 138) + 808) + 100) x163 v3 v5 v6 r7 0 M170) ∧ (x173 ≠ 0 → (CI l m_X8_tell [zr 8 0] M170 (fun x182 M180 => (zI x182 ∧ zI (M180 64 x163 0) ∧ ((x182 ≠ (M180 64 x163 0) → LL_law_313 l P (((c + 13) + 4) + 20) (((n + 138) + 808) + 100) x163 v3 v5 v6 r7 0 M180) ∧ (x182 = (M180 64 x163 0) → (CI l m_X8_count [zr 8 0, zi 4] M180 (fun x192 M190 => (zI x192 ∧ ((x192 ≠ 0 → LL_law_313 l P (((c + 13) + 4) + 20) (((n + 138) + 808) + 100) x163 v3 v5 v6 r7 0 M190) ∧ (x192 = 0 → (CI l m_X8_count [zr 8 0, zi 5] M190 (fun x201 M199 => (zI x201 ∧ ((x201 ≠ 0 → LL_law_313 l P (((c + 13) + 4) + 20) (((n + 138) + 808) + 100) x163 v3 v5 v6 r7 0 M199) ∧ (x201 = 0 → LL_law_316 l P (((c + 13) + 4) + 20) (((n + 138) + 808) + 100) x163 v3 1 v5 v6 r7 0 M199)))))))))))))))))))))))))))) :
    LL_law_252 l P c n v3 v5 v6 r7 M :=
(aw_aload_n d_L_law_252 rfl rfl 0 rfl (by decide)
(aw_bipush d_L_law_253 rfl (by decide)
(aw_bipush d_L_law_255 rfl (by decide)
(aw_iload d_L_law_257 rfl 3 rfl
(aw_imul d_L_law_259 rfl
(aw_iadd d_L_law_260 rfl
(aw_bipush d_L_law_261 rfl (by decide)
(aw_iconst d_L_law_263 rfl
(have z159 := H0.1; have e161 := H0.2; aw_SRn (As := [zr 60 0, zi (40 + (30 * v5)), zi 6, zi 3]) (st := []) d_L_law_264 rfl csL_165 ⟨Nat.le_of_ble_eq_true rfl, Nat.le_of_ble_eq_true rfl⟩ z159 rfl rfl (Nat.le_of_ble_eq_true rfl) (Nat.le_of_ble_eq_true rfl) e161 (fun x163 M160 e162 => (aw_astore_n (lv' := [(2, zr 64 x163), (0, zr 60 0), (1, zr 8 0), (3, zq 64 v3), (5, zi v5), (6, zi v6), (7, zr 64 r7)]) (by decide) d_L_law_267 rfl rfl (by decide) rfl
(aw_iconst d_L_law_268 rfl
(aw_istore (lv' := [(12, zi 0), (2, zr 64 x163), (0, zr 60 0), (1, zr 8 0), (3, zq 64 v3), (5, zi v5), (6, zi v6), (7, zr 64 r7)]) d_L_law_269 rfl (by decide) rfl
(aw_aload_n d_L_law_271 rfl rfl 3 rfl (by decide)
(aw_aload_n d_L_law_272 rfl rfl 1 rfl (by decide)
(have z164 := e162.1; have e166 := e162.2; aw_VRn (As := []) (st := [zr 8 0]) d_L_law_273 rfl cvL_99 ⟨Nat.le_of_ble_eq_true rfl, Nat.le_of_ble_eq_true rfl⟩ z164 rfl rfl (Nat.le_of_ble_eq_true rfl) (Nat.le_of_ble_eq_true rfl) e166 (fun x168 M165 e167 => (have z169 := e167.1; have e171 := e167.2; aw_SIn (As := [zr 8 0, zr 66 x168]) (st := []) d_L_law_276 rfl csL_169 ⟨Nat.le_of_ble_eq_true rfl, Nat.le_of_ble_eq_true rfl⟩ z169 rfl rfl (Nat.le_of_ble_eq_true rfl) (Nat.le_of_ble_eq_true rfl) e171 (fun x173 M170 e172 => (have z174 := e172.1; have e175 := e172.2; aw_if_eq d_L_law_279 rfl rfl z174 (fun c176 => have e178 := e175.1 c176; (aw_sub [2, 3, 1, 4, 5, 6, 7, 0] rfl e178)) (fun c177 => have e179 := e175.2 c177; (aw_aload_n d_L_law_282 rfl rfl 3 rfl (by decide)
(aw_VI (As := []) (st := []) d_L_law_283 rfl cvL_173 ⟨Nat.le_of_ble_eq_true rfl, Nat.le_of_ble_eq_true rfl⟩ rfl rfl (Nat.le_of_ble_eq_true rfl) (Nat.le_of_ble_eq_true rfl) e179 (fun x182 M180 e181 => (aw_aload_n d_L_law_286 rfl rfl 1 rfl (by decide)
(aw_getI (kc := 0) d_L_law_287 rfl flL_80 rfl rfl
(have z183 := e181.1; have z184 := e181.2.1; have e185 := e181.2.2; aw_icmp_ne d_L_law_290 rfl rfl z183 z184 (fun c186 => have e188 := e185.1 c186; (aw_sub [2, 3, 1, 4, 5, 6, 7, 0] rfl e188)) (fun c187 => have e189 := e185.2 c187; (aw_aload_n d_L_law_293 rfl rfl 3 rfl (by decide)
(aw_iconst d_L_law_294 rfl
(aw_VI (As := [zi 4]) (st := []) d_L_law_295 rfl cvL_83 ⟨Nat.le_of_ble_eq_true rfl, Nat.le_of_ble_eq_true rfl⟩ rfl rfl (Nat.le_of_ble_eq_true rfl) (Nat.le_of_ble_eq_true rfl) e189 (fun x192 M190 e191 => (have z193 := e191.1; have e194 := e191.2; aw_if_ne d_L_law_298 rfl rfl z193 (fun c195 => have e197 := e194.1 c195; (aw_sub [2, 3, 1, 4, 5, 6, 7, 0] rfl e197)) (fun c196 => have e198 := e194.2 c196; (aw_aload_n d_L_law_301 rfl rfl 3 rfl (by decide)
(aw_iconst d_L_law_302 rfl
(aw_VI (As := [zi 5]) (st := []) d_L_law_303 rfl cvL_83 ⟨Nat.le_of_ble_eq_true rfl, Nat.le_of_ble_eq_true rfl⟩ rfl rfl (Nat.le_of_ble_eq_true rfl) (Nat.le_of_ble_eq_true rfl) e198 (fun x201 M199 e200 => (have z202 := e200.1; have e203 := e200.2; aw_if_ne d_L_law_306 rfl rfl z202 (fun c204 => have e206 := e203.1 c204; (aw_sub [2, 3, 1, 4, 5, 6, 7, 0] rfl e206)) (fun c205 => have e207 := e203.2 c205; (aw_iconst d_L_law_309 rfl
(aw_goto d_L_law_310 rfl
(aw_istore (lv' := [(4, zi 1), (12, zi 0), (2, zr 64 x163), (0, zr 60 0), (1, zr 8 0), (3, zq 64 v3), (5, zi v5), (6, zi v6), (7, zr 64 r7)]) d_L_law_314 rfl (by decide) rfl
(aw_sub [3, 4, 2, 5, 0, 6, 7, 8, 1] rfl e207))))))))))))))))))))))))))))))))))))))))))))
theorem vL_law_319 {l : Launch} {P : lwG} {c n : Nat} {r2 : Nat} {v3 : Int} {v5 : Int} {v6 : Int} {r7 : Nat} {M : zM}
    (H0 : (zI (M 64 r2 0) ∧ ((20 ≤ (M 64 r2 0) → LL_law_335 l P c n r2 v3 v5 v6 r7 0 M) ∧ ((M 64 r2 0) < 20 → LL_law_335 l P c n r2 v3 v5 v6 r7 1 M)))) :
    LL_law_319 l P c n r2 v3 v5 v6 r7 M :=
(aw_aload_n d_L_law_319 rfl rfl 2 rfl (by decide)
(aw_getI (kc := 0) d_L_law_320 rfl flL_80 rfl rfl
(aw_bipush d_L_law_323 rfl (by decide)
(have z208 := H0.1; have e209 := H0.2; aw_icmp_ge d_L_law_325 rfl rfl z208 (by decide) (fun c210 => have e212 := e209.1 c210; (aw_iconst d_L_law_332 rfl
(aw_istore (lv' := [(12, zi 0), (0, zr 60 0), (1, zr 8 0), (2, zr 64 r2), (3, zq 64 v3), (5, zi v5), (6, zi v6), (7, zr 64 r7)]) d_L_law_333 rfl (by decide) rfl
(aw_sub [1, 2, 3, 4, 5, 6, 7, 0] rfl e212)))) (fun c211 => have e213 := e209.2 c211; (aw_iconst d_L_law_328 rfl
(aw_goto d_L_law_329 rfl
(aw_istore (lv' := [(12, zi 1), (0, zr 60 0), (1, zr 8 0), (2, zr 64 r2), (3, zq 64 v3), (5, zi v5), (6, zi v6), (7, zr 64 r7)]) d_L_law_333 rfl (by decide) rfl
(aw_sub [1, 2, 3, 4, 5, 6, 7, 0] rfl e213)))))))))
theorem vL_law_434 {l : Launch} {P : lwG} {c n : Nat} {r2 : Nat} {v3 : Int} {v5 : Int} {v6 : Int} {r7 : Nat} {v8 : Int} {v9 : Int} {v10 : Int} {v11 : Int} {M : zM}
    (H0 : (zI v9 ∧ ((v9 = 0 → LL_law_481 l P c n r2 v3 v5 v6 r7 v8 v9 v10 v11 M) ∧ (v9 ≠ 0 → (zI v10 ∧ ((4 ≤ v10 → LL_law_481 l P c n r2 v3 v5 v6 r7 v8 v9 v10 v11 M) ∧ (v10 < 4 → ((v10 = 0 → LL_law_484 l P c n r2 v3 v5 v6 r7 v8 v9 v10 v11 1 M) ∧ (v10 ≠ 0 → ((0 ≤ M 64 r2 7 ∧ M 64 r2 7 < M 97 0 70) ∧ ∀ r231 : Nat, (r231 : Int) = M 64 r2 7 → ((0 ≤ v8 ∧ v8 < 21) ∧ ((0 ≤ M 64 r2 11 ∧ M 64 r2 11 < M 97 0 74) ∧ ∀ r236 : Nat, (r236 : Int) = M 64 r2 11 → ((0 ≤ M 74 r236 v8 ∧ M 74 r236 v8 < M 97 0 75) ∧ ∀ r239 : Nat, (r239 : Int) = M 74 r236 v8 → ((0 ≤ (v10 - 1) ∧ (v10 - 1) < M 75 r239 (-1) ∧ M 75 r239 (-1) ≤ 1000000) ∧ (CI l m_L_goesOn [zi (M 70 r231 v8), zi (M 75 r239 (v10 - 1)), zi v11] M (fun x245 M243 => (zI x245 ∧ ((x245 = 0 → LL_law_481 l P c n r2 v3 v5 v6 r7 v8 v9 v10 v11 M243) ∧ (x245 ≠ 0 → LL_law_484 l P c n r2 v3 v5 v6 r7 v8 v9 v10 v11 1 M243))))))))))))))))))) :
    LL_law_434 l P c n r2 v3 v5 v6 r7 v8 v9 v10 v11 M :=
(aw_iload d_L_law_434 rfl 8 rfl
(have z214 := H0.1; have e215 := H0.2; aw_if_eq d_L_law_436 rfl rfl z214 (fun c216 => have e218 := e215.1 c216; e218) (fun c217 => have e219 := e215.2 c217; (aw_iload d_L_law_439 rfl 9 rfl
(aw_iconst d_L_law_441 rfl
(have z220 := e219.1; have e221 := e219.2; aw_icmp_ge d_L_law_442 rfl rfl z220 (by decide) (fun c222 => have e224 := e221.1 c222; e224) (fun c223 => have e225 := e221.2 c223; (aw_iload d_L_law_445 rfl 9 rfl
(aw_if_eq d_L_law_447 rfl rfl z220 (fun c226 => have e228 := e225.1 c226; (aw_iconst d_L_law_477 rfl
(aw_goto d_L_law_478 rfl
(aw_istore (lv' := [(13, zi 1), (0, zr 60 0), (1, zr 8 0), (2, zr 64 r2), (3, zq 64 v3), (5, zi v5), (6, zi v6), (7, zr 64 r7), (8, zi v8), (9, zi v9), (10, zi v10), (11, zi v11)]) d_L_law_482 rfl (by decide) rfl
(aw_sub [1, 2, 3, 4, 5, 6, 7, 8, 9, 10, 11, 0] rfl e228))))) (fun c227 => have e229 := e225.2 c227; (aw_aload_n d_L_law_450 rfl rfl 2 rfl (by decide)
(have z230 := e229.1; aw_getE (kc := 7) d_L_law_451 rfl flL_50 rfl rfl (by decide) z230
(fun r231 hqr231 => (have e232 := e229.2 r231 hqr231; (aw_iload d_L_law_454 rfl 7 rfl
(have z233 := e232.1; aw_zaldG d_L_law_456 rfl zd70.G (zix_s z233)
(have e234 := e232.2; (aw_aload_n d_L_law_457 rfl rfl 2 rfl (by decide)
(have z235 := e234.1; aw_getE (kc := 11) d_L_law_458 rfl flL_64 rfl rfl (by decide) z235
(fun r236 hqr236 => (have e237 := e234.2 r236 hqr236; (aw_iload d_L_law_461 rfl 7 rfl
(have z238 := e237.1; aw_rale d_L_law_463 rfl zd74.G (by decide) (zix_s z233) z238
(fun r239 hqr239 => (have e240 := e237.2 r239 hqr239; (aw_iload d_L_law_464 rfl 9 rfl
(aw_iconst d_L_law_466 rfl
(aw_isub d_L_law_467 rfl
(have z241 := e240.1; aw_ialdG d_L_law_468 rfl zd75.G (zix_d rfl z241)
(have e242 := e240.2; (aw_iload d_L_law_469 rfl 10 rfl
(aw_SI (As := [zi (M 70 r231 v8), zi (M 75 r239 (v10 - 1)), zi v11]) (st := []) d_L_law_471 rfl csL_184 ⟨Nat.le_of_ble_eq_true rfl, Nat.le_of_ble_eq_true rfl⟩ rfl rfl (Nat.le_of_ble_eq_true rfl) (Nat.le_of_ble_eq_true rfl) e242 (fun x245 M243 e244 => (have z246 := e244.1; have e247 := e244.2; aw_if_eq d_L_law_474 rfl rfl z246 (fun c248 => have e250 := e247.1 c248; e250) (fun c249 => have e251 := e247.2 c249; (aw_iconst d_L_law_477 rfl
(aw_goto d_L_law_478 rfl
(aw_istore (lv' := [(13, zi 1), (0, zr 60 0), (1, zr 8 0), (2, zr 64 r2), (3, zq 64 v3), (5, zi v5), (6, zi v6), (7, zr 64 r7), (8, zi v8), (9, zi v9), (10, zi v10), (11, zi v11)]) d_L_law_482 rfl (by decide) rfl
(aw_sub [1, 2, 3, 4, 5, 6, 7, 8, 9, 10, 11, 0] rfl e251)))))))))))))))))))))))))))))))))))))))
theorem vL_law_604 {l : Launch} {P : lwG} {c n : Nat} {r2 : Nat} {v3 : Int} {v5 : Int} {v6 : Int} {r7 : Nat} {v8 : Int} {v9 : Int} {v10 : Int} {v11 : Int} {M : zM}
    (H0 : (zI v9 ∧ ((v9 = 0 → LL_law_632 l P c n r2 v3 v5 v6 r7 v8 v10 v11 (Int.tmod (zushr v6 14) 4) 0 M) ∧ (v9 ≠ 0 → (zI (Int.tmod (zushr v6 14) 4) ∧ zI v10 ∧ ((v10 ≤ (Int.tmod (zushr v6 14) 4) → LL_law_632 l P c n r2 v3 v5 v6 r7 v8 v10 v11 (Int.tmod (zushr v6 14) 4) 0 M) ∧ ((Int.tmod (zushr v6 14) 4) < v10 → LL_law_632 l P c n r2 v3 v5 v6 r7 v8 v10 v11 (Int.tmod (zushr v6 14) 4) 1 M))))))) :
    LL_law_604 l P c n r2 v3 v5 v6 r7 v8 v9 v10 v11 M :=
(aw_iload d_L_law_604 rfl 5 rfl
(aw_bipush d_L_law_606 rfl (by decide)
(aw_iushr d_L_law_608 rfl zushr_h
(aw_iconst d_L_law_609 rfl
(aw_irem d_L_law_610 rfl zI_ushr (by decide) (by decide)
(aw_istore (lv' := [(13, zi (Int.tmod (zushr v6 14) 4)), (0, zr 60 0), (1, zr 8 0), (2, zr 64 r2), (3, zq 64 v3), (5, zi v5), (6, zi v6), (7, zr 64 r7), (8, zi v8), (9, zi v9), (10, zi v10), (11, zi v11)]) d_L_law_611 rfl (by decide) rfl
(aw_iload d_L_law_613 rfl 9 rfl
(have z252 := H0.1; have e253 := H0.2; aw_if_eq d_L_law_615 rfl rfl z252 (fun c254 => have e256 := e253.1 c254; (aw_iconst d_L_law_629 rfl
(aw_istore (lv' := [(14, zi 0), (13, zi (Int.tmod (zushr v6 14) 4)), (0, zr 60 0), (1, zr 8 0), (2, zr 64 r2), (3, zq 64 v3), (5, zi v5), (6, zi v6), (7, zr 64 r7), (8, zi v8), (9, zi v9), (10, zi v10), (11, zi v11)]) d_L_law_630 rfl (by decide) rfl
(aw_sub [2, 3, 4, 5, 6, 7, 8, 9, 11, 12, 1, 0] rfl e256)))) (fun c255 => have e257 := e253.2 c255; (aw_iload d_L_law_618 rfl 0 rfl
(aw_iload d_L_law_620 rfl 10 rfl
(have z258 := e257.1; have z259 := e257.2.1; have e260 := e257.2.2; aw_icmp_ge d_L_law_622 rfl rfl z258 z259 (fun c261 => have e263 := e260.1 c261; (aw_iconst d_L_law_629 rfl
(aw_istore (lv' := [(14, zi 0), (13, zi (Int.tmod (zushr v6 14) 4)), (0, zr 60 0), (1, zr 8 0), (2, zr 64 r2), (3, zq 64 v3), (5, zi v5), (6, zi v6), (7, zr 64 r7), (8, zi v8), (9, zi v9), (10, zi v10), (11, zi v11)]) d_L_law_630 rfl (by decide) rfl
(aw_sub [2, 3, 4, 5, 6, 7, 8, 9, 11, 12, 1, 0] rfl e263)))) (fun c262 => have e264 := e260.2 c262; (aw_iconst d_L_law_625 rfl
(aw_goto d_L_law_626 rfl
(aw_istore (lv' := [(14, zi 1), (13, zi (Int.tmod (zushr v6 14) 4)), (0, zr 60 0), (1, zr 8 0), (2, zr 64 r2), (3, zq 64 v3), (5, zi v5), (6, zi v6), (7, zr 64 r7), (8, zi v8), (9, zi v9), (10, zi v10), (11, zi v11)]) d_L_law_630 rfl (by decide) rfl
(aw_sub [2, 3, 4, 5, 6, 7, 8, 9, 11, 12, 1, 0] rfl e264)))))))))))))))))
theorem vL_law_859 {l : Launch} {P : lwG} {c n : Nat} {r2 : Nat} {v3 : Int} {v5 : Int} {v6 : Int} {r7 : Nat} {v8 : Int} {v10 : Int} {M : zM}
    (H0 : (zI v10 ∧ ((v10 ≤ 0 → LL_law_871 l P c n r2 v3 v5 v6 r7 v8 v10 0 M) ∧ (0 < v10 → LL_law_871 l P c n r2 v3 v5 v6 r7 v8 v10 1 M)))) :
    LL_law_859 l P c n r2 v3 v5 v6 r7 v8 v10 M :=
(aw_iload d_L_law_859 rfl 8 rfl
(have z265 := H0.1; have e266 := H0.2; aw_if_le d_L_law_861 rfl rfl z265 (fun c267 => have e269 := e266.1 c267; (aw_iconst d_L_law_868 rfl
(aw_istore (lv' := [(12, zi 0), (0, zr 60 0), (1, zr 8 0), (2, zr 64 r2), (3, zq 64 v3), (5, zi v5), (6, zi v6), (7, zr 64 r7), (8, zi v8), (10, zi v10)]) d_L_law_869 rfl (by decide) rfl
(aw_sub [1, 2, 3, 4, 5, 6, 7, 8, 9, 0] rfl e269)))) (fun c268 => have e270 := e266.2 c268; (aw_iconst d_L_law_864 rfl
(aw_goto d_L_law_865 rfl
(aw_istore (lv' := [(12, zi 1), (0, zr 60 0), (1, zr 8 0), (2, zr 64 r2), (3, zq 64 v3), (5, zi v5), (6, zi v6), (7, zr 64 r7), (8, zi v8), (10, zi v10)]) d_L_law_869 rfl (by decide) rfl
(aw_sub [1, 2, 3, 4, 5, 6, 7, 8, 9, 0] rfl e270)))))))
theorem vL_law_916 {l : Launch} {P : lwG} {c n : Nat} {r2 : Nat} {v3 : Int} {v5 : Int} {v6 : Int} {r7 : Nat} {M : zM}
    (H0 : (zI (Int.tmod (zushr v6 8) 5) ∧ zI (M 64 r2 1) ∧ (((Int.tmod (zushr v6 8) 5) = (M 64 r2 1) → LL_law_941 l P c n r2 v3 v5 v6 r7 0 (Int.tmod (zushr v6 8) 5) M) ∧ ((Int.tmod (zushr v6 8) 5) ≠ (M 64 r2 1) → LL_law_941 l P c n r2 v3 v5 v6 r7 1 (Int.tmod (zushr v6 8) 5) M)))) :
    LL_law_916 l P c n r2 v3 v5 v6 r7 M :=
(aw_iload d_L_law_916 rfl 5 rfl
(aw_bipush d_L_law_918 rfl (by decide)
(aw_iushr d_L_law_920 rfl zushr_h
(aw_iconst d_L_law_921 rfl
(aw_irem d_L_law_922 rfl zI_ushr (by decide) (by decide)
(aw_istore (lv' := [(13, zi (Int.tmod (zushr v6 8) 5)), (0, zr 60 0), (1, zr 8 0), (2, zr 64 r2), (3, zq 64 v3), (5, zi v5), (6, zi v6), (7, zr 64 r7)]) d_L_law_923 rfl (by decide) rfl
(aw_iload d_L_law_925 rfl 0 rfl
(aw_aload_n d_L_law_927 rfl rfl 3 rfl (by decide)
(aw_getI (kc := 1) d_L_law_928 rfl flL_39 rfl rfl
(have z271 := H0.1; have z272 := H0.2.1; have e273 := H0.2.2; aw_icmp_eq d_L_law_931 rfl rfl z271 z272 (fun c274 => have e276 := e273.1 c274; (aw_iconst d_L_law_938 rfl
(aw_istore (lv' := [(12, zi 0), (13, zi (Int.tmod (zushr v6 8) 5)), (0, zr 60 0), (1, zr 8 0), (2, zr 64 r2), (3, zq 64 v3), (5, zi v5), (6, zi v6), (7, zr 64 r7)]) d_L_law_939 rfl (by decide) rfl
(aw_sub [2, 3, 4, 5, 6, 7, 8, 0, 1] rfl e276)))) (fun c275 => have e277 := e273.2 c275; (aw_iconst d_L_law_934 rfl
(aw_goto d_L_law_935 rfl
(aw_istore (lv' := [(12, zi 1), (13, zi (Int.tmod (zushr v6 8) 5)), (0, zr 60 0), (1, zr 8 0), (2, zr 64 r2), (3, zq 64 v3), (5, zi v5), (6, zi v6), (7, zr 64 r7)]) d_L_law_939 rfl (by decide) rfl
(aw_sub [2, 3, 4, 5, 6, 7, 8, 0, 1] rfl e277)))))))))))))))
theorem vL_law_991 {l : Launch} {P : lwG} {c n : Nat} {r2 : Nat} {v3 : Int} {v5 : Int} {v6 : Int} {r7 : Nat} {M : zM}
    (H0 : (zI (Int.tmod (zushr v6 8) 4) ∧ zI (M 64 r2 2) ∧ (((Int.tmod (zushr v6 8) 4) = (M 64 r2 2) → LL_law_1016 l P c n r2 v3 v5 v6 r7 0 (Int.tmod (zushr v6 8) 4) M) ∧ ((Int.tmod (zushr v6 8) 4) ≠ (M 64 r2 2) → LL_law_1016 l P c n r2 v3 v5 v6 r7 1 (Int.tmod (zushr v6 8) 4) M)))) :
    LL_law_991 l P c n r2 v3 v5 v6 r7 M :=
(aw_iload d_L_law_991 rfl 5 rfl
(aw_bipush d_L_law_993 rfl (by decide)
(aw_iushr d_L_law_995 rfl zushr_h
(aw_iconst d_L_law_996 rfl
(aw_irem d_L_law_997 rfl zI_ushr (by decide) (by decide)
(aw_istore (lv' := [(13, zi (Int.tmod (zushr v6 8) 4)), (0, zr 60 0), (1, zr 8 0), (2, zr 64 r2), (3, zq 64 v3), (5, zi v5), (6, zi v6), (7, zr 64 r7)]) d_L_law_998 rfl (by decide) rfl
(aw_iload d_L_law_1000 rfl 0 rfl
(aw_aload_n d_L_law_1002 rfl rfl 3 rfl (by decide)
(aw_getI (kc := 2) d_L_law_1003 rfl flL_71 rfl rfl
(have z278 := H0.1; have z279 := H0.2.1; have e280 := H0.2.2; aw_icmp_eq d_L_law_1006 rfl rfl z278 z279 (fun c281 => have e283 := e280.1 c281; (aw_iconst d_L_law_1013 rfl
(aw_istore (lv' := [(12, zi 0), (13, zi (Int.tmod (zushr v6 8) 4)), (0, zr 60 0), (1, zr 8 0), (2, zr 64 r2), (3, zq 64 v3), (5, zi v5), (6, zi v6), (7, zr 64 r7)]) d_L_law_1014 rfl (by decide) rfl
(aw_sub [2, 3, 4, 5, 6, 7, 8, 0, 1] rfl e283)))) (fun c282 => have e284 := e280.2 c282; (aw_iconst d_L_law_1009 rfl
(aw_goto d_L_law_1010 rfl
(aw_istore (lv' := [(12, zi 1), (13, zi (Int.tmod (zushr v6 8) 4)), (0, zr 60 0), (1, zr 8 0), (2, zr 64 r2), (3, zq 64 v3), (5, zi v5), (6, zi v6), (7, zr 64 r7)]) d_L_law_1014 rfl (by decide) rfl
(aw_sub [2, 3, 4, 5, 6, 7, 8, 0, 1] rfl e284)))))))))))))))
theorem vL_law_1064 {l : Launch} {P : lwG} {c n : Nat} {r2 : Nat} {v3 : Int} {v5 : Int} {v6 : Int} {r7 : Nat} {M : zM}
    (H0 : (((c + 7065) ≤ 668211 ∧ (n + 38933) ≤ 7097614) ∧ (CIn l m_L_closes 7065 38933 [zr 64 r2, zi (Int.tmod (zushr v6 8) 2)] M (fun x289 M286 => (zI x289 ∧ ((x289 ≤ 0 → LL_law_1089 l P (c + 7065) (n + 38933) r2 v3 v5 v6 r7 0 x289 M286) ∧ (0 < x289 → LL_law_1089 l P (c + 7065) (n + 38933) r2 v3 v5 v6 r7 1 x289 M286))))))) :
    LL_law_1064 l P c n r2 v3 v5 v6 r7 M :=
(aw_aload_n d_L_law_1064 rfl rfl 2 rfl (by decide)
(aw_iload d_L_law_1065 rfl 5 rfl
(aw_bipush d_L_law_1067 rfl (by decide)
(aw_iushr d_L_law_1069 rfl zushr_h
(aw_iconst d_L_law_1070 rfl
(aw_irem d_L_law_1071 rfl zI_ushr (by decide) (by decide)
(have z285 := H0.1; have e287 := H0.2; aw_SIn (As := [zr 64 r2, zi (Int.tmod (zushr v6 8) 2)]) (st := []) d_L_law_1072 rfl csL_207 ⟨Nat.le_of_ble_eq_true rfl, Nat.le_of_ble_eq_true rfl⟩ z285 rfl rfl (Nat.le_of_ble_eq_true rfl) (Nat.le_of_ble_eq_true rfl) e287 (fun x289 M286 e288 => (aw_istore (lv' := [(13, zi x289), (0, zr 60 0), (1, zr 8 0), (2, zr 64 r2), (3, zq 64 v3), (5, zi v5), (6, zi v6), (7, zr 64 r7)]) d_L_law_1075 rfl (by decide) rfl
(aw_iload d_L_law_1077 rfl 0 rfl
(have z290 := e288.1; have e291 := e288.2; aw_if_le d_L_law_1079 rfl rfl z290 (fun c292 => have e294 := e291.1 c292; (aw_iconst d_L_law_1086 rfl
(aw_istore (lv' := [(12, zi 0), (13, zi x289), (0, zr 60 0), (1, zr 8 0), (2, zr 64 r2), (3, zq 64 v3), (5, zi v5), (6, zi v6), (7, zr 64 r7)]) d_L_law_1087 rfl (by decide) rfl
(aw_sub [2, 3, 4, 5, 6, 7, 8, 0, 1] rfl e294)))) (fun c293 => have e295 := e291.2 c293; (aw_iconst d_L_law_1082 rfl
(aw_goto d_L_law_1083 rfl
(aw_istore (lv' := [(12, zi 1), (13, zi x289), (0, zr 60 0), (1, zr 8 0), (2, zr 64 r2), (3, zq 64 v3), (5, zi v5), (6, zi v6), (7, zr 64 r7)]) d_L_law_1087 rfl (by decide) rfl
(aw_sub [2, 3, 4, 5, 6, 7, 8, 0, 1] rfl e295))))))))))))))))
theorem vL_law_1115 {l : Launch} {P : lwG} {c n : Nat} {r2 : Nat} {v3 : Int} {v5 : Int} {v6 : Int} {r7 : Nat} {M : zM}
    (H0 : (((zand (zushr v6 8) 1) = 0 → LL_law_1132 l P c n r2 v5 v6 r7 0 M) ∧ ((zand (zushr v6 8) 1) ≠ 0 → ((0 ≤ v3 → LL_law_1159 l P c n v3.toNat v5 v6 r7 0 M) ∧ (v3 < 0 → LL_law_1132 l P c n r2 v5 v6 r7 0 M))))) :
    LL_law_1115 l P c n r2 v3 v5 v6 r7 M :=
(aw_iconst d_L_law_1115 rfl
(aw_istore (lv' := [(12, zi 0), (0, zr 60 0), (1, zr 8 0), (2, zr 64 r2), (3, zq 64 v3), (5, zi v5), (6, zi v6), (7, zr 64 r7)]) d_L_law_1116 rfl (by decide) rfl
(aw_iload d_L_law_1118 rfl 6 rfl
(aw_bipush d_L_law_1120 rfl (by decide)
(aw_iushr d_L_law_1122 rfl zushr_h
(aw_iconst d_L_law_1123 rfl
(aw_iand d_L_law_1124 rfl zand_h
(aw_if_eq d_L_law_1125 rfl rfl zI_and (fun c296 => have e298 := H0.1 c296; (aw_sub [1, 2, 3, 5, 6, 7, 0] rfl e298)) (fun c297 => have e299 := H0.2 c297; (zq_or (r := v3) (fun c302 => have e300 := e299.1 c302; aw_lveq (lv' := [(12, zi 0), (0, zr 60 0), (1, zr 8 0), (2, zr 64 r2), (3, zr 64 v3.toNat), (5, zi v5), (6, zi v6), (7, zr 64 r7)]) (by rw [zq_p c302]) (aw_aload_n d_L_law_1128 rfl rfl 4 rfl (by decide) (aw_ifnonnull d_L_law_1129 rfl (by decide) (aw_sub [1, 2, 4, 5, 6, 7, 0] rfl e300)))) (fun c303 => have e301 := e299.2 c303; aw_lveq (lv' := [(12, zi 0), (0, zr 60 0), (1, zr 8 0), (2, zr 64 r2), (3, zn), (5, zi v5), (6, zi v6), (7, zr 64 r7)]) (by rw [zq_n c303]) (aw_loadN d_L_law_1128 rfl rfl 4 rfl (aw_nonnullN d_L_law_1129 rfl (aw_sub [1, 2, 3, 5, 6, 7, 0] rfl e301))))))))))))))
theorem vL_law_313 {l : Launch} {P : lwG} {c n : Nat} {r2 : Nat} {v3 : Int} {v5 : Int} {v6 : Int} {r7 : Nat} {v12 : Int} {M : zM}
    (H0 : LL_law_316 l P c n r2 v3 0 v5 v6 r7 v12 M) :
    LL_law_313 l P c n r2 v3 v5 v6 r7 v12 M :=
(aw_iconst d_L_law_313 rfl
(aw_istore (lv' := [(4, zi 0), (0, zr 60 0), (1, zr 8 0), (2, zr 64 r2), (3, zq 64 v3), (5, zi v5), (6, zi v6), (7, zr 64 r7), (12, zi v12)]) d_L_law_314 rfl (by decide) rfl
(aw_sub [1, 2, 3, 4, 0, 5, 6, 7, 8] rfl H0)))
theorem vL_law_316 {l : Launch} {P : lwG} {c n : Nat} {r2 : Nat} {v3 : Int} {v4 : Int} {v5 : Int} {v6 : Int} {r7 : Nat} {v12 : Int} {M : zM}
    (H0 : LL_law_1191 l P c n r2 v3 v4 v5 v6 r7 v12 M) :
    LL_law_316 l P c n r2 v3 v4 v5 v6 r7 v12 M :=
(aw_goto d_L_law_316 rfl
H0)
theorem vL_law_335 {l : Launch} {P : lwG} {c n : Nat} {r2 : Nat} {v3 : Int} {v5 : Int} {v6 : Int} {r7 : Nat} {v12 : Int} {M : zM}
    (H0 : (((zand (zushr v6 8) 1) ≠ 1 → (CI l m_X8_come [zr 8 0, zi 0, zi (Int.tmod (zushr v6 9) 4)] M (fun x310 M308 => (zI v12 ∧ ((v12 = 0 → (zI x310 ∧ ((x310 ≠ (-2) → LL_law_393 l P c n r2 v3 v5 v6 r7 v12 M308) ∧ (x310 = (-2) → (CI l m_X8_come [zr 8 0, zi 1, zi 4] M308 (fun x325 M323 => (zI x325 ∧ ((x325 ≠ (-1) → LL_law_393 l P c n r2 v3 v5 v6 r7 v12 M323) ∧ (x325 = (-1) → LL_law_396 l P c n r2 v3 1 v5 v6 r7 v12 M323))))))))) ∧ (v12 ≠ 0 → (zI x310 ∧ zI (M308 64 r2 0) ∧ ((x310 ≠ (M308 64 r2 0) → LL_law_393 l P c n r2 v3 v5 v6 r7 v12 M308) ∧ (x310 = (M308 64 r2 0) → (CI l m_X8_come [zr 8 0, zi 1, zi 4] M308 (fun x341 M339 => (zI x341 ∧ ((x341 ≠ (-1) → LL_law_393 l P c n r2 v3 v5 v6 r7 v12 M339) ∧ (x341 = (-1) → LL_law_396 l P c n r2 v3 1 v5 v6 r7 v12 M339)))))))))))))) ∧ ((zand (zushr v6 8) 1) = 1 → (CI l m_X8_come [zr 8 0, zi 1, zi (Int.tmod (zushr v6 9) 4)] M (fun x350 M348 => (zI v12 ∧ ((v12 = 0 → (zI x350 ∧ ((x350 ≠ (-2) → LL_law_393 l P c n r2 v3 v5 v6 r7 v12 M348) ∧ (x350 = (-2) → (CI l m_X8_come [zr 8 0, zi 1, zi 4] M348 (fun x365 M363 => (zI x365 ∧ ((x365 ≠ (-1) → LL_law_393 l P c n r2 v3 v5 v6 r7 v12 M363) ∧ (x365 = (-1) → LL_law_396 l P c n r2 v3 1 v5 v6 r7 v12 M363))))))))) ∧ (v12 ≠ 0 → (zI x350 ∧ zI (M348 64 r2 0) ∧ ((x350 ≠ (M348 64 r2 0) → LL_law_393 l P c n r2 v3 v5 v6 r7 v12 M348) ∧ (x350 = (M348 64 r2 0) → (CI l m_X8_come [zr 8 0, zi 1, zi 4] M348 (fun x381 M379 => (zI x381 ∧ ((x381 ≠ (-1) → LL_law_393 l P c n r2 v3 v5 v6 r7 v12 M379) ∧ (x381 = (-1) → LL_law_396 l P c n r2 v3 1 v5 v6 r7 v12 M379)))))))))))))))) :
    LL_law_335 l P c n r2 v3 v5 v6 r7 v12 M :=
(aw_aload_n d_L_law_335 rfl rfl 1 rfl (by decide)
(aw_iload d_L_law_336 rfl 5 rfl
(aw_bipush d_L_law_338 rfl (by decide)
(aw_iushr d_L_law_340 rfl zushr_h
(aw_iconst d_L_law_341 rfl
(aw_iand d_L_law_342 rfl zand_h
(aw_iconst d_L_law_343 rfl
(aw_icmp_ne d_L_law_344 rfl rfl zI_and (by decide) (fun c304 => have e306 := H0.1 c304; (aw_iconst d_L_law_351 rfl
(aw_iload d_L_law_352 rfl 5 rfl
(aw_bipush d_L_law_354 rfl (by decide)
(aw_iushr d_L_law_356 rfl zushr_h
(aw_iconst d_L_law_357 rfl
(aw_irem d_L_law_358 rfl zI_ushr (by decide) (by decide)
(aw_VI (As := [zi 0, zi (Int.tmod (zushr v6 9) 4)]) (st := []) d_L_law_359 rfl cvL_176 ⟨Nat.le_of_ble_eq_true rfl, Nat.le_of_ble_eq_true rfl⟩ rfl rfl (Nat.le_of_ble_eq_true rfl) (Nat.le_of_ble_eq_true rfl) e306 (fun x310 M308 e309 => (aw_iload d_L_law_362 rfl 7 rfl
(have z311 := e309.1; have e312 := e309.2; aw_if_eq d_L_law_364 rfl rfl z311 (fun c313 => have e315 := e312.1 c313; (aw_bipush d_L_law_374 rfl (by decide)
(have z317 := e315.1; have e318 := e315.2; aw_icmp_ne d_L_law_376 rfl rfl z317 (by decide) (fun c319 => have e321 := e318.1 c319; e321) (fun c320 => have e322 := e318.2 c320; (aw_aload_n d_L_law_379 rfl rfl 1 rfl (by decide)
(aw_iconst d_L_law_380 rfl
(aw_iconst d_L_law_381 rfl
(aw_VI (As := [zi 1, zi 4]) (st := []) d_L_law_382 rfl cvL_176 ⟨Nat.le_of_ble_eq_true rfl, Nat.le_of_ble_eq_true rfl⟩ rfl rfl (Nat.le_of_ble_eq_true rfl) (Nat.le_of_ble_eq_true rfl) e322 (fun x325 M323 e324 => (aw_iconst d_L_law_385 rfl
(have z326 := e324.1; have e327 := e324.2; aw_icmp_ne d_L_law_386 rfl rfl z326 (by decide) (fun c328 => have e330 := e327.1 c328; e330) (fun c329 => have e331 := e327.2 c329; (aw_iconst d_L_law_389 rfl
(aw_goto d_L_law_390 rfl
(aw_istore (lv' := [(4, zi 1), (0, zr 60 0), (1, zr 8 0), (2, zr 64 r2), (3, zq 64 v3), (5, zi v5), (6, zi v6), (7, zr 64 r7), (12, zi v12)]) d_L_law_394 rfl (by decide) rfl
(aw_sub [1, 2, 3, 4, 0, 5, 6, 7, 8] rfl e331)))))))))))))))) (fun c314 => have e316 := e312.2 c314; (aw_aload_n d_L_law_367 rfl rfl 2 rfl (by decide)
(aw_getI (kc := 0) d_L_law_368 rfl flL_80 rfl rfl
(aw_goto d_L_law_371 rfl
(have z332 := e316.1; have z333 := e316.2.1; have e334 := e316.2.2; aw_icmp_ne d_L_law_376 rfl rfl z332 z333 (fun c335 => have e337 := e334.1 c335; e337) (fun c336 => have e338 := e334.2 c336; (aw_aload_n d_L_law_379 rfl rfl 1 rfl (by decide)
(aw_iconst d_L_law_380 rfl
(aw_iconst d_L_law_381 rfl
(aw_VI (As := [zi 1, zi 4]) (st := []) d_L_law_382 rfl cvL_176 ⟨Nat.le_of_ble_eq_true rfl, Nat.le_of_ble_eq_true rfl⟩ rfl rfl (Nat.le_of_ble_eq_true rfl) (Nat.le_of_ble_eq_true rfl) e338 (fun x341 M339 e340 => (aw_iconst d_L_law_385 rfl
(have z342 := e340.1; have e343 := e340.2; aw_icmp_ne d_L_law_386 rfl rfl z342 (by decide) (fun c344 => have e346 := e343.1 c344; e346) (fun c345 => have e347 := e343.2 c345; (aw_iconst d_L_law_389 rfl
(aw_goto d_L_law_390 rfl
(aw_istore (lv' := [(4, zi 1), (0, zr 60 0), (1, zr 8 0), (2, zr 64 r2), (3, zq 64 v3), (5, zi v5), (6, zi v6), (7, zr 64 r7), (12, zi v12)]) d_L_law_394 rfl (by decide) rfl
(aw_sub [1, 2, 3, 4, 0, 5, 6, 7, 8] rfl e347))))))))))))))))))))))))))))) (fun c305 => have e307 := H0.2 c305; (aw_iconst d_L_law_347 rfl
(aw_goto d_L_law_348 rfl
(aw_iload d_L_law_352 rfl 5 rfl
(aw_bipush d_L_law_354 rfl (by decide)
(aw_iushr d_L_law_356 rfl zushr_h
(aw_iconst d_L_law_357 rfl
(aw_irem d_L_law_358 rfl zI_ushr (by decide) (by decide)
(aw_VI (As := [zi 1, zi (Int.tmod (zushr v6 9) 4)]) (st := []) d_L_law_359 rfl cvL_176 ⟨Nat.le_of_ble_eq_true rfl, Nat.le_of_ble_eq_true rfl⟩ rfl rfl (Nat.le_of_ble_eq_true rfl) (Nat.le_of_ble_eq_true rfl) e307 (fun x350 M348 e349 => (aw_iload d_L_law_362 rfl 7 rfl
(have z351 := e349.1; have e352 := e349.2; aw_if_eq d_L_law_364 rfl rfl z351 (fun c353 => have e355 := e352.1 c353; (aw_bipush d_L_law_374 rfl (by decide)
(have z357 := e355.1; have e358 := e355.2; aw_icmp_ne d_L_law_376 rfl rfl z357 (by decide) (fun c359 => have e361 := e358.1 c359; e361) (fun c360 => have e362 := e358.2 c360; (aw_aload_n d_L_law_379 rfl rfl 1 rfl (by decide)
(aw_iconst d_L_law_380 rfl
(aw_iconst d_L_law_381 rfl
(aw_VI (As := [zi 1, zi 4]) (st := []) d_L_law_382 rfl cvL_176 ⟨Nat.le_of_ble_eq_true rfl, Nat.le_of_ble_eq_true rfl⟩ rfl rfl (Nat.le_of_ble_eq_true rfl) (Nat.le_of_ble_eq_true rfl) e362 (fun x365 M363 e364 => (aw_iconst d_L_law_385 rfl
(have z366 := e364.1; have e367 := e364.2; aw_icmp_ne d_L_law_386 rfl rfl z366 (by decide) (fun c368 => have e370 := e367.1 c368; e370) (fun c369 => have e371 := e367.2 c369; (aw_iconst d_L_law_389 rfl
(aw_goto d_L_law_390 rfl
(aw_istore (lv' := [(4, zi 1), (0, zr 60 0), (1, zr 8 0), (2, zr 64 r2), (3, zq 64 v3), (5, zi v5), (6, zi v6), (7, zr 64 r7), (12, zi v12)]) d_L_law_394 rfl (by decide) rfl
(aw_sub [1, 2, 3, 4, 0, 5, 6, 7, 8] rfl e371)))))))))))))))) (fun c354 => have e356 := e352.2 c354; (aw_aload_n d_L_law_367 rfl rfl 2 rfl (by decide)
(aw_getI (kc := 0) d_L_law_368 rfl flL_80 rfl rfl
(aw_goto d_L_law_371 rfl
(have z372 := e356.1; have z373 := e356.2.1; have e374 := e356.2.2; aw_icmp_ne d_L_law_376 rfl rfl z372 z373 (fun c375 => have e377 := e374.1 c375; e377) (fun c376 => have e378 := e374.2 c376; (aw_aload_n d_L_law_379 rfl rfl 1 rfl (by decide)
(aw_iconst d_L_law_380 rfl
(aw_iconst d_L_law_381 rfl
(aw_VI (As := [zi 1, zi 4]) (st := []) d_L_law_382 rfl cvL_176 ⟨Nat.le_of_ble_eq_true rfl, Nat.le_of_ble_eq_true rfl⟩ rfl rfl (Nat.le_of_ble_eq_true rfl) (Nat.le_of_ble_eq_true rfl) e378 (fun x381 M379 e380 => (aw_iconst d_L_law_385 rfl
(have z382 := e380.1; have e383 := e380.2; aw_icmp_ne d_L_law_386 rfl rfl z382 (by decide) (fun c384 => have e386 := e383.1 c384; e386) (fun c385 => have e387 := e383.2 c385; (aw_iconst d_L_law_389 rfl
(aw_goto d_L_law_390 rfl
(aw_istore (lv' := [(4, zi 1), (0, zr 60 0), (1, zr 8 0), (2, zr 64 r2), (3, zq 64 v3), (5, zi v5), (6, zi v6), (7, zr 64 r7), (12, zi v12)]) d_L_law_394 rfl (by decide) rfl
(aw_sub [1, 2, 3, 4, 0, 5, 6, 7, 8] rfl e387))))))))))))))))))))))))))))))))))))))
theorem vL_law_481 {l : Launch} {P : lwG} {c n : Nat} {r2 : Nat} {v3 : Int} {v5 : Int} {v6 : Int} {r7 : Nat} {v8 : Int} {v9 : Int} {v10 : Int} {v11 : Int} {M : zM}
    (H0 : LL_law_484 l P c n r2 v3 v5 v6 r7 v8 v9 v10 v11 0 M) :
    LL_law_481 l P c n r2 v3 v5 v6 r7 v8 v9 v10 v11 M :=
(aw_iconst d_L_law_481 rfl
(aw_istore (lv' := [(13, zi 0), (0, zr 60 0), (1, zr 8 0), (2, zr 64 r2), (3, zq 64 v3), (5, zi v5), (6, zi v6), (7, zr 64 r7), (8, zi v8), (9, zi v9), (10, zi v10), (11, zi v11)]) d_L_law_482 rfl (by decide) rfl
(aw_sub [1, 2, 3, 4, 5, 6, 7, 8, 9, 10, 11, 0] rfl H0)))
theorem vL_law_484 {l : Launch} {P : lwG} {c n : Nat} {r2 : Nat} {v3 : Int} {v5 : Int} {v6 : Int} {r7 : Nat} {v8 : Int} {v9 : Int} {v10 : Int} {v11 : Int} {v13 : Int} {M : zM}
    (H0 : (CI l m_X8_add [zr 8 0, zi v8, zi v11] M (fun x390 M388 => (zI v9 ∧ ((v9 ≠ 0 → (zI v10 ∧ ((v10 ≠ 4 → (zI v13 ∧ ((v13 = 0 → (zI x390 ∧ ((x390 ≠ (-3) → LL_law_550 l P c n r2 v3 v5 v6 r7 v8 v10 v11 v13 v13 M388) ∧ (x390 = (-3) → (CI l m_X8_add [zr 8 0, zi v8, zi 10000] M388 (fun x417 M415 => (zI x417 ∧ ((x417 ≠ (-1) → LL_law_550 l P c n r2 v3 v5 v6 r7 v8 v10 v11 v13 v13 M415) ∧ (x417 = (-1) → LL_law_553 l P c n r2 v3 1 v5 v6 r7 v8 v10 v11 v13 v13 M415))))))))) ∧ (v13 ≠ 0 → (zI x390 ∧ zI (v10 + 1) ∧ ((x390 ≠ (v10 + 1) → LL_law_550 l P c n r2 v3 v5 v6 r7 v8 v10 v11 v13 v13 M388) ∧ (x390 = (v10 + 1) → (CI l m_X8_add [zr 8 0, zi v8, zi 10000] M388 (fun x433 M431 => (zI x433 ∧ ((x433 ≠ (-1) → LL_law_550 l P c n r2 v3 v5 v6 r7 v8 v10 v11 v13 v13 M431) ∧ (x433 = (-1) → LL_law_553 l P c n r2 v3 1 v5 v6 r7 v8 v10 v11 v13 v13 M431)))))))))))) ∧ (v10 = 4 → (zI x390 ∧ ((x390 ≠ (-2) → LL_law_550 l P c n r2 v3 v5 v6 r7 v8 v10 v11 v13 v13 M388) ∧ (x390 = (-2) → (CI l m_X8_add [zr 8 0, zi v8, zi 10000] M388 (fun x448 M446 => (zI x448 ∧ ((x448 ≠ (-1) → LL_law_550 l P c n r2 v3 v5 v6 r7 v8 v10 v11 v13 v13 M446) ∧ (x448 = (-1) → LL_law_553 l P c n r2 v3 1 v5 v6 r7 v8 v10 v11 v13 v13 M446)))))))))))) ∧ (v9 = 0 → (zI x390 ∧ ((x390 ≠ (-1) → LL_law_550 l P c n r2 v3 v5 v6 r7 v8 v10 v11 v13 v13 M388) ∧ (x390 = (-1) → (CI l m_X8_add [zr 8 0, zi v8, zi 10000] M388 (fun x463 M461 => (zI x463 ∧ ((x463 ≠ (-1) → LL_law_550 l P c n r2 v3 v5 v6 r7 v8 v10 v11 v13 v13 M461) ∧ (x463 = (-1) → LL_law_553 l P c n r2 v3 1 v5 v6 r7 v8 v10 v11 v13 v13 M461)))))))))))))) :
    LL_law_484 l P c n r2 v3 v5 v6 r7 v8 v9 v10 v11 v13 M :=
(aw_iload d_L_law_484 rfl 11 rfl
(aw_istore (lv' := [(12, zi v13), (0, zr 60 0), (1, zr 8 0), (2, zr 64 r2), (3, zq 64 v3), (5, zi v5), (6, zi v6), (7, zr 64 r7), (8, zi v8), (9, zi v9), (10, zi v10), (11, zi v11), (13, zi v13)]) d_L_law_486 rfl (by decide) rfl
(aw_aload_n d_L_law_488 rfl rfl 2 rfl (by decide)
(aw_iload d_L_law_489 rfl 8 rfl
(aw_iload d_L_law_491 rfl 11 rfl
(aw_VI (As := [zi v8, zi v11]) (st := []) d_L_law_493 rfl cvL_188 ⟨Nat.le_of_ble_eq_true rfl, Nat.le_of_ble_eq_true rfl⟩ rfl rfl (Nat.le_of_ble_eq_true rfl) (Nat.le_of_ble_eq_true rfl) H0 (fun x390 M388 e389 => (aw_iload d_L_law_496 rfl 9 rfl
(have z391 := e389.1; have e392 := e389.2; aw_if_ne d_L_law_498 rfl rfl z391 (fun c393 => have e395 := e392.1 c393; (aw_iload d_L_law_505 rfl 10 rfl
(aw_iconst d_L_law_507 rfl
(have z397 := e395.1; have e398 := e395.2; aw_icmp_ne d_L_law_508 rfl rfl z397 (by decide) (fun c399 => have e401 := e398.1 c399; (aw_iload d_L_law_516 rfl 12 rfl
(have z403 := e401.1; have e404 := e401.2; aw_if_eq d_L_law_518 rfl rfl z403 (fun c405 => have e407 := e404.1 c405; (aw_bipush d_L_law_528 rfl (by decide)
(have z409 := e407.1; have e410 := e407.2; aw_icmp_ne d_L_law_530 rfl rfl z409 (by decide) (fun c411 => have e413 := e410.1 c411; (aw_sub [1, 2, 3, 4, 5, 6, 7, 8, 10, 11, 0, 12] rfl e413)) (fun c412 => have e414 := e410.2 c412; (aw_aload_n d_L_law_533 rfl rfl 2 rfl (by decide)
(aw_iload d_L_law_534 rfl 8 rfl
(aw_sipush d_L_law_536 rfl (by decide)
(aw_VI (As := [zi v8, zi 10000]) (st := []) d_L_law_539 rfl cvL_188 ⟨Nat.le_of_ble_eq_true rfl, Nat.le_of_ble_eq_true rfl⟩ rfl rfl (Nat.le_of_ble_eq_true rfl) (Nat.le_of_ble_eq_true rfl) e414 (fun x417 M415 e416 => (aw_iconst d_L_law_542 rfl
(have z418 := e416.1; have e419 := e416.2; aw_icmp_ne d_L_law_543 rfl rfl z418 (by decide) (fun c420 => have e422 := e419.1 c420; (aw_sub [1, 2, 3, 4, 5, 6, 7, 8, 10, 11, 0, 12] rfl e422)) (fun c421 => have e423 := e419.2 c421; (aw_iconst d_L_law_546 rfl
(aw_goto d_L_law_547 rfl
(aw_istore (lv' := [(4, zi 1), (12, zi v13), (0, zr 60 0), (1, zr 8 0), (2, zr 64 r2), (3, zq 64 v3), (5, zi v5), (6, zi v6), (7, zr 64 r7), (8, zi v8), (9, zi v9), (10, zi v10), (11, zi v11), (13, zi v13)]) d_L_law_551 rfl (by decide) rfl
(aw_sub [2, 3, 4, 5, 0, 6, 7, 8, 9, 11, 12, 1, 13] rfl e423)))))))))))))))) (fun c406 => have e408 := e404.2 c406; (aw_iload d_L_law_521 rfl 10 rfl
(aw_iconst d_L_law_523 rfl
(aw_iadd d_L_law_524 rfl
(aw_goto d_L_law_525 rfl
(have z424 := e408.1; have z425 := e408.2.1; have e426 := e408.2.2; aw_icmp_ne d_L_law_530 rfl rfl z424 z425 (fun c427 => have e429 := e426.1 c427; (aw_sub [1, 2, 3, 4, 5, 6, 7, 8, 10, 11, 0, 12] rfl e429)) (fun c428 => have e430 := e426.2 c428; (aw_aload_n d_L_law_533 rfl rfl 2 rfl (by decide)
(aw_iload d_L_law_534 rfl 8 rfl
(aw_sipush d_L_law_536 rfl (by decide)
(aw_VI (As := [zi v8, zi 10000]) (st := []) d_L_law_539 rfl cvL_188 ⟨Nat.le_of_ble_eq_true rfl, Nat.le_of_ble_eq_true rfl⟩ rfl rfl (Nat.le_of_ble_eq_true rfl) (Nat.le_of_ble_eq_true rfl) e430 (fun x433 M431 e432 => (aw_iconst d_L_law_542 rfl
(have z434 := e432.1; have e435 := e432.2; aw_icmp_ne d_L_law_543 rfl rfl z434 (by decide) (fun c436 => have e438 := e435.1 c436; (aw_sub [1, 2, 3, 4, 5, 6, 7, 8, 10, 11, 0, 12] rfl e438)) (fun c437 => have e439 := e435.2 c437; (aw_iconst d_L_law_546 rfl
(aw_goto d_L_law_547 rfl
(aw_istore (lv' := [(4, zi 1), (12, zi v13), (0, zr 60 0), (1, zr 8 0), (2, zr 64 r2), (3, zq 64 v3), (5, zi v5), (6, zi v6), (7, zr 64 r7), (8, zi v8), (9, zi v9), (10, zi v10), (11, zi v11), (13, zi v13)]) d_L_law_551 rfl (by decide) rfl
(aw_sub [2, 3, 4, 5, 0, 6, 7, 8, 9, 11, 12, 1, 13] rfl e439)))))))))))))))))))))) (fun c400 => have e402 := e398.2 c400; (aw_bipush d_L_law_511 rfl (by decide)
(aw_goto d_L_law_513 rfl
(have z440 := e402.1; have e441 := e402.2; aw_icmp_ne d_L_law_530 rfl rfl z440 (by decide) (fun c442 => have e444 := e441.1 c442; (aw_sub [1, 2, 3, 4, 5, 6, 7, 8, 10, 11, 0, 12] rfl e444)) (fun c443 => have e445 := e441.2 c443; (aw_aload_n d_L_law_533 rfl rfl 2 rfl (by decide)
(aw_iload d_L_law_534 rfl 8 rfl
(aw_sipush d_L_law_536 rfl (by decide)
(aw_VI (As := [zi v8, zi 10000]) (st := []) d_L_law_539 rfl cvL_188 ⟨Nat.le_of_ble_eq_true rfl, Nat.le_of_ble_eq_true rfl⟩ rfl rfl (Nat.le_of_ble_eq_true rfl) (Nat.le_of_ble_eq_true rfl) e445 (fun x448 M446 e447 => (aw_iconst d_L_law_542 rfl
(have z449 := e447.1; have e450 := e447.2; aw_icmp_ne d_L_law_543 rfl rfl z449 (by decide) (fun c451 => have e453 := e450.1 c451; (aw_sub [1, 2, 3, 4, 5, 6, 7, 8, 10, 11, 0, 12] rfl e453)) (fun c452 => have e454 := e450.2 c452; (aw_iconst d_L_law_546 rfl
(aw_goto d_L_law_547 rfl
(aw_istore (lv' := [(4, zi 1), (12, zi v13), (0, zr 60 0), (1, zr 8 0), (2, zr 64 r2), (3, zq 64 v3), (5, zi v5), (6, zi v6), (7, zr 64 r7), (8, zi v8), (9, zi v9), (10, zi v10), (11, zi v11), (13, zi v13)]) d_L_law_551 rfl (by decide) rfl
(aw_sub [2, 3, 4, 5, 0, 6, 7, 8, 9, 11, 12, 1, 13] rfl e454))))))))))))))))))))) (fun c394 => have e396 := e392.2 c394; (aw_iconst d_L_law_501 rfl
(aw_goto d_L_law_502 rfl
(have z455 := e396.1; have e456 := e396.2; aw_icmp_ne d_L_law_530 rfl rfl z455 (by decide) (fun c457 => have e459 := e456.1 c457; (aw_sub [1, 2, 3, 4, 5, 6, 7, 8, 10, 11, 0, 12] rfl e459)) (fun c458 => have e460 := e456.2 c458; (aw_aload_n d_L_law_533 rfl rfl 2 rfl (by decide)
(aw_iload d_L_law_534 rfl 8 rfl
(aw_sipush d_L_law_536 rfl (by decide)
(aw_VI (As := [zi v8, zi 10000]) (st := []) d_L_law_539 rfl cvL_188 ⟨Nat.le_of_ble_eq_true rfl, Nat.le_of_ble_eq_true rfl⟩ rfl rfl (Nat.le_of_ble_eq_true rfl) (Nat.le_of_ble_eq_true rfl) e460 (fun x463 M461 e462 => (aw_iconst d_L_law_542 rfl
(have z464 := e462.1; have e465 := e462.2; aw_icmp_ne d_L_law_543 rfl rfl z464 (by decide) (fun c466 => have e468 := e465.1 c466; (aw_sub [1, 2, 3, 4, 5, 6, 7, 8, 10, 11, 0, 12] rfl e468)) (fun c467 => have e469 := e465.2 c467; (aw_iconst d_L_law_546 rfl
(aw_goto d_L_law_547 rfl
(aw_istore (lv' := [(4, zi 1), (12, zi v13), (0, zr 60 0), (1, zr 8 0), (2, zr 64 r2), (3, zq 64 v3), (5, zi v5), (6, zi v6), (7, zr 64 r7), (8, zi v8), (9, zi v9), (10, zi v10), (11, zi v11), (13, zi v13)]) d_L_law_551 rfl (by decide) rfl
(aw_sub [2, 3, 4, 5, 0, 6, 7, 8, 9, 11, 12, 1, 13] rfl e469))))))))))))))))))))))))))
theorem vL_law_632 {l : Launch} {P : lwG} {c n : Nat} {r2 : Nat} {v3 : Int} {v5 : Int} {v6 : Int} {r7 : Nat} {v8 : Int} {v10 : Int} {v11 : Int} {v13 : Int} {v14 : Int} {M : zM}
    (H0 : (zI v14 ∧ ((v14 = 0 → LL_law_659 l P c n r2 v3 v5 v6 r7 v8 v10 v11 v13 v14 0 M) ∧ (v14 ≠ 0 → ((0 ≤ M 64 r2 11 ∧ M 64 r2 11 < M 97 0 74) ∧ ∀ r477 : Nat, (r477 : Int) = M 64 r2 11 → ((0 ≤ v8 ∧ v8 < 21) ∧ (0 ≤ M 74 r477 v8 ∧ M 74 r477 v8 < M 97 0 75) ∧ ∀ r481 : Nat, (r481 : Int) = M 74 r477 v8 → ((0 ≤ v13 ∧ v13 < M 75 r481 (-1) ∧ M 75 r481 (-1) ≤ 1000000) ∧ (zI (M 75 r481 v13) ∧ zI v11 ∧ (((M 75 r481 v13) ≠ v11 → LL_law_659 l P c n r2 v3 v5 v6 r7 v8 v10 v11 v13 v14 0 M) ∧ ((M 75 r481 v13) = v11 → LL_law_659 l P c n r2 v3 v5 v6 r7 v8 v10 v11 v13 v14 1 M)))))))))) :
    LL_law_632 l P c n r2 v3 v5 v6 r7 v8 v10 v11 v13 v14 M :=
(aw_iload d_L_law_632 rfl 11 rfl
(have z470 := H0.1; have e471 := H0.2; aw_if_eq d_L_law_634 rfl rfl z470 (fun c472 => have e474 := e471.1 c472; (aw_iconst d_L_law_656 rfl
(aw_istore (lv' := [(15, zi 0), (0, zr 60 0), (1, zr 8 0), (2, zr 64 r2), (3, zq 64 v3), (5, zi v5), (6, zi v6), (7, zr 64 r7), (8, zi v8), (10, zi v10), (11, zi v11), (13, zi v13), (14, zi v14)]) d_L_law_657 rfl (by decide) rfl
(aw_sub [1, 2, 3, 4, 5, 6, 7, 8, 9, 10, 11, 12, 0] rfl e474)))) (fun c473 => have e475 := e471.2 c473; (aw_aload_n d_L_law_637 rfl rfl 2 rfl (by decide)
(have z476 := e475.1; aw_getE (kc := 11) d_L_law_638 rfl flL_64 rfl rfl (by decide) z476
(fun r477 hqr477 => (have e478 := e475.2 r477 hqr477; (aw_iload d_L_law_641 rfl 7 rfl
(have z479 := e478.1; have z480 := e478.2.1; aw_rale d_L_law_643 rfl zd74.G (by decide) (zix_s z479) z480
(fun r481 hqr481 => (have e482 := e478.2.2 r481 hqr481; (aw_iload d_L_law_644 rfl 10 rfl
(have z483 := e482.1; aw_ialdG d_L_law_646 rfl zd75.G (zix_d rfl z483)
(have e484 := e482.2; (aw_iload d_L_law_647 rfl 9 rfl
(have z485 := e484.1; have z486 := e484.2.1; have e487 := e484.2.2; aw_icmp_ne d_L_law_649 rfl rfl z485 z486 (fun c488 => have e490 := e487.1 c488; (aw_iconst d_L_law_656 rfl
(aw_istore (lv' := [(15, zi 0), (0, zr 60 0), (1, zr 8 0), (2, zr 64 r2), (3, zq 64 v3), (5, zi v5), (6, zi v6), (7, zr 64 r7), (8, zi v8), (10, zi v10), (11, zi v11), (13, zi v13), (14, zi v14)]) d_L_law_657 rfl (by decide) rfl
(aw_sub [1, 2, 3, 4, 5, 6, 7, 8, 9, 10, 11, 12, 0] rfl e490)))) (fun c489 => have e491 := e487.2 c489; (aw_iconst d_L_law_652 rfl
(aw_goto d_L_law_653 rfl
(aw_istore (lv' := [(15, zi 1), (0, zr 60 0), (1, zr 8 0), (2, zr 64 r2), (3, zq 64 v3), (5, zi v5), (6, zi v6), (7, zr 64 r7), (8, zi v8), (10, zi v10), (11, zi v11), (13, zi v13), (14, zi v14)]) d_L_law_657 rfl (by decide) rfl
(aw_sub [1, 2, 3, 4, 5, 6, 7, 8, 9, 10, 11, 12, 0] rfl e491)))))))))))))))))))))
theorem vL_law_871 {l : Launch} {P : lwG} {c n : Nat} {r2 : Nat} {v3 : Int} {v5 : Int} {v6 : Int} {r7 : Nat} {v8 : Int} {v10 : Int} {v12 : Int} {M : zM}
    (H0 : (CI l m_X8_leave [zr 8 0, zi v8] M (fun x494 M492 => (zI v12 ∧ ((v12 = 0 → (zI x494 ∧ ((x494 ≠ (-1) → LL_law_895 l P c n r2 v3 v5 v6 r7 v8 v12 M492) ∧ (x494 = (-1) → LL_law_898 l P c n r2 v3 1 v5 v6 r7 v8 v12 M492)))) ∧ (v12 ≠ 0 → (zI x494 ∧ zI v10 ∧ ((x494 ≠ v10 → LL_law_895 l P c n r2 v3 v5 v6 r7 v8 v12 M492) ∧ (x494 = v10 → LL_law_898 l P c n r2 v3 1 v5 v6 r7 v8 v12 M492))))))))) :
    LL_law_871 l P c n r2 v3 v5 v6 r7 v8 v10 v12 M :=
(aw_aload_n d_L_law_871 rfl rfl 1 rfl (by decide)
(aw_iload d_L_law_872 rfl 7 rfl
(aw_VI (As := [zi v8]) (st := []) d_L_law_874 rfl cvL_200 ⟨Nat.le_of_ble_eq_true rfl, Nat.le_of_ble_eq_true rfl⟩ rfl rfl (Nat.le_of_ble_eq_true rfl) (Nat.le_of_ble_eq_true rfl) H0 (fun x494 M492 e493 => (aw_iload d_L_law_877 rfl 9 rfl
(have z495 := e493.1; have e496 := e493.2; aw_if_eq d_L_law_879 rfl rfl z495 (fun c497 => have e499 := e496.1 c497; (aw_iconst d_L_law_887 rfl
(have z501 := e499.1; have e502 := e499.2; aw_icmp_ne d_L_law_888 rfl rfl z501 (by decide) (fun c503 => have e505 := e502.1 c503; (aw_sub [0, 1, 2, 3, 4, 5, 6, 7, 9] rfl e505)) (fun c504 => have e506 := e502.2 c504; (aw_iconst d_L_law_891 rfl
(aw_goto d_L_law_892 rfl
(aw_istore (lv' := [(4, zi 1), (0, zr 60 0), (1, zr 8 0), (2, zr 64 r2), (3, zq 64 v3), (5, zi v5), (6, zi v6), (7, zr 64 r7), (8, zi v8), (10, zi v10), (12, zi v12)]) d_L_law_896 rfl (by decide) rfl
(aw_sub [1, 2, 3, 4, 0, 5, 6, 7, 8, 10] rfl e506)))))))) (fun c498 => have e500 := e496.2 c498; (aw_iload d_L_law_882 rfl 8 rfl
(aw_goto d_L_law_884 rfl
(have z507 := e500.1; have z508 := e500.2.1; have e509 := e500.2.2; aw_icmp_ne d_L_law_888 rfl rfl z507 z508 (fun c510 => have e512 := e509.1 c510; (aw_sub [0, 1, 2, 3, 4, 5, 6, 7, 9] rfl e512)) (fun c511 => have e513 := e509.2 c511; (aw_iconst d_L_law_891 rfl
(aw_goto d_L_law_892 rfl
(aw_istore (lv' := [(4, zi 1), (0, zr 60 0), (1, zr 8 0), (2, zr 64 r2), (3, zq 64 v3), (5, zi v5), (6, zi v6), (7, zr 64 r7), (8, zi v8), (10, zi v10), (12, zi v12)]) d_L_law_896 rfl (by decide) rfl
(aw_sub [1, 2, 3, 4, 0, 5, 6, 7, 8, 10] rfl e513)))))))))))))))
theorem vL_law_941 {l : Launch} {P : lwG} {c n : Nat} {r2 : Nat} {v3 : Int} {v5 : Int} {v6 : Int} {r7 : Nat} {v12 : Int} {v13 : Int} {M : zM}
    (H0 : (CI l m_X8_fee [zr 8 0, zi v13] M (fun x516 M514 => (zI v12 ∧ ((v12 = 0 → (zI x516 ∧ ((x516 ≠ (-2) → LL_law_979 l P c n r2 v3 v5 v6 r7 v12 v13 M514) ∧ (x516 = (-2) → (CI l m_X8_fee [zr 8 0, zi 501] M514 (fun x531 M529 => (zI x531 ∧ ((x531 ≠ (-1) → LL_law_979 l P c n r2 v3 v5 v6 r7 v12 v13 M529) ∧ (x531 = (-1) → LL_law_982 l P c n r2 v3 1 v5 v6 r7 v12 v13 M529))))))))) ∧ (v12 ≠ 0 → (zI x516 ∧ zI (M514 64 r2 1) ∧ ((x516 ≠ (M514 64 r2 1) → LL_law_979 l P c n r2 v3 v5 v6 r7 v12 v13 M514) ∧ (x516 = (M514 64 r2 1) → (CI l m_X8_fee [zr 8 0, zi 501] M514 (fun x547 M545 => (zI x547 ∧ ((x547 ≠ (-1) → LL_law_979 l P c n r2 v3 v5 v6 r7 v12 v13 M545) ∧ (x547 = (-1) → LL_law_982 l P c n r2 v3 1 v5 v6 r7 v12 v13 M545)))))))))))))) :
    LL_law_941 l P c n r2 v3 v5 v6 r7 v12 v13 M :=
(aw_aload_n d_L_law_941 rfl rfl 1 rfl (by decide)
(aw_iload d_L_law_942 rfl 8 rfl
(aw_VI (As := [zi v13]) (st := []) d_L_law_944 rfl cvL_203 ⟨Nat.le_of_ble_eq_true rfl, Nat.le_of_ble_eq_true rfl⟩ rfl rfl (Nat.le_of_ble_eq_true rfl) (Nat.le_of_ble_eq_true rfl) H0 (fun x516 M514 e515 => (aw_iload d_L_law_947 rfl 7 rfl
(have z517 := e515.1; have e518 := e515.2; aw_if_eq d_L_law_949 rfl rfl z517 (fun c519 => have e521 := e518.1 c519; (aw_bipush d_L_law_959 rfl (by decide)
(have z523 := e521.1; have e524 := e521.2; aw_icmp_ne d_L_law_961 rfl rfl z523 (by decide) (fun c525 => have e527 := e524.1 c525; e527) (fun c526 => have e528 := e524.2 c526; (aw_aload_n d_L_law_964 rfl rfl 1 rfl (by decide)
(aw_sipush d_L_law_965 rfl (by decide)
(aw_VI (As := [zi 501]) (st := []) d_L_law_968 rfl cvL_203 ⟨Nat.le_of_ble_eq_true rfl, Nat.le_of_ble_eq_true rfl⟩ rfl rfl (Nat.le_of_ble_eq_true rfl) (Nat.le_of_ble_eq_true rfl) e528 (fun x531 M529 e530 => (aw_iconst d_L_law_971 rfl
(have z532 := e530.1; have e533 := e530.2; aw_icmp_ne d_L_law_972 rfl rfl z532 (by decide) (fun c534 => have e536 := e533.1 c534; e536) (fun c535 => have e537 := e533.2 c535; (aw_iconst d_L_law_975 rfl
(aw_goto d_L_law_976 rfl
(aw_istore (lv' := [(4, zi 1), (0, zr 60 0), (1, zr 8 0), (2, zr 64 r2), (3, zq 64 v3), (5, zi v5), (6, zi v6), (7, zr 64 r7), (12, zi v12), (13, zi v13)]) d_L_law_980 rfl (by decide) rfl
(aw_sub [1, 2, 3, 4, 0, 5, 6, 7, 8, 9] rfl e537))))))))))))))) (fun c520 => have e522 := e518.2 c520; (aw_aload_n d_L_law_952 rfl rfl 2 rfl (by decide)
(aw_getI (kc := 1) d_L_law_953 rfl flL_39 rfl rfl
(aw_goto d_L_law_956 rfl
(have z538 := e522.1; have z539 := e522.2.1; have e540 := e522.2.2; aw_icmp_ne d_L_law_961 rfl rfl z538 z539 (fun c541 => have e543 := e540.1 c541; e543) (fun c542 => have e544 := e540.2 c542; (aw_aload_n d_L_law_964 rfl rfl 1 rfl (by decide)
(aw_sipush d_L_law_965 rfl (by decide)
(aw_VI (As := [zi 501]) (st := []) d_L_law_968 rfl cvL_203 ⟨Nat.le_of_ble_eq_true rfl, Nat.le_of_ble_eq_true rfl⟩ rfl rfl (Nat.le_of_ble_eq_true rfl) (Nat.le_of_ble_eq_true rfl) e544 (fun x547 M545 e546 => (aw_iconst d_L_law_971 rfl
(have z548 := e546.1; have e549 := e546.2; aw_icmp_ne d_L_law_972 rfl rfl z548 (by decide) (fun c550 => have e552 := e549.1 c550; e552) (fun c551 => have e553 := e549.2 c551; (aw_iconst d_L_law_975 rfl
(aw_goto d_L_law_976 rfl
(aw_istore (lv' := [(4, zi 1), (0, zr 60 0), (1, zr 8 0), (2, zr 64 r2), (3, zq 64 v3), (5, zi v5), (6, zi v6), (7, zr 64 r7), (12, zi v12), (13, zi v13)]) d_L_law_980 rfl (by decide) rfl
(aw_sub [1, 2, 3, 4, 0, 5, 6, 7, 8, 9] rfl e553)))))))))))))))))))))))
theorem vL_law_1016 {l : Launch} {P : lwG} {c n : Nat} {r2 : Nat} {v3 : Int} {v5 : Int} {v6 : Int} {r7 : Nat} {v12 : Int} {v13 : Int} {M : zM}
    (H0 : (CI l m_X8_law [zr 8 0, zi v13] M (fun x556 M554 => (zI v12 ∧ ((v12 = 0 → (zI x556 ∧ ((x556 ≠ (-2) → LL_law_1052 l P c n r2 v3 v5 v6 r7 v12 v13 M554) ∧ (x556 = (-2) → (CI l m_X8_law [zr 8 0, zi (-1)] M554 (fun x571 M569 => (zI x571 ∧ ((x571 ≠ (-1) → LL_law_1052 l P c n r2 v3 v5 v6 r7 v12 v13 M569) ∧ (x571 = (-1) → LL_law_1055 l P c n r2 v3 1 v5 v6 r7 v12 v13 M569))))))))) ∧ (v12 ≠ 0 → (zI x556 ∧ zI (M554 64 r2 2) ∧ ((x556 ≠ (M554 64 r2 2) → LL_law_1052 l P c n r2 v3 v5 v6 r7 v12 v13 M554) ∧ (x556 = (M554 64 r2 2) → (CI l m_X8_law [zr 8 0, zi (-1)] M554 (fun x587 M585 => (zI x587 ∧ ((x587 ≠ (-1) → LL_law_1052 l P c n r2 v3 v5 v6 r7 v12 v13 M585) ∧ (x587 = (-1) → LL_law_1055 l P c n r2 v3 1 v5 v6 r7 v12 v13 M585)))))))))))))) :
    LL_law_1016 l P c n r2 v3 v5 v6 r7 v12 v13 M :=
(aw_aload_n d_L_law_1016 rfl rfl 1 rfl (by decide)
(aw_iload d_L_law_1017 rfl 8 rfl
(aw_VI (As := [zi v13]) (st := []) d_L_law_1019 rfl cvL_205 ⟨Nat.le_of_ble_eq_true rfl, Nat.le_of_ble_eq_true rfl⟩ rfl rfl (Nat.le_of_ble_eq_true rfl) (Nat.le_of_ble_eq_true rfl) H0 (fun x556 M554 e555 => (aw_iload d_L_law_1022 rfl 7 rfl
(have z557 := e555.1; have e558 := e555.2; aw_if_eq d_L_law_1024 rfl rfl z557 (fun c559 => have e561 := e558.1 c559; (aw_bipush d_L_law_1034 rfl (by decide)
(have z563 := e561.1; have e564 := e561.2; aw_icmp_ne d_L_law_1036 rfl rfl z563 (by decide) (fun c565 => have e567 := e564.1 c565; e567) (fun c566 => have e568 := e564.2 c566; (aw_aload_n d_L_law_1039 rfl rfl 1 rfl (by decide)
(aw_iconst d_L_law_1040 rfl
(aw_VI (As := [zi (-1)]) (st := []) d_L_law_1041 rfl cvL_205 ⟨Nat.le_of_ble_eq_true rfl, Nat.le_of_ble_eq_true rfl⟩ rfl rfl (Nat.le_of_ble_eq_true rfl) (Nat.le_of_ble_eq_true rfl) e568 (fun x571 M569 e570 => (aw_iconst d_L_law_1044 rfl
(have z572 := e570.1; have e573 := e570.2; aw_icmp_ne d_L_law_1045 rfl rfl z572 (by decide) (fun c574 => have e576 := e573.1 c574; e576) (fun c575 => have e577 := e573.2 c575; (aw_iconst d_L_law_1048 rfl
(aw_goto d_L_law_1049 rfl
(aw_istore (lv' := [(4, zi 1), (0, zr 60 0), (1, zr 8 0), (2, zr 64 r2), (3, zq 64 v3), (5, zi v5), (6, zi v6), (7, zr 64 r7), (12, zi v12), (13, zi v13)]) d_L_law_1053 rfl (by decide) rfl
(aw_sub [1, 2, 3, 4, 0, 5, 6, 7, 8, 9] rfl e577))))))))))))))) (fun c560 => have e562 := e558.2 c560; (aw_aload_n d_L_law_1027 rfl rfl 2 rfl (by decide)
(aw_getI (kc := 2) d_L_law_1028 rfl flL_71 rfl rfl
(aw_goto d_L_law_1031 rfl
(have z578 := e562.1; have z579 := e562.2.1; have e580 := e562.2.2; aw_icmp_ne d_L_law_1036 rfl rfl z578 z579 (fun c581 => have e583 := e580.1 c581; e583) (fun c582 => have e584 := e580.2 c582; (aw_aload_n d_L_law_1039 rfl rfl 1 rfl (by decide)
(aw_iconst d_L_law_1040 rfl
(aw_VI (As := [zi (-1)]) (st := []) d_L_law_1041 rfl cvL_205 ⟨Nat.le_of_ble_eq_true rfl, Nat.le_of_ble_eq_true rfl⟩ rfl rfl (Nat.le_of_ble_eq_true rfl) (Nat.le_of_ble_eq_true rfl) e584 (fun x587 M585 e586 => (aw_iconst d_L_law_1044 rfl
(have z588 := e586.1; have e589 := e586.2; aw_icmp_ne d_L_law_1045 rfl rfl z588 (by decide) (fun c590 => have e592 := e589.1 c590; e592) (fun c591 => have e593 := e589.2 c591; (aw_iconst d_L_law_1048 rfl
(aw_goto d_L_law_1049 rfl
(aw_istore (lv' := [(4, zi 1), (0, zr 60 0), (1, zr 8 0), (2, zr 64 r2), (3, zq 64 v3), (5, zi v5), (6, zi v6), (7, zr 64 r7), (12, zi v12), (13, zi v13)]) d_L_law_1053 rfl (by decide) rfl
(aw_sub [1, 2, 3, 4, 0, 5, 6, 7, 8, 9] rfl e593)))))))))))))))))))))))
theorem vL_law_1089 {l : Launch} {P : lwG} {c n : Nat} {r2 : Nat} {v3 : Int} {v5 : Int} {v6 : Int} {r7 : Nat} {v12 : Int} {v13 : Int} {M : zM}
    (H0 : (CI l m_X8_close [zr 8 0, zi (Int.tmod (zushr v6 8) 2)] M (fun x596 M594 => (zI x596 ∧ zI v13 ∧ ((x596 ≠ v13 → LL_law_1109 l P c n r2 v3 v5 v6 r7 v12 M594) ∧ (x596 = v13 → LL_law_1112 l P c n r2 v3 1 v5 v6 r7 v12 M594)))))) :
    LL_law_1089 l P c n r2 v3 v5 v6 r7 v12 v13 M :=
(aw_aload_n d_L_law_1089 rfl rfl 1 rfl (by decide)
(aw_iload d_L_law_1090 rfl 5 rfl
(aw_bipush d_L_law_1092 rfl (by decide)
(aw_iushr d_L_law_1094 rfl zushr_h
(aw_iconst d_L_law_1095 rfl
(aw_irem d_L_law_1096 rfl zI_ushr (by decide) (by decide)
(aw_VI (As := [zi (Int.tmod (zushr v6 8) 2)]) (st := []) d_L_law_1097 rfl cvL_158 ⟨Nat.le_of_ble_eq_true rfl, Nat.le_of_ble_eq_true rfl⟩ rfl rfl (Nat.le_of_ble_eq_true rfl) (Nat.le_of_ble_eq_true rfl) H0 (fun x596 M594 e595 => (aw_iload d_L_law_1100 rfl 8 rfl
(have z597 := e595.1; have z598 := e595.2.1; have e599 := e595.2.2; aw_icmp_ne d_L_law_1102 rfl rfl z597 z598 (fun c600 => have e602 := e599.1 c600; (aw_sub [0, 1, 2, 3, 4, 5, 6, 7] rfl e602)) (fun c601 => have e603 := e599.2 c601; (aw_iconst d_L_law_1105 rfl
(aw_goto d_L_law_1106 rfl
(aw_istore (lv' := [(4, zi 1), (0, zr 60 0), (1, zr 8 0), (2, zr 64 r2), (3, zq 64 v3), (5, zi v5), (6, zi v6), (7, zr 64 r7), (12, zi v12), (13, zi v13)]) d_L_law_1110 rfl (by decide) rfl
(aw_sub [1, 2, 3, 4, 0, 5, 6, 7, 8] rfl e603)))))))))))))))
theorem vL_law_1132 {l : Launch} {P : lwG} {c n : Nat} {r2 : Nat} {v5 : Int} {v6 : Int} {r7 : Nat} {v12 : Int} {M : zM}
    (H0 : (CI l m_X8_keep [zr 8 0, zi 0] M (fun x606 M604 => (zI x606 ∧ zI (M604 64 r2 0) ∧ ((x606 ≠ (M604 64 r2 0) → LL_law_1148 l P c n r2 v5 v6 r7 v12 M604) ∧ (x606 = (M604 64 r2 0) → LL_law_1151 l P c n r2 1 v5 v6 r7 v12 M604)))))) :
    LL_law_1132 l P c n r2 v5 v6 r7 v12 M :=
(aw_aload_n d_L_law_1132 rfl rfl 1 rfl (by decide)
(aw_iconst d_L_law_1133 rfl
(aw_VI (As := [zi 0]) (st := []) d_L_law_1134 rfl cvL_155 ⟨Nat.le_of_ble_eq_true rfl, Nat.le_of_ble_eq_true rfl⟩ rfl rfl (Nat.le_of_ble_eq_true rfl) (Nat.le_of_ble_eq_true rfl) H0 (fun x606 M604 e605 => (aw_aload_n d_L_law_1137 rfl rfl 2 rfl (by decide)
(aw_getI (kc := 0) d_L_law_1138 rfl flL_80 rfl rfl
(have z607 := e605.1; have z608 := e605.2.1; have e609 := e605.2.2; aw_icmp_ne d_L_law_1141 rfl rfl z607 z608 (fun c610 => have e612 := e609.1 c610; e612) (fun c611 => have e613 := e609.2 c611; (aw_iconst d_L_law_1144 rfl
(aw_goto d_L_law_1145 rfl
(aw_istore (lv' := [(4, zi 1), (0, zr 60 0), (1, zr 8 0), (2, zr 64 r2), (5, zi v5), (6, zi v6), (7, zr 64 r7), (12, zi v12)]) d_L_law_1149 rfl (by decide) rfl
(aw_sub [1, 2, 3, 0, 4, 5, 6, 7] rfl e613))))))))))))
theorem vL_law_1159 {l : Launch} {P : lwG} {c n : Nat} {r3 : Nat} {v5 : Int} {v6 : Int} {r7 : Nat} {v12 : Int} {M : zM}
    (H0 : (CI l m_X8_back [zr 8 0, zi 0] M (fun x616 M614 => (zI x616 ∧ zI (M614 64 r3 0) ∧ ((x616 ≠ (M614 64 r3 0) → LL_law_1183 l P c n r3 v5 v6 r7 v12 M614) ∧ (x616 = (M614 64 r3 0) → (CI l m_X8_count [zr 8 0, zi 4] M614 (fun x626 M624 => (zI x626 ∧ ((x626 ≠ 0 → LL_law_1183 l P c n r3 v5 v6 r7 v12 M624) ∧ (x626 = 0 → LL_law_1186 l P c n r3 1 v5 v6 r7 v12 M624))))))))))) :
    LL_law_1159 l P c n r3 v5 v6 r7 v12 M :=
(aw_aload_n d_L_law_1159 rfl rfl 1 rfl (by decide)
(aw_iconst d_L_law_1160 rfl
(aw_VI (As := [zi 0]) (st := []) d_L_law_1161 rfl cvL_152 ⟨Nat.le_of_ble_eq_true rfl, Nat.le_of_ble_eq_true rfl⟩ rfl rfl (Nat.le_of_ble_eq_true rfl) (Nat.le_of_ble_eq_true rfl) H0 (fun x616 M614 e615 => (aw_aload_n d_L_law_1164 rfl rfl 2 rfl (by decide)
(aw_getI (kc := 0) d_L_law_1165 rfl flL_80 rfl rfl
(have z617 := e615.1; have z618 := e615.2.1; have e619 := e615.2.2; aw_icmp_ne d_L_law_1168 rfl rfl z617 z618 (fun c620 => have e622 := e619.1 c620; e622) (fun c621 => have e623 := e619.2 c621; (aw_aload_n d_L_law_1171 rfl rfl 1 rfl (by decide)
(aw_iconst d_L_law_1172 rfl
(aw_VI (As := [zi 4]) (st := []) d_L_law_1173 rfl cvL_83 ⟨Nat.le_of_ble_eq_true rfl, Nat.le_of_ble_eq_true rfl⟩ rfl rfl (Nat.le_of_ble_eq_true rfl) (Nat.le_of_ble_eq_true rfl) e623 (fun x626 M624 e625 => (have z627 := e625.1; have e628 := e625.2; aw_if_ne d_L_law_1176 rfl rfl z627 (fun c629 => have e631 := e628.1 c629; e631) (fun c630 => have e632 := e628.2 c630; (aw_iconst d_L_law_1179 rfl
(aw_goto d_L_law_1180 rfl
(aw_istore (lv' := [(4, zi 1), (0, zr 60 0), (1, zr 8 0), (3, zr 64 r3), (5, zi v5), (6, zi v6), (7, zr 64 r7), (12, zi v12)]) d_L_law_1184 rfl (by decide) rfl
(aw_sub [1, 2, 3, 0, 4, 5, 6, 7] rfl e632))))))))))))))))))
theorem vL_law_1191 {l : Launch} {P : lwG} {c n : Nat} {r2 : Nat} {v3 : Int} {v4 : Int} {v5 : Int} {v6 : Int} {r7 : Nat} {v12 : Int} {M : zM}
    (H0 : (zI v4 ∧ ((v4 = 0 → LL_law_1208 l P c n r2 v3 v5 v6 r7 v12 M) ∧ (v4 ≠ 0 → (((c + 4) ≤ 668211 ∧ (n + 808) ≤ 7097614) ∧ (CIn l m_L_same 4 808 [zr 8 0, zr 64 r2] M (fun x643 M640 => (zI x643 ∧ ((x643 = 0 → LL_law_1208 l P (c + 4) (n + 808) r2 v3 v5 v6 r7 v12 M640) ∧ (x643 ≠ 0 → LL_law_1211 l P (c + 4) (n + 808) r2 v3 1 v5 v6 r7 v12 M640)))))))))) :
    LL_law_1191 l P c n r2 v3 v4 v5 v6 r7 v12 M :=
(aw_iload d_L_law_1191 rfl 4 rfl
(have z633 := H0.1; have e634 := H0.2; aw_if_eq d_L_law_1193 rfl rfl z633 (fun c635 => have e637 := e634.1 c635; (aw_sub [0, 1, 2, 3, 5, 6, 7, 8] rfl e637)) (fun c636 => have e638 := e634.2 c636; (aw_aload_n d_L_law_1196 rfl rfl 1 rfl (by decide)
(aw_aload_n d_L_law_1197 rfl rfl 2 rfl (by decide)
(have z639 := e638.1; have e641 := e638.2; aw_SIn (As := [zr 8 0, zr 64 r2]) (st := []) d_L_law_1198 rfl csL_145 ⟨Nat.le_of_ble_eq_true rfl, Nat.le_of_ble_eq_true rfl⟩ z639 rfl rfl (Nat.le_of_ble_eq_true rfl) (Nat.le_of_ble_eq_true rfl) e641 (fun x643 M640 e642 => (have z644 := e642.1; have e645 := e642.2; aw_if_eq d_L_law_1201 rfl rfl z644 (fun c646 => have e648 := e645.1 c646; (aw_sub [0, 1, 2, 3, 5, 6, 7, 8] rfl e648)) (fun c647 => have e649 := e645.2 c647; (aw_iconst d_L_law_1204 rfl
(aw_goto d_L_law_1205 rfl
(aw_istore (lv' := [(4, zi 1), (0, zr 60 0), (1, zr 8 0), (2, zr 64 r2), (3, zq 64 v3), (5, zi v5), (6, zi v6), (7, zr 64 r7), (12, zi v12)]) d_L_law_1209 rfl (by decide) rfl
(aw_sub [1, 2, 3, 4, 0, 5, 6, 7, 8] rfl e649)))))))))))))
theorem vL_law_393 {l : Launch} {P : lwG} {c n : Nat} {r2 : Nat} {v3 : Int} {v5 : Int} {v6 : Int} {r7 : Nat} {v12 : Int} {M : zM}
    (H0 : LL_law_396 l P c n r2 v3 0 v5 v6 r7 v12 M) :
    LL_law_393 l P c n r2 v3 v5 v6 r7 v12 M :=
(aw_iconst d_L_law_393 rfl
(aw_istore (lv' := [(4, zi 0), (0, zr 60 0), (1, zr 8 0), (2, zr 64 r2), (3, zq 64 v3), (5, zi v5), (6, zi v6), (7, zr 64 r7), (12, zi v12)]) d_L_law_394 rfl (by decide) rfl
(aw_sub [1, 2, 3, 4, 0, 5, 6, 7, 8] rfl H0)))
theorem vL_law_396 {l : Launch} {P : lwG} {c n : Nat} {r2 : Nat} {v3 : Int} {v4 : Int} {v5 : Int} {v6 : Int} {r7 : Nat} {v12 : Int} {M : zM}
    (H0 : (zI v12 ∧ ((v12 = 0 → LL_law_1191 l P c n r2 v3 v4 v5 v6 r7 v12 M) ∧ (v12 ≠ 0 → (((zand (zushr v6 8) 1) ≠ 1 → (((c + 1) ≤ 668211 ∧ (n + 0) ≤ 7097614) ∧ ∀ n660 : Nat, (n660 : Int) = M 97 0 75 → ∀ M663 : zM, M663 = zmk M 75 n660 0 → (CV l m_X9_comes [zr 64 r2, zi 0, zi (Int.tmod (zushr v6 9) 4), zr 75 n660] M663 (fun M664 => LL_law_1191 l P (c + 1) (n + 0) r2 v3 v4 v5 v6 r7 v12 M664)))) ∧ ((zand (zushr v6 8) 1) = 1 → (((c + 1) ≤ 668211 ∧ (n + 0) ≤ 7097614) ∧ ∀ n666 : Nat, (n666 : Int) = M 97 0 75 → ∀ M669 : zM, M669 = zmk M 75 n666 0 → (CV l m_X9_comes [zr 64 r2, zi 1, zi (Int.tmod (zushr v6 9) 4), zr 75 n666] M669 (fun M670 => LL_law_1191 l P (c + 1) (n + 0) r2 v3 v4 v5 v6 r7 v12 M670))))))))) :
    LL_law_396 l P c n r2 v3 v4 v5 v6 r7 v12 M :=
(aw_iload d_L_law_396 rfl 8 rfl
(have z650 := H0.1; have e651 := H0.2; aw_if_eq d_L_law_398 rfl rfl z650 (fun c652 => have e654 := e651.1 c652; e654) (fun c653 => have e655 := e651.2 c653; (aw_aload_n d_L_law_401 rfl rfl 2 rfl (by decide)
(aw_iload d_L_law_402 rfl 6 rfl
(aw_bipush d_L_law_404 rfl (by decide)
(aw_iushr d_L_law_406 rfl zushr_h
(aw_iconst d_L_law_407 rfl
(aw_iand d_L_law_408 rfl zand_h
(aw_iconst d_L_law_409 rfl
(aw_icmp_ne d_L_law_410 rfl rfl zI_and (by decide) (fun c656 => have e658 := e655.1 c656; (aw_iconst d_L_law_417 rfl
(aw_iload d_L_law_418 rfl 6 rfl
(aw_bipush d_L_law_420 rfl (by decide)
(aw_iushr d_L_law_422 rfl zushr_h
(aw_iconst d_L_law_423 rfl
(aw_irem d_L_law_424 rfl zI_ushr (by decide) (by decide)
(aw_iconst d_L_law_425 rfl
(have z661 := e658.1; aw_newa (k := 75) d_L_law_426 rfl zd75 (Or.inl ⟨rfl, rfl⟩) ac_int (by decide) (Or.inl rfl) z661
(fun n660 hqn660 => (aw_nm fun M663 hqM663 => have e662 := e658.2 n660 hqn660 M663 hqM663; (aw_VV (As := [zi 0, zi (Int.tmod (zushr v6 9) 4), zr 75 n660]) (st := []) d_L_law_428 rfl cvL_180 ⟨Nat.le_of_ble_eq_true rfl, Nat.le_of_ble_eq_true rfl⟩ rfl rfl (Nat.le_of_ble_eq_true rfl) (Nat.le_of_ble_eq_true rfl) e662 (fun M664 e665 => (aw_goto d_L_law_431 rfl
e665)))))))))))))) (fun c657 => have e659 := e655.2 c657; (aw_iconst d_L_law_413 rfl
(aw_goto d_L_law_414 rfl
(aw_iload d_L_law_418 rfl 6 rfl
(aw_bipush d_L_law_420 rfl (by decide)
(aw_iushr d_L_law_422 rfl zushr_h
(aw_iconst d_L_law_423 rfl
(aw_irem d_L_law_424 rfl zI_ushr (by decide) (by decide)
(aw_iconst d_L_law_425 rfl
(have z667 := e659.1; aw_newa (k := 75) d_L_law_426 rfl zd75 (Or.inl ⟨rfl, rfl⟩) ac_int (by decide) (Or.inl rfl) z667
(fun n666 hqn666 => (aw_nm fun M669 hqM669 => have e668 := e659.2 n666 hqn666 M669 hqM669; (aw_VV (As := [zi 1, zi (Int.tmod (zushr v6 9) 4), zr 75 n666]) (st := []) d_L_law_428 rfl cvL_180 ⟨Nat.le_of_ble_eq_true rfl, Nat.le_of_ble_eq_true rfl⟩ rfl rfl (Nat.le_of_ble_eq_true rfl) (Nat.le_of_ble_eq_true rfl) e668 (fun M670 e671 => (aw_goto d_L_law_431 rfl
e671))))))))))))))))))))))))))
theorem vL_law_550 {l : Launch} {P : lwG} {c n : Nat} {r2 : Nat} {v3 : Int} {v5 : Int} {v6 : Int} {r7 : Nat} {v8 : Int} {v10 : Int} {v11 : Int} {v12 : Int} {v13 : Int} {M : zM}
    (H0 : LL_law_553 l P c n r2 v3 0 v5 v6 r7 v8 v10 v11 v12 v13 M) :
    LL_law_550 l P c n r2 v3 v5 v6 r7 v8 v10 v11 v12 v13 M :=
(aw_iconst d_L_law_550 rfl
(aw_istore (lv' := [(4, zi 0), (0, zr 60 0), (1, zr 8 0), (2, zr 64 r2), (3, zq 64 v3), (5, zi v5), (6, zi v6), (7, zr 64 r7), (8, zi v8), (10, zi v10), (11, zi v11), (12, zi v12), (13, zi v13)]) d_L_law_551 rfl (by decide) rfl
(aw_sub [1, 2, 3, 4, 0, 5, 6, 7, 8, 9, 10, 11, 12] rfl H0)))
theorem vL_law_553 {l : Launch} {P : lwG} {c n : Nat} {r2 : Nat} {v3 : Int} {v4 : Int} {v5 : Int} {v6 : Int} {r7 : Nat} {v8 : Int} {v10 : Int} {v11 : Int} {v12 : Int} {v13 : Int} {M : zM}
    (H0 : (zI v13 ∧ ((v13 ≠ 0 → ((0 ≤ (v10 + 1) ∧ (v10 + 1) ≤ 1000000) ∧ ((c + 1) ≤ 668211 ∧ (n + (v10 + 1).toNat) ≤ 7097614) ∧ ∀ n678 : Nat, (n678 : Int) = M 97 0 75 → ∀ M682 : zM, M682 = zmk M 75 n678 (v10 + 1) → ((0 ≤ M682 64 r2 11 ∧ M682 64 r2 11 < M682 97 0 74) ∧ ∀ r684 : Nat, (r684 : Int) = M682 64 r2 11 → ((0 ≤ v8 ∧ v8 < 21) ∧ (0 ≤ M682 74 r684 v8 ∧ M682 74 r684 v8 < M682 97 0 75) ∧ ∀ r688 : Nat, (r688 : Int) = M682 74 r684 v8 → (((0 : Int) ≤ v10 ∧ (0 : Int) ≤ 0 ∧ (0 : Int) ≤ 0 ∧ (0 : Int) + v10 ≤ (zln M682 75 r688 : Nat) ∧ (0 : Int) + v10 ≤ (zln M682 75 n678 : Nat)) ∧ zln M682 75 r688 ≤ 1000000 ∧ zln M682 75 n678 ≤ 1000000 ∧ ∀ M694 : zM, M694 = zcq M682 75 r688 0 75 n678 0 v10 → ((0 ≤ v10 ∧ v10 < M694 75 n678 (-1) ∧ M694 75 n678 (-1) ≤ 1000000) ∧ ∀ M697 : zM, M697 = zu M694 75 n678 v10 v11 → ((0 ≤ M697 64 r2 11 ∧ M697 64 r2 11 < M697 97 0 74) ∧ ∀ r699 : Nat, (r699 : Int) = M697 64 r2 11 → (∀ M702 : zM, M702 = zu M697 74 r699 v8 (n678 : Int) → LL_law_1191 l P (c + 1) (n + (v10 + 1).toNat) r2 v3 v4 v5 v6 r7 v12 M702)))))))) ∧ (v13 = 0 → LL_law_1191 l P c n r2 v3 v4 v5 v6 r7 v12 M)))) :
    LL_law_553 l P c n r2 v3 v4 v5 v6 r7 v8 v10 v11 v12 v13 M :=
(aw_iload d_L_law_553 rfl 12 rfl
(have z672 := H0.1; have e673 := H0.2; aw_if_ne d_L_law_555 rfl rfl z672 (fun c674 => have e676 := e673.1 c674; (aw_iload d_L_law_561 rfl 9 rfl
(aw_iconst d_L_law_563 rfl
(aw_iadd d_L_law_564 rfl
(have z679 := e676.1; have z680 := e676.2.1; aw_newa (k := 75) d_L_law_565 rfl zd75 (Or.inl ⟨rfl, rfl⟩) ac_int z679 (Or.inl rfl) z680
(fun n678 hqn678 => (aw_nm fun M682 hqM682 => have e681 := e676.2.2 n678 hqn678 M682 hqM682; (aw_astore (lv' := [(14, zr 75 n678), (0, zr 60 0), (1, zr 8 0), (2, zr 64 r2), (3, zq 64 v3), (4, zi v4), (5, zi v5), (6, zi v6), (7, zr 64 r7), (8, zi v8), (10, zi v10), (11, zi v11), (12, zi v12), (13, zi v13)]) (by decide) d_L_law_567 rfl (by decide) rfl
(aw_aload_n d_L_law_569 rfl rfl 3 rfl (by decide)
(have z683 := e681.1; aw_getE (kc := 11) d_L_law_570 rfl flL_64 rfl rfl (by decide) z683
(fun r684 hqr684 => (have e685 := e681.2 r684 hqr684; (aw_iload d_L_law_573 rfl 9 rfl
(have z686 := e685.1; have z687 := e685.2.1; aw_rale d_L_law_575 rfl zd74.G (by decide) (zix_s z686) z687
(fun r688 hqr688 => (have e689 := e685.2.2 r688 hqr688; (aw_iconst d_L_law_576 rfl
(aw_aload d_L_law_577 rfl 0 rfl (by decide)
(aw_iconst d_L_law_579 rfl
(aw_iload d_L_law_580 rfl 10 rfl
(have z690 := e689.1; have z691 := e689.2.1; have z692 := e689.2.2.1; aw_copyG d_L_law_582 rfl cmL_132 ⟨Nat.le_of_ble_eq_true rfl, Nat.le_of_ble_eq_true rfl⟩ (by decide : 0 < 3) zd75.G zd75.G z690 z691 z692 (fun _ _ _ => Or.inl rfl)
(aw_nm fun M694 hqM694 => have e693 := e689.2.2.2 M694 hqM694; (aw_aload d_L_law_585 rfl 0 rfl (by decide)
(aw_iload d_L_law_587 rfl 10 rfl
(aw_iload d_L_law_589 rfl 11 rfl
(have z695 := e693.1; aw_iastG d_L_law_591 rfl zd75.G (zix_d rfl z695)
(aw_nm fun M697 hqM697 => have e696 := e693.2 M697 hqM697; (aw_aload_n d_L_law_592 rfl rfl 3 rfl (by decide)
(have z698 := e696.1; aw_getE (kc := 11) d_L_law_593 rfl flL_64 rfl rfl (by decide) z698
(fun r699 hqr699 => (have e700 := e696.2 r699 hqr699; (aw_iload d_L_law_596 rfl 9 rfl
(aw_aload d_L_law_598 rfl 0 rfl (by decide)
(aw_rast d_L_law_600 rfl zd74.G zd75.G (by decide) (zix_s z686)
(aw_nm fun M702 hqM702 => have e701 := e700 M702 hqM702; (aw_goto d_L_law_601 rfl
(aw_sub [1, 2, 3, 4, 5, 6, 7, 8, 12] rfl e701))))))))))))))))))))))))))))))))))))) (fun c675 => have e677 := e673.2 c675; (aw_goto d_L_law_558 rfl
(aw_sub [0, 1, 2, 3, 4, 5, 6, 7, 11] rfl e677)))))
theorem vL_law_659 {l : Launch} {P : lwG} {c n : Nat} {r2 : Nat} {v3 : Int} {v5 : Int} {v6 : Int} {r7 : Nat} {v8 : Int} {v10 : Int} {v11 : Int} {v13 : Int} {v14 : Int} {v15 : Int} {M : zM}
    (H0 : (zI v14 ∧ ((v14 = 0 → LL_law_741 l P c n r2 v3 v5 v6 r7 v8 v11 v13 v14 v15 M) ∧ (v14 ≠ 0 → (zI v15 ∧ ((v15 ≠ 0 → LL_law_741 l P c n r2 v3 v5 v6 r7 v8 v11 v13 v14 v15 M) ∧ (v15 = 0 → (zI v13 ∧ ((v13 = 0 → (zI (v13 + 1) ∧ zI v10 ∧ (((v13 + 1) = v10 → LL_law_744 l P c n r2 v3 v5 v6 r7 v8 v11 1 v13 v14 v15 M) ∧ ((v13 + 1) ≠ v10 → ((0 ≤ M 64 r2 7 ∧ M 64 r2 7 < M 97 0 70) ∧ ∀ r729 : Nat, (r729 : Int) = M 64 r2 7 → ((0 ≤ v8 ∧ v8 < 21) ∧ ((0 ≤ M 64 r2 11 ∧ M 64 r2 11 < M 97 0 74) ∧ ∀ r734 : Nat, (r734 : Int) = M 64 r2 11 → ((0 ≤ M 74 r734 v8 ∧ M 74 r734 v8 < M 97 0 75) ∧ ∀ r737 : Nat, (r737 : Int) = M 74 r734 v8 → ((0 ≤ (v13 + 1) ∧ (v13 + 1) < M 75 r737 (-1) ∧ M 75 r737 (-1) ≤ 1000000) ∧ (CI l m_L_goesOn [zi (M 70 r729 v8), zi v11, zi (M 75 r737 (v13 + 1))] M (fun x743 M741 => (zI x743 ∧ ((x743 = 0 → LL_law_741 l P c n r2 v3 v5 v6 r7 v8 v11 v13 v14 v15 M741) ∧ (x743 ≠ 0 → LL_law_744 l P c n r2 v3 v5 v6 r7 v8 v11 1 v13 v14 v15 M741)))))))))))))) ∧ (v13 ≠ 0 → ((0 ≤ M 64 r2 7 ∧ M 64 r2 7 < M 97 0 70) ∧ ∀ r751 : Nat, (r751 : Int) = M 64 r2 7 → ((0 ≤ v8 ∧ v8 < 21) ∧ ((0 ≤ M 64 r2 11 ∧ M 64 r2 11 < M 97 0 74) ∧ ∀ r756 : Nat, (r756 : Int) = M 64 r2 11 → ((0 ≤ M 74 r756 v8 ∧ M 74 r756 v8 < M 97 0 75) ∧ ∀ r759 : Nat, (r759 : Int) = M 74 r756 v8 → ((0 ≤ (v13 - 1) ∧ (v13 - 1) < M 75 r759 (-1) ∧ M 75 r759 (-1) ≤ 1000000) ∧ (CI l m_L_goesOn [zi (M 70 r751 v8), zi (M 75 r759 (v13 - 1)), zi v11] M (fun x765 M763 => (zI x765 ∧ ((x765 = 0 → LL_law_741 l P c n r2 v3 v5 v6 r7 v8 v11 v13 v14 v15 M763) ∧ (x765 ≠ 0 → (zI (v13 + 1) ∧ zI v10 ∧ (((v13 + 1) = v10 → LL_law_744 l P c n r2 v3 v5 v6 r7 v8 v11 1 v13 v14 v15 M763) ∧ ((v13 + 1) ≠ v10 → ((0 ≤ M763 64 r2 7 ∧ M763 64 r2 7 < M763 97 0 70) ∧ ∀ r780 : Nat, (r780 : Int) = M763 64 r2 7 → ((0 ≤ M763 64 r2 11 ∧ M763 64 r2 11 < M763 97 0 74) ∧ ∀ r783 : Nat, (r783 : Int) = M763 64 r2 11 → ((0 ≤ M763 74 r783 v8 ∧ M763 74 r783 v8 < M763 97 0 75) ∧ ∀ r786 : Nat, (r786 : Int) = M763 74 r783 v8 → ((0 ≤ (v13 + 1) ∧ (v13 + 1) < M763 75 r786 (-1) ∧ M763 75 r786 (-1) ≤ 1000000) ∧ (CI l m_L_goesOn [zi (M763 70 r780 v8), zi v11, zi (M763 75 r786 (v13 + 1))] M763 (fun x792 M790 => (zI x792 ∧ ((x792 = 0 → LL_law_741 l P c n r2 v3 v5 v6 r7 v8 v11 v13 v14 v15 M790) ∧ (x792 ≠ 0 → LL_law_744 l P c n r2 v3 v5 v6 r7 v8 v11 1 v13 v14 v15 M790)))))))))))))))))))))))))))))))) :
    LL_law_659 l P c n r2 v3 v5 v6 r7 v8 v10 v11 v13 v14 v15 M :=
(aw_iload d_L_law_659 rfl 11 rfl
(have z703 := H0.1; have e704 := H0.2; aw_if_eq d_L_law_661 rfl rfl z703 (fun c705 => have e707 := e704.1 c705; (aw_sub [0, 1, 2, 3, 4, 5, 6, 7, 9, 10, 11, 12] rfl e707)) (fun c706 => have e708 := e704.2 c706; (aw_iload d_L_law_664 rfl 12 rfl
(have z709 := e708.1; have e710 := e708.2; aw_if_ne d_L_law_666 rfl rfl z709 (fun c711 => have e713 := e710.1 c711; (aw_sub [0, 1, 2, 3, 4, 5, 6, 7, 9, 10, 11, 12] rfl e713)) (fun c712 => have e714 := e710.2 c712; (aw_iload d_L_law_669 rfl 10 rfl
(have z715 := e714.1; have e716 := e714.2; aw_if_eq d_L_law_671 rfl rfl z715 (fun c717 => have e719 := e716.1 c717; (aw_iload d_L_law_701 rfl 10 rfl
(aw_iconst d_L_law_703 rfl
(aw_iadd d_L_law_704 rfl
(aw_iload d_L_law_705 rfl 8 rfl
(have z721 := e719.1; have z722 := e719.2.1; have e723 := e719.2.2; aw_icmp_eq d_L_law_707 rfl rfl z721 z722 (fun c724 => have e726 := e723.1 c724; (aw_iconst d_L_law_737 rfl
(aw_goto d_L_law_738 rfl
(aw_istore (lv' := [(12, zi 1), (0, zr 60 0), (1, zr 8 0), (2, zr 64 r2), (3, zq 64 v3), (5, zi v5), (6, zi v6), (7, zr 64 r7), (8, zi v8), (10, zi v10), (11, zi v11), (13, zi v13), (14, zi v14), (15, zi v15)]) d_L_law_742 rfl (by decide) rfl
(aw_sub [1, 2, 3, 4, 5, 6, 7, 8, 10, 0, 11, 12, 13] rfl e726))))) (fun c725 => have e727 := e723.2 c725; (aw_aload_n d_L_law_710 rfl rfl 2 rfl (by decide)
(have z728 := e727.1; aw_getE (kc := 7) d_L_law_711 rfl flL_50 rfl rfl (by decide) z728
(fun r729 hqr729 => (have e730 := e727.2 r729 hqr729; (aw_iload d_L_law_714 rfl 7 rfl
(have z731 := e730.1; aw_zaldG d_L_law_716 rfl zd70.G (zix_s z731)
(have e732 := e730.2; (aw_iload d_L_law_717 rfl 9 rfl
(aw_aload_n d_L_law_719 rfl rfl 2 rfl (by decide)
(have z733 := e732.1; aw_getE (kc := 11) d_L_law_720 rfl flL_64 rfl rfl (by decide) z733
(fun r734 hqr734 => (have e735 := e732.2 r734 hqr734; (aw_iload d_L_law_723 rfl 7 rfl
(have z736 := e735.1; aw_rale d_L_law_725 rfl zd74.G (by decide) (zix_s z731) z736
(fun r737 hqr737 => (have e738 := e735.2 r737 hqr737; (aw_iload d_L_law_726 rfl 10 rfl
(aw_iconst d_L_law_728 rfl
(aw_iadd d_L_law_729 rfl
(have z739 := e738.1; aw_ialdG d_L_law_730 rfl zd75.G (zix_d rfl z739)
(have e740 := e738.2; (aw_SI (As := [zi (M 70 r729 v8), zi v11, zi (M 75 r737 (v13 + 1))]) (st := []) d_L_law_731 rfl csL_184 ⟨Nat.le_of_ble_eq_true rfl, Nat.le_of_ble_eq_true rfl⟩ rfl rfl (Nat.le_of_ble_eq_true rfl) (Nat.le_of_ble_eq_true rfl) e740 (fun x743 M741 e742 => (have z744 := e742.1; have e745 := e742.2; aw_if_eq d_L_law_734 rfl rfl z744 (fun c746 => have e748 := e745.1 c746; (aw_sub [0, 1, 2, 3, 4, 5, 6, 7, 9, 10, 11, 12] rfl e748)) (fun c747 => have e749 := e745.2 c747; (aw_iconst d_L_law_737 rfl
(aw_goto d_L_law_738 rfl
(aw_istore (lv' := [(12, zi 1), (0, zr 60 0), (1, zr 8 0), (2, zr 64 r2), (3, zq 64 v3), (5, zi v5), (6, zi v6), (7, zr 64 r7), (8, zi v8), (10, zi v10), (11, zi v11), (13, zi v13), (14, zi v14), (15, zi v15)]) d_L_law_742 rfl (by decide) rfl
(aw_sub [1, 2, 3, 4, 5, 6, 7, 8, 10, 0, 11, 12, 13] rfl e749)))))))))))))))))))))))))))))))))))) (fun c718 => have e720 := e716.2 c718; (aw_aload_n d_L_law_674 rfl rfl 2 rfl (by decide)
(have z750 := e720.1; aw_getE (kc := 7) d_L_law_675 rfl flL_50 rfl rfl (by decide) z750
(fun r751 hqr751 => (have e752 := e720.2 r751 hqr751; (aw_iload d_L_law_678 rfl 7 rfl
(have z753 := e752.1; aw_zaldG d_L_law_680 rfl zd70.G (zix_s z753)
(have e754 := e752.2; (aw_aload_n d_L_law_681 rfl rfl 2 rfl (by decide)
(have z755 := e754.1; aw_getE (kc := 11) d_L_law_682 rfl flL_64 rfl rfl (by decide) z755
(fun r756 hqr756 => (have e757 := e754.2 r756 hqr756; (aw_iload d_L_law_685 rfl 7 rfl
(have z758 := e757.1; aw_rale d_L_law_687 rfl zd74.G (by decide) (zix_s z753) z758
(fun r759 hqr759 => (have e760 := e757.2 r759 hqr759; (aw_iload d_L_law_688 rfl 10 rfl
(aw_iconst d_L_law_690 rfl
(aw_isub d_L_law_691 rfl
(have z761 := e760.1; aw_ialdG d_L_law_692 rfl zd75.G (zix_d rfl z761)
(have e762 := e760.2; (aw_iload d_L_law_693 rfl 9 rfl
(aw_SI (As := [zi (M 70 r751 v8), zi (M 75 r759 (v13 - 1)), zi v11]) (st := []) d_L_law_695 rfl csL_184 ⟨Nat.le_of_ble_eq_true rfl, Nat.le_of_ble_eq_true rfl⟩ rfl rfl (Nat.le_of_ble_eq_true rfl) (Nat.le_of_ble_eq_true rfl) e762 (fun x765 M763 e764 => (have z766 := e764.1; have e767 := e764.2; aw_if_eq d_L_law_698 rfl rfl z766 (fun c768 => have e770 := e767.1 c768; (aw_sub [0, 1, 2, 3, 4, 5, 6, 7, 9, 10, 11, 12] rfl e770)) (fun c769 => have e771 := e767.2 c769; (aw_iload d_L_law_701 rfl 10 rfl
(aw_iconst d_L_law_703 rfl
(aw_iadd d_L_law_704 rfl
(aw_iload d_L_law_705 rfl 8 rfl
(have z772 := e771.1; have z773 := e771.2.1; have e774 := e771.2.2; aw_icmp_eq d_L_law_707 rfl rfl z772 z773 (fun c775 => have e777 := e774.1 c775; (aw_iconst d_L_law_737 rfl
(aw_goto d_L_law_738 rfl
(aw_istore (lv' := [(12, zi 1), (0, zr 60 0), (1, zr 8 0), (2, zr 64 r2), (3, zq 64 v3), (5, zi v5), (6, zi v6), (7, zr 64 r7), (8, zi v8), (10, zi v10), (11, zi v11), (13, zi v13), (14, zi v14), (15, zi v15)]) d_L_law_742 rfl (by decide) rfl
(aw_sub [1, 2, 3, 4, 5, 6, 7, 8, 10, 0, 11, 12, 13] rfl e777))))) (fun c776 => have e778 := e774.2 c776; (aw_aload_n d_L_law_710 rfl rfl 2 rfl (by decide)
(have z779 := e778.1; aw_getE (kc := 7) d_L_law_711 rfl flL_50 rfl rfl (by decide) z779
(fun r780 hqr780 => (have e781 := e778.2 r780 hqr780; (aw_iload d_L_law_714 rfl 7 rfl
(aw_zaldG d_L_law_716 rfl zd70.G (zix_s z753)
(aw_iload d_L_law_717 rfl 9 rfl
(aw_aload_n d_L_law_719 rfl rfl 2 rfl (by decide)
(have z782 := e781.1; aw_getE (kc := 11) d_L_law_720 rfl flL_64 rfl rfl (by decide) z782
(fun r783 hqr783 => (have e784 := e781.2 r783 hqr783; (aw_iload d_L_law_723 rfl 7 rfl
(have z785 := e784.1; aw_rale d_L_law_725 rfl zd74.G (by decide) (zix_s z753) z785
(fun r786 hqr786 => (have e787 := e784.2 r786 hqr786; (aw_iload d_L_law_726 rfl 10 rfl
(aw_iconst d_L_law_728 rfl
(aw_iadd d_L_law_729 rfl
(have z788 := e787.1; aw_ialdG d_L_law_730 rfl zd75.G (zix_d rfl z788)
(have e789 := e787.2; (aw_SI (As := [zi (M763 70 r780 v8), zi v11, zi (M763 75 r786 (v13 + 1))]) (st := []) d_L_law_731 rfl csL_184 ⟨Nat.le_of_ble_eq_true rfl, Nat.le_of_ble_eq_true rfl⟩ rfl rfl (Nat.le_of_ble_eq_true rfl) (Nat.le_of_ble_eq_true rfl) e789 (fun x792 M790 e791 => (have z793 := e791.1; have e794 := e791.2; aw_if_eq d_L_law_734 rfl rfl z793 (fun c795 => have e797 := e794.1 c795; (aw_sub [0, 1, 2, 3, 4, 5, 6, 7, 9, 10, 11, 12] rfl e797)) (fun c796 => have e798 := e794.2 c796; (aw_iconst d_L_law_737 rfl
(aw_goto d_L_law_738 rfl
(aw_istore (lv' := [(12, zi 1), (0, zr 60 0), (1, zr 8 0), (2, zr 64 r2), (3, zq 64 v3), (5, zi v5), (6, zi v6), (7, zr 64 r7), (8, zi v8), (10, zi v10), (11, zi v11), (13, zi v13), (14, zi v14), (15, zi v15)]) d_L_law_742 rfl (by decide) rfl
(aw_sub [1, 2, 3, 4, 5, 6, 7, 8, 10, 0, 11, 12, 13] rfl e798))))))))))))))))))))))))))))))))))))))))))))))))))))))))))))))))))))
theorem vL_law_895 {l : Launch} {P : lwG} {c n : Nat} {r2 : Nat} {v3 : Int} {v5 : Int} {v6 : Int} {r7 : Nat} {v8 : Int} {v12 : Int} {M : zM}
    (H0 : LL_law_898 l P c n r2 v3 0 v5 v6 r7 v8 v12 M) :
    LL_law_895 l P c n r2 v3 v5 v6 r7 v8 v12 M :=
(aw_iconst d_L_law_895 rfl
(aw_istore (lv' := [(4, zi 0), (0, zr 60 0), (1, zr 8 0), (2, zr 64 r2), (3, zq 64 v3), (5, zi v5), (6, zi v6), (7, zr 64 r7), (8, zi v8), (12, zi v12)]) d_L_law_896 rfl (by decide) rfl
(aw_sub [1, 2, 3, 4, 0, 5, 6, 7, 8, 9] rfl H0)))
theorem vL_law_898 {l : Launch} {P : lwG} {c n : Nat} {r2 : Nat} {v3 : Int} {v4 : Int} {v5 : Int} {v6 : Int} {r7 : Nat} {v8 : Int} {v12 : Int} {M : zM}
    (H0 : (zI v12 ∧ ((v12 = 0 → LL_law_1191 l P c n r2 v3 v4 v5 v6 r7 v12 M) ∧ (v12 ≠ 0 → ((0 ≤ M 64 r2 11 ∧ M 64 r2 11 < M 97 0 74) ∧ ∀ r806 : Nat, (r806 : Int) = M 64 r2 11 → (((c + 1) ≤ 668211 ∧ (n + 0) ≤ 7097614) ∧ ∀ n808 : Nat, (n808 : Int) = M 97 0 75 → ∀ M811 : zM, M811 = zmk M 75 n808 0 → ((0 ≤ v8 ∧ v8 < 21) ∧ ∀ M814 : zM, M814 = zu M811 74 r806 v8 (n808 : Int) → LL_law_1191 l P (c + 1) (n + 0) r2 v3 v4 v5 v6 r7 v12 M814))))))) :
    LL_law_898 l P c n r2 v3 v4 v5 v6 r7 v8 v12 M :=
(aw_iload d_L_law_898 rfl 9 rfl
(have z799 := H0.1; have e800 := H0.2; aw_if_eq d_L_law_900 rfl rfl z799 (fun c801 => have e803 := e800.1 c801; (aw_sub [0, 1, 2, 3, 4, 5, 6, 7, 9] rfl e803)) (fun c802 => have e804 := e800.2 c802; (aw_aload_n d_L_law_903 rfl rfl 2 rfl (by decide)
(have z805 := e804.1; aw_getE (kc := 11) d_L_law_904 rfl flL_64 rfl rfl (by decide) z805
(fun r806 hqr806 => (have e807 := e804.2 r806 hqr806; (aw_iload d_L_law_907 rfl 8 rfl
(aw_iconst d_L_law_909 rfl
(have z809 := e807.1; aw_newa (k := 75) d_L_law_910 rfl zd75 (Or.inl ⟨rfl, rfl⟩) ac_int (by decide) (Or.inl rfl) z809
(fun n808 hqn808 => (aw_nm fun M811 hqM811 => have e810 := e807.2 n808 hqn808 M811 hqM811; (have z812 := e810.1; aw_rast d_L_law_912 rfl zd74.G zd75.G (by decide) (zix_s z812)
(aw_nm fun M814 hqM814 => have e813 := e810.2 M814 hqM814; (aw_goto d_L_law_913 rfl
(aw_sub [0, 1, 2, 3, 4, 5, 6, 7, 9] rfl e813))))))))))))))))
theorem vL_law_979 {l : Launch} {P : lwG} {c n : Nat} {r2 : Nat} {v3 : Int} {v5 : Int} {v6 : Int} {r7 : Nat} {v12 : Int} {v13 : Int} {M : zM}
    (H0 : LL_law_982 l P c n r2 v3 0 v5 v6 r7 v12 v13 M) :
    LL_law_979 l P c n r2 v3 v5 v6 r7 v12 v13 M :=
(aw_iconst d_L_law_979 rfl
(aw_istore (lv' := [(4, zi 0), (0, zr 60 0), (1, zr 8 0), (2, zr 64 r2), (3, zq 64 v3), (5, zi v5), (6, zi v6), (7, zr 64 r7), (12, zi v12), (13, zi v13)]) d_L_law_980 rfl (by decide) rfl
(aw_sub [1, 2, 3, 4, 0, 5, 6, 7, 8, 9] rfl H0)))
theorem vL_law_982 {l : Launch} {P : lwG} {c n : Nat} {r2 : Nat} {v3 : Int} {v4 : Int} {v5 : Int} {v6 : Int} {r7 : Nat} {v12 : Int} {v13 : Int} {M : zM}
    (H0 : (∀ M816 : zM, M816 = zu M 64 r2 1 v13 → LL_law_1191 l P c n r2 v3 v4 v5 v6 r7 v12 M816)) :
    LL_law_982 l P c n r2 v3 v4 v5 v6 r7 v12 v13 M :=
(aw_aload_n d_L_law_982 rfl rfl 2 rfl (by decide)
(aw_iload d_L_law_983 rfl 9 rfl
(aw_put (kc := 1) d_L_law_985 rfl fpL_39 rfl rfl rfl rfl
(aw_nm fun M816 hqM816 => have e815 := H0 M816 hqM816; (aw_goto d_L_law_988 rfl
(aw_sub [0, 1, 2, 3, 4, 5, 6, 7, 8] rfl e815))))))
theorem vL_law_1052 {l : Launch} {P : lwG} {c n : Nat} {r2 : Nat} {v3 : Int} {v5 : Int} {v6 : Int} {r7 : Nat} {v12 : Int} {v13 : Int} {M : zM}
    (H0 : LL_law_1055 l P c n r2 v3 0 v5 v6 r7 v12 v13 M) :
    LL_law_1052 l P c n r2 v3 v5 v6 r7 v12 v13 M :=
(aw_iconst d_L_law_1052 rfl
(aw_istore (lv' := [(4, zi 0), (0, zr 60 0), (1, zr 8 0), (2, zr 64 r2), (3, zq 64 v3), (5, zi v5), (6, zi v6), (7, zr 64 r7), (12, zi v12), (13, zi v13)]) d_L_law_1053 rfl (by decide) rfl
(aw_sub [1, 2, 3, 4, 0, 5, 6, 7, 8, 9] rfl H0)))
theorem vL_law_1055 {l : Launch} {P : lwG} {c n : Nat} {r2 : Nat} {v3 : Int} {v4 : Int} {v5 : Int} {v6 : Int} {r7 : Nat} {v12 : Int} {v13 : Int} {M : zM}
    (H0 : (∀ M818 : zM, M818 = zu M 64 r2 2 v13 → LL_law_1191 l P c n r2 v3 v4 v5 v6 r7 v12 M818)) :
    LL_law_1055 l P c n r2 v3 v4 v5 v6 r7 v12 v13 M :=
(aw_aload_n d_L_law_1055 rfl rfl 2 rfl (by decide)
(aw_iload d_L_law_1056 rfl 9 rfl
(aw_put (kc := 2) d_L_law_1058 rfl fpL_71 rfl rfl rfl rfl
(aw_nm fun M818 hqM818 => have e817 := H0 M818 hqM818; (aw_goto d_L_law_1061 rfl
(aw_sub [0, 1, 2, 3, 4, 5, 6, 7, 8] rfl e817))))))
theorem vL_law_1109 {l : Launch} {P : lwG} {c n : Nat} {r2 : Nat} {v3 : Int} {v5 : Int} {v6 : Int} {r7 : Nat} {v12 : Int} {M : zM}
    (H0 : LL_law_1112 l P c n r2 v3 0 v5 v6 r7 v12 M) :
    LL_law_1109 l P c n r2 v3 v5 v6 r7 v12 M :=
(aw_iconst d_L_law_1109 rfl
(aw_istore (lv' := [(4, zi 0), (0, zr 60 0), (1, zr 8 0), (2, zr 64 r2), (3, zq 64 v3), (5, zi v5), (6, zi v6), (7, zr 64 r7), (12, zi v12)]) d_L_law_1110 rfl (by decide) rfl
(aw_sub [1, 2, 3, 4, 0, 5, 6, 7, 8] rfl H0)))
theorem vL_law_1112 {l : Launch} {P : lwG} {c n : Nat} {r2 : Nat} {v3 : Int} {v4 : Int} {v5 : Int} {v6 : Int} {r7 : Nat} {v12 : Int} {M : zM}
    (H0 : LL_law_1191 l P c n r2 v3 v4 v5 v6 r7 v12 M) :
    LL_law_1112 l P c n r2 v3 v4 v5 v6 r7 v12 M :=
(aw_goto d_L_law_1112 rfl
H0)
theorem vL_law_1148 {l : Launch} {P : lwG} {c n : Nat} {r2 : Nat} {v5 : Int} {v6 : Int} {r7 : Nat} {v12 : Int} {M : zM}
    (H0 : LL_law_1151 l P c n r2 0 v5 v6 r7 v12 M) :
    LL_law_1148 l P c n r2 v5 v6 r7 v12 M :=
(aw_iconst d_L_law_1148 rfl
(aw_istore (lv' := [(4, zi 0), (0, zr 60 0), (1, zr 8 0), (2, zr 64 r2), (5, zi v5), (6, zi v6), (7, zr 64 r7), (12, zi v12)]) d_L_law_1149 rfl (by decide) rfl
(aw_sub [1, 2, 3, 0, 4, 5, 6, 7] rfl H0)))
theorem vL_law_1151 {l : Launch} {P : lwG} {c n : Nat} {r2 : Nat} {v4 : Int} {v5 : Int} {v6 : Int} {r7 : Nat} {v12 : Int} {M : zM}
    (H0 : (((c + 7) ≤ 668211 ∧ (n + 138) ≤ 7097614) ∧ (CRn l m_X9_copy 64 7 138 [zr 64 r2] M (fun (x823 : Nat) M820 => LL_law_1191 l P (c + 7) (n + 138) r2 (x823 : Int) v4 v5 v6 r7 v12 M820)))) :
    LL_law_1151 l P c n r2 v4 v5 v6 r7 v12 M :=
(aw_aload_n d_L_law_1151 rfl rfl 2 rfl (by decide)
(have z819 := H0.1; have e821 := H0.2; aw_VRn (As := []) (st := []) d_L_law_1152 rfl cvL_60 ⟨Nat.le_of_ble_eq_true rfl, Nat.le_of_ble_eq_true rfl⟩ z819 rfl rfl (Nat.le_of_ble_eq_true rfl) (Nat.le_of_ble_eq_true rfl) e821 (fun x823 M820 e822 => (aw_astore_n (lv' := [(3, zr 64 x823), (0, zr 60 0), (1, zr 8 0), (2, zr 64 r2), (4, zi v4), (5, zi v5), (6, zi v6), (7, zr 64 r7), (12, zi v12)]) (by decide) d_L_law_1155 rfl rfl (by decide) rfl
(aw_goto d_L_law_1156 rfl
(aw_sub [1, 2, 3, 0, 4, 5, 6, 7, 8] rfl (aw_lveq (lv' := [(0, zr 60 0), (1, zr 8 0), (2, zr 64 r2), (3, zq 64 (x823 : Int)), (4, zi v4), (5, zi v5), (6, zi v6), (7, zr 64 r7), (12, zi v12)]) (by rw [zq_of] <;> rfl) e822)))))))
theorem vL_law_1183 {l : Launch} {P : lwG} {c n : Nat} {r3 : Nat} {v5 : Int} {v6 : Int} {r7 : Nat} {v12 : Int} {M : zM}
    (H0 : LL_law_1186 l P c n r3 0 v5 v6 r7 v12 M) :
    LL_law_1183 l P c n r3 v5 v6 r7 v12 M :=
(aw_iconst d_L_law_1183 rfl
(aw_istore (lv' := [(4, zi 0), (0, zr 60 0), (1, zr 8 0), (3, zr 64 r3), (5, zi v5), (6, zi v6), (7, zr 64 r7), (12, zi v12)]) d_L_law_1184 rfl (by decide) rfl
(aw_sub [1, 2, 3, 0, 4, 5, 6, 7] rfl H0)))
theorem vL_law_1186 {l : Launch} {P : lwG} {c n : Nat} {r3 : Nat} {v4 : Int} {v5 : Int} {v6 : Int} {r7 : Nat} {v12 : Int} {M : zM}
    (H0 : (((c + 7) ≤ 668211 ∧ (n + 138) ≤ 7097614) ∧ (CRn l m_X9_copy 64 7 138 [zr 64 r3] M (fun (x828 : Nat) M825 => LL_law_1191 l P (c + 7) (n + 138) x828 (r3 : Int) v4 v5 v6 r7 v12 M825)))) :
    LL_law_1186 l P c n r3 v4 v5 v6 r7 v12 M :=
(aw_aload_n d_L_law_1186 rfl rfl 2 rfl (by decide)
(have z824 := H0.1; have e826 := H0.2; aw_VRn (As := []) (st := []) d_L_law_1187 rfl cvL_60 ⟨Nat.le_of_ble_eq_true rfl, Nat.le_of_ble_eq_true rfl⟩ z824 rfl rfl (Nat.le_of_ble_eq_true rfl) (Nat.le_of_ble_eq_true rfl) e826 (fun x828 M825 e827 => (aw_astore_n (lv' := [(2, zr 64 x828), (0, zr 60 0), (1, zr 8 0), (3, zr 64 r3), (4, zi v4), (5, zi v5), (6, zi v6), (7, zr 64 r7), (12, zi v12)]) (by decide) d_L_law_1190 rfl rfl (by decide) rfl
(aw_sub [1, 2, 0, 3, 4, 5, 6, 7, 8] rfl (aw_lveq (lv' := [(0, zr 60 0), (1, zr 8 0), (2, zr 64 x828), (3, zq 64 (r3 : Int)), (4, zi v4), (5, zi v5), (6, zi v6), (7, zr 64 r7), (12, zi v12)]) (by rw [zq_of] <;> rfl) e827))))))
theorem vL_law_1208 {l : Launch} {P : lwG} {c n : Nat} {r2 : Nat} {v3 : Int} {v5 : Int} {v6 : Int} {r7 : Nat} {v12 : Int} {M : zM}
    (H0 : LL_law_1211 l P c n r2 v3 0 v5 v6 r7 v12 M) :
    LL_law_1208 l P c n r2 v3 v5 v6 r7 v12 M :=
(aw_iconst d_L_law_1208 rfl
(aw_istore (lv' := [(4, zi 0), (0, zr 60 0), (1, zr 8 0), (2, zr 64 r2), (3, zq 64 v3), (5, zi v5), (6, zi v6), (7, zr 64 r7), (12, zi v12)]) d_L_law_1209 rfl (by decide) rfl
(aw_sub [1, 2, 3, 4, 0, 5, 6, 7, 8] rfl H0)))
theorem vL_law_1211 {l : Launch} {P : lwG} {c n : Nat} {r2 : Nat} {v3 : Int} {v4 : Int} {v5 : Int} {v6 : Int} {r7 : Nat} {v12 : Int} {M : zM}
    (H0 : (zI v12 ∧ ((v12 = 0 → LL_law_1279 l P c n r2 v3 v4 v5 M) ∧ (v12 ≠ 0 → (zI v4 ∧ ((v4 = 0 → LL_law_1279 l P c n r2 v3 v4 v5 M) ∧ (v4 ≠ 0 → (((zand (zushr v6 25) 3) ≠ 0 → LL_law_1279 l P c n r2 v3 v4 v5 M) ∧ ((zand (zushr v6 25) 3) = 0 → LL_law_1231 l P c n v3 v5 r7 M))))))))) :
    LL_law_1211 l P c n r2 v3 v4 v5 v6 r7 v12 M :=
(aw_iload d_L_law_1211 rfl 8 rfl
(have z829 := H0.1; have e830 := H0.2; aw_if_eq d_L_law_1213 rfl rfl z829 (fun c831 => have e833 := e830.1 c831; (aw_sub [0, 1, 2, 3, 4, 5] rfl e833)) (fun c832 => have e834 := e830.2 c832; (aw_iload d_L_law_1216 rfl 4 rfl
(have z835 := e834.1; have e836 := e834.2; aw_if_eq d_L_law_1218 rfl rfl z835 (fun c837 => have e839 := e836.1 c837; (aw_sub [0, 1, 2, 3, 4, 5] rfl e839)) (fun c838 => have e840 := e836.2 c838; (aw_iload d_L_law_1221 rfl 6 rfl
(aw_bipush d_L_law_1223 rfl (by decide)
(aw_iushr d_L_law_1225 rfl zushr_h
(aw_iconst d_L_law_1226 rfl
(aw_iand d_L_law_1227 rfl zand_h
(aw_if_ne d_L_law_1228 rfl rfl zI_and (fun c841 => have e843 := e840.1 c841; (aw_sub [0, 1, 2, 3, 4, 5] rfl e843)) (fun c842 => have e844 := e840.2 c842; (aw_sub [0, 1, 3, 5, 7] rfl e844))))))))))))))
theorem vL_law_741 {l : Launch} {P : lwG} {c n : Nat} {r2 : Nat} {v3 : Int} {v5 : Int} {v6 : Int} {r7 : Nat} {v8 : Int} {v11 : Int} {v13 : Int} {v14 : Int} {v15 : Int} {M : zM}
    (H0 : LL_law_744 l P c n r2 v3 v5 v6 r7 v8 v11 0 v13 v14 v15 M) :
    LL_law_741 l P c n r2 v3 v5 v6 r7 v8 v11 v13 v14 v15 M :=
(aw_iconst d_L_law_741 rfl
(aw_istore (lv' := [(12, zi 0), (0, zr 60 0), (1, zr 8 0), (2, zr 64 r2), (3, zq 64 v3), (5, zi v5), (6, zi v6), (7, zr 64 r7), (8, zi v8), (11, zi v11), (13, zi v13), (14, zi v14), (15, zi v15)]) d_L_law_742 rfl (by decide) rfl
(aw_sub [1, 2, 3, 4, 5, 6, 7, 8, 9, 0, 10, 11, 12] rfl H0)))
theorem vL_law_744 {l : Launch} {P : lwG} {c n : Nat} {r2 : Nat} {v3 : Int} {v5 : Int} {v6 : Int} {r7 : Nat} {v8 : Int} {v11 : Int} {v12 : Int} {v13 : Int} {v14 : Int} {v15 : Int} {M : zM}
    (H0 : (CI l m_X8_say [zr 8 0, zi v8, zi v13, zi v11] M (fun x847 M845 => (zI v14 ∧ ((v14 ≠ 0 → (zI v15 ∧ ((v15 = 0 → (zI v12 ∧ ((v12 = 0 → (zI x847 ∧ ((x847 ≠ (-3) → LL_law_813 l P c n r2 v3 v5 v6 r7 v8 v11 v12 v13 M845) ∧ (x847 = (-3) → (CI l m_X8_say [zr 8 0, zi v8, zi v13, zi (-1)] M845 (fun x874 M872 => (zI x874 ∧ ((x874 ≠ (-1) → LL_law_813 l P c n r2 v3 v5 v6 r7 v8 v11 v12 v13 M872) ∧ (x874 = (-1) → LL_law_816 l P c n r2 v3 1 v5 v6 r7 v8 v11 v12 v13 M872))))))))) ∧ (v12 ≠ 0 → ((0 ≤ M845 64 r2 11 ∧ M845 64 r2 11 < M845 97 0 74) ∧ ∀ r882 : Nat, (r882 : Int) = M845 64 r2 11 → ((0 ≤ v8 ∧ v8 < 21) ∧ (0 ≤ M845 74 r882 v8 ∧ M845 74 r882 v8 < M845 97 0 75) ∧ ∀ r886 : Nat, (r886 : Int) = M845 74 r882 v8 → ((0 ≤ v13 ∧ v13 < M845 75 r886 (-1) ∧ M845 75 r886 (-1) ≤ 1000000) ∧ (zI x847 ∧ zI (M845 75 r886 v13) ∧ ((x847 ≠ (M845 75 r886 v13) → LL_law_813 l P c n r2 v3 v5 v6 r7 v8 v11 v12 v13 M845) ∧ (x847 = (M845 75 r886 v13) → (CI l m_X8_say [zr 8 0, zi v8, zi v13, zi (-1)] M845 (fun x899 M897 => (zI x899 ∧ ((x899 ≠ (-1) → LL_law_813 l P c n r2 v3 v5 v6 r7 v8 v11 v12 v13 M897) ∧ (x899 = (-1) → LL_law_816 l P c n r2 v3 1 v5 v6 r7 v8 v11 v12 v13 M897))))))))))))))) ∧ (v15 ≠ 0 → (zI x847 ∧ ((x847 ≠ (-2) → LL_law_813 l P c n r2 v3 v5 v6 r7 v8 v11 v12 v13 M845) ∧ (x847 = (-2) → (CI l m_X8_say [zr 8 0, zi v8, zi v13, zi (-1)] M845 (fun x914 M912 => (zI x914 ∧ ((x914 ≠ (-1) → LL_law_813 l P c n r2 v3 v5 v6 r7 v8 v11 v12 v13 M912) ∧ (x914 = (-1) → LL_law_816 l P c n r2 v3 1 v5 v6 r7 v8 v11 v12 v13 M912)))))))))))) ∧ (v14 = 0 → (zI x847 ∧ ((x847 ≠ (-1) → LL_law_813 l P c n r2 v3 v5 v6 r7 v8 v11 v12 v13 M845) ∧ (x847 = (-1) → (CI l m_X8_say [zr 8 0, zi v8, zi v13, zi (-1)] M845 (fun x929 M927 => (zI x929 ∧ ((x929 ≠ (-1) → LL_law_813 l P c n r2 v3 v5 v6 r7 v8 v11 v12 v13 M927) ∧ (x929 = (-1) → LL_law_816 l P c n r2 v3 1 v5 v6 r7 v8 v11 v12 v13 M927)))))))))))))) :
    LL_law_744 l P c n r2 v3 v5 v6 r7 v8 v11 v12 v13 v14 v15 M :=
(aw_aload_n d_L_law_744 rfl rfl 1 rfl (by decide)
(aw_iload d_L_law_745 rfl 7 rfl
(aw_iload d_L_law_747 rfl 10 rfl
(aw_iload d_L_law_749 rfl 8 rfl
(aw_VI (As := [zi v8, zi v13, zi v11]) (st := []) d_L_law_751 rfl cvL_191 ⟨Nat.le_of_ble_eq_true rfl, Nat.le_of_ble_eq_true rfl⟩ rfl rfl (Nat.le_of_ble_eq_true rfl) (Nat.le_of_ble_eq_true rfl) H0 (fun x847 M845 e846 => (aw_iload d_L_law_754 rfl 11 rfl
(have z848 := e846.1; have e849 := e846.2; aw_if_ne d_L_law_756 rfl rfl z848 (fun c850 => have e852 := e849.1 c850; (aw_iload d_L_law_763 rfl 12 rfl
(have z854 := e852.1; have e855 := e852.2; aw_if_eq d_L_law_765 rfl rfl z854 (fun c856 => have e858 := e855.1 c856; (aw_iload d_L_law_773 rfl 9 rfl
(have z860 := e858.1; have e861 := e858.2; aw_if_eq d_L_law_775 rfl rfl z860 (fun c862 => have e864 := e861.1 c862; (aw_bipush d_L_law_791 rfl (by decide)
(have z866 := e864.1; have e867 := e864.2; aw_icmp_ne d_L_law_793 rfl rfl z866 (by decide) (fun c868 => have e870 := e867.1 c868; (aw_sub [0, 1, 2, 3, 4, 5, 6, 7, 8, 9, 10] rfl e870)) (fun c869 => have e871 := e867.2 c869; (aw_aload_n d_L_law_796 rfl rfl 1 rfl (by decide)
(aw_iload d_L_law_797 rfl 7 rfl
(aw_iload d_L_law_799 rfl 10 rfl
(aw_iconst d_L_law_801 rfl
(aw_VI (As := [zi v8, zi v13, zi (-1)]) (st := []) d_L_law_802 rfl cvL_191 ⟨Nat.le_of_ble_eq_true rfl, Nat.le_of_ble_eq_true rfl⟩ rfl rfl (Nat.le_of_ble_eq_true rfl) (Nat.le_of_ble_eq_true rfl) e871 (fun x874 M872 e873 => (aw_iconst d_L_law_805 rfl
(have z875 := e873.1; have e876 := e873.2; aw_icmp_ne d_L_law_806 rfl rfl z875 (by decide) (fun c877 => have e879 := e876.1 c877; (aw_sub [0, 1, 2, 3, 4, 5, 6, 7, 8, 9, 10] rfl e879)) (fun c878 => have e880 := e876.2 c878; (aw_iconst d_L_law_809 rfl
(aw_goto d_L_law_810 rfl
(aw_istore (lv' := [(4, zi 1), (0, zr 60 0), (1, zr 8 0), (2, zr 64 r2), (3, zq 64 v3), (5, zi v5), (6, zi v6), (7, zr 64 r7), (8, zi v8), (11, zi v11), (12, zi v12), (13, zi v13), (14, zi v14), (15, zi v15)]) d_L_law_814 rfl (by decide) rfl
(aw_sub [1, 2, 3, 4, 0, 5, 6, 7, 8, 9, 10, 11] rfl e880))))))))))))))))) (fun c863 => have e865 := e861.2 c863; (aw_aload_n d_L_law_778 rfl rfl 2 rfl (by decide)
(have z881 := e865.1; aw_getE (kc := 11) d_L_law_779 rfl flL_64 rfl rfl (by decide) z881
(fun r882 hqr882 => (have e883 := e865.2 r882 hqr882; (aw_iload d_L_law_782 rfl 7 rfl
(have z884 := e883.1; have z885 := e883.2.1; aw_rale d_L_law_784 rfl zd74.G (by decide) (zix_s z884) z885
(fun r886 hqr886 => (have e887 := e883.2.2 r886 hqr886; (aw_iload d_L_law_785 rfl 10 rfl
(have z888 := e887.1; aw_ialdG d_L_law_787 rfl zd75.G (zix_d rfl z888)
(have e889 := e887.2; (aw_goto d_L_law_788 rfl
(have z890 := e889.1; have z891 := e889.2.1; have e892 := e889.2.2; aw_icmp_ne d_L_law_793 rfl rfl z890 z891 (fun c893 => have e895 := e892.1 c893; (aw_sub [0, 1, 2, 3, 4, 5, 6, 7, 8, 9, 10] rfl e895)) (fun c894 => have e896 := e892.2 c894; (aw_aload_n d_L_law_796 rfl rfl 1 rfl (by decide)
(aw_iload d_L_law_797 rfl 7 rfl
(aw_iload d_L_law_799 rfl 10 rfl
(aw_iconst d_L_law_801 rfl
(aw_VI (As := [zi v8, zi v13, zi (-1)]) (st := []) d_L_law_802 rfl cvL_191 ⟨Nat.le_of_ble_eq_true rfl, Nat.le_of_ble_eq_true rfl⟩ rfl rfl (Nat.le_of_ble_eq_true rfl) (Nat.le_of_ble_eq_true rfl) e896 (fun x899 M897 e898 => (aw_iconst d_L_law_805 rfl
(have z900 := e898.1; have e901 := e898.2; aw_icmp_ne d_L_law_806 rfl rfl z900 (by decide) (fun c902 => have e904 := e901.1 c902; (aw_sub [0, 1, 2, 3, 4, 5, 6, 7, 8, 9, 10] rfl e904)) (fun c903 => have e905 := e901.2 c903; (aw_iconst d_L_law_809 rfl
(aw_goto d_L_law_810 rfl
(aw_istore (lv' := [(4, zi 1), (0, zr 60 0), (1, zr 8 0), (2, zr 64 r2), (3, zq 64 v3), (5, zi v5), (6, zi v6), (7, zr 64 r7), (8, zi v8), (11, zi v11), (12, zi v12), (13, zi v13), (14, zi v14), (15, zi v15)]) d_L_law_814 rfl (by decide) rfl
(aw_sub [1, 2, 3, 4, 0, 5, 6, 7, 8, 9, 10, 11] rfl e905))))))))))))))))))))))))))))))) (fun c857 => have e859 := e855.2 c857; (aw_bipush d_L_law_768 rfl (by decide)
(aw_goto d_L_law_770 rfl
(have z906 := e859.1; have e907 := e859.2; aw_icmp_ne d_L_law_793 rfl rfl z906 (by decide) (fun c908 => have e910 := e907.1 c908; (aw_sub [0, 1, 2, 3, 4, 5, 6, 7, 8, 9, 10] rfl e910)) (fun c909 => have e911 := e907.2 c909; (aw_aload_n d_L_law_796 rfl rfl 1 rfl (by decide)
(aw_iload d_L_law_797 rfl 7 rfl
(aw_iload d_L_law_799 rfl 10 rfl
(aw_iconst d_L_law_801 rfl
(aw_VI (As := [zi v8, zi v13, zi (-1)]) (st := []) d_L_law_802 rfl cvL_191 ⟨Nat.le_of_ble_eq_true rfl, Nat.le_of_ble_eq_true rfl⟩ rfl rfl (Nat.le_of_ble_eq_true rfl) (Nat.le_of_ble_eq_true rfl) e911 (fun x914 M912 e913 => (aw_iconst d_L_law_805 rfl
(have z915 := e913.1; have e916 := e913.2; aw_icmp_ne d_L_law_806 rfl rfl z915 (by decide) (fun c917 => have e919 := e916.1 c917; (aw_sub [0, 1, 2, 3, 4, 5, 6, 7, 8, 9, 10] rfl e919)) (fun c918 => have e920 := e916.2 c918; (aw_iconst d_L_law_809 rfl
(aw_goto d_L_law_810 rfl
(aw_istore (lv' := [(4, zi 1), (0, zr 60 0), (1, zr 8 0), (2, zr 64 r2), (3, zq 64 v3), (5, zi v5), (6, zi v6), (7, zr 64 r7), (8, zi v8), (11, zi v11), (12, zi v12), (13, zi v13), (14, zi v14), (15, zi v15)]) d_L_law_814 rfl (by decide) rfl
(aw_sub [1, 2, 3, 4, 0, 5, 6, 7, 8, 9, 10, 11] rfl e920))))))))))))))))))))) (fun c851 => have e853 := e849.2 c851; (aw_iconst d_L_law_759 rfl
(aw_goto d_L_law_760 rfl
(have z921 := e853.1; have e922 := e853.2; aw_icmp_ne d_L_law_793 rfl rfl z921 (by decide) (fun c923 => have e925 := e922.1 c923; (aw_sub [0, 1, 2, 3, 4, 5, 6, 7, 8, 9, 10] rfl e925)) (fun c924 => have e926 := e922.2 c924; (aw_aload_n d_L_law_796 rfl rfl 1 rfl (by decide)
(aw_iload d_L_law_797 rfl 7 rfl
(aw_iload d_L_law_799 rfl 10 rfl
(aw_iconst d_L_law_801 rfl
(aw_VI (As := [zi v8, zi v13, zi (-1)]) (st := []) d_L_law_802 rfl cvL_191 ⟨Nat.le_of_ble_eq_true rfl, Nat.le_of_ble_eq_true rfl⟩ rfl rfl (Nat.le_of_ble_eq_true rfl) (Nat.le_of_ble_eq_true rfl) e926 (fun x929 M927 e928 => (aw_iconst d_L_law_805 rfl
(have z930 := e928.1; have e931 := e928.2; aw_icmp_ne d_L_law_806 rfl rfl z930 (by decide) (fun c932 => have e934 := e931.1 c932; (aw_sub [0, 1, 2, 3, 4, 5, 6, 7, 8, 9, 10] rfl e934)) (fun c933 => have e935 := e931.2 c933; (aw_iconst d_L_law_809 rfl
(aw_goto d_L_law_810 rfl
(aw_istore (lv' := [(4, zi 1), (0, zr 60 0), (1, zr 8 0), (2, zr 64 r2), (3, zq 64 v3), (5, zi v5), (6, zi v6), (7, zr 64 r7), (8, zi v8), (11, zi v11), (12, zi v12), (13, zi v13), (14, zi v14), (15, zi v15)]) d_L_law_814 rfl (by decide) rfl
(aw_sub [1, 2, 3, 4, 0, 5, 6, 7, 8, 9, 10, 11] rfl e935))))))))))))))))))))))))))
theorem vL_law_1279 {l : Launch} {P : lwG} {c n : Nat} {r2 : Nat} {v3 : Int} {v4 : Int} {v5 : Int} {M : zM}
    (H0 : LL_law_82 l P c n r2 v3 v4 (v5 + 1) M) :
    LL_law_1279 l P c n r2 v3 v4 v5 M :=
(aw_iinc (lv' := [(5, zi (v5 + 1)), (0, zr 60 0), (1, zr 8 0), (2, zr 64 r2), (3, zq 64 v3), (4, zi v4)]) (y := (v5 + 1)) d_L_law_1279 rfl 5 rfl (by decide) rfl rfl
(aw_goto d_L_law_1282 rfl
(aw_sub [1, 2, 3, 4, 5, 0] rfl H0)))
theorem vL_law_1231 {l : Launch} {P : lwG} {c n : Nat} {v3 : Int} {v5 : Int} {r7 : Nat} {M : zM}
    (H0 : (CI l m_X8_count [zr 8 0, zi 4] M (fun x938 M936 => LL_law_1238 l P c n v3 v5 r7 x938 M936))) :
    LL_law_1231 l P c n v3 v5 r7 M :=
(aw_aload_n d_L_law_1231 rfl rfl 1 rfl (by decide)
(aw_iconst d_L_law_1232 rfl
(aw_VI (As := [zi 4]) (st := []) d_L_law_1233 rfl cvL_83 ⟨Nat.le_of_ble_eq_true rfl, Nat.le_of_ble_eq_true rfl⟩ rfl rfl (Nat.le_of_ble_eq_true rfl) (Nat.le_of_ble_eq_true rfl) H0 (fun x938 M936 e937 => (aw_istore (lv' := [(13, zi x938), (0, zr 60 0), (1, zr 8 0), (3, zq 64 v3), (5, zi v5), (7, zr 64 r7)]) d_L_law_1236 rfl (by decide) rfl
(aw_sub [1, 2, 3, 4, 5, 0] rfl e937))))))
theorem vL_law_813 {l : Launch} {P : lwG} {c n : Nat} {r2 : Nat} {v3 : Int} {v5 : Int} {v6 : Int} {r7 : Nat} {v8 : Int} {v11 : Int} {v12 : Int} {v13 : Int} {M : zM}
    (H0 : LL_law_816 l P c n r2 v3 0 v5 v6 r7 v8 v11 v12 v13 M) :
    LL_law_813 l P c n r2 v3 v5 v6 r7 v8 v11 v12 v13 M :=
(aw_iconst d_L_law_813 rfl
(aw_istore (lv' := [(4, zi 0), (0, zr 60 0), (1, zr 8 0), (2, zr 64 r2), (3, zq 64 v3), (5, zi v5), (6, zi v6), (7, zr 64 r7), (8, zi v8), (11, zi v11), (12, zi v12), (13, zi v13)]) d_L_law_814 rfl (by decide) rfl
(aw_sub [1, 2, 3, 4, 0, 5, 6, 7, 8, 9, 10, 11] rfl H0)))
theorem vL_law_816 {l : Launch} {P : lwG} {c n : Nat} {r2 : Nat} {v3 : Int} {v4 : Int} {v5 : Int} {v6 : Int} {r7 : Nat} {v8 : Int} {v11 : Int} {v12 : Int} {v13 : Int} {M : zM}
    (H0 : (zI v12 ∧ ((v12 ≠ 0 → ((0 ≤ M 64 r2 11 ∧ M 64 r2 11 < M 97 0 74) ∧ ∀ r946 : Nat, (r946 : Int) = M 64 r2 11 → ((0 ≤ v8 ∧ v8 < 21) ∧ (0 ≤ M 74 r946 v8 ∧ M 74 r946 v8 < M 97 0 75) ∧ ∀ r950 : Nat, (r950 : Int) = M 74 r946 v8 → (((c + 1) ≤ 668211 ∧ (n + (M 75 r950 (-1)).toNat) ≤ 7097614) ∧ ∀ n952 : Nat, (n952 : Int) = M 97 0 75 → ∀ M955 : zM, M955 = zcl M 75 n952 r950 → (∀ M957 : zM, M957 = zu M955 74 r946 v8 (n952 : Int) → ((0 ≤ M957 64 r2 11 ∧ M957 64 r2 11 < M957 97 0 74) ∧ ∀ r959 : Nat, (r959 : Int) = M957 64 r2 11 → ((0 ≤ M957 74 r959 v8 ∧ M957 74 r959 v8 < M957 97 0 75) ∧ ∀ r962 : Nat, (r962 : Int) = M957 74 r959 v8 → ((0 ≤ v13 ∧ v13 < M957 75 r962 (-1) ∧ M957 75 r962 (-1) ≤ 1000000) ∧ ∀ M966 : zM, M966 = zu M957 75 r962 v13 v11 → LL_law_1191 l P (c + 1) (n + (M 75 r950 (-1)).toNat) r2 v3 v4 v5 v6 r7 v12 M966)))))))) ∧ (v12 = 0 → LL_law_1191 l P c n r2 v3 v4 v5 v6 r7 v12 M)))) :
    LL_law_816 l P c n r2 v3 v4 v5 v6 r7 v8 v11 v12 v13 M :=
(aw_iload d_L_law_816 rfl 10 rfl
(have z939 := H0.1; have e940 := H0.2; aw_if_ne d_L_law_818 rfl rfl z939 (fun c941 => have e943 := e940.1 c941; (aw_aload_n d_L_law_824 rfl rfl 2 rfl (by decide)
(have z945 := e943.1; aw_getE (kc := 11) d_L_law_825 rfl flL_64 rfl rfl (by decide) z945
(fun r946 hqr946 => (have e947 := e943.2 r946 hqr946; (aw_iload d_L_law_828 rfl 8 rfl
(aw_aload_n d_L_law_830 rfl rfl 2 rfl (by decide)
(aw_getEq (kc := 11) (r := r946) d_L_law_831 rfl flL_64 rfl rfl (by decide) z945 hqr946
(aw_iload d_L_law_834 rfl 8 rfl
(have z948 := e947.1; have z949 := e947.2.1; aw_rale d_L_law_836 rfl zd74.G (by decide) (zix_s z948) z949
(fun r950 hqr950 => (have e951 := e947.2.2 r950 hqr950; (have z953 := e951.1; aw_cloneI (k := 75) d_L_law_837 rfl ccL_195 zd75 ⟨Nat.le_of_ble_eq_true rfl, Nat.le_of_ble_eq_true rfl⟩ z953
(fun n952 hqn952 => (aw_nm fun M955 hqM955 => have e954 := e951.2 n952 hqn952 M955 hqM955; (aw_cast d_L_law_840 rfl zd75 clL_196 (Or.inl ⟨rfl, rfl⟩)
(aw_rast d_L_law_843 rfl zd74.G zd75.G (by decide) (zix_s z948)
(aw_nm fun M957 hqM957 => have e956 := e954 M957 hqM957; (aw_aload_n d_L_law_844 rfl rfl 2 rfl (by decide)
(have z958 := e956.1; aw_getE (kc := 11) d_L_law_845 rfl flL_64 rfl rfl (by decide) z958
(fun r959 hqr959 => (have e960 := e956.2 r959 hqr959; (aw_iload d_L_law_848 rfl 8 rfl
(have z961 := e960.1; aw_rale d_L_law_850 rfl zd74.G (by decide) (zix_s z948) z961
(fun r962 hqr962 => (have e963 := e960.2 r962 hqr962; (aw_iload d_L_law_851 rfl 11 rfl
(aw_iload d_L_law_853 rfl 9 rfl
(have z964 := e963.1; aw_iastG d_L_law_855 rfl zd75.G (zix_d rfl z964)
(aw_nm fun M966 hqM966 => have e965 := e963.2 M966 hqM966; (aw_goto d_L_law_856 rfl
(aw_sub [0, 1, 2, 3, 4, 5, 6, 7, 10] rfl e965)))))))))))))))))))))))))))))))) (fun c942 => have e944 := e940.2 c942; (aw_goto d_L_law_821 rfl
(aw_sub [0, 1, 2, 3, 4, 5, 6, 7, 10] rfl e944)))))
theorem vL_law_1238 {l : Launch} {P : lwG} {c n : Nat} {v3 : Int} {v5 : Int} {r7 : Nat} {v13 : Int} {M : zM}
    (H0 : (CI l m_X8_undo [zr 8 0] M (fun x969 M967 => (zI x969 ∧ zI (v13 - 1) ∧ ((x969 ≠ (v13 - 1) → LL_law_1253 l P c n v3 v5 r7 M967) ∧ (x969 = (v13 - 1) → LL_law_1256 l P c n v3 1 v5 r7 M967)))))) :
    LL_law_1238 l P c n v3 v5 r7 v13 M :=
(aw_aload_n d_L_law_1238 rfl rfl 1 rfl (by decide)
(aw_VI (As := []) (st := []) d_L_law_1239 rfl cvL_149 ⟨Nat.le_of_ble_eq_true rfl, Nat.le_of_ble_eq_true rfl⟩ rfl rfl (Nat.le_of_ble_eq_true rfl) (Nat.le_of_ble_eq_true rfl) H0 (fun x969 M967 e968 => (aw_iload d_L_law_1242 rfl 5 rfl
(aw_iconst d_L_law_1244 rfl
(aw_isub d_L_law_1245 rfl
(have z970 := e968.1; have z971 := e968.2.1; have e972 := e968.2.2; aw_icmp_ne d_L_law_1246 rfl rfl z970 z971 (fun c973 => have e975 := e972.1 c973; (aw_sub [0, 1, 2, 3, 4] rfl e975)) (fun c974 => have e976 := e972.2 c974; (aw_iconst d_L_law_1249 rfl
(aw_goto d_L_law_1250 rfl
(aw_istore (lv' := [(4, zi 1), (0, zr 60 0), (1, zr 8 0), (3, zq 64 v3), (5, zi v5), (7, zr 64 r7), (13, zi v13)]) d_L_law_1254 rfl (by decide) rfl
(aw_sub [1, 2, 3, 0, 4, 5] rfl e976))))))))))))
theorem vL_law_1253 {l : Launch} {P : lwG} {c n : Nat} {v3 : Int} {v5 : Int} {r7 : Nat} {M : zM}
    (H0 : LL_law_1256 l P c n v3 0 v5 r7 M) :
    LL_law_1253 l P c n v3 v5 r7 M :=
(aw_iconst d_L_law_1253 rfl
(aw_istore (lv' := [(4, zi 0), (0, zr 60 0), (1, zr 8 0), (3, zq 64 v3), (5, zi v5), (7, zr 64 r7)]) d_L_law_1254 rfl (by decide) rfl
(aw_sub [1, 2, 3, 0, 4, 5] rfl H0)))
theorem vL_law_1256 {l : Launch} {P : lwG} {c n : Nat} {v3 : Int} {v4 : Int} {v5 : Int} {r7 : Nat} {M : zM}
    (H0 : (zI v4 ∧ ((v4 = 0 → LL_law_1276 l P c n r7 v3 v5 M) ∧ (v4 ≠ 0 → (((c + 4) ≤ 668211 ∧ (n + 808) ≤ 7097614) ∧ (CIn l m_L_same 4 808 [zr 8 0, zr 64 r7] M (fun x987 M984 => (zI x987 ∧ ((x987 = 0 → LL_law_1276 l P (c + 4) (n + 808) r7 v3 v5 M984) ∧ (x987 ≠ 0 → LL_law_1279 l P (c + 4) (n + 808) r7 v3 1 v5 M984)))))))))) :
    LL_law_1256 l P c n v3 v4 v5 r7 M :=
(aw_aload d_L_law_1256 rfl 5 rfl (by decide)
(aw_astore_n (lv' := [(2, zr 64 r7), (0, zr 60 0), (1, zr 8 0), (3, zq 64 v3), (4, zi v4), (5, zi v5), (7, zr 64 r7)]) (by decide) d_L_law_1258 rfl rfl (by decide) rfl
(aw_iload d_L_law_1259 rfl 4 rfl
(have z977 := H0.1; have e978 := H0.2; aw_if_eq d_L_law_1261 rfl rfl z977 (fun c979 => have e981 := e978.1 c979; (aw_sub [1, 2, 0, 3, 5] rfl e981)) (fun c980 => have e982 := e978.2 c980; (aw_aload_n d_L_law_1264 rfl rfl 2 rfl (by decide)
(aw_aload_n d_L_law_1265 rfl rfl 0 rfl (by decide)
(have z983 := e982.1; have e985 := e982.2; aw_SIn (As := [zr 8 0, zr 64 r7]) (st := []) d_L_law_1266 rfl csL_145 ⟨Nat.le_of_ble_eq_true rfl, Nat.le_of_ble_eq_true rfl⟩ z983 rfl rfl (Nat.le_of_ble_eq_true rfl) (Nat.le_of_ble_eq_true rfl) e985 (fun x987 M984 e986 => (have z988 := e986.1; have e989 := e986.2; aw_if_eq d_L_law_1269 rfl rfl z988 (fun c990 => have e992 := e989.1 c990; (aw_sub [1, 2, 0, 3, 5] rfl e992)) (fun c991 => have e993 := e989.2 c991; (aw_iconst d_L_law_1272 rfl
(aw_goto d_L_law_1273 rfl
(aw_istore (lv' := [(4, zi 1), (2, zr 64 r7), (0, zr 60 0), (1, zr 8 0), (3, zq 64 v3), (5, zi v5), (7, zr 64 r7)]) d_L_law_1277 rfl (by decide) rfl
(aw_sub [2, 3, 1, 4, 0, 5] rfl e993)))))))))))))))
theorem vL_law_1276 {l : Launch} {P : lwG} {c n : Nat} {r2 : Nat} {v3 : Int} {v5 : Int} {M : zM}
    (H0 : LL_law_1279 l P c n r2 v3 0 v5 M) :
    LL_law_1276 l P c n r2 v3 v5 M :=
(aw_iconst d_L_law_1276 rfl
(aw_istore (lv' := [(4, zi 0), (0, zr 60 0), (1, zr 8 0), (2, zr 64 r2), (3, zq 64 v3), (5, zi v5)]) d_L_law_1277 rfl (by decide) rfl
(aw_sub [1, 2, 3, 4, 0, 5] rfl H0)))
theorem vL_law {l : Launch} {P : lwG} {c n : Nat} {M : zM}
    (H0 : (((c + 1) ≤ 668211 ∧ (n + 12) ≤ 7097614) ∧ ∀ n1 : Nat, (n1 : Int) = M 97 0 64 → ∀ M4 : zM, M4 = zmk M 64 n1 0 → ((((c + 1) + 5) ≤ 668211 ∧ ((n + 12) + 105) ≤ 7097614) ∧ (CVn l m_X9_init 5 105 [zr 64 n1] M4 (fun M6 => (((((c + 1) + 5) + 4) ≤ 668211 ∧ (((n + 12) + 105) + 808) ≤ 7097614) ∧ (CIn l m_L_same 4 808 [zr 8 0, zr 64 n1] M6 (fun x13 M10 => (zI x13 ∧ ((x13 = 0 → LL_law_76 l P (((c + 1) + 5) + 4) (((n + 12) + 105) + 808) n1 (-1) M10) ∧ (x13 ≠ 0 → (CI l m_X8_undo [zr 8 0] M10 (fun x22 M20 => (zI x22 ∧ ((x22 ≠ (-1) → LL_law_76 l P (((c + 1) + 5) + 4) (((n + 12) + 105) + 808) n1 (-1) M20) ∧ (x22 = (-1) → (CI l m_X8_back [zr 8 0, zi 1] M20 (fun x31 M29 => (zI x31 ∧ ((x31 ≠ (-2) → LL_law_76 l P (((c + 1) + 5) + 4) (((n + 12) + 105) + 808) n1 (-1) M29) ∧ (x31 = (-2) → (CI l m_X8_keep [zr 8 0, zi 2] M29 (fun x40 M38 => (zI x40 ∧ ((x40 ≠ (-1) → LL_law_76 l P (((c + 1) + 5) + 4) (((n + 12) + 105) + 808) n1 (-1) M38) ∧ (x40 = (-1) → (CI l m_X8_close [zr 8 0, zi 4] M38 (fun x49 M47 => (zI x49 ∧ ((x49 ≠ (-1) → LL_law_76 l P (((c + 1) + 5) + 4) (((n + 12) + 105) + 808) n1 (-1) M47) ∧ (x49 = (-1) → (CI l m_X8_close [zr 8 0, zi 0] M47 (fun x58 M56 => (zI x58 ∧ ((x58 ≠ (-2) → LL_law_76 l P (((c + 1) + 5) + 4) (((n + 12) + 105) + 808) n1 (-1) M56) ∧ (x58 = (-2) → LL_law_82 l P (((c + 1) + 5) + 4) (((n + 12) + 105) + 808) n1 (-1) 1 0 M56)))))))))))))))))))))))))))))))))))) :
    AW l m_L_law (lwT P c n) 7 [(0, zr 60 0)] [zr 8 0] M :=
(aw_astore_n (lv' := [(1, zr 8 0), (0, zr 60 0)]) (by decide) d_L_law_7 rfl rfl (by decide) rfl
(have z2 := H0.1; aw_new (k := 64) (n := 12) d_L_law_8 rfl nwL_31 z2
(fun n1 hqn1 => (aw_nm fun M4 hqM4 => have e3 := H0.2 n1 hqn1 M4 hqM4; (aw_dup d_L_law_11 rfl rfl
(have z5 := e3.1; have e7 := e3.2; aw_NVn (As := []) (st := [zr 64 n1]) d_L_law_12 rfl cnL_144 ⟨Nat.le_of_ble_eq_true rfl, Nat.le_of_ble_eq_true rfl⟩ z5 rfl rfl (Nat.le_of_ble_eq_true rfl) (Nat.le_of_ble_eq_true rfl) e7 (fun M6 e8 => (aw_astore_n (lv' := [(2, zr 64 n1), (1, zr 8 0), (0, zr 60 0)]) (by decide) d_L_law_15 rfl rfl (by decide) rfl
(aw_null d_L_law_16 rfl
(aw_storeN (lv' := [(3, zn), (2, zr 64 n1), (1, zr 8 0), (0, zr 60 0)]) d_L_law_17 rfl rfl (by decide) rfl
(aw_aload_n d_L_law_18 rfl rfl 2 rfl (by decide)
(aw_aload_n d_L_law_19 rfl rfl 1 rfl (by decide)
(have z9 := e8.1; have e11 := e8.2; aw_SIn (As := [zr 8 0, zr 64 n1]) (st := []) d_L_law_20 rfl csL_145 ⟨Nat.le_of_ble_eq_true rfl, Nat.le_of_ble_eq_true rfl⟩ z9 rfl rfl (Nat.le_of_ble_eq_true rfl) (Nat.le_of_ble_eq_true rfl) e11 (fun x13 M10 e12 => (have z14 := e12.1; have e15 := e12.2; aw_if_eq d_L_law_23 rfl rfl z14 (fun c16 => have e18 := e15.1 c16; (aw_sub [3, 2, 1, 0] rfl e18)) (fun c17 => have e19 := e15.2 c17; (aw_aload_n d_L_law_26 rfl rfl 2 rfl (by decide)
(aw_VI (As := []) (st := []) d_L_law_27 rfl cvL_149 ⟨Nat.le_of_ble_eq_true rfl, Nat.le_of_ble_eq_true rfl⟩ rfl rfl (Nat.le_of_ble_eq_true rfl) (Nat.le_of_ble_eq_true rfl) e19 (fun x22 M20 e21 => (aw_iconst d_L_law_30 rfl
(have z23 := e21.1; have e24 := e21.2; aw_icmp_ne d_L_law_31 rfl rfl z23 (by decide) (fun c25 => have e27 := e24.1 c25; (aw_sub [3, 2, 1, 0] rfl e27)) (fun c26 => have e28 := e24.2 c26; (aw_aload_n d_L_law_34 rfl rfl 2 rfl (by decide)
(aw_iconst d_L_law_35 rfl
(aw_VI (As := [zi 1]) (st := []) d_L_law_36 rfl cvL_152 ⟨Nat.le_of_ble_eq_true rfl, Nat.le_of_ble_eq_true rfl⟩ rfl rfl (Nat.le_of_ble_eq_true rfl) (Nat.le_of_ble_eq_true rfl) e28 (fun x31 M29 e30 => (aw_bipush d_L_law_39 rfl (by decide)
(have z32 := e30.1; have e33 := e30.2; aw_icmp_ne d_L_law_41 rfl rfl z32 (by decide) (fun c34 => have e36 := e33.1 c34; (aw_sub [3, 2, 1, 0] rfl e36)) (fun c35 => have e37 := e33.2 c35; (aw_aload_n d_L_law_44 rfl rfl 2 rfl (by decide)
(aw_iconst d_L_law_45 rfl
(aw_VI (As := [zi 2]) (st := []) d_L_law_46 rfl cvL_155 ⟨Nat.le_of_ble_eq_true rfl, Nat.le_of_ble_eq_true rfl⟩ rfl rfl (Nat.le_of_ble_eq_true rfl) (Nat.le_of_ble_eq_true rfl) e37 (fun x40 M38 e39 => (aw_iconst d_L_law_49 rfl
(have z41 := e39.1; have e42 := e39.2; aw_icmp_ne d_L_law_50 rfl rfl z41 (by decide) (fun c43 => have e45 := e42.1 c43; (aw_sub [3, 2, 1, 0] rfl e45)) (fun c44 => have e46 := e42.2 c44; (aw_aload_n d_L_law_53 rfl rfl 2 rfl (by decide)
(aw_iconst d_L_law_54 rfl
(aw_VI (As := [zi 4]) (st := []) d_L_law_55 rfl cvL_158 ⟨Nat.le_of_ble_eq_true rfl, Nat.le_of_ble_eq_true rfl⟩ rfl rfl (Nat.le_of_ble_eq_true rfl) (Nat.le_of_ble_eq_true rfl) e46 (fun x49 M47 e48 => (aw_iconst d_L_law_58 rfl
(have z50 := e48.1; have e51 := e48.2; aw_icmp_ne d_L_law_59 rfl rfl z50 (by decide) (fun c52 => have e54 := e51.1 c52; (aw_sub [3, 2, 1, 0] rfl e54)) (fun c53 => have e55 := e51.2 c53; (aw_aload_n d_L_law_62 rfl rfl 2 rfl (by decide)
(aw_iconst d_L_law_63 rfl
(aw_VI (As := [zi 0]) (st := []) d_L_law_64 rfl cvL_158 ⟨Nat.le_of_ble_eq_true rfl, Nat.le_of_ble_eq_true rfl⟩ rfl rfl (Nat.le_of_ble_eq_true rfl) (Nat.le_of_ble_eq_true rfl) e55 (fun x58 M56 e57 => (aw_bipush d_L_law_67 rfl (by decide)
(have z59 := e57.1; have e60 := e57.2; aw_icmp_ne d_L_law_69 rfl rfl z59 (by decide) (fun c61 => have e63 := e60.1 c61; (aw_sub [3, 2, 1, 0] rfl e63)) (fun c62 => have e64 := e60.2 c62; (aw_iconst d_L_law_72 rfl
(aw_goto d_L_law_73 rfl
(aw_istore (lv' := [(4, zi 1), (3, zn), (2, zr 64 n1), (1, zr 8 0), (0, zr 60 0)]) d_L_law_77 rfl (by decide) rfl
(aw_iconst d_L_law_79 rfl
(aw_istore (lv' := [(5, zi 0), (4, zi 1), (3, zn), (2, zr 64 n1), (1, zr 8 0), (0, zr 60 0)]) d_L_law_80 rfl (by decide) rfl
(aw_sub [5, 4, 3, 2, 1, 0] rfl e64))))))))))))))))))))))))))))))))))))))))))))))))))))))))
