/-! ===== what is done by a law; what a trader pays, has ===== -/
theorem mkt.of {M M' : zM} {h : Nat} {B A : List Int} {f : Int} (I : mkt M h B A f) (e : ∀ j, 0 ≤ j ∧ j < 6 → M' 65 h j = M 65 h j) (o : ∀ k i : Nat, (k = 76 ∨ k = 77) → (i : Int) < M 97 0 (k : Int) → M' k i = M k i) (c : M 97 0 76 ≤ M' 97 0 76 ∧ M 97 0 77 ≤ M' 97 0 77) : mkt M' h B A f := by
  obtain ⟨b, a, ⟨⟨⟨b0, b1⟩, a0, a1⟩, ⟨nB, nA⟩, RB, RA⟩, t4, t5⟩ := I
  refine ⟨b, a, ⟨⟨⟨by rw [e 0 (by decide)]; exact b0, by omega⟩, by rw [e 1 (by decide)]; exact a0, by omega⟩, ⟨by rw [e 2 (by decide)]; exact nB, by rw [e 3 (by decide)]; exact nA⟩, fun j hj => ?_, fun j hj => ?_⟩, by rw [e 4 (by decide)]; exact t4, by rw [e 5 (by decide)]; exact t5⟩
  · obtain ⟨r1, r2, r3⟩ := RB j hj
    rw [o 76 b (.inl rfl) b1, o 77 _ (.inr rfl) (by show ((M 76 b j).toNat : Int) < M 97 0 77; omega)]
    exact ⟨⟨r1.1, by omega⟩, r2, r3⟩
  · obtain ⟨r1, r2, r3⟩ := RA j hj
    rw [o 76 a (.inl rfl) a1, o 77 _ (.inr rfl) (by show ((M 76 a j).toNat : Int) < M 97 0 77; omega)]
    exact ⟨⟨r1.1, by omega⟩, r2, r3⟩
theorem mkt.lr {K : List Nat} {M M' : zM} {h : Nat} {B A : List Int} {f : Int} (I : mkt M h B A f) (hl : (h : Int) < M 97 0 65) (g : Lr K M M') : mkt M' h B A f :=
  I.of (fun j _ => by rw [g.1 65 h (by decide) hl]) (fun k i hk hi => g.1 k i (by omega) hi) ⟨g.2.1 76, g.2.1 77⟩
/-- it was done -/
def mdn (M : zM) (h : Nat) (B A : List Int) (f w : Int) : Prop := M 65 h 6 = dN B A f w ∧ (tT f B A ≠ 0 → M 65 h 7 = dP B A f w ∧ M 65 h 8 = dG B A f w)
abbrev byP (M : zM) (h : Nat) (B A : List Int) (f w : Int) : Nat → zM → Prop := fun x M' => x = h ∧ (∀ k i, ¬ (k = 65 ∧ i = h) → M' k i = M k i) ∧ mkt M' h B A f ∧ mdn M' h B A f w
section
variable {l : Launch} {M : zM} {S : zS} {h : Nat} {B A : List Int} {f w : Int}
theorem vX10_by {l : Launch} {P : Nat → zM → Prop} {h : Nat} {v1 : Int} {v2 : Int} {M : zM}
    (H0 : (∀ M2 : zM, M2 = zu M 65 h 6 0 → (zI (M2 65 h 4) ∧ (((M2 65 h 4) ≠ 0 → ((0 ≤ M2 65 h 0 ∧ M2 65 h 0 < M2 97 0 76) ∧ ∀ r10 : Nat, (r10 : Int) = M2 65 h 0 → ((0 ≤ ((M2 65 h 4) - 1) ∧ ((M2 65 h 4) - 1) < 81) ∧ (0 ≤ M2 76 r10 ((M2 65 h 4) - 1) ∧ M2 76 r10 ((M2 65 h 4) - 1) < M2 97 0 77) ∧ ∀ r14 : Nat, (r14 : Int) = M2 76 r10 ((M2 65 h 4) - 1) → ((0 ≤ M2 65 h 1 ∧ M2 65 h 1 < M2 97 0 76) ∧ ∀ r17 : Nat, (r17 : Int) = M2 65 h 1 → ((0 ≤ M2 76 r17 ((M2 65 h 4) - 1) ∧ M2 76 r17 ((M2 65 h 4) - 1) < M2 97 0 77) ∧ ∀ r20 : Nat, (r20 : Int) = M2 76 r17 ((M2 65 h 4) - 1) → (zI (M2 65 h 2) ∧ (((M2 65 h 2) ≤ (M2 65 h 4) → (zI v1 ∧ ((v1 ≠ 0 → (zI ((M2 77 r14 2) + (M2 77 r20 2)) ∧ ((v1 = 2 → (∀ M42 : zM, M42 = zu M2 65 h 6 ((M2 65 h 4) - 1) → (∀ M45 : zM, M45 = zu M42 65 h 7 (M2 77 r14 2) → (∀ M48 : zM, M48 = zu M45 65 h 8 ((M2 77 r20 2) - v2) → P h M48)))) ∧ (v1 ≠ 2 → (∀ M52 : zM, M52 = zu M2 65 h 6 (M2 65 h 4) → (∀ M55 : zM, M55 = zu M52 65 h 7 (Int.tdiv ((M2 77 r14 2) + (M2 77 r20 2)) 2) → (∀ M58 : zM, M58 = zu M55 65 h 8 ((Int.tdiv ((M2 77 r14 2) + (M2 77 r20 2)) 2) - v2) → P h M58))))))) ∧ (v1 = 0 → (zI ((M2 77 r14 2) + (M2 77 r20 2)) ∧ ((v1 = 2 → (∀ M68 : zM, M68 = zu M2 65 h 6 ((M2 65 h 4) - 1) → (∀ M71 : zM, M71 = zu M68 65 h 7 (M2 77 r14 2) → (∀ M74 : zM, M74 = zu M71 65 h 8 ((M2 77 r20 2) - v2) → P h M74)))) ∧ (v1 ≠ 2 → (∀ M79 : zM, M79 = zu M2 65 h 6 ((M2 65 h 4) - 1) → (∀ M82 : zM, M82 = zu M79 65 h 7 (M2 77 r14 2) → (∀ M85 : zM, M85 = zu M82 65 h 8 ((M2 77 r20 2) - v2) → P h M85)))))))))) ∧ ((M2 65 h 4) < (M2 65 h 2) → (zI (M2 65 h 3) ∧ (((M2 65 h 3) ≤ (M2 65 h 4) → (zI v1 ∧ ((v1 ≠ 0 → (zI ((M2 77 r14 2) + (M2 77 r20 2)) ∧ ((v1 = 2 → (∀ M106 : zM, M106 = zu M2 65 h 6 ((M2 65 h 4) - 1) → (∀ M109 : zM, M109 = zu M106 65 h 7 (M2 77 r14 2) → (∀ M112 : zM, M112 = zu M109 65 h 8 ((M2 77 r20 2) - v2) → P h M112)))) ∧ (v1 ≠ 2 → (∀ M116 : zM, M116 = zu M2 65 h 6 (M2 65 h 4) → (∀ M119 : zM, M119 = zu M116 65 h 7 (Int.tdiv ((M2 77 r14 2) + (M2 77 r20 2)) 2) → (∀ M122 : zM, M122 = zu M119 65 h 8 ((Int.tdiv ((M2 77 r14 2) + (M2 77 r20 2)) 2) - v2) → P h M122))))))) ∧ (v1 = 0 → (zI ((M2 77 r14 2) + (M2 77 r20 2)) ∧ ((v1 = 2 → (∀ M132 : zM, M132 = zu M2 65 h 6 ((M2 65 h 4) - 1) → (∀ M135 : zM, M135 = zu M132 65 h 7 (M2 77 r14 2) → (∀ M138 : zM, M138 = zu M135 65 h 8 ((M2 77 r20 2) - v2) → P h M138)))) ∧ (v1 ≠ 2 → (∀ M143 : zM, M143 = zu M2 65 h 6 ((M2 65 h 4) - 1) → (∀ M146 : zM, M146 = zu M143 65 h 7 (M2 77 r14 2) → (∀ M149 : zM, M149 = zu M146 65 h 8 ((M2 77 r20 2) - v2) → P h M149)))))))))) ∧ ((M2 65 h 4) < (M2 65 h 3) → (zI v1 ∧ ((v1 ≠ 0 → (zI ((M2 77 r14 2) + (M2 77 r20 2)) ∧ ((v1 = 2 → (∀ M164 : zM, M164 = zu M2 65 h 6 ((M2 65 h 4) - 1) → (∀ M167 : zM, M167 = zu M164 65 h 7 (M2 77 r14 2) → (∀ M170 : zM, M170 = zu M167 65 h 8 ((M2 77 r20 2) - v2) → P h M170)))) ∧ (v1 ≠ 2 → (∀ M174 : zM, M174 = zu M2 65 h 6 (M2 65 h 4) → (∀ M177 : zM, M177 = zu M174 65 h 7 (Int.tdiv ((M2 77 r14 2) + (M2 77 r20 2)) 2) → (∀ M180 : zM, M180 = zu M177 65 h 8 ((Int.tdiv ((M2 77 r14 2) + (M2 77 r20 2)) 2) - v2) → P h M180))))))) ∧ (v1 = 0 → ((0 ≤ (M2 65 h 4) ∧ (M2 65 h 4) < 81) ∧ (0 ≤ M2 76 r10 (M2 65 h 4) ∧ M2 76 r10 (M2 65 h 4) < M2 97 0 77) ∧ ∀ r184 : Nat, (r184 : Int) = M2 76 r10 (M2 65 h 4) → ((0 ≤ M2 76 r17 (M2 65 h 4) ∧ M2 76 r17 (M2 65 h 4) < M2 97 0 77) ∧ ∀ r187 : Nat, (r187 : Int) = M2 76 r17 (M2 65 h 4) → (zI ((M2 77 r184 2) + (M2 77 r187 2)) ∧ ((v1 = 2 → (∀ M197 : zM, M197 = zu M2 65 h 6 ((M2 65 h 4) - 1) → (∀ M200 : zM, M200 = zu M197 65 h 7 (M2 77 r14 2) → (∀ M203 : zM, M203 = zu M200 65 h 8 ((M2 77 r20 2) - v2) → P h M203)))) ∧ (v1 ≠ 2 → (zI (Int.tdiv ((M2 77 r184 2) + (M2 77 r187 2)) 2) ∧ zI (M2 77 r14 2) ∧ (((M2 77 r14 2) < (Int.tdiv ((M2 77 r184 2) + (M2 77 r187 2)) 2) → (∀ M215 : zM, M215 = zu M2 65 h 6 ((M2 65 h 4) - 1) → (∀ M218 : zM, M218 = zu M215 65 h 7 (M2 77 r14 2) → (∀ M221 : zM, M221 = zu M218 65 h 8 ((M2 77 r20 2) - v2) → P h M221)))) ∧ ((Int.tdiv ((M2 77 r184 2) + (M2 77 r187 2)) 2) ≤ (M2 77 r14 2) → (zI (M2 77 r20 2) ∧ (((M2 77 r20 2) ≤ (Int.tdiv ((M2 77 r184 2) + (M2 77 r187 2)) 2) → (∀ M230 : zM, M230 = zu M2 65 h 6 (M2 65 h 4) → (∀ M233 : zM, M233 = zu M230 65 h 7 (Int.tdiv ((M2 77 r184 2) + (M2 77 r187 2)) 2) → (∀ M236 : zM, M236 = zu M233 65 h 8 ((Int.tdiv ((M2 77 r184 2) + (M2 77 r187 2)) 2) - v2) → P h M236)))) ∧ ((Int.tdiv ((M2 77 r184 2) + (M2 77 r187 2)) 2) < (M2 77 r20 2) → (∀ M239 : zM, M239 = zu M2 65 h 6 ((M2 65 h 4) - 1) → (∀ M242 : zM, M242 = zu M239 65 h 7 (M2 77 r14 2) → (∀ M245 : zM, M245 = zu M242 65 h 8 ((M2 77 r20 2) - v2) → P h M245)))))))))))))))))))))))))))) ∧ ((M2 65 h 4) = 0 → P h M2))))) :
    CR l m_X10_by 65 [zr 65 h, zi v1, zi v2] M P :=
(aw_aload_n d_X10_by_0 rfl rfl 0 rfl (by decide)
(aw_iconst d_X10_by_1 rfl
(aw_put (kc := 6) d_X10_by_2 rfl fp10_53 rfl rfl rfl rfl
(aw_nm fun M2 hqM2 => have e1 := H0 M2 hqM2; (aw_aload_n d_X10_by_5 rfl rfl 0 rfl (by decide)
(aw_getI (kc := 4) d_X10_by_6 rfl fl10_50 rfl rfl
(have z3 := e1.1; have e4 := e1.2; aw_if_ne d_X10_by_9 rfl rfl z3 (fun c5 => have e7 := e4.1 c5; (aw_aload_n d_X10_by_14 rfl rfl 0 rfl (by decide)
(have z9 := e7.1; aw_getE (kc := 0) d_X10_by_15 rfl fl10_9 rfl rfl (by decide) z9
(fun r10 hqr10 => (have e11 := e7.2 r10 hqr10; (aw_aload_n d_X10_by_18 rfl rfl 0 rfl (by decide)
(aw_getI (kc := 4) d_X10_by_19 rfl fl10_50 rfl rfl
(aw_iconst d_X10_by_22 rfl
(aw_isub d_X10_by_23 rfl
(have z12 := e11.1; have z13 := e11.2.1; aw_rale d_X10_by_24 rfl zd76.G (by decide) (zix_s z12) z13
(fun r14 hqr14 => (have e15 := e11.2.2 r14 hqr14; (aw_iconst d_X10_by_25 rfl
(aw_ialdG d_X10_by_26 rfl zd77.G (zix_s (by decide))
(aw_istore_n (lv' := [(3, zi (M2 77 r14 2)), (0, zr 65 h), (1, zi v1), (2, zi v2)]) d_X10_by_27 rfl rfl (by decide) rfl
(aw_aload_n d_X10_by_28 rfl rfl 1 rfl (by decide)
(have z16 := e15.1; aw_getE (kc := 1) d_X10_by_29 rfl fl10_15 rfl rfl (by decide) z16
(fun r17 hqr17 => (have e18 := e15.2 r17 hqr17; (aw_aload_n d_X10_by_32 rfl rfl 1 rfl (by decide)
(aw_getI (kc := 4) d_X10_by_33 rfl fl10_50 rfl rfl
(aw_iconst d_X10_by_36 rfl
(aw_isub d_X10_by_37 rfl
(have z19 := e18.1; aw_rale d_X10_by_38 rfl zd76.G (by decide) (zix_s z12) z19
(fun r20 hqr20 => (have e21 := e18.2 r20 hqr20; (aw_iconst d_X10_by_39 rfl
(aw_ialdG d_X10_by_40 rfl zd77.G (zix_s (by decide))
(aw_istore (lv' := [(4, zi (M2 77 r20 2)), (3, zi (M2 77 r14 2)), (0, zr 65 h), (1, zi v1), (2, zi v2)]) d_X10_by_41 rfl (by decide) rfl
(aw_aload_n d_X10_by_43 rfl rfl 2 rfl (by decide)
(aw_getI (kc := 2) d_X10_by_44 rfl fl10_40 rfl rfl
(aw_aload_n d_X10_by_47 rfl rfl 2 rfl (by decide)
(aw_getI (kc := 4) d_X10_by_48 rfl fl10_50 rfl rfl
(have z22 := e21.1; have e23 := e21.2; aw_icmp_le d_X10_by_51 rfl rfl z22 z3 (fun c24 => have e26 := e23.1 c24; (aw_iconst d_X10_by_69 rfl
(aw_istore (lv' := [(5, zi 0), (4, zi (M2 77 r20 2)), (3, zi (M2 77 r14 2)), (0, zr 65 h), (1, zi v1), (2, zi v2)]) d_X10_by_70 rfl (by decide) rfl
(aw_iload_n d_X10_by_72 rfl rfl 4 rfl
(have z28 := e26.1; have e29 := e26.2; aw_if_ne d_X10_by_73 rfl rfl z28 (fun c30 => have e32 := e29.1 c30; (aw_iload_n d_X10_by_109 rfl rfl 2 rfl
(aw_iload d_X10_by_110 rfl 1 rfl
(aw_iadd d_X10_by_112 rfl
(aw_iconst d_X10_by_113 rfl
(have z34 := e32.1; aw_idiv d_X10_by_114 rfl z34 (by decide) (by decide)
(have e35 := e32.2; (aw_istore (lv' := [(6, zi (Int.tdiv ((M2 77 r14 2) + (M2 77 r20 2)) 2)), (5, zi 0), (4, zi (M2 77 r20 2)), (3, zi (M2 77 r14 2)), (0, zr 65 h), (1, zi v1), (2, zi v2)]) d_X10_by_115 rfl (by decide) rfl
(aw_iload_n d_X10_by_117 rfl rfl 5 rfl
(aw_iconst d_X10_by_118 rfl
(aw_icmp_eq d_X10_by_119 rfl rfl z28 (by decide) (fun c36 => have e38 := e35.1 c36; (aw_iconst d_X10_by_144 rfl
(aw_goto d_X10_by_145 rfl
(aw_istore (lv' := [(7, zi 1), (6, zi (Int.tdiv ((M2 77 r14 2) + (M2 77 r20 2)) 2)), (5, zi 0), (4, zi (M2 77 r20 2)), (3, zi (M2 77 r14 2)), (0, zr 65 h), (1, zi v1), (2, zi v2)]) d_X10_by_149 rfl (by decide) rfl
(aw_aload_n d_X10_by_151 rfl rfl 5 rfl (by decide)
(aw_iload d_X10_by_152 rfl 0 rfl
(aw_if_eq d_X10_by_154 rfl rfl (by decide) (fun c40 => absurd c40 (by decide)) (fun _ => (aw_aload_n d_X10_by_157 rfl rfl 5 rfl (by decide)
(aw_getI (kc := 4) d_X10_by_158 rfl fl10_50 rfl rfl
(aw_iconst d_X10_by_161 rfl
(aw_isub d_X10_by_162 rfl
(aw_goto d_X10_by_163 rfl
(aw_put (kc := 6) d_X10_by_170 rfl fp10_53 rfl rfl rfl rfl
(aw_nm fun M42 hqM42 => have e41 := e38 M42 hqM42; (aw_aload_n d_X10_by_173 rfl rfl 5 rfl (by decide)
(aw_iload d_X10_by_174 rfl 0 rfl
(aw_if_eq d_X10_by_176 rfl rfl (by decide) (fun c43 => absurd c43 (by decide)) (fun _ => (aw_iload_n d_X10_by_179 rfl rfl 4 rfl
(aw_goto d_X10_by_180 rfl
(aw_put (kc := 7) d_X10_by_185 rfl fp10_56 rfl rfl rfl rfl
(aw_nm fun M45 hqM45 => have e44 := e41 M45 hqM45; (aw_aload_n d_X10_by_188 rfl rfl 5 rfl (by decide)
(aw_iload d_X10_by_189 rfl 0 rfl
(aw_if_eq d_X10_by_191 rfl rfl (by decide) (fun c46 => absurd c46 (by decide)) (fun _ => (aw_iload d_X10_by_194 rfl 3 rfl
(aw_goto d_X10_by_196 rfl
(aw_iload_n d_X10_by_201 rfl rfl 7 rfl
(aw_isub d_X10_by_202 rfl
(aw_put (kc := 8) d_X10_by_203 rfl fp10_59 rfl rfl rfl rfl
(aw_nm fun M48 hqM48 => have e47 := e44 M48 hqM48; (aw_aload_n d_X10_by_206 rfl rfl 5 rfl (by decide)
(aw_rrg d_X10_by_207 rfl (Or.inl ⟨_, rfl⟩) (by decide) e47))))))))))))))))))))))))))))))))))) (fun c37 => have e39 := e35.2 c37; (aw_iload_n d_X10_by_122 rfl rfl 5 rfl
(aw_if_ne d_X10_by_123 rfl rfl z28 (fun _ => (aw_iconst d_X10_by_148 rfl
(aw_istore (lv' := [(7, zi 0), (6, zi (Int.tdiv ((M2 77 r14 2) + (M2 77 r20 2)) 2)), (5, zi 0), (4, zi (M2 77 r20 2)), (3, zi (M2 77 r14 2)), (0, zr 65 h), (1, zi v1), (2, zi v2)]) d_X10_by_149 rfl (by decide) rfl
(aw_aload_n d_X10_by_151 rfl rfl 5 rfl (by decide)
(aw_iload d_X10_by_152 rfl 0 rfl
(aw_if_eq d_X10_by_154 rfl rfl (by decide) (fun _ => (aw_aload_n d_X10_by_166 rfl rfl 5 rfl (by decide)
(aw_getI (kc := 4) d_X10_by_167 rfl fl10_50 rfl rfl
(aw_put (kc := 6) d_X10_by_170 rfl fp10_53 rfl rfl rfl rfl
(aw_nm fun M52 hqM52 => have e51 := e39 M52 hqM52; (aw_aload_n d_X10_by_173 rfl rfl 5 rfl (by decide)
(aw_iload d_X10_by_174 rfl 0 rfl
(aw_if_eq d_X10_by_176 rfl rfl (by decide) (fun _ => (aw_iload d_X10_by_183 rfl 1 rfl
(aw_put (kc := 7) d_X10_by_185 rfl fp10_56 rfl rfl rfl rfl
(aw_nm fun M55 hqM55 => have e54 := e51 M55 hqM55; (aw_aload_n d_X10_by_188 rfl rfl 5 rfl (by decide)
(aw_iload d_X10_by_189 rfl 0 rfl
(aw_if_eq d_X10_by_191 rfl rfl (by decide) (fun _ => (aw_iload d_X10_by_199 rfl 1 rfl
(aw_iload_n d_X10_by_201 rfl rfl 7 rfl
(aw_isub d_X10_by_202 rfl
(aw_put (kc := 8) d_X10_by_203 rfl fp10_59 rfl rfl rfl rfl
(aw_nm fun M58 hqM58 => have e57 := e54 M58 hqM58; (aw_aload_n d_X10_by_206 rfl rfl 5 rfl (by decide)
(aw_rrg d_X10_by_207 rfl (Or.inl ⟨_, rfl⟩) (by decide) e57)))))))) (fun c56 => absurd c56 (by decide))))))))) (fun c53 => absurd c53 (by decide)))))))))) (fun c50 => absurd c50 (by decide)))))))) (fun c49 => absurd c30 (by omega)))))))))))))))) (fun c31 => have e33 := e29.2 c31; (aw_iload d_X10_by_76 rfl 0 rfl
(aw_if_eq d_X10_by_78 rfl rfl (by decide) (fun _ => (aw_iload_n d_X10_by_109 rfl rfl 2 rfl
(aw_iload d_X10_by_110 rfl 1 rfl
(aw_iadd d_X10_by_112 rfl
(aw_iconst d_X10_by_113 rfl
(have z60 := e33.1; aw_idiv d_X10_by_114 rfl z60 (by decide) (by decide)
(have e61 := e33.2; (aw_istore (lv' := [(6, zi (Int.tdiv ((M2 77 r14 2) + (M2 77 r20 2)) 2)), (5, zi 0), (4, zi (M2 77 r20 2)), (3, zi (M2 77 r14 2)), (0, zr 65 h), (1, zi v1), (2, zi v2)]) d_X10_by_115 rfl (by decide) rfl
(aw_iload_n d_X10_by_117 rfl rfl 5 rfl
(aw_iconst d_X10_by_118 rfl
(aw_icmp_eq d_X10_by_119 rfl rfl z28 (by decide) (fun c62 => have e64 := e61.1 c62; (aw_iconst d_X10_by_144 rfl
(aw_goto d_X10_by_145 rfl
(aw_istore (lv' := [(7, zi 1), (6, zi (Int.tdiv ((M2 77 r14 2) + (M2 77 r20 2)) 2)), (5, zi 0), (4, zi (M2 77 r20 2)), (3, zi (M2 77 r14 2)), (0, zr 65 h), (1, zi v1), (2, zi v2)]) d_X10_by_149 rfl (by decide) rfl
(aw_aload_n d_X10_by_151 rfl rfl 5 rfl (by decide)
(aw_iload d_X10_by_152 rfl 0 rfl
(aw_if_eq d_X10_by_154 rfl rfl (by decide) (fun c66 => absurd c66 (by decide)) (fun _ => (aw_aload_n d_X10_by_157 rfl rfl 5 rfl (by decide)
(aw_getI (kc := 4) d_X10_by_158 rfl fl10_50 rfl rfl
(aw_iconst d_X10_by_161 rfl
(aw_isub d_X10_by_162 rfl
(aw_goto d_X10_by_163 rfl
(aw_put (kc := 6) d_X10_by_170 rfl fp10_53 rfl rfl rfl rfl
(aw_nm fun M68 hqM68 => have e67 := e64 M68 hqM68; (aw_aload_n d_X10_by_173 rfl rfl 5 rfl (by decide)
(aw_iload d_X10_by_174 rfl 0 rfl
(aw_if_eq d_X10_by_176 rfl rfl (by decide) (fun c69 => absurd c69 (by decide)) (fun _ => (aw_iload_n d_X10_by_179 rfl rfl 4 rfl
(aw_goto d_X10_by_180 rfl
(aw_put (kc := 7) d_X10_by_185 rfl fp10_56 rfl rfl rfl rfl
(aw_nm fun M71 hqM71 => have e70 := e67 M71 hqM71; (aw_aload_n d_X10_by_188 rfl rfl 5 rfl (by decide)
(aw_iload d_X10_by_189 rfl 0 rfl
(aw_if_eq d_X10_by_191 rfl rfl (by decide) (fun c72 => absurd c72 (by decide)) (fun _ => (aw_iload d_X10_by_194 rfl 3 rfl
(aw_goto d_X10_by_196 rfl
(aw_iload_n d_X10_by_201 rfl rfl 7 rfl
(aw_isub d_X10_by_202 rfl
(aw_put (kc := 8) d_X10_by_203 rfl fp10_59 rfl rfl rfl rfl
(aw_nm fun M74 hqM74 => have e73 := e70 M74 hqM74; (aw_aload_n d_X10_by_206 rfl rfl 5 rfl (by decide)
(aw_rrg d_X10_by_207 rfl (Or.inl ⟨_, rfl⟩) (by decide) e73))))))))))))))))))))))))))))))))))) (fun c63 => have e65 := e61.2 c63; (aw_iload_n d_X10_by_122 rfl rfl 5 rfl
(aw_if_ne d_X10_by_123 rfl rfl z28 (fun c75 => absurd c31 (by omega)) (fun _ => (aw_iload d_X10_by_126 rfl 1 rfl
(aw_if_eq d_X10_by_128 rfl rfl (by decide) (fun _ => (aw_iconst d_X10_by_144 rfl
(aw_goto d_X10_by_145 rfl
(aw_istore (lv' := [(7, zi 1), (6, zi (Int.tdiv ((M2 77 r14 2) + (M2 77 r20 2)) 2)), (5, zi 0), (4, zi (M2 77 r20 2)), (3, zi (M2 77 r14 2)), (0, zr 65 h), (1, zi v1), (2, zi v2)]) d_X10_by_149 rfl (by decide) rfl
(aw_aload_n d_X10_by_151 rfl rfl 5 rfl (by decide)
(aw_iload d_X10_by_152 rfl 0 rfl
(aw_if_eq d_X10_by_154 rfl rfl (by decide) (fun c77 => absurd c77 (by decide)) (fun _ => (aw_aload_n d_X10_by_157 rfl rfl 5 rfl (by decide)
(aw_getI (kc := 4) d_X10_by_158 rfl fl10_50 rfl rfl
(aw_iconst d_X10_by_161 rfl
(aw_isub d_X10_by_162 rfl
(aw_goto d_X10_by_163 rfl
(aw_put (kc := 6) d_X10_by_170 rfl fp10_53 rfl rfl rfl rfl
(aw_nm fun M79 hqM79 => have e78 := e65 M79 hqM79; (aw_aload_n d_X10_by_173 rfl rfl 5 rfl (by decide)
(aw_iload d_X10_by_174 rfl 0 rfl
(aw_if_eq d_X10_by_176 rfl rfl (by decide) (fun c80 => absurd c80 (by decide)) (fun _ => (aw_iload_n d_X10_by_179 rfl rfl 4 rfl
(aw_goto d_X10_by_180 rfl
(aw_put (kc := 7) d_X10_by_185 rfl fp10_56 rfl rfl rfl rfl
(aw_nm fun M82 hqM82 => have e81 := e78 M82 hqM82; (aw_aload_n d_X10_by_188 rfl rfl 5 rfl (by decide)
(aw_iload d_X10_by_189 rfl 0 rfl
(aw_if_eq d_X10_by_191 rfl rfl (by decide) (fun c83 => absurd c83 (by decide)) (fun _ => (aw_iload d_X10_by_194 rfl 3 rfl
(aw_goto d_X10_by_196 rfl
(aw_iload_n d_X10_by_201 rfl rfl 7 rfl
(aw_isub d_X10_by_202 rfl
(aw_put (kc := 8) d_X10_by_203 rfl fp10_59 rfl rfl rfl rfl
(aw_nm fun M85 hqM85 => have e84 := e81 M85 hqM85; (aw_aload_n d_X10_by_206 rfl rfl 5 rfl (by decide)
(aw_rrg d_X10_by_207 rfl (Or.inl ⟨_, rfl⟩) (by decide) e84))))))))))))))))))))))))))))))))))) (fun c76 => absurd c76 (by decide))))))))))))))))))) (fun c59 => absurd c59 (by decide)))))))))) (fun c25 => have e27 := e23.2 c25; (aw_aload_n d_X10_by_54 rfl rfl 2 rfl (by decide)
(aw_getI (kc := 3) d_X10_by_55 rfl fl10_34 rfl rfl
(aw_aload_n d_X10_by_58 rfl rfl 2 rfl (by decide)
(aw_getI (kc := 4) d_X10_by_59 rfl fl10_50 rfl rfl
(have z86 := e27.1; have e87 := e27.2; aw_icmp_le d_X10_by_62 rfl rfl z86 z3 (fun c88 => have e90 := e87.1 c88; (aw_iconst d_X10_by_69 rfl
(aw_istore (lv' := [(5, zi 0), (4, zi (M2 77 r20 2)), (3, zi (M2 77 r14 2)), (0, zr 65 h), (1, zi v1), (2, zi v2)]) d_X10_by_70 rfl (by decide) rfl
(aw_iload_n d_X10_by_72 rfl rfl 4 rfl
(have z92 := e90.1; have e93 := e90.2; aw_if_ne d_X10_by_73 rfl rfl z92 (fun c94 => have e96 := e93.1 c94; (aw_iload_n d_X10_by_109 rfl rfl 2 rfl
(aw_iload d_X10_by_110 rfl 1 rfl
(aw_iadd d_X10_by_112 rfl
(aw_iconst d_X10_by_113 rfl
(have z98 := e96.1; aw_idiv d_X10_by_114 rfl z98 (by decide) (by decide)
(have e99 := e96.2; (aw_istore (lv' := [(6, zi (Int.tdiv ((M2 77 r14 2) + (M2 77 r20 2)) 2)), (5, zi 0), (4, zi (M2 77 r20 2)), (3, zi (M2 77 r14 2)), (0, zr 65 h), (1, zi v1), (2, zi v2)]) d_X10_by_115 rfl (by decide) rfl
(aw_iload_n d_X10_by_117 rfl rfl 5 rfl
(aw_iconst d_X10_by_118 rfl
(aw_icmp_eq d_X10_by_119 rfl rfl z92 (by decide) (fun c100 => have e102 := e99.1 c100; (aw_iconst d_X10_by_144 rfl
(aw_goto d_X10_by_145 rfl
(aw_istore (lv' := [(7, zi 1), (6, zi (Int.tdiv ((M2 77 r14 2) + (M2 77 r20 2)) 2)), (5, zi 0), (4, zi (M2 77 r20 2)), (3, zi (M2 77 r14 2)), (0, zr 65 h), (1, zi v1), (2, zi v2)]) d_X10_by_149 rfl (by decide) rfl
(aw_aload_n d_X10_by_151 rfl rfl 5 rfl (by decide)
(aw_iload d_X10_by_152 rfl 0 rfl
(aw_if_eq d_X10_by_154 rfl rfl (by decide) (fun c104 => absurd c104 (by decide)) (fun _ => (aw_aload_n d_X10_by_157 rfl rfl 5 rfl (by decide)
(aw_getI (kc := 4) d_X10_by_158 rfl fl10_50 rfl rfl
(aw_iconst d_X10_by_161 rfl
(aw_isub d_X10_by_162 rfl
(aw_goto d_X10_by_163 rfl
(aw_put (kc := 6) d_X10_by_170 rfl fp10_53 rfl rfl rfl rfl
(aw_nm fun M106 hqM106 => have e105 := e102 M106 hqM106; (aw_aload_n d_X10_by_173 rfl rfl 5 rfl (by decide)
(aw_iload d_X10_by_174 rfl 0 rfl
(aw_if_eq d_X10_by_176 rfl rfl (by decide) (fun c107 => absurd c107 (by decide)) (fun _ => (aw_iload_n d_X10_by_179 rfl rfl 4 rfl
(aw_goto d_X10_by_180 rfl
(aw_put (kc := 7) d_X10_by_185 rfl fp10_56 rfl rfl rfl rfl
(aw_nm fun M109 hqM109 => have e108 := e105 M109 hqM109; (aw_aload_n d_X10_by_188 rfl rfl 5 rfl (by decide)
(aw_iload d_X10_by_189 rfl 0 rfl
(aw_if_eq d_X10_by_191 rfl rfl (by decide) (fun c110 => absurd c110 (by decide)) (fun _ => (aw_iload d_X10_by_194 rfl 3 rfl
(aw_goto d_X10_by_196 rfl
(aw_iload_n d_X10_by_201 rfl rfl 7 rfl
(aw_isub d_X10_by_202 rfl
(aw_put (kc := 8) d_X10_by_203 rfl fp10_59 rfl rfl rfl rfl
(aw_nm fun M112 hqM112 => have e111 := e108 M112 hqM112; (aw_aload_n d_X10_by_206 rfl rfl 5 rfl (by decide)
(aw_rrg d_X10_by_207 rfl (Or.inl ⟨_, rfl⟩) (by decide) e111))))))))))))))))))))))))))))))))))) (fun c101 => have e103 := e99.2 c101; (aw_iload_n d_X10_by_122 rfl rfl 5 rfl
(aw_if_ne d_X10_by_123 rfl rfl z92 (fun _ => (aw_iconst d_X10_by_148 rfl
(aw_istore (lv' := [(7, zi 0), (6, zi (Int.tdiv ((M2 77 r14 2) + (M2 77 r20 2)) 2)), (5, zi 0), (4, zi (M2 77 r20 2)), (3, zi (M2 77 r14 2)), (0, zr 65 h), (1, zi v1), (2, zi v2)]) d_X10_by_149 rfl (by decide) rfl
(aw_aload_n d_X10_by_151 rfl rfl 5 rfl (by decide)
(aw_iload d_X10_by_152 rfl 0 rfl
(aw_if_eq d_X10_by_154 rfl rfl (by decide) (fun _ => (aw_aload_n d_X10_by_166 rfl rfl 5 rfl (by decide)
(aw_getI (kc := 4) d_X10_by_167 rfl fl10_50 rfl rfl
(aw_put (kc := 6) d_X10_by_170 rfl fp10_53 rfl rfl rfl rfl
(aw_nm fun M116 hqM116 => have e115 := e103 M116 hqM116; (aw_aload_n d_X10_by_173 rfl rfl 5 rfl (by decide)
(aw_iload d_X10_by_174 rfl 0 rfl
(aw_if_eq d_X10_by_176 rfl rfl (by decide) (fun _ => (aw_iload d_X10_by_183 rfl 1 rfl
(aw_put (kc := 7) d_X10_by_185 rfl fp10_56 rfl rfl rfl rfl
(aw_nm fun M119 hqM119 => have e118 := e115 M119 hqM119; (aw_aload_n d_X10_by_188 rfl rfl 5 rfl (by decide)
(aw_iload d_X10_by_189 rfl 0 rfl
(aw_if_eq d_X10_by_191 rfl rfl (by decide) (fun _ => (aw_iload d_X10_by_199 rfl 1 rfl
(aw_iload_n d_X10_by_201 rfl rfl 7 rfl
(aw_isub d_X10_by_202 rfl
(aw_put (kc := 8) d_X10_by_203 rfl fp10_59 rfl rfl rfl rfl
(aw_nm fun M122 hqM122 => have e121 := e118 M122 hqM122; (aw_aload_n d_X10_by_206 rfl rfl 5 rfl (by decide)
(aw_rrg d_X10_by_207 rfl (Or.inl ⟨_, rfl⟩) (by decide) e121)))))))) (fun c120 => absurd c120 (by decide))))))))) (fun c117 => absurd c117 (by decide)))))))))) (fun c114 => absurd c114 (by decide)))))))) (fun c113 => absurd c94 (by omega)))))))))))))))) (fun c95 => have e97 := e93.2 c95; (aw_iload d_X10_by_76 rfl 0 rfl
(aw_if_eq d_X10_by_78 rfl rfl (by decide) (fun _ => (aw_iload_n d_X10_by_109 rfl rfl 2 rfl
(aw_iload d_X10_by_110 rfl 1 rfl
(aw_iadd d_X10_by_112 rfl
(aw_iconst d_X10_by_113 rfl
(have z124 := e97.1; aw_idiv d_X10_by_114 rfl z124 (by decide) (by decide)
(have e125 := e97.2; (aw_istore (lv' := [(6, zi (Int.tdiv ((M2 77 r14 2) + (M2 77 r20 2)) 2)), (5, zi 0), (4, zi (M2 77 r20 2)), (3, zi (M2 77 r14 2)), (0, zr 65 h), (1, zi v1), (2, zi v2)]) d_X10_by_115 rfl (by decide) rfl
(aw_iload_n d_X10_by_117 rfl rfl 5 rfl
(aw_iconst d_X10_by_118 rfl
(aw_icmp_eq d_X10_by_119 rfl rfl z92 (by decide) (fun c126 => have e128 := e125.1 c126; (aw_iconst d_X10_by_144 rfl
(aw_goto d_X10_by_145 rfl
(aw_istore (lv' := [(7, zi 1), (6, zi (Int.tdiv ((M2 77 r14 2) + (M2 77 r20 2)) 2)), (5, zi 0), (4, zi (M2 77 r20 2)), (3, zi (M2 77 r14 2)), (0, zr 65 h), (1, zi v1), (2, zi v2)]) d_X10_by_149 rfl (by decide) rfl
(aw_aload_n d_X10_by_151 rfl rfl 5 rfl (by decide)
(aw_iload d_X10_by_152 rfl 0 rfl
(aw_if_eq d_X10_by_154 rfl rfl (by decide) (fun c130 => absurd c130 (by decide)) (fun _ => (aw_aload_n d_X10_by_157 rfl rfl 5 rfl (by decide)
(aw_getI (kc := 4) d_X10_by_158 rfl fl10_50 rfl rfl
(aw_iconst d_X10_by_161 rfl
(aw_isub d_X10_by_162 rfl
(aw_goto d_X10_by_163 rfl
(aw_put (kc := 6) d_X10_by_170 rfl fp10_53 rfl rfl rfl rfl
(aw_nm fun M132 hqM132 => have e131 := e128 M132 hqM132; (aw_aload_n d_X10_by_173 rfl rfl 5 rfl (by decide)
(aw_iload d_X10_by_174 rfl 0 rfl
(aw_if_eq d_X10_by_176 rfl rfl (by decide) (fun c133 => absurd c133 (by decide)) (fun _ => (aw_iload_n d_X10_by_179 rfl rfl 4 rfl
(aw_goto d_X10_by_180 rfl
(aw_put (kc := 7) d_X10_by_185 rfl fp10_56 rfl rfl rfl rfl
(aw_nm fun M135 hqM135 => have e134 := e131 M135 hqM135; (aw_aload_n d_X10_by_188 rfl rfl 5 rfl (by decide)
(aw_iload d_X10_by_189 rfl 0 rfl
(aw_if_eq d_X10_by_191 rfl rfl (by decide) (fun c136 => absurd c136 (by decide)) (fun _ => (aw_iload d_X10_by_194 rfl 3 rfl
(aw_goto d_X10_by_196 rfl
(aw_iload_n d_X10_by_201 rfl rfl 7 rfl
(aw_isub d_X10_by_202 rfl
(aw_put (kc := 8) d_X10_by_203 rfl fp10_59 rfl rfl rfl rfl
(aw_nm fun M138 hqM138 => have e137 := e134 M138 hqM138; (aw_aload_n d_X10_by_206 rfl rfl 5 rfl (by decide)
(aw_rrg d_X10_by_207 rfl (Or.inl ⟨_, rfl⟩) (by decide) e137))))))))))))))))))))))))))))))))))) (fun c127 => have e129 := e125.2 c127; (aw_iload_n d_X10_by_122 rfl rfl 5 rfl
(aw_if_ne d_X10_by_123 rfl rfl z92 (fun c139 => absurd c95 (by omega)) (fun _ => (aw_iload d_X10_by_126 rfl 1 rfl
(aw_if_eq d_X10_by_128 rfl rfl (by decide) (fun _ => (aw_iconst d_X10_by_144 rfl
(aw_goto d_X10_by_145 rfl
(aw_istore (lv' := [(7, zi 1), (6, zi (Int.tdiv ((M2 77 r14 2) + (M2 77 r20 2)) 2)), (5, zi 0), (4, zi (M2 77 r20 2)), (3, zi (M2 77 r14 2)), (0, zr 65 h), (1, zi v1), (2, zi v2)]) d_X10_by_149 rfl (by decide) rfl
(aw_aload_n d_X10_by_151 rfl rfl 5 rfl (by decide)
(aw_iload d_X10_by_152 rfl 0 rfl
(aw_if_eq d_X10_by_154 rfl rfl (by decide) (fun c141 => absurd c141 (by decide)) (fun _ => (aw_aload_n d_X10_by_157 rfl rfl 5 rfl (by decide)
(aw_getI (kc := 4) d_X10_by_158 rfl fl10_50 rfl rfl
(aw_iconst d_X10_by_161 rfl
(aw_isub d_X10_by_162 rfl
(aw_goto d_X10_by_163 rfl
(aw_put (kc := 6) d_X10_by_170 rfl fp10_53 rfl rfl rfl rfl
(aw_nm fun M143 hqM143 => have e142 := e129 M143 hqM143; (aw_aload_n d_X10_by_173 rfl rfl 5 rfl (by decide)
(aw_iload d_X10_by_174 rfl 0 rfl
(aw_if_eq d_X10_by_176 rfl rfl (by decide) (fun c144 => absurd c144 (by decide)) (fun _ => (aw_iload_n d_X10_by_179 rfl rfl 4 rfl
(aw_goto d_X10_by_180 rfl
(aw_put (kc := 7) d_X10_by_185 rfl fp10_56 rfl rfl rfl rfl
(aw_nm fun M146 hqM146 => have e145 := e142 M146 hqM146; (aw_aload_n d_X10_by_188 rfl rfl 5 rfl (by decide)
(aw_iload d_X10_by_189 rfl 0 rfl
(aw_if_eq d_X10_by_191 rfl rfl (by decide) (fun c147 => absurd c147 (by decide)) (fun _ => (aw_iload d_X10_by_194 rfl 3 rfl
(aw_goto d_X10_by_196 rfl
(aw_iload_n d_X10_by_201 rfl rfl 7 rfl
(aw_isub d_X10_by_202 rfl
(aw_put (kc := 8) d_X10_by_203 rfl fp10_59 rfl rfl rfl rfl
(aw_nm fun M149 hqM149 => have e148 := e145 M149 hqM149; (aw_aload_n d_X10_by_206 rfl rfl 5 rfl (by decide)
(aw_rrg d_X10_by_207 rfl (Or.inl ⟨_, rfl⟩) (by decide) e148))))))))))))))))))))))))))))))))))) (fun c140 => absurd c140 (by decide))))))))))))))))))) (fun c123 => absurd c123 (by decide)))))))))) (fun c89 => have e91 := e87.2 c89; (aw_iconst d_X10_by_65 rfl
(aw_goto d_X10_by_66 rfl
(aw_istore (lv' := [(5, zi 1), (4, zi (M2 77 r20 2)), (3, zi (M2 77 r14 2)), (0, zr 65 h), (1, zi v1), (2, zi v2)]) d_X10_by_70 rfl (by decide) rfl
(aw_iload_n d_X10_by_72 rfl rfl 4 rfl
(have z150 := e91.1; have e151 := e91.2; aw_if_ne d_X10_by_73 rfl rfl z150 (fun c152 => have e154 := e151.1 c152; (aw_iload_n d_X10_by_109 rfl rfl 2 rfl
(aw_iload d_X10_by_110 rfl 1 rfl
(aw_iadd d_X10_by_112 rfl
(aw_iconst d_X10_by_113 rfl
(have z156 := e154.1; aw_idiv d_X10_by_114 rfl z156 (by decide) (by decide)
(have e157 := e154.2; (aw_istore (lv' := [(6, zi (Int.tdiv ((M2 77 r14 2) + (M2 77 r20 2)) 2)), (5, zi 1), (4, zi (M2 77 r20 2)), (3, zi (M2 77 r14 2)), (0, zr 65 h), (1, zi v1), (2, zi v2)]) d_X10_by_115 rfl (by decide) rfl
(aw_iload_n d_X10_by_117 rfl rfl 5 rfl
(aw_iconst d_X10_by_118 rfl
(aw_icmp_eq d_X10_by_119 rfl rfl z150 (by decide) (fun c158 => have e160 := e157.1 c158; (aw_iconst d_X10_by_144 rfl
(aw_goto d_X10_by_145 rfl
(aw_istore (lv' := [(7, zi 1), (6, zi (Int.tdiv ((M2 77 r14 2) + (M2 77 r20 2)) 2)), (5, zi 1), (4, zi (M2 77 r20 2)), (3, zi (M2 77 r14 2)), (0, zr 65 h), (1, zi v1), (2, zi v2)]) d_X10_by_149 rfl (by decide) rfl
(aw_aload_n d_X10_by_151 rfl rfl 5 rfl (by decide)
(aw_iload d_X10_by_152 rfl 0 rfl
(aw_if_eq d_X10_by_154 rfl rfl (by decide) (fun c162 => absurd c162 (by decide)) (fun _ => (aw_aload_n d_X10_by_157 rfl rfl 5 rfl (by decide)
(aw_getI (kc := 4) d_X10_by_158 rfl fl10_50 rfl rfl
(aw_iconst d_X10_by_161 rfl
(aw_isub d_X10_by_162 rfl
(aw_goto d_X10_by_163 rfl
(aw_put (kc := 6) d_X10_by_170 rfl fp10_53 rfl rfl rfl rfl
(aw_nm fun M164 hqM164 => have e163 := e160 M164 hqM164; (aw_aload_n d_X10_by_173 rfl rfl 5 rfl (by decide)
(aw_iload d_X10_by_174 rfl 0 rfl
(aw_if_eq d_X10_by_176 rfl rfl (by decide) (fun c165 => absurd c165 (by decide)) (fun _ => (aw_iload_n d_X10_by_179 rfl rfl 4 rfl
(aw_goto d_X10_by_180 rfl
(aw_put (kc := 7) d_X10_by_185 rfl fp10_56 rfl rfl rfl rfl
(aw_nm fun M167 hqM167 => have e166 := e163 M167 hqM167; (aw_aload_n d_X10_by_188 rfl rfl 5 rfl (by decide)
(aw_iload d_X10_by_189 rfl 0 rfl
(aw_if_eq d_X10_by_191 rfl rfl (by decide) (fun c168 => absurd c168 (by decide)) (fun _ => (aw_iload d_X10_by_194 rfl 3 rfl
(aw_goto d_X10_by_196 rfl
(aw_iload_n d_X10_by_201 rfl rfl 7 rfl
(aw_isub d_X10_by_202 rfl
(aw_put (kc := 8) d_X10_by_203 rfl fp10_59 rfl rfl rfl rfl
(aw_nm fun M170 hqM170 => have e169 := e166 M170 hqM170; (aw_aload_n d_X10_by_206 rfl rfl 5 rfl (by decide)
(aw_rrg d_X10_by_207 rfl (Or.inl ⟨_, rfl⟩) (by decide) e169))))))))))))))))))))))))))))))))))) (fun c159 => have e161 := e157.2 c159; (aw_iload_n d_X10_by_122 rfl rfl 5 rfl
(aw_if_ne d_X10_by_123 rfl rfl z150 (fun _ => (aw_iconst d_X10_by_148 rfl
(aw_istore (lv' := [(7, zi 0), (6, zi (Int.tdiv ((M2 77 r14 2) + (M2 77 r20 2)) 2)), (5, zi 1), (4, zi (M2 77 r20 2)), (3, zi (M2 77 r14 2)), (0, zr 65 h), (1, zi v1), (2, zi v2)]) d_X10_by_149 rfl (by decide) rfl
(aw_aload_n d_X10_by_151 rfl rfl 5 rfl (by decide)
(aw_iload d_X10_by_152 rfl 0 rfl
(aw_if_eq d_X10_by_154 rfl rfl (by decide) (fun _ => (aw_aload_n d_X10_by_166 rfl rfl 5 rfl (by decide)
(aw_getI (kc := 4) d_X10_by_167 rfl fl10_50 rfl rfl
(aw_put (kc := 6) d_X10_by_170 rfl fp10_53 rfl rfl rfl rfl
(aw_nm fun M174 hqM174 => have e173 := e161 M174 hqM174; (aw_aload_n d_X10_by_173 rfl rfl 5 rfl (by decide)
(aw_iload d_X10_by_174 rfl 0 rfl
(aw_if_eq d_X10_by_176 rfl rfl (by decide) (fun _ => (aw_iload d_X10_by_183 rfl 1 rfl
(aw_put (kc := 7) d_X10_by_185 rfl fp10_56 rfl rfl rfl rfl
(aw_nm fun M177 hqM177 => have e176 := e173 M177 hqM177; (aw_aload_n d_X10_by_188 rfl rfl 5 rfl (by decide)
(aw_iload d_X10_by_189 rfl 0 rfl
(aw_if_eq d_X10_by_191 rfl rfl (by decide) (fun _ => (aw_iload d_X10_by_199 rfl 1 rfl
(aw_iload_n d_X10_by_201 rfl rfl 7 rfl
(aw_isub d_X10_by_202 rfl
(aw_put (kc := 8) d_X10_by_203 rfl fp10_59 rfl rfl rfl rfl
(aw_nm fun M180 hqM180 => have e179 := e176 M180 hqM180; (aw_aload_n d_X10_by_206 rfl rfl 5 rfl (by decide)
(aw_rrg d_X10_by_207 rfl (Or.inl ⟨_, rfl⟩) (by decide) e179)))))))) (fun c178 => absurd c178 (by decide))))))))) (fun c175 => absurd c175 (by decide)))))))))) (fun c172 => absurd c172 (by decide)))))))) (fun c171 => absurd c152 (by omega)))))))))))))))) (fun c153 => have e155 := e151.2 c153; (aw_iload d_X10_by_76 rfl 0 rfl
(aw_if_eq d_X10_by_78 rfl rfl (by decide) (fun c181 => absurd c181 (by decide)) (fun _ => (aw_aload_n d_X10_by_81 rfl rfl 3 rfl (by decide)
(aw_getEq (kc := 0) (r := r10) d_X10_by_82 rfl fl10_9 rfl rfl (by decide) z9 hqr10
(aw_aload_n d_X10_by_85 rfl rfl 3 rfl (by decide)
(aw_getI (kc := 4) d_X10_by_86 rfl fl10_50 rfl rfl
(have z182 := e155.1; have z183 := e155.2.1; aw_rale d_X10_by_89 rfl zd76.G (by decide) (zix_s z182) z183
(fun r184 hqr184 => (have e185 := e155.2.2 r184 hqr184; (aw_iconst d_X10_by_90 rfl
(aw_ialdG d_X10_by_91 rfl zd77.G (zix_s (by decide))
(aw_aload_n d_X10_by_92 rfl rfl 3 rfl (by decide)
(aw_getEq (kc := 1) (r := r17) d_X10_by_93 rfl fl10_15 rfl rfl (by decide) z16 hqr17
(aw_aload_n d_X10_by_96 rfl rfl 3 rfl (by decide)
(aw_getI (kc := 4) d_X10_by_97 rfl fl10_50 rfl rfl
(have z186 := e185.1; aw_rale d_X10_by_100 rfl zd76.G (by decide) (zix_s z182) z186
(fun r187 hqr187 => (have e188 := e185.2 r187 hqr187; (aw_iconst d_X10_by_101 rfl
(aw_ialdG d_X10_by_102 rfl zd77.G (zix_s (by decide))
(aw_iadd d_X10_by_103 rfl
(aw_iconst d_X10_by_104 rfl
(have z189 := e188.1; aw_idiv d_X10_by_105 rfl z189 (by decide) (by decide)
(have e190 := e188.2; (aw_goto d_X10_by_106 rfl
(aw_istore (lv' := [(6, zi (Int.tdiv ((M2 77 r184 2) + (M2 77 r187 2)) 2)), (5, zi 1), (4, zi (M2 77 r20 2)), (3, zi (M2 77 r14 2)), (0, zr 65 h), (1, zi v1), (2, zi v2)]) d_X10_by_115 rfl (by decide) rfl
(aw_iload_n d_X10_by_117 rfl rfl 5 rfl
(aw_iconst d_X10_by_118 rfl
(aw_icmp_eq d_X10_by_119 rfl rfl z150 (by decide) (fun c191 => have e193 := e190.1 c191; (aw_iconst d_X10_by_144 rfl
(aw_goto d_X10_by_145 rfl
(aw_istore (lv' := [(7, zi 1), (6, zi (Int.tdiv ((M2 77 r184 2) + (M2 77 r187 2)) 2)), (5, zi 1), (4, zi (M2 77 r20 2)), (3, zi (M2 77 r14 2)), (0, zr 65 h), (1, zi v1), (2, zi v2)]) d_X10_by_149 rfl (by decide) rfl
(aw_aload_n d_X10_by_151 rfl rfl 5 rfl (by decide)
(aw_iload d_X10_by_152 rfl 0 rfl
(aw_if_eq d_X10_by_154 rfl rfl (by decide) (fun c195 => absurd c195 (by decide)) (fun _ => (aw_aload_n d_X10_by_157 rfl rfl 5 rfl (by decide)
(aw_getI (kc := 4) d_X10_by_158 rfl fl10_50 rfl rfl
(aw_iconst d_X10_by_161 rfl
(aw_isub d_X10_by_162 rfl
(aw_goto d_X10_by_163 rfl
(aw_put (kc := 6) d_X10_by_170 rfl fp10_53 rfl rfl rfl rfl
(aw_nm fun M197 hqM197 => have e196 := e193 M197 hqM197; (aw_aload_n d_X10_by_173 rfl rfl 5 rfl (by decide)
(aw_iload d_X10_by_174 rfl 0 rfl
(aw_if_eq d_X10_by_176 rfl rfl (by decide) (fun c198 => absurd c198 (by decide)) (fun _ => (aw_iload_n d_X10_by_179 rfl rfl 4 rfl
(aw_goto d_X10_by_180 rfl
(aw_put (kc := 7) d_X10_by_185 rfl fp10_56 rfl rfl rfl rfl
(aw_nm fun M200 hqM200 => have e199 := e196 M200 hqM200; (aw_aload_n d_X10_by_188 rfl rfl 5 rfl (by decide)
(aw_iload d_X10_by_189 rfl 0 rfl
(aw_if_eq d_X10_by_191 rfl rfl (by decide) (fun c201 => absurd c201 (by decide)) (fun _ => (aw_iload d_X10_by_194 rfl 3 rfl
(aw_goto d_X10_by_196 rfl
(aw_iload_n d_X10_by_201 rfl rfl 7 rfl
(aw_isub d_X10_by_202 rfl
(aw_put (kc := 8) d_X10_by_203 rfl fp10_59 rfl rfl rfl rfl
(aw_nm fun M203 hqM203 => have e202 := e199 M203 hqM203; (aw_aload_n d_X10_by_206 rfl rfl 5 rfl (by decide)
(aw_rrg d_X10_by_207 rfl (Or.inl ⟨_, rfl⟩) (by decide) e202))))))))))))))))))))))))))))))))))) (fun c192 => have e194 := e190.2 c192; (aw_iload_n d_X10_by_122 rfl rfl 5 rfl
(aw_if_ne d_X10_by_123 rfl rfl z150 (fun c204 => absurd c153 (by omega)) (fun _ => (aw_iload d_X10_by_126 rfl 1 rfl
(aw_if_eq d_X10_by_128 rfl rfl (by decide) (fun c205 => absurd c205 (by decide)) (fun _ => (aw_iload d_X10_by_131 rfl 0 rfl
(aw_iload_n d_X10_by_133 rfl rfl 3 rfl
(have z206 := e194.1; have z207 := e194.2.1; have e208 := e194.2.2; aw_icmp_gt d_X10_by_134 rfl rfl z206 z207 (fun c209 => have e211 := e208.1 c209; (aw_iconst d_X10_by_144 rfl
(aw_goto d_X10_by_145 rfl
(aw_istore (lv' := [(7, zi 1), (6, zi (Int.tdiv ((M2 77 r184 2) + (M2 77 r187 2)) 2)), (5, zi 1), (4, zi (M2 77 r20 2)), (3, zi (M2 77 r14 2)), (0, zr 65 h), (1, zi v1), (2, zi v2)]) d_X10_by_149 rfl (by decide) rfl
(aw_aload_n d_X10_by_151 rfl rfl 5 rfl (by decide)
(aw_iload d_X10_by_152 rfl 0 rfl
(aw_if_eq d_X10_by_154 rfl rfl (by decide) (fun c213 => absurd c213 (by decide)) (fun _ => (aw_aload_n d_X10_by_157 rfl rfl 5 rfl (by decide)
(aw_getI (kc := 4) d_X10_by_158 rfl fl10_50 rfl rfl
(aw_iconst d_X10_by_161 rfl
(aw_isub d_X10_by_162 rfl
(aw_goto d_X10_by_163 rfl
(aw_put (kc := 6) d_X10_by_170 rfl fp10_53 rfl rfl rfl rfl
(aw_nm fun M215 hqM215 => have e214 := e211 M215 hqM215; (aw_aload_n d_X10_by_173 rfl rfl 5 rfl (by decide)
(aw_iload d_X10_by_174 rfl 0 rfl
(aw_if_eq d_X10_by_176 rfl rfl (by decide) (fun c216 => absurd c216 (by decide)) (fun _ => (aw_iload_n d_X10_by_179 rfl rfl 4 rfl
(aw_goto d_X10_by_180 rfl
(aw_put (kc := 7) d_X10_by_185 rfl fp10_56 rfl rfl rfl rfl
(aw_nm fun M218 hqM218 => have e217 := e214 M218 hqM218; (aw_aload_n d_X10_by_188 rfl rfl 5 rfl (by decide)
(aw_iload d_X10_by_189 rfl 0 rfl
(aw_if_eq d_X10_by_191 rfl rfl (by decide) (fun c219 => absurd c219 (by decide)) (fun _ => (aw_iload d_X10_by_194 rfl 3 rfl
(aw_goto d_X10_by_196 rfl
(aw_iload_n d_X10_by_201 rfl rfl 7 rfl
(aw_isub d_X10_by_202 rfl
(aw_put (kc := 8) d_X10_by_203 rfl fp10_59 rfl rfl rfl rfl
(aw_nm fun M221 hqM221 => have e220 := e217 M221 hqM221; (aw_aload_n d_X10_by_206 rfl rfl 5 rfl (by decide)
(aw_rrg d_X10_by_207 rfl (Or.inl ⟨_, rfl⟩) (by decide) e220))))))))))))))))))))))))))))))))))) (fun c210 => have e212 := e208.2 c210; (aw_iload d_X10_by_137 rfl 0 rfl
(aw_iload d_X10_by_139 rfl 2 rfl
(have z222 := e212.1; have e223 := e212.2; aw_icmp_ge d_X10_by_141 rfl rfl z206 z222 (fun c224 => have e226 := e223.1 c224; (aw_iconst d_X10_by_148 rfl
(aw_istore (lv' := [(7, zi 0), (6, zi (Int.tdiv ((M2 77 r184 2) + (M2 77 r187 2)) 2)), (5, zi 1), (4, zi (M2 77 r20 2)), (3, zi (M2 77 r14 2)), (0, zr 65 h), (1, zi v1), (2, zi v2)]) d_X10_by_149 rfl (by decide) rfl
(aw_aload_n d_X10_by_151 rfl rfl 5 rfl (by decide)
(aw_iload d_X10_by_152 rfl 0 rfl
(aw_if_eq d_X10_by_154 rfl rfl (by decide) (fun _ => (aw_aload_n d_X10_by_166 rfl rfl 5 rfl (by decide)
(aw_getI (kc := 4) d_X10_by_167 rfl fl10_50 rfl rfl
(aw_put (kc := 6) d_X10_by_170 rfl fp10_53 rfl rfl rfl rfl
(aw_nm fun M230 hqM230 => have e229 := e226 M230 hqM230; (aw_aload_n d_X10_by_173 rfl rfl 5 rfl (by decide)
(aw_iload d_X10_by_174 rfl 0 rfl
(aw_if_eq d_X10_by_176 rfl rfl (by decide) (fun _ => (aw_iload d_X10_by_183 rfl 1 rfl
(aw_put (kc := 7) d_X10_by_185 rfl fp10_56 rfl rfl rfl rfl
(aw_nm fun M233 hqM233 => have e232 := e229 M233 hqM233; (aw_aload_n d_X10_by_188 rfl rfl 5 rfl (by decide)
(aw_iload d_X10_by_189 rfl 0 rfl
(aw_if_eq d_X10_by_191 rfl rfl (by decide) (fun _ => (aw_iload d_X10_by_199 rfl 1 rfl
(aw_iload_n d_X10_by_201 rfl rfl 7 rfl
(aw_isub d_X10_by_202 rfl
(aw_put (kc := 8) d_X10_by_203 rfl fp10_59 rfl rfl rfl rfl
(aw_nm fun M236 hqM236 => have e235 := e232 M236 hqM236; (aw_aload_n d_X10_by_206 rfl rfl 5 rfl (by decide)
(aw_rrg d_X10_by_207 rfl (Or.inl ⟨_, rfl⟩) (by decide) e235)))))))) (fun c234 => absurd c234 (by decide))))))))) (fun c231 => absurd c231 (by decide)))))))))) (fun c228 => absurd c228 (by decide)))))))) (fun c225 => have e227 := e223.2 c225; (aw_iconst d_X10_by_144 rfl
(aw_goto d_X10_by_145 rfl
(aw_istore (lv' := [(7, zi 1), (6, zi (Int.tdiv ((M2 77 r184 2) + (M2 77 r187 2)) 2)), (5, zi 1), (4, zi (M2 77 r20 2)), (3, zi (M2 77 r14 2)), (0, zr 65 h), (1, zi v1), (2, zi v2)]) d_X10_by_149 rfl (by decide) rfl
(aw_aload_n d_X10_by_151 rfl rfl 5 rfl (by decide)
(aw_iload d_X10_by_152 rfl 0 rfl
(aw_if_eq d_X10_by_154 rfl rfl (by decide) (fun c237 => absurd c237 (by decide)) (fun _ => (aw_aload_n d_X10_by_157 rfl rfl 5 rfl (by decide)
(aw_getI (kc := 4) d_X10_by_158 rfl fl10_50 rfl rfl
(aw_iconst d_X10_by_161 rfl
(aw_isub d_X10_by_162 rfl
(aw_goto d_X10_by_163 rfl
(aw_put (kc := 6) d_X10_by_170 rfl fp10_53 rfl rfl rfl rfl
(aw_nm fun M239 hqM239 => have e238 := e227 M239 hqM239; (aw_aload_n d_X10_by_173 rfl rfl 5 rfl (by decide)
(aw_iload d_X10_by_174 rfl 0 rfl
(aw_if_eq d_X10_by_176 rfl rfl (by decide) (fun c240 => absurd c240 (by decide)) (fun _ => (aw_iload_n d_X10_by_179 rfl rfl 4 rfl
(aw_goto d_X10_by_180 rfl
(aw_put (kc := 7) d_X10_by_185 rfl fp10_56 rfl rfl rfl rfl
(aw_nm fun M242 hqM242 => have e241 := e238 M242 hqM242; (aw_aload_n d_X10_by_188 rfl rfl 5 rfl (by decide)
(aw_iload d_X10_by_189 rfl 0 rfl
(aw_if_eq d_X10_by_191 rfl rfl (by decide) (fun c243 => absurd c243 (by decide)) (fun _ => (aw_iload d_X10_by_194 rfl 3 rfl
(aw_goto d_X10_by_196 rfl
(aw_iload_n d_X10_by_201 rfl rfl 7 rfl
(aw_isub d_X10_by_202 rfl
(aw_put (kc := 8) d_X10_by_203 rfl fp10_59 rfl rfl rfl rfl
(aw_nm fun M245 hqM245 => have e244 := e241 M245 hqM245; (aw_aload_n d_X10_by_206 rfl rfl 5 rfl (by decide)
(aw_rrg d_X10_by_207 rfl (Or.inl ⟨_, rfl⟩) (by decide) e244)))))))))))))))))))))))))))))))))))))))))))))))))))))))))))))))))))))))))))))))))))))))))))))))))))))))))))))))))))))))))))))) (fun c6 => have e8 := e4.2 c6; (aw_aload_n d_X10_by_12 rfl rfl 0 rfl (by decide)
(aw_rrg d_X10_by_13 rfl (Or.inl ⟨_, rfl⟩) (by decide) e8))))))))))
set_option maxHeartbeats 4000000 in
theorem c_by (g : gd B A) (hf : 0 ≤ f ∧ f ≤ 500) (hw : 0 ≤ w ∧ w ≤ 3) (I : mkt M h B A f) : CR l m_X10_by 65 [zr 65 h, zi w, zi f] M (byP M h B A f w) := by
  refine vX10_by fun M2 e2 => ?_
  obtain ⟨b, a, ⟨⟨⟨b0, b1⟩, a0, a1⟩, ⟨nB, nA⟩, RB, RA⟩, t4, t5⟩ := id I
  have o2 : ∀ k i, ¬ (k = 65 ∧ i = h) → M2 k i = M k i := fun k i z => by rw [e2]; exact zu_o k i z
  have f2 : ∀ j, j ≠ 6 → M2 65 h j = M 65 h j := fun j hj => by rw [e2, zu_w, if_neg hj]
  have tb := tT_b (f := f) (B := B) (A := A)
  have h80 := g.1
  have fin : ∀ d p q : Int, d = dN B A f w → (tT f B A ≠ 0 → p = dP B A f w ∧ q = dG B A f w) → ∀ M4, M4 = zu M2 65 h 6 d → ∀ M5, M5 = zu M4 65 h 7 p → ∀ M6, M6 = zu M5 65 h 8 q → byP M h B A f w h M6 := by
    intro d p q hd hpq M4 e4 M5 e5 M6 e6
    have o : ∀ k i, ¬ (k = 65 ∧ i = h) → M6 k i = M k i := fun k i z => by rw [e6, zu_o k i z, e5, zu_o k i z, e4, zu_o k i z, o2 k i z]
    have v : ∀ j, M6 65 h j = if j = 8 then q else if j = 7 then p else if j = 6 then d else M2 65 h j := fun j => by rw [e6, zu_w, e5, zu_w, e4, zu_w]
    refine ⟨rfl, o, I.of (fun j hj => by rw [v, if_neg (by omega), if_neg (by omega), if_neg (by omega), f2 j (by omega)]) (fun k i hk _ => o k i (by omega)) (by rw [o 97 0 (nk (by decide))]; exact ⟨Int.le_refl _, Int.le_refl _⟩), by rw [v, if_neg (by decide), if_neg (by decide), if_pos rfl]; exact hd, fun c => ⟨by rw [v, if_neg (by decide), if_pos rfl]; exact (hpq c).1, by rw [v, if_pos rfl]; exact (hpq c).2⟩⟩
  rw [f2 4 (by decide), f2 0 (by decide), f2 1 (by decide), f2 2 (by decide), f2 3 (by decide), t4, b0, a0, nB, nA, o2 97 0 (nk (by decide))]
  refine ⟨by omega, fun hT => ⟨by omega, fun x hx => ?_⟩, fun hT => ?_⟩
  · have ex : x = b := by omega
    subst ex
    rw [o2 76 x (nk (by decide))]
    have rb1 := RB (tT f B A - 1) (by omega)
    refine ⟨by omega, rb1.1, fun y hy => ⟨by omega, fun x2 hx2 => ?_⟩⟩
    have ex2 : x2 = a := by omega
    subst ex2
    rw [o2 76 x2 (nk (by decide))]
    have ra1 := RA (tT f B A - 1) (by omega)
    refine ⟨ra1.1, fun z hz => ?_⟩
    have ey : y = (M 76 x (tT f B A - 1)).toNat := by omega
    have ez : z = (M 76 x2 (tT f B A - 1)).toNat := by omega
    have vb : M2 77 y 2 = gB B (tT f B A - 1) := by rw [o2 77 _ (nk (by decide)), ey, rb1.2.2]; rfl
    have va : M2 77 z 2 = gA f A (tT f B A - 1) := by rw [o2 77 _ (nk (by decide)), ez, ra1.2.2]; rfl
    have i1 := gB_in (k := tT f B A - 1) g (by omega)
    have i2 := gA_in (f := f) (k := tT f B A - 1) g (by omega)
    rw [vb, va]
    have less : ¬ full B A f w → ∀ M4, M4 = zu M2 65 h 6 (tT f B A - 1) → ∀ M5, M5 = zu M4 65 h 7 (gB B (tT f B A - 1)) → ∀ M6, M6 = zu M5 65 h 8 (gA f A (tT f B A - 1) - f) → byP M h B A f w h M6 := fun nf =>
      fin _ _ _ (by unfold dN; rw [if_neg hT, if_neg nf]) (fun _ => ⟨by unfold dP; rw [if_neg nf], by unfold dG; rw [if_neg nf]⟩)
    have all : full B A f w → ∀ p, p = dP B A f w → ∀ M4, M4 = zu M2 65 h 6 (tT f B A) → ∀ M5, M5 = zu M4 65 h 7 p → ∀ M6, M6 = zu M5 65 h 8 (p - f) → byP M h B A f w h M6 := fun yf p hp =>
      fin _ _ _ (by unfold dN; rw [if_neg hT, if_pos yf]) (fun _ => ⟨hp, by unfold dG; rw [if_pos yf, hp]⟩)
    have td : Int.tdiv (gB B (tT f B A - 1) + gA f A (tT f B A - 1)) 2 = mid B A f (tT f B A - 1) := by rw [Int.tdiv_eq_ediv_of_nonneg (by omega)]; rfl
    rw [td]
    have two : w = 2 → ¬ full B A f w := fun c => by unfold full; omega
    have one : w ≠ 0 → w ≠ 2 → full B A f w ∧ mid B A f (tT f B A - 1) = dP B A f w := fun c1 c2 => by
      have yf : full B A f w := by unfold full; omega
      exact ⟨yf, by unfold dP; rw [if_pos yf, if_neg c1]⟩
    refine ⟨by omega, fun c => ⟨by omega, fun c0 => ⟨by omega, fun c2 => less (two c2), fun c2 => all (one c0 c2).1 _ (one c0 c2).2⟩, fun c0 => ⟨by omega, fun c2 => less (two c2), fun c2 => less (by unfold full; omega)⟩⟩, fun c => ⟨by omega, fun c' => ⟨by omega, fun c0 => ⟨by omega, fun c2 => less (two c2), fun c2 => all (one c0 c2).1 _ (one c0 c2).2⟩, fun c0 => ⟨by omega, fun c2 => less (two c2), fun c2 => less (by unfold full; omega)⟩⟩, fun c' => ⟨by omega, fun c0 => ⟨by omega, fun c2 => less (two c2), fun c2 => all (one c0 c2).1 _ (one c0 c2).2⟩, fun c0 => ?_⟩⟩⟩
    have rb2_ := RB (tT f B A) (by omega)
    have ra2 := RA (tT f B A) (by omega)
    refine ⟨by omega, rb2_.1, fun y2 hy2 => ⟨ra2.1, fun z2 hz2 => ?_⟩⟩
    have ey2 : y2 = (M 76 x (tT f B A)).toNat := by omega
    have ez2 : z2 = (M 76 x2 (tT f B A)).toNat := by omega
    have vb2 : M2 77 y2 2 = gB B (tT f B A) := by rw [o2 77 _ (nk (by decide)), ey2, rb2_.2.2]; rfl
    have va2 : M2 77 z2 2 = gA f A (tT f B A) := by rw [o2 77 _ (nk (by decide)), ez2, ra2.2.2]; rfl
    have j1 := gB_in (k := tT f B A) g (by omega)
    have j2 := gA_in (f := f) (k := tT f B A) g (by omega)
    have td2 : Int.tdiv (gB B (tT f B A) + gA f A (tT f B A)) 2 = mid B A f (tT f B A) := by rw [Int.tdiv_eq_ediv_of_nonneg (by omega)]; rfl
    rw [vb2, va2, td2]
    have hm : 0 ≤ mid B A f (tT f B A) ∧ mid B A f (tT f B A) ≤ 20000 := by unfold mid; omega
    refine ⟨by omega, fun c2 => less (two c2), fun c2 => ⟨by omega, by omega, fun c3 => less (by unfold full; omega), fun c3 => ⟨by omega, fun c4 => ?_, fun c4 => less (by unfold full; omega)⟩⟩⟩
    have yf : full B A f w := .inr (.inr ⟨c0, c, c', c3, c4⟩)
    exact all yf _ (by unfold dP; rw [if_pos yf, if_pos c0])
  · have v : ∀ j, M2 65 h j = if j = 6 then 0 else M 65 h j := fun j => by rw [e2, zu_w]
    refine ⟨rfl, o2, I.of (fun j hj => f2 j (by omega)) (fun k i hk _ => o2 k i (by omega)) (by rw [o2 97 0 (nk (by decide))]; exact ⟨Int.le_refl _, Int.le_refl _⟩), ?_, fun c => absurd hT c⟩
    rw [v, if_pos rfl]
    unfold dN
    rw [if_pos hT]
theorem cnt2_s {B A : List Int} {t k : Int} (h : 0 ≤ k) : cnt2 B A t (k + 1) = cnt2 B A t k + (if ktr (B.getD k.toNat 0) = t ∨ ktr (A.getD k.toNat 0) = t then 1 else 0) := zsum_s h
theorem cnt2_b {B A : List Int} {t n : Int} (hn : 0 ≤ n) : 0 ≤ cnt2 B A t n ∧ cnt2 B A t n ≤ n := by
  have := zsum_bd (f := fun k => if ktr (B.getD k.toNat 0) = t ∨ ktr (A.getD k.toNat 0) = t then 1 else 0) (c := 0) (d := 1) hn (fun i _ => by split <;> omega)
  unfold cnt2
  omega
def LX10_doneOf_4 (l : Launch) (P : Int → zM → Prop) (h : Nat) (v1 : Int) (v2 : Int) (v3 : Int) (M : zM) : Prop := AW l m_X10_doneOf (zTi m_X10_doneOf P) 4 [(0, zr 65 h), (1, zi v1), (2, zi v2), (3, zi v3)] [] M
theorem vX10_doneOf_4 {l : Launch} {P : Int → zM → Prop} {h : Nat} {v1 : Int} {v2 : Int} {v3 : Int} {M : zM}
    (H0 : (zI v3 ∧ zI (M 65 h 6) ∧ (((M 65 h 6) ≤ v3 → P v2 M) ∧ (v3 < (M 65 h 6) → ((0 ≤ M 65 h 0 ∧ M 65 h 0 < M 97 0 76) ∧ ∀ r9 : Nat, (r9 : Int) = M 65 h 0 → ((0 ≤ v3 ∧ v3 < 81) ∧ (0 ≤ M 76 r9 v3 ∧ M 76 r9 v3 < M 97 0 77) ∧ ∀ r13 : Nat, (r13 : Int) = M 76 r9 v3 → (zI (M 77 r13 0) ∧ zI v1 ∧ (((M 77 r13 0) = v1 → LX10_doneOf_4 l P h v1 (v2 + 1) (v3 + 1) M) ∧ ((M 77 r13 0) ≠ v1 → ((0 ≤ M 65 h 1 ∧ M 65 h 1 < M 97 0 76) ∧ ∀ r23 : Nat, (r23 : Int) = M 65 h 1 → ((0 ≤ M 76 r23 v3 ∧ M 76 r23 v3 < M 97 0 77) ∧ ∀ r26 : Nat, (r26 : Int) = M 76 r23 v3 → (zI (M 77 r26 0) ∧ (((M 77 r26 0) ≠ v1 → LX10_doneOf_4 l P h v1 (v2 + 0) (v3 + 1) M) ∧ ((M 77 r26 0) = v1 → LX10_doneOf_4 l P h v1 (v2 + 1) (v3 + 1) M)))))))))))))) :
    LX10_doneOf_4 l P h v1 v2 v3 M :=
(aw_iload_n d_X10_doneOf_4 rfl rfl 3 rfl
(aw_aload_n d_X10_doneOf_5 rfl rfl 0 rfl (by decide)
(aw_getI (kc := 6) d_X10_doneOf_6 rfl fl10_53 rfl rfl
(have z1 := H0.1; have z2 := H0.2.1; have e3 := H0.2.2; aw_icmp_ge d_X10_doneOf_9 rfl rfl z1 z2 (fun c4 => have e6 := e3.1 c4; (aw_iload_n d_X10_doneOf_50 rfl rfl 2 rfl
(aw_ri d_X10_doneOf_51 rfl e6))) (fun c5 => have e7 := e3.2 c5; (aw_iload_n d_X10_doneOf_12 rfl rfl 2 rfl
(aw_aload_n d_X10_doneOf_13 rfl rfl 0 rfl (by decide)
(have z8 := e7.1; aw_getE (kc := 0) d_X10_doneOf_14 rfl fl10_9 rfl rfl (by decide) z8
(fun r9 hqr9 => (have e10 := e7.2 r9 hqr9; (aw_iload_n d_X10_doneOf_17 rfl rfl 3 rfl
(have z11 := e10.1; have z12 := e10.2.1; aw_rale d_X10_doneOf_18 rfl zd76.G (by decide) (zix_s z11) z12
(fun r13 hqr13 => (have e14 := e10.2.2 r13 hqr13; (aw_iconst d_X10_doneOf_19 rfl
(aw_ialdG d_X10_doneOf_20 rfl zd77.G (zix_s (by decide))
(aw_iload_n d_X10_doneOf_21 rfl rfl 1 rfl
(have z15 := e14.1; have z16 := e14.2.1; have e17 := e14.2.2; aw_icmp_eq d_X10_doneOf_22 rfl rfl z15 z16 (fun c18 => have e20 := e17.1 c18; (aw_iconst d_X10_doneOf_37 rfl
(aw_goto d_X10_doneOf_38 rfl
(aw_iadd d_X10_doneOf_42 rfl
(aw_istore_n (lv' := [(2, zi (v2 + 1)), (0, zr 65 h), (1, zi v1), (3, zi v3)]) d_X10_doneOf_43 rfl rfl (by decide) rfl
(aw_iinc (lv' := [(3, zi (v3 + 1)), (2, zi (v2 + 1)), (0, zr 65 h), (1, zi v1)]) (y := (v3 + 1)) d_X10_doneOf_44 rfl 3 rfl (by decide) rfl rfl
(aw_goto d_X10_doneOf_47 rfl
(aw_sub [2, 3, 1, 0] rfl e20)))))))) (fun c19 => have e21 := e17.2 c19; (aw_aload_n d_X10_doneOf_25 rfl rfl 0 rfl (by decide)
(have z22 := e21.1; aw_getE (kc := 1) d_X10_doneOf_26 rfl fl10_15 rfl rfl (by decide) z22
(fun r23 hqr23 => (have e24 := e21.2 r23 hqr23; (aw_iload_n d_X10_doneOf_29 rfl rfl 3 rfl
(have z25 := e24.1; aw_rale d_X10_doneOf_30 rfl zd76.G (by decide) (zix_s z11) z25
(fun r26 hqr26 => (have e27 := e24.2 r26 hqr26; (aw_iconst d_X10_doneOf_31 rfl
(aw_ialdG d_X10_doneOf_32 rfl zd77.G (zix_s (by decide))
(aw_iload_n d_X10_doneOf_33 rfl rfl 1 rfl
(have z28 := e27.1; have e29 := e27.2; aw_icmp_ne d_X10_doneOf_34 rfl rfl z28 z16 (fun c30 => have e32 := e29.1 c30; (aw_iconst d_X10_doneOf_41 rfl
(aw_iadd d_X10_doneOf_42 rfl
(aw_istore_n (lv' := [(2, zi (v2 + 0)), (0, zr 65 h), (1, zi v1), (3, zi v3)]) d_X10_doneOf_43 rfl rfl (by decide) rfl
(aw_iinc (lv' := [(3, zi (v3 + 1)), (2, zi (v2 + 0)), (0, zr 65 h), (1, zi v1)]) (y := (v3 + 1)) d_X10_doneOf_44 rfl 3 rfl (by decide) rfl rfl
(aw_goto d_X10_doneOf_47 rfl
(aw_sub [2, 3, 1, 0] rfl e32))))))) (fun c31 => have e33 := e29.2 c31; (aw_iconst d_X10_doneOf_37 rfl
(aw_goto d_X10_doneOf_38 rfl
(aw_iadd d_X10_doneOf_42 rfl
(aw_istore_n (lv' := [(2, zi (v2 + 1)), (0, zr 65 h), (1, zi v1), (3, zi v3)]) d_X10_doneOf_43 rfl rfl (by decide) rfl
(aw_iinc (lv' := [(3, zi (v3 + 1)), (2, zi (v2 + 1)), (0, zr 65 h), (1, zi v1)]) (y := (v3 + 1)) d_X10_doneOf_44 rfl 3 rfl (by decide) rfl rfl
(aw_goto d_X10_doneOf_47 rfl
(aw_sub [2, 3, 1, 0] rfl e33)))))))))))))))))))))))))))))))))))))))
theorem vX10_doneOf {l : Launch} {P : Int → zM → Prop} {h : Nat} {v1 : Int} {M : zM}
    (H0 : LX10_doneOf_4 l P h v1 0 0 M) :
    CI l m_X10_doneOf [zr 65 h, zi v1] M P :=
(aw_iconst d_X10_doneOf_0 rfl
(aw_istore_n (lv' := [(2, zi 0), (0, zr 65 h), (1, zi v1)]) d_X10_doneOf_1 rfl rfl (by decide) rfl
(aw_iconst d_X10_doneOf_2 rfl
(aw_istore_n (lv' := [(3, zi 0), (2, zi 0), (0, zr 65 h), (1, zi v1)]) d_X10_doneOf_3 rfl rfl (by decide) rfl
(aw_sub [2, 3, 1, 0] rfl H0)))))
theorem c_doneOf {t d : Int} (g : gd B A) (I : mkt M h B A f) (zt : zI t) (hd : M 65 h 6 = d) (hl : 0 ≤ d ∧ d ≤ B.length ∧ d ≤ A.length) : CI l m_X10_doneOf [zr 65 h, zi t] M (fun x M' => x = cnt2 B A t d ∧ M' = M) := by
  obtain ⟨b, a, ⟨⟨⟨b0, b1⟩, a0, a1⟩, ⟨nB, nA⟩, RB, RA⟩, t4, t5⟩ := id I
  have h80 := g.1
  have loop : ∀ (fu k : Nat), (k : Int) + fu = d → LX10_doneOf_4 l (fun x M' => x = cnt2 B A t d ∧ M' = M) h t (cnt2 B A t k) k M := by
    intro fu
    induction fu with
    | zero =>
      intro k hk
      refine vX10_doneOf_4 ?_
      rw [hd]
      exact ⟨by omega, by omega, fun _ => ⟨by rw [show (k : Int) = d by omega], rfl⟩, fun q => absurd q (by omega)⟩
    | succ fu ih =>
      intro k hk
      have nx := ih (k + 1) (by omega)
      rw [show ((k + 1 : Nat) : Int) = (k : Int) + 1 by omega, cnt2_s (by omega)] at nx
      obtain ⟨r1, r2, r3⟩ := RB (k : Int) (by omega)
      obtain ⟨s1, s2, s3⟩ := RA (k : Int) (by omega)
      have gb := g.2.1 _ (at_mem (L := B) (j := (k : Int)) (by omega))
      have ga := g.2.2 _ (at_mem (L := A) (j := (k : Int)) (by omega))
      have kb : zI (ktr (B.getD (k : Int).toNat 0)) := by unfold ktr; omega
      have ka : zI (ktr (A.getD (k : Int).toNat 0)) := by unfold ktr; omega
      refine vX10_doneOf_4 ?_
      rw [hd, b0, a0]
      refine ⟨by omega, by omega, fun q => absurd q (by omega), fun _ => ⟨by omega, fun x hx => ?_⟩⟩
      have ex : x = b := by omega
      subst ex
      refine ⟨by omega, r1, fun y hy => ?_⟩
      have ey : y = (M 76 x (k : Int)).toNat := by omega
      rw [ey, r2]
      refine ⟨kb, zt, fun c => ?_, fun c => ⟨by omega, fun x2 hx2 => ?_⟩⟩
      · rw [if_pos (.inl c)] at nx
        exact nx
      · have ex2 : x2 = a := by omega
        subst ex2
        refine ⟨s1, fun z hz => ?_⟩
        have ez : z = (M 76 x2 (k : Int)).toNat := by omega
        rw [ez, s2]
        refine ⟨ka, fun c2 => ?_, fun c2 => ?_⟩
        · rw [if_neg (by rintro (q | q); exact c q; exact c2 q)] at nx
          exact nx
        · rw [if_pos (.inr c2)] at nx
          exact nx
  refine vX10_doneOf ?_
  have := loop d.toNat 0 (by omega)
  exact this
end
