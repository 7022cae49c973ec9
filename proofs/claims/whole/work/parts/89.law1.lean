/-! ===== the law: its walk ===== -/
def LL_law_18 (l : Launch) (G : lwG) (v3 : Int) (M : zM) : Prop := AW l m_L_law (lwT G) 18 [(0, zr 60 0), (1, zr 8 0), (2, zr 9 0), (3, zi v3)] [] M
def LL_law_1609 (l : Launch) (G : lwG) (v3 : Int) (M : zM) : Prop := AW l m_L_law (lwT G) 1609 [(0, zr 60 0), (1, zr 8 0), (2, zr 9 0), (3, zi v3)] [] M
def LL_law_220 (l : Launch) (G : lwG) (v3 : Int) (M : zM) : Prop := AW l m_L_law (lwT G) 220 [(0, zr 60 0), (1, zr 8 0), (2, zr 9 0), (3, zi v3)] [] M
def LL_law_283 (l : Launch) (G : lwG) (v3 : Int) (M : zM) : Prop := AW l m_L_law (lwT G) 283 [(0, zr 60 0), (1, zr 8 0), (2, zr 9 0), (3, zi v3)] [] M
def LL_law_306 (l : Launch) (G : lwG) (v3 : Int) (M : zM) : Prop := AW l m_L_law (lwT G) 306 [(0, zr 60 0), (1, zr 8 0), (2, zr 9 0), (3, zi v3)] [] M
def LL_law_319 (l : Launch) (G : lwG) (v3 : Int) (M : zM) : Prop := AW l m_L_law (lwT G) 319 [(0, zr 60 0), (1, zr 8 0), (2, zr 9 0), (3, zi v3)] [] M
def LL_law_368 (l : Launch) (G : lwG) (v3 : Int) (M : zM) : Prop := AW l m_L_law (lwT G) 368 [(0, zr 60 0), (1, zr 8 0), (2, zr 9 0), (3, zi v3)] [] M
def LL_law_401 (l : Launch) (G : lwG) (v3 : Int) (M : zM) : Prop := AW l m_L_law (lwT G) 401 [(0, zr 60 0), (1, zr 8 0), (2, zr 9 0), (3, zi v3)] [] M
def LL_law_444 (l : Launch) (G : lwG) (v3 : Int) (M : zM) : Prop := AW l m_L_law (lwT G) 444 [(0, zr 60 0), (1, zr 8 0), (2, zr 9 0), (3, zi v3)] [] M
def LL_law_467 (l : Launch) (G : lwG) (v3 : Int) (M : zM) : Prop := AW l m_L_law (lwT G) 467 [(0, zr 60 0), (1, zr 8 0), (2, zr 9 0), (3, zi v3)] [] M
def LL_law_490 (l : Launch) (G : lwG) (v3 : Int) (M : zM) : Prop := AW l m_L_law (lwT G) 490 [(0, zr 60 0), (1, zr 8 0), (2, zr 9 0), (3, zi v3)] [] M
def LL_law_513 (l : Launch) (G : lwG) (v3 : Int) (M : zM) : Prop := AW l m_L_law (lwT G) 513 [(0, zr 60 0), (1, zr 8 0), (2, zr 9 0), (3, zi v3)] [] M
def LL_law_536 (l : Launch) (G : lwG) (v3 : Int) (M : zM) : Prop := AW l m_L_law (lwT G) 536 [(0, zr 60 0), (1, zr 8 0), (2, zr 9 0), (3, zi v3)] [] M
def LL_law_549 (l : Launch) (G : lwG) (v3 : Int) (M : zM) : Prop := AW l m_L_law (lwT G) 549 [(0, zr 60 0), (1, zr 8 0), (2, zr 9 0), (3, zi v3)] [] M
def LL_law_572 (l : Launch) (G : lwG) (v3 : Int) (M : zM) : Prop := AW l m_L_law (lwT G) 572 [(0, zr 60 0), (1, zr 8 0), (2, zr 9 0), (3, zi v3)] [] M
def LL_law_595 (l : Launch) (G : lwG) (v3 : Int) (M : zM) : Prop := AW l m_L_law (lwT G) 595 [(0, zr 60 0), (1, zr 8 0), (2, zr 9 0), (3, zi v3)] [] M
def LL_law_628 (l : Launch) (G : lwG) (v3 : Int) (M : zM) : Prop := AW l m_L_law (lwT G) 628 [(0, zr 60 0), (1, zr 8 0), (2, zr 9 0), (3, zi v3)] [] M
def LL_law_697 (l : Launch) (G : lwG) (v3 : Int) (M : zM) : Prop := AW l m_L_law (lwT G) 697 [(0, zr 60 0), (1, zr 8 0), (2, zr 9 0), (3, zi v3)] [] M
def LL_law_730 (l : Launch) (G : lwG) (v3 : Int) (M : zM) : Prop := AW l m_L_law (lwT G) 730 [(0, zr 60 0), (1, zr 8 0), (2, zr 9 0), (3, zi v3)] [] M
def LL_law_763 (l : Launch) (G : lwG) (v3 : Int) (M : zM) : Prop := AW l m_L_law (lwT G) 763 [(0, zr 60 0), (1, zr 8 0), (2, zr 9 0), (3, zi v3)] [] M
def LL_law_796 (l : Launch) (G : lwG) (v3 : Int) (M : zM) : Prop := AW l m_L_law (lwT G) 796 [(0, zr 60 0), (1, zr 8 0), (2, zr 9 0), (3, zi v3)] [] M
def LL_law_829 (l : Launch) (G : lwG) (v3 : Int) (M : zM) : Prop := AW l m_L_law (lwT G) 829 [(0, zr 60 0), (1, zr 8 0), (2, zr 9 0), (3, zi v3)] [] M
def LL_law_852 (l : Launch) (G : lwG) (v3 : Int) (M : zM) : Prop := AW l m_L_law (lwT G) 852 [(0, zr 60 0), (1, zr 8 0), (2, zr 9 0), (3, zi v3)] [] M
def LL_law_885 (l : Launch) (G : lwG) (v3 : Int) (M : zM) : Prop := AW l m_L_law (lwT G) 885 [(0, zr 60 0), (1, zr 8 0), (2, zr 9 0), (3, zi v3)] [] M
def LL_law_909 (l : Launch) (G : lwG) (v3 : Int) (M : zM) : Prop := AW l m_L_law (lwT G) 909 [(0, zr 60 0), (1, zr 8 0), (2, zr 9 0), (3, zi v3)] [] M
def LL_law_952 (l : Launch) (G : lwG) (v3 : Int) (M : zM) : Prop := AW l m_L_law (lwT G) 952 [(0, zr 60 0), (1, zr 8 0), (2, zr 9 0), (3, zi v3)] [] M
def LL_law_995 (l : Launch) (G : lwG) (v3 : Int) (M : zM) : Prop := AW l m_L_law (lwT G) 995 [(0, zr 60 0), (1, zr 8 0), (2, zr 9 0), (3, zi v3)] [] M
def LL_law_1018 (l : Launch) (G : lwG) (v3 : Int) (M : zM) : Prop := AW l m_L_law (lwT G) 1018 [(0, zr 60 0), (1, zr 8 0), (2, zr 9 0), (3, zi v3)] [] M
def LL_law_1041 (l : Launch) (G : lwG) (v3 : Int) (M : zM) : Prop := AW l m_L_law (lwT G) 1041 [(0, zr 60 0), (1, zr 8 0), (2, zr 9 0), (3, zi v3)] [] M
def LL_law_1055 (l : Launch) (G : lwG) (v3 : Int) (M : zM) : Prop := AW l m_L_law (lwT G) 1055 [(0, zr 60 0), (1, zr 8 0), (2, zr 9 0), (3, zi v3)] [] M
def LL_law_1078 (l : Launch) (G : lwG) (v3 : Int) (M : zM) : Prop := AW l m_L_law (lwT G) 1078 [(0, zr 60 0), (1, zr 8 0), (2, zr 9 0), (3, zi v3)] [] M
def LL_law_1127 (l : Launch) (G : lwG) (v3 : Int) (M : zM) : Prop := AW l m_L_law (lwT G) 1127 [(0, zr 60 0), (1, zr 8 0), (2, zr 9 0), (3, zi v3)] [] M
def LL_law_1150 (l : Launch) (G : lwG) (v3 : Int) (M : zM) : Prop := AW l m_L_law (lwT G) 1150 [(0, zr 60 0), (1, zr 8 0), (2, zr 9 0), (3, zi v3)] [] M
def LL_law_1193 (l : Launch) (G : lwG) (v3 : Int) (M : zM) : Prop := AW l m_L_law (lwT G) 1193 [(0, zr 60 0), (1, zr 8 0), (2, zr 9 0), (3, zi v3)] [] M
def LL_law_1236 (l : Launch) (G : lwG) (v3 : Int) (M : zM) : Prop := AW l m_L_law (lwT G) 1236 [(0, zr 60 0), (1, zr 8 0), (2, zr 9 0), (3, zi v3)] [] M
def LL_law_1269 (l : Launch) (G : lwG) (v3 : Int) (M : zM) : Prop := AW l m_L_law (lwT G) 1269 [(0, zr 60 0), (1, zr 8 0), (2, zr 9 0), (3, zi v3)] [] M
def LL_law_1292 (l : Launch) (G : lwG) (v3 : Int) (M : zM) : Prop := AW l m_L_law (lwT G) 1292 [(0, zr 60 0), (1, zr 8 0), (2, zr 9 0), (3, zi v3)] [] M
def LL_law_1325 (l : Launch) (G : lwG) (v3 : Int) (M : zM) : Prop := AW l m_L_law (lwT G) 1325 [(0, zr 60 0), (1, zr 8 0), (2, zr 9 0), (3, zi v3)] [] M
def LL_law_1358 (l : Launch) (G : lwG) (v3 : Int) (M : zM) : Prop := AW l m_L_law (lwT G) 1358 [(0, zr 60 0), (1, zr 8 0), (2, zr 9 0), (3, zi v3)] [] M
def LL_law_1401 (l : Launch) (G : lwG) (v3 : Int) (M : zM) : Prop := AW l m_L_law (lwT G) 1401 [(0, zr 60 0), (1, zr 8 0), (2, zr 9 0), (3, zi v3)] [] M
def LL_law_1434 (l : Launch) (G : lwG) (v3 : Int) (M : zM) : Prop := AW l m_L_law (lwT G) 1434 [(0, zr 60 0), (1, zr 8 0), (2, zr 9 0), (3, zi v3)] [] M
def LL_law_1477 (l : Launch) (G : lwG) (v3 : Int) (M : zM) : Prop := AW l m_L_law (lwT G) 1477 [(0, zr 60 0), (1, zr 8 0), (2, zr 9 0), (3, zi v3)] [] M
def LL_law_1510 (l : Launch) (G : lwG) (v3 : Int) (M : zM) : Prop := AW l m_L_law (lwT G) 1510 [(0, zr 60 0), (1, zr 8 0), (2, zr 9 0), (3, zi v3)] [] M
def LL_law_1543 (l : Launch) (G : lwG) (v3 : Int) (M : zM) : Prop := AW l m_L_law (lwT G) 1543 [(0, zr 60 0), (1, zr 8 0), (2, zr 9 0), (3, zi v3)] [] M
def LL_law_1586 (l : Launch) (G : lwG) (v3 : Int) (M : zM) : Prop := AW l m_L_law (lwT G) 1586 [(0, zr 60 0), (1, zr 8 0), (2, zr 9 0), (3, zi v3)] [] M
theorem vL_law_18 {l : Launch} {G : lwG} {v3 : Int} {M : zM}
    (H0 : (zI v3 ∧ zI ((sL G) - 6) ∧ (((sL G) - 6) < v3 → (1 : Int) = 1) ∧ (v3 ≤ ((sL G) - 6) → (((0 ≤ v3 ∧ v3 < sL G) ∧ sL G < 2000000000) ∧ (zI (zand (sx G v3) 63) ∧ ((zand (sx G v3) 63) = 0 → LL_law_220 l G v3 M) ∧ ((zand (sx G v3) 63) = 1 → LL_law_283 l G v3 M) ∧ ((zand (sx G v3) 63) = 2 → LL_law_306 l G v3 M) ∧ ((zand (sx G v3) 63) = 3 → LL_law_319 l G v3 M) ∧ ((zand (sx G v3) 63) = 4 → LL_law_368 l G v3 M) ∧ ((zand (sx G v3) 63) = 5 → LL_law_401 l G v3 M) ∧ ((zand (sx G v3) 63) = 6 → LL_law_444 l G v3 M) ∧ ((zand (sx G v3) 63) = 7 → LL_law_467 l G v3 M) ∧ ((zand (sx G v3) 63) = 8 → LL_law_490 l G v3 M) ∧ ((zand (sx G v3) 63) = 9 → LL_law_513 l G v3 M) ∧ ((zand (sx G v3) 63) = 10 → LL_law_536 l G v3 M) ∧ ((zand (sx G v3) 63) = 11 → LL_law_549 l G v3 M) ∧ ((zand (sx G v3) 63) = 12 → LL_law_572 l G v3 M) ∧ ((zand (sx G v3) 63) = 13 → LL_law_595 l G v3 M) ∧ ((zand (sx G v3) 63) = 14 → LL_law_628 l G v3 M) ∧ ((zand (sx G v3) 63) = 15 → LL_law_697 l G v3 M) ∧ ((zand (sx G v3) 63) = 16 → LL_law_730 l G v3 M) ∧ ((zand (sx G v3) 63) = 17 → LL_law_763 l G v3 M) ∧ ((zand (sx G v3) 63) = 18 → LL_law_796 l G v3 M) ∧ ((zand (sx G v3) 63) = 19 → LL_law_829 l G v3 M) ∧ ((zand (sx G v3) 63) = 20 → LL_law_852 l G v3 M) ∧ ((zand (sx G v3) 63) = 21 → LL_law_885 l G v3 M) ∧ ((zand (sx G v3) 63) = 22 → LL_law_909 l G v3 M) ∧ ((zand (sx G v3) 63) = 23 → LL_law_952 l G v3 M) ∧ ((zand (sx G v3) 63) = 24 → LL_law_995 l G v3 M) ∧ ((zand (sx G v3) 63) = 25 → LL_law_1018 l G v3 M) ∧ ((zand (sx G v3) 63) = 26 → LL_law_1041 l G v3 M) ∧ ((zand (sx G v3) 63) = 27 → LL_law_1055 l G v3 M) ∧ ((zand (sx G v3) 63) = 28 → LL_law_1078 l G v3 M) ∧ ((zand (sx G v3) 63) = 29 → LL_law_1127 l G v3 M) ∧ ((zand (sx G v3) 63) = 30 → LL_law_1150 l G v3 M) ∧ ((zand (sx G v3) 63) = 31 → LL_law_1193 l G v3 M) ∧ ((zand (sx G v3) 63) = 32 → LL_law_1236 l G v3 M) ∧ ((zand (sx G v3) 63) = 33 → LL_law_1269 l G v3 M) ∧ ((zand (sx G v3) 63) = 34 → LL_law_1292 l G v3 M) ∧ ((zand (sx G v3) 63) = 35 → LL_law_1325 l G v3 M) ∧ ((zand (sx G v3) 63) = 36 → LL_law_1358 l G v3 M) ∧ ((zand (sx G v3) 63) = 37 → LL_law_1401 l G v3 M) ∧ ((zand (sx G v3) 63) = 38 → LL_law_1434 l G v3 M) ∧ ((zand (sx G v3) 63) = 39 → LL_law_1477 l G v3 M) ∧ ((zand (sx G v3) 63) = 40 → LL_law_1510 l G v3 M) ∧ ((zand (sx G v3) 63) = 41 → LL_law_1543 l G v3 M) ∧ ((zand (sx G v3) 63) = 42 → LL_law_1586 l G v3 M) ∧ (((zand (sx G v3) 63) < 0 ∨ 42 < (zand (sx G v3) 63)) → LL_law_1609 l G v3 M)))))) :
    LL_law_18 l G v3 M :=
(aw_iload_n d_L_law_18 rfl rfl 3 rfl
(aw_aload_n d_L_law_19 rfl rfl 0 rfl (by decide)
(lw_slen d_L_law_20
(aw_bipush d_L_law_21 rfl (by decide)
(aw_isub d_L_law_23 rfl
(have z1 := H0.1; have z2 := H0.2.1; have e3 := H0.2.2; aw_icmp_gt d_L_law_24 rfl rfl z1 z2 (fun c4 => have e6 := e3.1 c4; (aw_iconst d_L_law_1615 rfl
(lw_rz d_L_law_1616 e6))) (fun c5 => have e7 := e3.2 c5; (aw_aload_n d_L_law_27 rfl rfl 0 rfl (by decide)
(aw_iload_n d_L_law_28 rfl rfl 3 rfl
(have z8 := e7.1; have e9 := e7.2; lw_sld d_L_law_29 z8
(aw_bipush d_L_law_30 rfl (by decide)
(aw_iand d_L_law_32 rfl zand_h
(have z10 := e9.1; have e11 := e9.2; aw_table (offs := [187, 250, 273, 286, 335, 368, 411, 434, 457, 480, 503, 516, 539, 562, 595, 664, 697, 730, 763, 796, 819, 852, 876, 919, 962, 985, 1008, 1022, 1045, 1094, 1117, 1160, 1203, 1236, 1259, 1292, 1325, 1368, 1401, 1444, 1477, 1510, 1553]) d_L_law_33 rfl z10 rfl ⟨fun c12 => ⟨220, rfl, have e13 := e11.1 c12; e13⟩, ⟨fun c14 => ⟨283, rfl, have e15 := e11.2.1 c14; e15⟩, ⟨fun c16 => ⟨306, rfl, have e17 := e11.2.2.1 c16; e17⟩, ⟨fun c18 => ⟨319, rfl, have e19 := e11.2.2.2.1 c18; e19⟩, ⟨fun c20 => ⟨368, rfl, have e21 := e11.2.2.2.2.1 c20; e21⟩, ⟨fun c22 => ⟨401, rfl, have e23 := e11.2.2.2.2.2.1 c22; e23⟩, ⟨fun c24 => ⟨444, rfl, have e25 := e11.2.2.2.2.2.2.1 c24; e25⟩, ⟨fun c26 => ⟨467, rfl, have e27 := e11.2.2.2.2.2.2.2.1 c26; e27⟩, ⟨fun c28 => ⟨490, rfl, have e29 := e11.2.2.2.2.2.2.2.2.1 c28; e29⟩, ⟨fun c30 => ⟨513, rfl, have e31 := e11.2.2.2.2.2.2.2.2.2.1 c30; e31⟩, ⟨fun c32 => ⟨536, rfl, have e33 := e11.2.2.2.2.2.2.2.2.2.2.1 c32; e33⟩, ⟨fun c34 => ⟨549, rfl, have e35 := e11.2.2.2.2.2.2.2.2.2.2.2.1 c34; e35⟩, ⟨fun c36 => ⟨572, rfl, have e37 := e11.2.2.2.2.2.2.2.2.2.2.2.2.1 c36; e37⟩, ⟨fun c38 => ⟨595, rfl, have e39 := e11.2.2.2.2.2.2.2.2.2.2.2.2.2.1 c38; e39⟩, ⟨fun c40 => ⟨628, rfl, have e41 := e11.2.2.2.2.2.2.2.2.2.2.2.2.2.2.1 c40; e41⟩, ⟨fun c42 => ⟨697, rfl, have e43 := e11.2.2.2.2.2.2.2.2.2.2.2.2.2.2.2.1 c42; e43⟩, ⟨fun c44 => ⟨730, rfl, have e45 := e11.2.2.2.2.2.2.2.2.2.2.2.2.2.2.2.2.1 c44; e45⟩, ⟨fun c46 => ⟨763, rfl, have e47 := e11.2.2.2.2.2.2.2.2.2.2.2.2.2.2.2.2.2.1 c46; e47⟩, ⟨fun c48 => ⟨796, rfl, have e49 := e11.2.2.2.2.2.2.2.2.2.2.2.2.2.2.2.2.2.2.1 c48; e49⟩, ⟨fun c50 => ⟨829, rfl, have e51 := e11.2.2.2.2.2.2.2.2.2.2.2.2.2.2.2.2.2.2.2.1 c50; e51⟩, ⟨fun c52 => ⟨852, rfl, have e53 := e11.2.2.2.2.2.2.2.2.2.2.2.2.2.2.2.2.2.2.2.2.1 c52; e53⟩, ⟨fun c54 => ⟨885, rfl, have e55 := e11.2.2.2.2.2.2.2.2.2.2.2.2.2.2.2.2.2.2.2.2.2.1 c54; e55⟩, ⟨fun c56 => ⟨909, rfl, have e57 := e11.2.2.2.2.2.2.2.2.2.2.2.2.2.2.2.2.2.2.2.2.2.2.1 c56; e57⟩, ⟨fun c58 => ⟨952, rfl, have e59 := e11.2.2.2.2.2.2.2.2.2.2.2.2.2.2.2.2.2.2.2.2.2.2.2.1 c58; e59⟩, ⟨fun c60 => ⟨995, rfl, have e61 := e11.2.2.2.2.2.2.2.2.2.2.2.2.2.2.2.2.2.2.2.2.2.2.2.2.1 c60; e61⟩, ⟨fun c62 => ⟨1018, rfl, have e63 := e11.2.2.2.2.2.2.2.2.2.2.2.2.2.2.2.2.2.2.2.2.2.2.2.2.2.1 c62; e63⟩, ⟨fun c64 => ⟨1041, rfl, have e65 := e11.2.2.2.2.2.2.2.2.2.2.2.2.2.2.2.2.2.2.2.2.2.2.2.2.2.2.1 c64; e65⟩, ⟨fun c66 => ⟨1055, rfl, have e67 := e11.2.2.2.2.2.2.2.2.2.2.2.2.2.2.2.2.2.2.2.2.2.2.2.2.2.2.2.1 c66; e67⟩, ⟨fun c68 => ⟨1078, rfl, have e69 := e11.2.2.2.2.2.2.2.2.2.2.2.2.2.2.2.2.2.2.2.2.2.2.2.2.2.2.2.2.1 c68; e69⟩, ⟨fun c70 => ⟨1127, rfl, have e71 := e11.2.2.2.2.2.2.2.2.2.2.2.2.2.2.2.2.2.2.2.2.2.2.2.2.2.2.2.2.2.1 c70; e71⟩, ⟨fun c72 => ⟨1150, rfl, have e73 := e11.2.2.2.2.2.2.2.2.2.2.2.2.2.2.2.2.2.2.2.2.2.2.2.2.2.2.2.2.2.2.1 c72; e73⟩, ⟨fun c74 => ⟨1193, rfl, have e75 := e11.2.2.2.2.2.2.2.2.2.2.2.2.2.2.2.2.2.2.2.2.2.2.2.2.2.2.2.2.2.2.2.1 c74; e75⟩, ⟨fun c76 => ⟨1236, rfl, have e77 := e11.2.2.2.2.2.2.2.2.2.2.2.2.2.2.2.2.2.2.2.2.2.2.2.2.2.2.2.2.2.2.2.2.1 c76; e77⟩, ⟨fun c78 => ⟨1269, rfl, have e79 := e11.2.2.2.2.2.2.2.2.2.2.2.2.2.2.2.2.2.2.2.2.2.2.2.2.2.2.2.2.2.2.2.2.2.1 c78; e79⟩, ⟨fun c80 => ⟨1292, rfl, have e81 := e11.2.2.2.2.2.2.2.2.2.2.2.2.2.2.2.2.2.2.2.2.2.2.2.2.2.2.2.2.2.2.2.2.2.2.1 c80; e81⟩, ⟨fun c82 => ⟨1325, rfl, have e83 := e11.2.2.2.2.2.2.2.2.2.2.2.2.2.2.2.2.2.2.2.2.2.2.2.2.2.2.2.2.2.2.2.2.2.2.2.1 c82; e83⟩, ⟨fun c84 => ⟨1358, rfl, have e85 := e11.2.2.2.2.2.2.2.2.2.2.2.2.2.2.2.2.2.2.2.2.2.2.2.2.2.2.2.2.2.2.2.2.2.2.2.2.1 c84; e85⟩, ⟨fun c86 => ⟨1401, rfl, have e87 := e11.2.2.2.2.2.2.2.2.2.2.2.2.2.2.2.2.2.2.2.2.2.2.2.2.2.2.2.2.2.2.2.2.2.2.2.2.2.1 c86; e87⟩, ⟨fun c88 => ⟨1434, rfl, have e89 := e11.2.2.2.2.2.2.2.2.2.2.2.2.2.2.2.2.2.2.2.2.2.2.2.2.2.2.2.2.2.2.2.2.2.2.2.2.2.2.1 c88; e89⟩, ⟨fun c90 => ⟨1477, rfl, have e91 := e11.2.2.2.2.2.2.2.2.2.2.2.2.2.2.2.2.2.2.2.2.2.2.2.2.2.2.2.2.2.2.2.2.2.2.2.2.2.2.2.1 c90; e91⟩, ⟨fun c92 => ⟨1510, rfl, have e93 := e11.2.2.2.2.2.2.2.2.2.2.2.2.2.2.2.2.2.2.2.2.2.2.2.2.2.2.2.2.2.2.2.2.2.2.2.2.2.2.2.2.1 c92; e93⟩, ⟨fun c94 => ⟨1543, rfl, have e95 := e11.2.2.2.2.2.2.2.2.2.2.2.2.2.2.2.2.2.2.2.2.2.2.2.2.2.2.2.2.2.2.2.2.2.2.2.2.2.2.2.2.2.1 c94; e95⟩, ⟨fun c96 => ⟨1586, rfl, have e97 := e11.2.2.2.2.2.2.2.2.2.2.2.2.2.2.2.2.2.2.2.2.2.2.2.2.2.2.2.2.2.2.2.2.2.2.2.2.2.2.2.2.2.2.1 c96; e97⟩, trivial⟩⟩⟩⟩⟩⟩⟩⟩⟩⟩⟩⟩⟩⟩⟩⟩⟩⟩⟩⟩⟩⟩⟩⟩⟩⟩⟩⟩⟩⟩⟩⟩⟩⟩⟩⟩⟩⟩⟩⟩⟩⟩⟩ (fun c98 => have e99 := e11.2.2.2.2.2.2.2.2.2.2.2.2.2.2.2.2.2.2.2.2.2.2.2.2.2.2.2.2.2.2.2.2.2.2.2.2.2.2.2.2.2.2.2 c98; e99))))))))))))))
theorem vL_law_1609 {l : Launch} {G : lwG} {v3 : Int} {M : zM}
    (H0 : LL_law_18 l G (v3 + 6) M) :
    LL_law_1609 l G v3 M :=
(aw_iinc (lv' := [(3, zi (v3 + 6)), (0, zr 60 0), (1, zr 8 0), (2, zr 9 0)]) (y := (v3 + 6)) d_L_law_1609 rfl 3 rfl (by decide) rfl rfl
(aw_goto d_L_law_1612 rfl
(aw_sub [1, 2, 3, 0] rfl H0)))
theorem vL_law_220 {l : Launch} {G : lwG} {v3 : Int} {M : zM}
    (H0 : (((0 ≤ (v3 + 1) ∧ (v3 + 1) < sL G) ∧ sL G < 2000000000) ∧ (((0 ≤ (v3 + 2) ∧ (v3 + 2) < sL G) ∧ sL G < 2000000000) ∧ (((0 ≤ (v3 + 3) ∧ (v3 + 3) < sL G) ∧ sL G < 2000000000) ∧ (((0 ≤ (v3 + 4) ∧ (v3 + 4) < sL G) ∧ sL G < 2000000000) ∧ (((0 ≤ (v3 + 5) ∧ (v3 + 5) < sL G) ∧ sL G < 2000000000) ∧ (CI l m_X8_feed [zr 8 0, zi (sx G (v3 + 1)), zi (sx G (v3 + 2)), zi (sx G (v3 + 3)), zi (sx G (v3 + 4)), zi (sx G (v3 + 5))] M (fun x112 M110 => (CI l m_X9_feed [zr 9 0, zi (sx G (v3 + 1)), zi (sx G (v3 + 2)), zi (sx G (v3 + 3)), zi (sx G (v3 + 4)), zi (sx G (v3 + 5))] M110 (fun x115 M113 => (x112 = x115 ∧ LL_law_1609 l G v3 M113))))))))))) :
    LL_law_220 l G v3 M :=
(aw_aload_n d_L_law_220 rfl rfl 1 rfl (by decide)
(aw_aload_n d_L_law_221 rfl rfl 0 rfl (by decide)
(aw_iload_n d_L_law_222 rfl rfl 3 rfl
(aw_iconst d_L_law_223 rfl
(aw_iadd d_L_law_224 rfl
(have z100 := H0.1; have e101 := H0.2; lw_sld d_L_law_225 z100
(aw_aload_n d_L_law_226 rfl rfl 0 rfl (by decide)
(aw_iload_n d_L_law_227 rfl rfl 3 rfl
(aw_iconst d_L_law_228 rfl
(aw_iadd d_L_law_229 rfl
(have z102 := e101.1; have e103 := e101.2; lw_sld d_L_law_230 z102
(aw_aload_n d_L_law_231 rfl rfl 0 rfl (by decide)
(aw_iload_n d_L_law_232 rfl rfl 3 rfl
(aw_iconst d_L_law_233 rfl
(aw_iadd d_L_law_234 rfl
(have z104 := e103.1; have e105 := e103.2; lw_sld d_L_law_235 z104
(aw_aload_n d_L_law_236 rfl rfl 0 rfl (by decide)
(aw_iload_n d_L_law_237 rfl rfl 3 rfl
(aw_iconst d_L_law_238 rfl
(aw_iadd d_L_law_239 rfl
(have z106 := e105.1; have e107 := e105.2; lw_sld d_L_law_240 z106
(aw_aload_n d_L_law_241 rfl rfl 0 rfl (by decide)
(aw_iload_n d_L_law_242 rfl rfl 3 rfl
(aw_iconst d_L_law_243 rfl
(aw_iadd d_L_law_244 rfl
(have z108 := e107.1; have e109 := e107.2; lw_sld d_L_law_245 z108
(aw_VI (As := [zi (sx G (v3 + 1)), zi (sx G (v3 + 2)), zi (sx G (v3 + 3)), zi (sx G (v3 + 4)), zi (sx G (v3 + 5))]) (st := []) d_L_law_246 rfl cvL_13 ⟨Nat.le_of_ble_eq_true rfl, Nat.le_of_ble_eq_true rfl⟩ rfl rfl (Nat.le_of_ble_eq_true rfl) (Nat.le_of_ble_eq_true rfl) e109 (fun x112 M110 e111 => (aw_aload_n d_L_law_249 rfl rfl 2 rfl (by decide)
(aw_aload_n d_L_law_250 rfl rfl 0 rfl (by decide)
(aw_iload_n d_L_law_251 rfl rfl 3 rfl
(aw_iconst d_L_law_252 rfl
(aw_iadd d_L_law_253 rfl
(lw_sld d_L_law_254 z100
(aw_aload_n d_L_law_255 rfl rfl 0 rfl (by decide)
(aw_iload_n d_L_law_256 rfl rfl 3 rfl
(aw_iconst d_L_law_257 rfl
(aw_iadd d_L_law_258 rfl
(lw_sld d_L_law_259 z102
(aw_aload_n d_L_law_260 rfl rfl 0 rfl (by decide)
(aw_iload_n d_L_law_261 rfl rfl 3 rfl
(aw_iconst d_L_law_262 rfl
(aw_iadd d_L_law_263 rfl
(lw_sld d_L_law_264 z104
(aw_aload_n d_L_law_265 rfl rfl 0 rfl (by decide)
(aw_iload_n d_L_law_266 rfl rfl 3 rfl
(aw_iconst d_L_law_267 rfl
(aw_iadd d_L_law_268 rfl
(lw_sld d_L_law_269 z106
(aw_aload_n d_L_law_270 rfl rfl 0 rfl (by decide)
(aw_iload_n d_L_law_271 rfl rfl 3 rfl
(aw_iconst d_L_law_272 rfl
(aw_iadd d_L_law_273 rfl
(lw_sld d_L_law_274 z108
(aw_VI (As := [zi (sx G (v3 + 1)), zi (sx G (v3 + 2)), zi (sx G (v3 + 3)), zi (sx G (v3 + 4)), zi (sx G (v3 + 5))]) (st := [zi x112]) d_L_law_275 rfl cvL_17 ⟨Nat.le_of_ble_eq_true rfl, Nat.le_of_ble_eq_true rfl⟩ rfl rfl (Nat.le_of_ble_eq_true rfl) (Nat.le_of_ble_eq_true rfl) e111 (fun x115 M113 e114 => (have e116 := e114.2; lw_icmp_eq d_L_law_278 rfl e114.1 e116)))))))))))))))))))))))))))))))))))))))))))))))))))))))))
theorem vL_law_283 {l : Launch} {G : lwG} {v3 : Int} {M : zM}
    (H0 : (((0 ≤ (v3 + 1) ∧ (v3 + 1) < sL G) ∧ sL G < 2000000000) ∧ (CI l m_X8_end [zr 8 0, zi (sx G (v3 + 1))] M (fun x121 M119 => (CI l m_X9_end [zr 9 0, zi (sx G (v3 + 1))] M119 (fun x124 M122 => (x121 = x124 ∧ LL_law_1609 l G v3 M122))))))) :
    LL_law_283 l G v3 M :=
(aw_aload_n d_L_law_283 rfl rfl 1 rfl (by decide)
(aw_aload_n d_L_law_284 rfl rfl 0 rfl (by decide)
(aw_iload_n d_L_law_285 rfl rfl 3 rfl
(aw_iconst d_L_law_286 rfl
(aw_iadd d_L_law_287 rfl
(have z117 := H0.1; have e118 := H0.2; lw_sld d_L_law_288 z117
(aw_VI (As := [zi (sx G (v3 + 1))]) (st := []) d_L_law_289 rfl cvL_18 ⟨Nat.le_of_ble_eq_true rfl, Nat.le_of_ble_eq_true rfl⟩ rfl rfl (Nat.le_of_ble_eq_true rfl) (Nat.le_of_ble_eq_true rfl) e118 (fun x121 M119 e120 => (aw_aload_n d_L_law_292 rfl rfl 2 rfl (by decide)
(aw_aload_n d_L_law_293 rfl rfl 0 rfl (by decide)
(aw_iload_n d_L_law_294 rfl rfl 3 rfl
(aw_iconst d_L_law_295 rfl
(aw_iadd d_L_law_296 rfl
(lw_sld d_L_law_297 z117
(aw_VI (As := [zi (sx G (v3 + 1))]) (st := [zi x121]) d_L_law_298 rfl cvL_22 ⟨Nat.le_of_ble_eq_true rfl, Nat.le_of_ble_eq_true rfl⟩ rfl rfl (Nat.le_of_ble_eq_true rfl) (Nat.le_of_ble_eq_true rfl) e120 (fun x124 M122 e123 => (have e125 := e123.2; lw_icmp_eq d_L_law_301 rfl e123.1 e125)))))))))))))))))
theorem vL_law_306 {l : Launch} {G : lwG} {v3 : Int} {M : zM}
    (H0 : (CI l m_X8_tell [zr 8 0] M (fun x128 M126 => (CI l m_X9_tell [zr 9 0] M126 (fun x131 M129 => (x128 = x131 ∧ LL_law_1609 l G v3 M129)))))) :
    LL_law_306 l G v3 M :=
(aw_aload_n d_L_law_306 rfl rfl 1 rfl (by decide)
(aw_VI (As := []) (st := []) d_L_law_307 rfl cvL_23 ⟨Nat.le_of_ble_eq_true rfl, Nat.le_of_ble_eq_true rfl⟩ rfl rfl (Nat.le_of_ble_eq_true rfl) (Nat.le_of_ble_eq_true rfl) H0 (fun x128 M126 e127 => (aw_aload_n d_L_law_310 rfl rfl 2 rfl (by decide)
(aw_VI (As := []) (st := [zi x128]) d_L_law_311 rfl cvL_27 ⟨Nat.le_of_ble_eq_true rfl, Nat.le_of_ble_eq_true rfl⟩ rfl rfl (Nat.le_of_ble_eq_true rfl) (Nat.le_of_ble_eq_true rfl) e127 (fun x131 M129 e130 => (have e132 := e130.2; lw_icmp_eq d_L_law_314 rfl e130.1 e132)))))))
theorem vL_law_319 {l : Launch} {G : lwG} {v3 : Int} {M : zM}
    (H0 : (((0 ≤ (v3 + 1) ∧ (v3 + 1) < sL G) ∧ sL G < 2000000000) ∧ (zI (sx G (v3 + 1)) ∧ ((sx G (v3 + 1)) = 0 → (((0 ≤ (v3 + 2) ∧ (v3 + 2) < sL G) ∧ sL G < 2000000000) ∧ (CI l m_X8_come [zr 8 0, zi 0, zi (sx G (v3 + 2))] M (fun x145 M143 => (CI l m_X9_come [zr 9 0, zi 0, zi (sx G (v3 + 2))] M143 (fun x149 M147 => (x145 = x149 ∧ LL_law_1609 l G v3 M147))))))) ∧ ((sx G (v3 + 1)) ≠ 0 → (((0 ≤ (v3 + 2) ∧ (v3 + 2) < sL G) ∧ sL G < 2000000000) ∧ (CI l m_X8_come [zr 8 0, zi 1, zi (sx G (v3 + 2))] M (fun x155 M153 => (CI l m_X9_come [zr 9 0, zi 1, zi (sx G (v3 + 2))] M153 (fun x159 M157 => (x155 = x159 ∧ LL_law_1609 l G v3 M157)))))))))) :
    LL_law_319 l G v3 M :=
(aw_aload_n d_L_law_319 rfl rfl 1 rfl (by decide)
(aw_aload_n d_L_law_320 rfl rfl 0 rfl (by decide)
(aw_iload_n d_L_law_321 rfl rfl 3 rfl
(aw_iconst d_L_law_322 rfl
(aw_iadd d_L_law_323 rfl
(have z133 := H0.1; have e134 := H0.2; lw_sld d_L_law_324 z133
(have z135 := e134.1; have e136 := e134.2; aw_if_eq d_L_law_325 rfl rfl z135 (fun c137 => have e139 := e136.1 c137; (aw_iconst d_L_law_332 rfl
(aw_aload_n d_L_law_333 rfl rfl 0 rfl (by decide)
(aw_iload_n d_L_law_334 rfl rfl 3 rfl
(aw_iconst d_L_law_335 rfl
(aw_iadd d_L_law_336 rfl
(have z141 := e139.1; have e142 := e139.2; lw_sld d_L_law_337 z141
(aw_VI (As := [zi 0, zi (sx G (v3 + 2))]) (st := []) d_L_law_338 rfl cvL_28 ⟨Nat.le_of_ble_eq_true rfl, Nat.le_of_ble_eq_true rfl⟩ rfl rfl (Nat.le_of_ble_eq_true rfl) (Nat.le_of_ble_eq_true rfl) e142 (fun x145 M143 e144 => (aw_aload_n d_L_law_341 rfl rfl 2 rfl (by decide)
(aw_aload_n d_L_law_342 rfl rfl 0 rfl (by decide)
(aw_iload_n d_L_law_343 rfl rfl 3 rfl
(aw_iconst d_L_law_344 rfl
(aw_iadd d_L_law_345 rfl
(lw_sld d_L_law_346 z133
(aw_if_eq d_L_law_347 rfl rfl z135 (fun _ => (aw_iconst d_L_law_354 rfl
(aw_aload_n d_L_law_355 rfl rfl 0 rfl (by decide)
(aw_iload_n d_L_law_356 rfl rfl 3 rfl
(aw_iconst d_L_law_357 rfl
(aw_iadd d_L_law_358 rfl
(lw_sld d_L_law_359 z141
(aw_VI (As := [zi 0, zi (sx G (v3 + 2))]) (st := [zi x145]) d_L_law_360 rfl cvL_32 ⟨Nat.le_of_ble_eq_true rfl, Nat.le_of_ble_eq_true rfl⟩ rfl rfl (Nat.le_of_ble_eq_true rfl) (Nat.le_of_ble_eq_true rfl) e144 (fun x149 M147 e148 => (have e150 := e148.2; lw_icmp_eq d_L_law_363 rfl e148.1 e150)))))))))) (fun c146 => absurd c137 (by omega)))))))))))))))))) (fun c138 => have e140 := e136.2 c138; (aw_iconst d_L_law_328 rfl
(aw_goto d_L_law_329 rfl
(aw_aload_n d_L_law_333 rfl rfl 0 rfl (by decide)
(aw_iload_n d_L_law_334 rfl rfl 3 rfl
(aw_iconst d_L_law_335 rfl
(aw_iadd d_L_law_336 rfl
(have z151 := e140.1; have e152 := e140.2; lw_sld d_L_law_337 z151
(aw_VI (As := [zi 1, zi (sx G (v3 + 2))]) (st := []) d_L_law_338 rfl cvL_28 ⟨Nat.le_of_ble_eq_true rfl, Nat.le_of_ble_eq_true rfl⟩ rfl rfl (Nat.le_of_ble_eq_true rfl) (Nat.le_of_ble_eq_true rfl) e152 (fun x155 M153 e154 => (aw_aload_n d_L_law_341 rfl rfl 2 rfl (by decide)
(aw_aload_n d_L_law_342 rfl rfl 0 rfl (by decide)
(aw_iload_n d_L_law_343 rfl rfl 3 rfl
(aw_iconst d_L_law_344 rfl
(aw_iadd d_L_law_345 rfl
(lw_sld d_L_law_346 z133
(aw_if_eq d_L_law_347 rfl rfl z135 (fun c156 => absurd c138 (by omega)) (fun _ => (aw_iconst d_L_law_350 rfl
(aw_goto d_L_law_351 rfl
(aw_aload_n d_L_law_355 rfl rfl 0 rfl (by decide)
(aw_iload_n d_L_law_356 rfl rfl 3 rfl
(aw_iconst d_L_law_357 rfl
(aw_iadd d_L_law_358 rfl
(lw_sld d_L_law_359 z151
(aw_VI (As := [zi 1, zi (sx G (v3 + 2))]) (st := [zi x155]) d_L_law_360 rfl cvL_32 ⟨Nat.le_of_ble_eq_true rfl, Nat.le_of_ble_eq_true rfl⟩ rfl rfl (Nat.le_of_ble_eq_true rfl) (Nat.le_of_ble_eq_true rfl) e154 (fun x159 M157 e158 => (have e160 := e158.2; lw_icmp_eq d_L_law_363 rfl e158.1 e160)))))))))))))))))))))))))))))))))))
theorem vL_law_368 {l : Launch} {G : lwG} {v3 : Int} {M : zM}
    (H0 : (((0 ≤ (v3 + 1) ∧ (v3 + 1) < sL G) ∧ sL G < 2000000000) ∧ (((0 ≤ (v3 + 2) ∧ (v3 + 2) < sL G) ∧ sL G < 2000000000) ∧ (CI l m_X8_add [zr 8 0, zi (sx G (v3 + 1)), zi (sx G (v3 + 2))] M (fun x167 M165 => (CI l m_X9_add [zr 9 0, zi (sx G (v3 + 1)), zi (sx G (v3 + 2))] M165 (fun x170 M168 => (x167 = x170 ∧ LL_law_1609 l G v3 M168)))))))) :
    LL_law_368 l G v3 M :=
(aw_aload_n d_L_law_368 rfl rfl 1 rfl (by decide)
(aw_aload_n d_L_law_369 rfl rfl 0 rfl (by decide)
(aw_iload_n d_L_law_370 rfl rfl 3 rfl
(aw_iconst d_L_law_371 rfl
(aw_iadd d_L_law_372 rfl
(have z161 := H0.1; have e162 := H0.2; lw_sld d_L_law_373 z161
(aw_aload_n d_L_law_374 rfl rfl 0 rfl (by decide)
(aw_iload_n d_L_law_375 rfl rfl 3 rfl
(aw_iconst d_L_law_376 rfl
(aw_iadd d_L_law_377 rfl
(have z163 := e162.1; have e164 := e162.2; lw_sld d_L_law_378 z163
(aw_VI (As := [zi (sx G (v3 + 1)), zi (sx G (v3 + 2))]) (st := []) d_L_law_379 rfl cvL_33 ⟨Nat.le_of_ble_eq_true rfl, Nat.le_of_ble_eq_true rfl⟩ rfl rfl (Nat.le_of_ble_eq_true rfl) (Nat.le_of_ble_eq_true rfl) e164 (fun x167 M165 e166 => (aw_aload_n d_L_law_382 rfl rfl 2 rfl (by decide)
(aw_aload_n d_L_law_383 rfl rfl 0 rfl (by decide)
(aw_iload_n d_L_law_384 rfl rfl 3 rfl
(aw_iconst d_L_law_385 rfl
(aw_iadd d_L_law_386 rfl
(lw_sld d_L_law_387 z161
(aw_aload_n d_L_law_388 rfl rfl 0 rfl (by decide)
(aw_iload_n d_L_law_389 rfl rfl 3 rfl
(aw_iconst d_L_law_390 rfl
(aw_iadd d_L_law_391 rfl
(lw_sld d_L_law_392 z163
(aw_VI (As := [zi (sx G (v3 + 1)), zi (sx G (v3 + 2))]) (st := [zi x167]) d_L_law_393 rfl cvL_37 ⟨Nat.le_of_ble_eq_true rfl, Nat.le_of_ble_eq_true rfl⟩ rfl rfl (Nat.le_of_ble_eq_true rfl) (Nat.le_of_ble_eq_true rfl) e166 (fun x170 M168 e169 => (have e171 := e169.2; lw_icmp_eq d_L_law_396 rfl e169.1 e171)))))))))))))))))))))))))))
theorem vL_law_401 {l : Launch} {G : lwG} {v3 : Int} {M : zM}
    (H0 : (((0 ≤ (v3 + 1) ∧ (v3 + 1) < sL G) ∧ sL G < 2000000000) ∧ (((0 ≤ (v3 + 2) ∧ (v3 + 2) < sL G) ∧ sL G < 2000000000) ∧ (((0 ≤ (v3 + 3) ∧ (v3 + 3) < sL G) ∧ sL G < 2000000000) ∧ (CI l m_X8_say [zr 8 0, zi (sx G (v3 + 1)), zi (sx G (v3 + 2)), zi (sx G (v3 + 3))] M (fun x180 M178 => (CI l m_X9_say [zr 9 0, zi (sx G (v3 + 1)), zi (sx G (v3 + 2)), zi (sx G (v3 + 3))] M178 (fun x183 M181 => (x180 = x183 ∧ LL_law_1609 l G v3 M181))))))))) :
    LL_law_401 l G v3 M :=
(aw_aload_n d_L_law_401 rfl rfl 1 rfl (by decide)
(aw_aload_n d_L_law_402 rfl rfl 0 rfl (by decide)
(aw_iload_n d_L_law_403 rfl rfl 3 rfl
(aw_iconst d_L_law_404 rfl
(aw_iadd d_L_law_405 rfl
(have z172 := H0.1; have e173 := H0.2; lw_sld d_L_law_406 z172
(aw_aload_n d_L_law_407 rfl rfl 0 rfl (by decide)
(aw_iload_n d_L_law_408 rfl rfl 3 rfl
(aw_iconst d_L_law_409 rfl
(aw_iadd d_L_law_410 rfl
(have z174 := e173.1; have e175 := e173.2; lw_sld d_L_law_411 z174
(aw_aload_n d_L_law_412 rfl rfl 0 rfl (by decide)
(aw_iload_n d_L_law_413 rfl rfl 3 rfl
(aw_iconst d_L_law_414 rfl
(aw_iadd d_L_law_415 rfl
(have z176 := e175.1; have e177 := e175.2; lw_sld d_L_law_416 z176
(aw_VI (As := [zi (sx G (v3 + 1)), zi (sx G (v3 + 2)), zi (sx G (v3 + 3))]) (st := []) d_L_law_417 rfl cvL_38 ⟨Nat.le_of_ble_eq_true rfl, Nat.le_of_ble_eq_true rfl⟩ rfl rfl (Nat.le_of_ble_eq_true rfl) (Nat.le_of_ble_eq_true rfl) e177 (fun x180 M178 e179 => (aw_aload_n d_L_law_420 rfl rfl 2 rfl (by decide)
(aw_aload_n d_L_law_421 rfl rfl 0 rfl (by decide)
(aw_iload_n d_L_law_422 rfl rfl 3 rfl
(aw_iconst d_L_law_423 rfl
(aw_iadd d_L_law_424 rfl
(lw_sld d_L_law_425 z172
(aw_aload_n d_L_law_426 rfl rfl 0 rfl (by decide)
(aw_iload_n d_L_law_427 rfl rfl 3 rfl
(aw_iconst d_L_law_428 rfl
(aw_iadd d_L_law_429 rfl
(lw_sld d_L_law_430 z174
(aw_aload_n d_L_law_431 rfl rfl 0 rfl (by decide)
(aw_iload_n d_L_law_432 rfl rfl 3 rfl
(aw_iconst d_L_law_433 rfl
(aw_iadd d_L_law_434 rfl
(lw_sld d_L_law_435 z176
(aw_VI (As := [zi (sx G (v3 + 1)), zi (sx G (v3 + 2)), zi (sx G (v3 + 3))]) (st := [zi x180]) d_L_law_436 rfl cvL_42 ⟨Nat.le_of_ble_eq_true rfl, Nat.le_of_ble_eq_true rfl⟩ rfl rfl (Nat.le_of_ble_eq_true rfl) (Nat.le_of_ble_eq_true rfl) e179 (fun x183 M181 e182 => (have e184 := e182.2; lw_icmp_eq d_L_law_439 rfl e182.1 e184)))))))))))))))))))))))))))))))))))))
theorem vL_law_444 {l : Launch} {G : lwG} {v3 : Int} {M : zM}
    (H0 : (((0 ≤ (v3 + 1) ∧ (v3 + 1) < sL G) ∧ sL G < 2000000000) ∧ (CI l m_X8_leave [zr 8 0, zi (sx G (v3 + 1))] M (fun x189 M187 => (CI l m_X9_leave [zr 9 0, zi (sx G (v3 + 1))] M187 (fun x192 M190 => (x189 = x192 ∧ LL_law_1609 l G v3 M190))))))) :
    LL_law_444 l G v3 M :=
(aw_aload_n d_L_law_444 rfl rfl 1 rfl (by decide)
(aw_aload_n d_L_law_445 rfl rfl 0 rfl (by decide)
(aw_iload_n d_L_law_446 rfl rfl 3 rfl
(aw_iconst d_L_law_447 rfl
(aw_iadd d_L_law_448 rfl
(have z185 := H0.1; have e186 := H0.2; lw_sld d_L_law_449 z185
(aw_VI (As := [zi (sx G (v3 + 1))]) (st := []) d_L_law_450 rfl cvL_43 ⟨Nat.le_of_ble_eq_true rfl, Nat.le_of_ble_eq_true rfl⟩ rfl rfl (Nat.le_of_ble_eq_true rfl) (Nat.le_of_ble_eq_true rfl) e186 (fun x189 M187 e188 => (aw_aload_n d_L_law_453 rfl rfl 2 rfl (by decide)
(aw_aload_n d_L_law_454 rfl rfl 0 rfl (by decide)
(aw_iload_n d_L_law_455 rfl rfl 3 rfl
(aw_iconst d_L_law_456 rfl
(aw_iadd d_L_law_457 rfl
(lw_sld d_L_law_458 z185
(aw_VI (As := [zi (sx G (v3 + 1))]) (st := [zi x189]) d_L_law_459 rfl cvL_46 ⟨Nat.le_of_ble_eq_true rfl, Nat.le_of_ble_eq_true rfl⟩ rfl rfl (Nat.le_of_ble_eq_true rfl) (Nat.le_of_ble_eq_true rfl) e188 (fun x192 M190 e191 => (have e193 := e191.2; lw_icmp_eq d_L_law_462 rfl e191.1 e193)))))))))))))))))
theorem vL_law_467 {l : Launch} {G : lwG} {v3 : Int} {M : zM}
    (H0 : (((0 ≤ (v3 + 1) ∧ (v3 + 1) < sL G) ∧ sL G < 2000000000) ∧ (CI l m_X8_fee [zr 8 0, zi (sx G (v3 + 1))] M (fun x198 M196 => (CI l m_X9_fee [zr 9 0, zi (sx G (v3 + 1))] M196 (fun x201 M199 => (x198 = x201 ∧ LL_law_1609 l G v3 M199))))))) :
    LL_law_467 l G v3 M :=
(aw_aload_n d_L_law_467 rfl rfl 1 rfl (by decide)
(aw_aload_n d_L_law_468 rfl rfl 0 rfl (by decide)
(aw_iload_n d_L_law_469 rfl rfl 3 rfl
(aw_iconst d_L_law_470 rfl
(aw_iadd d_L_law_471 rfl
(have z194 := H0.1; have e195 := H0.2; lw_sld d_L_law_472 z194
(aw_VI (As := [zi (sx G (v3 + 1))]) (st := []) d_L_law_473 rfl cvL_47 ⟨Nat.le_of_ble_eq_true rfl, Nat.le_of_ble_eq_true rfl⟩ rfl rfl (Nat.le_of_ble_eq_true rfl) (Nat.le_of_ble_eq_true rfl) e195 (fun x198 M196 e197 => (aw_aload_n d_L_law_476 rfl rfl 2 rfl (by decide)
(aw_aload_n d_L_law_477 rfl rfl 0 rfl (by decide)
(aw_iload_n d_L_law_478 rfl rfl 3 rfl
(aw_iconst d_L_law_479 rfl
(aw_iadd d_L_law_480 rfl
(lw_sld d_L_law_481 z194
(aw_VI (As := [zi (sx G (v3 + 1))]) (st := [zi x198]) d_L_law_482 rfl cvL_50 ⟨Nat.le_of_ble_eq_true rfl, Nat.le_of_ble_eq_true rfl⟩ rfl rfl (Nat.le_of_ble_eq_true rfl) (Nat.le_of_ble_eq_true rfl) e197 (fun x201 M199 e200 => (have e202 := e200.2; lw_icmp_eq d_L_law_485 rfl e200.1 e202)))))))))))))))))
theorem vL_law_490 {l : Launch} {G : lwG} {v3 : Int} {M : zM}
    (H0 : (((0 ≤ (v3 + 1) ∧ (v3 + 1) < sL G) ∧ sL G < 2000000000) ∧ (CI l m_X8_law [zr 8 0, zi (sx G (v3 + 1))] M (fun x207 M205 => (CI l m_X9_law [zr 9 0, zi (sx G (v3 + 1))] M205 (fun x210 M208 => (x207 = x210 ∧ LL_law_1609 l G v3 M208))))))) :
    LL_law_490 l G v3 M :=
(aw_aload_n d_L_law_490 rfl rfl 1 rfl (by decide)
(aw_aload_n d_L_law_491 rfl rfl 0 rfl (by decide)
(aw_iload_n d_L_law_492 rfl rfl 3 rfl
(aw_iconst d_L_law_493 rfl
(aw_iadd d_L_law_494 rfl
(have z203 := H0.1; have e204 := H0.2; lw_sld d_L_law_495 z203
(aw_VI (As := [zi (sx G (v3 + 1))]) (st := []) d_L_law_496 rfl cvL_51 ⟨Nat.le_of_ble_eq_true rfl, Nat.le_of_ble_eq_true rfl⟩ rfl rfl (Nat.le_of_ble_eq_true rfl) (Nat.le_of_ble_eq_true rfl) e204 (fun x207 M205 e206 => (aw_aload_n d_L_law_499 rfl rfl 2 rfl (by decide)
(aw_aload_n d_L_law_500 rfl rfl 0 rfl (by decide)
(aw_iload_n d_L_law_501 rfl rfl 3 rfl
(aw_iconst d_L_law_502 rfl
(aw_iadd d_L_law_503 rfl
(lw_sld d_L_law_504 z203
(aw_VI (As := [zi (sx G (v3 + 1))]) (st := [zi x207]) d_L_law_505 rfl cvL_54 ⟨Nat.le_of_ble_eq_true rfl, Nat.le_of_ble_eq_true rfl⟩ rfl rfl (Nat.le_of_ble_eq_true rfl) (Nat.le_of_ble_eq_true rfl) e206 (fun x210 M208 e209 => (have e211 := e209.2; lw_icmp_eq d_L_law_508 rfl e209.1 e211)))))))))))))))))
theorem vL_law_513 {l : Launch} {G : lwG} {v3 : Int} {M : zM}
    (H0 : (((0 ≤ (v3 + 1) ∧ (v3 + 1) < sL G) ∧ sL G < 2000000000) ∧ (CI l m_X8_close [zr 8 0, zi (sx G (v3 + 1))] M (fun x216 M214 => (CI l m_X9_close [zr 9 0, zi (sx G (v3 + 1))] M214 (fun x219 M217 => (x216 = x219 ∧ LL_law_1609 l G v3 M217))))))) :
    LL_law_513 l G v3 M :=
(aw_aload_n d_L_law_513 rfl rfl 1 rfl (by decide)
(aw_aload_n d_L_law_514 rfl rfl 0 rfl (by decide)
(aw_iload_n d_L_law_515 rfl rfl 3 rfl
(aw_iconst d_L_law_516 rfl
(aw_iadd d_L_law_517 rfl
(have z212 := H0.1; have e213 := H0.2; lw_sld d_L_law_518 z212
(aw_VI (As := [zi (sx G (v3 + 1))]) (st := []) d_L_law_519 rfl cvL_55 ⟨Nat.le_of_ble_eq_true rfl, Nat.le_of_ble_eq_true rfl⟩ rfl rfl (Nat.le_of_ble_eq_true rfl) (Nat.le_of_ble_eq_true rfl) e213 (fun x216 M214 e215 => (aw_aload_n d_L_law_522 rfl rfl 2 rfl (by decide)
(aw_aload_n d_L_law_523 rfl rfl 0 rfl (by decide)
(aw_iload_n d_L_law_524 rfl rfl 3 rfl
(aw_iconst d_L_law_525 rfl
(aw_iadd d_L_law_526 rfl
(lw_sld d_L_law_527 z212
(aw_VI (As := [zi (sx G (v3 + 1))]) (st := [zi x216]) d_L_law_528 rfl cvL_58 ⟨Nat.le_of_ble_eq_true rfl, Nat.le_of_ble_eq_true rfl⟩ rfl rfl (Nat.le_of_ble_eq_true rfl) (Nat.le_of_ble_eq_true rfl) e215 (fun x219 M217 e218 => (have e220 := e218.2; lw_icmp_eq d_L_law_531 rfl e218.1 e220)))))))))))))))))
theorem vL_law_536 {l : Launch} {G : lwG} {v3 : Int} {M : zM}
    (H0 : (CI l m_X8_undo [zr 8 0] M (fun x223 M221 => (CI l m_X9_undo [zr 9 0] M221 (fun x226 M224 => (x223 = x226 ∧ LL_law_1609 l G v3 M224)))))) :
    LL_law_536 l G v3 M :=
(aw_aload_n d_L_law_536 rfl rfl 1 rfl (by decide)
(aw_VI (As := []) (st := []) d_L_law_537 rfl cvL_59 ⟨Nat.le_of_ble_eq_true rfl, Nat.le_of_ble_eq_true rfl⟩ rfl rfl (Nat.le_of_ble_eq_true rfl) (Nat.le_of_ble_eq_true rfl) H0 (fun x223 M221 e222 => (aw_aload_n d_L_law_540 rfl rfl 2 rfl (by decide)
(aw_VI (As := []) (st := [zi x223]) d_L_law_541 rfl cvL_62 ⟨Nat.le_of_ble_eq_true rfl, Nat.le_of_ble_eq_true rfl⟩ rfl rfl (Nat.le_of_ble_eq_true rfl) (Nat.le_of_ble_eq_true rfl) e222 (fun x226 M224 e225 => (have e227 := e225.2; lw_icmp_eq d_L_law_544 rfl e225.1 e227)))))))
theorem vL_law_549 {l : Launch} {G : lwG} {v3 : Int} {M : zM}
    (H0 : (((0 ≤ (v3 + 1) ∧ (v3 + 1) < sL G) ∧ sL G < 2000000000) ∧ (CI l m_X8_keep [zr 8 0, zi (sx G (v3 + 1))] M (fun x232 M230 => (CI l m_X9_keep [zr 9 0, zi (sx G (v3 + 1))] M230 (fun x235 M233 => (x232 = x235 ∧ LL_law_1609 l G v3 M233))))))) :
    LL_law_549 l G v3 M :=
(aw_aload_n d_L_law_549 rfl rfl 1 rfl (by decide)
(aw_aload_n d_L_law_550 rfl rfl 0 rfl (by decide)
(aw_iload_n d_L_law_551 rfl rfl 3 rfl
(aw_iconst d_L_law_552 rfl
(aw_iadd d_L_law_553 rfl
(have z228 := H0.1; have e229 := H0.2; lw_sld d_L_law_554 z228
(aw_VI (As := [zi (sx G (v3 + 1))]) (st := []) d_L_law_555 rfl cvL_63 ⟨Nat.le_of_ble_eq_true rfl, Nat.le_of_ble_eq_true rfl⟩ rfl rfl (Nat.le_of_ble_eq_true rfl) (Nat.le_of_ble_eq_true rfl) e229 (fun x232 M230 e231 => (aw_aload_n d_L_law_558 rfl rfl 2 rfl (by decide)
(aw_aload_n d_L_law_559 rfl rfl 0 rfl (by decide)
(aw_iload_n d_L_law_560 rfl rfl 3 rfl
(aw_iconst d_L_law_561 rfl
(aw_iadd d_L_law_562 rfl
(lw_sld d_L_law_563 z228
(aw_VI (As := [zi (sx G (v3 + 1))]) (st := [zi x232]) d_L_law_564 rfl cvL_66 ⟨Nat.le_of_ble_eq_true rfl, Nat.le_of_ble_eq_true rfl⟩ rfl rfl (Nat.le_of_ble_eq_true rfl) (Nat.le_of_ble_eq_true rfl) e231 (fun x235 M233 e234 => (have e236 := e234.2; lw_icmp_eq d_L_law_567 rfl e234.1 e236)))))))))))))))))
theorem vL_law_572 {l : Launch} {G : lwG} {v3 : Int} {M : zM}
    (H0 : (((0 ≤ (v3 + 1) ∧ (v3 + 1) < sL G) ∧ sL G < 2000000000) ∧ (CI l m_X8_back [zr 8 0, zi (sx G (v3 + 1))] M (fun x241 M239 => (CI l m_X9_back [zr 9 0, zi (sx G (v3 + 1))] M239 (fun x244 M242 => (x241 = x244 ∧ LL_law_1609 l G v3 M242))))))) :
    LL_law_572 l G v3 M :=
(aw_aload_n d_L_law_572 rfl rfl 1 rfl (by decide)
(aw_aload_n d_L_law_573 rfl rfl 0 rfl (by decide)
(aw_iload_n d_L_law_574 rfl rfl 3 rfl
(aw_iconst d_L_law_575 rfl
(aw_iadd d_L_law_576 rfl
(have z237 := H0.1; have e238 := H0.2; lw_sld d_L_law_577 z237
(aw_VI (As := [zi (sx G (v3 + 1))]) (st := []) d_L_law_578 rfl cvL_67 ⟨Nat.le_of_ble_eq_true rfl, Nat.le_of_ble_eq_true rfl⟩ rfl rfl (Nat.le_of_ble_eq_true rfl) (Nat.le_of_ble_eq_true rfl) e238 (fun x241 M239 e240 => (aw_aload_n d_L_law_581 rfl rfl 2 rfl (by decide)
(aw_aload_n d_L_law_582 rfl rfl 0 rfl (by decide)
(aw_iload_n d_L_law_583 rfl rfl 3 rfl
(aw_iconst d_L_law_584 rfl
(aw_iadd d_L_law_585 rfl
(lw_sld d_L_law_586 z237
(aw_VI (As := [zi (sx G (v3 + 1))]) (st := [zi x241]) d_L_law_587 rfl cvL_70 ⟨Nat.le_of_ble_eq_true rfl, Nat.le_of_ble_eq_true rfl⟩ rfl rfl (Nat.le_of_ble_eq_true rfl) (Nat.le_of_ble_eq_true rfl) e240 (fun x244 M242 e243 => (have e245 := e243.2; lw_icmp_eq d_L_law_590 rfl e243.1 e245)))))))))))))))))
theorem vL_law_595 {l : Launch} {G : lwG} {v3 : Int} {M : zM}
    (H0 : (((0 ≤ (v3 + 1) ∧ (v3 + 1) < sL G) ∧ sL G < 2000000000) ∧ (((0 ≤ (v3 + 2) ∧ (v3 + 2) < sL G) ∧ sL G < 2000000000) ∧ (CI l m_X8_trader [zr 8 0, zi (sx G (v3 + 1)), zi (sx G (v3 + 2))] M (fun x252 M250 => (CI l m_X9_trader [zr 9 0, zi (sx G (v3 + 1)), zi (sx G (v3 + 2))] M250 (fun x255 M253 => (x252 = x255 ∧ LL_law_1609 l G v3 M253)))))))) :
    LL_law_595 l G v3 M :=
(aw_aload_n d_L_law_595 rfl rfl 1 rfl (by decide)
(aw_aload_n d_L_law_596 rfl rfl 0 rfl (by decide)
(aw_iload_n d_L_law_597 rfl rfl 3 rfl
(aw_iconst d_L_law_598 rfl
(aw_iadd d_L_law_599 rfl
(have z246 := H0.1; have e247 := H0.2; lw_sld d_L_law_600 z246
(aw_aload_n d_L_law_601 rfl rfl 0 rfl (by decide)
(aw_iload_n d_L_law_602 rfl rfl 3 rfl
(aw_iconst d_L_law_603 rfl
(aw_iadd d_L_law_604 rfl
(have z248 := e247.1; have e249 := e247.2; lw_sld d_L_law_605 z248
(aw_VI (As := [zi (sx G (v3 + 1)), zi (sx G (v3 + 2))]) (st := []) d_L_law_606 rfl cvL_71 ⟨Nat.le_of_ble_eq_true rfl, Nat.le_of_ble_eq_true rfl⟩ rfl rfl (Nat.le_of_ble_eq_true rfl) (Nat.le_of_ble_eq_true rfl) e249 (fun x252 M250 e251 => (aw_aload_n d_L_law_609 rfl rfl 2 rfl (by decide)
(aw_aload_n d_L_law_610 rfl rfl 0 rfl (by decide)
(aw_iload_n d_L_law_611 rfl rfl 3 rfl
(aw_iconst d_L_law_612 rfl
(aw_iadd d_L_law_613 rfl
(lw_sld d_L_law_614 z246
(aw_aload_n d_L_law_615 rfl rfl 0 rfl (by decide)
(aw_iload_n d_L_law_616 rfl rfl 3 rfl
(aw_iconst d_L_law_617 rfl
(aw_iadd d_L_law_618 rfl
(lw_sld d_L_law_619 z248
(aw_VI (As := [zi (sx G (v3 + 1)), zi (sx G (v3 + 2))]) (st := [zi x252]) d_L_law_620 rfl cvL_74 ⟨Nat.le_of_ble_eq_true rfl, Nat.le_of_ble_eq_true rfl⟩ rfl rfl (Nat.le_of_ble_eq_true rfl) (Nat.le_of_ble_eq_true rfl) e251 (fun x255 M253 e254 => (have e256 := e254.2; lw_icmp_eq d_L_law_623 rfl e254.1 e256)))))))))))))))))))))))))))
theorem vL_law_628 {l : Launch} {G : lwG} {v3 : Int} {M : zM}
    (H0 : (((0 ≤ (v3 + 1) ∧ (v3 + 1) < sL G) ∧ sL G < 2000000000) ∧ (((0 ≤ (v3 + 2) ∧ (v3 + 2) < sL G) ∧ sL G < 2000000000) ∧ (zI (sx G (v3 + 2)) ∧ ((sx G (v3 + 2)) = 0 → (((0 ≤ (v3 + 3) ∧ (v3 + 3) < sL G) ∧ sL G < 2000000000) ∧ (((0 ≤ (v3 + 4) ∧ (v3 + 4) < sL G) ∧ sL G < 2000000000) ∧ (CI l m_X8_row [zr 8 0, zi (sx G (v3 + 1)), zi 0, zi (sx G (v3 + 3)), zi (sx G (v3 + 4))] M (fun x273 M271 => (CI l m_X9_row [zr 9 0, zi (sx G (v3 + 1)), zi 0, zi (sx G (v3 + 3)), zi (sx G (v3 + 4))] M271 (fun x277 M275 => (x273 = x277 ∧ LL_law_1609 l G v3 M275)))))))) ∧ ((sx G (v3 + 2)) ≠ 0 → (((0 ≤ (v3 + 3) ∧ (v3 + 3) < sL G) ∧ sL G < 2000000000) ∧ (((0 ≤ (v3 + 4) ∧ (v3 + 4) < sL G) ∧ sL G < 2000000000) ∧ (CI l m_X8_row [zr 8 0, zi (sx G (v3 + 1)), zi 1, zi (sx G (v3 + 3)), zi (sx G (v3 + 4))] M (fun x285 M283 => (CI l m_X9_row [zr 9 0, zi (sx G (v3 + 1)), zi 1, zi (sx G (v3 + 3)), zi (sx G (v3 + 4))] M283 (fun x289 M287 => (x285 = x289 ∧ LL_law_1609 l G v3 M287)))))))))))) :
    LL_law_628 l G v3 M :=
(aw_aload_n d_L_law_628 rfl rfl 1 rfl (by decide)
(aw_aload_n d_L_law_629 rfl rfl 0 rfl (by decide)
(aw_iload_n d_L_law_630 rfl rfl 3 rfl
(aw_iconst d_L_law_631 rfl
(aw_iadd d_L_law_632 rfl
(have z257 := H0.1; have e258 := H0.2; lw_sld d_L_law_633 z257
(aw_aload_n d_L_law_634 rfl rfl 0 rfl (by decide)
(aw_iload_n d_L_law_635 rfl rfl 3 rfl
(aw_iconst d_L_law_636 rfl
(aw_iadd d_L_law_637 rfl
(have z259 := e258.1; have e260 := e258.2; lw_sld d_L_law_638 z259
(have z261 := e260.1; have e262 := e260.2; aw_if_eq d_L_law_639 rfl rfl z261 (fun c263 => have e265 := e262.1 c263; (aw_iconst d_L_law_646 rfl
(aw_aload_n d_L_law_647 rfl rfl 0 rfl (by decide)
(aw_iload_n d_L_law_648 rfl rfl 3 rfl
(aw_iconst d_L_law_649 rfl
(aw_iadd d_L_law_650 rfl
(have z267 := e265.1; have e268 := e265.2; lw_sld d_L_law_651 z267
(aw_aload_n d_L_law_652 rfl rfl 0 rfl (by decide)
(aw_iload_n d_L_law_653 rfl rfl 3 rfl
(aw_iconst d_L_law_654 rfl
(aw_iadd d_L_law_655 rfl
(have z269 := e268.1; have e270 := e268.2; lw_sld d_L_law_656 z269
(aw_VI (As := [zi (sx G (v3 + 1)), zi 0, zi (sx G (v3 + 3)), zi (sx G (v3 + 4))]) (st := []) d_L_law_657 rfl cvL_75 ⟨Nat.le_of_ble_eq_true rfl, Nat.le_of_ble_eq_true rfl⟩ rfl rfl (Nat.le_of_ble_eq_true rfl) (Nat.le_of_ble_eq_true rfl) e270 (fun x273 M271 e272 => (aw_aload_n d_L_law_660 rfl rfl 2 rfl (by decide)
(aw_aload_n d_L_law_661 rfl rfl 0 rfl (by decide)
(aw_iload_n d_L_law_662 rfl rfl 3 rfl
(aw_iconst d_L_law_663 rfl
(aw_iadd d_L_law_664 rfl
(lw_sld d_L_law_665 z257
(aw_aload_n d_L_law_666 rfl rfl 0 rfl (by decide)
(aw_iload_n d_L_law_667 rfl rfl 3 rfl
(aw_iconst d_L_law_668 rfl
(aw_iadd d_L_law_669 rfl
(lw_sld d_L_law_670 z259
(aw_if_eq d_L_law_671 rfl rfl z261 (fun _ => (aw_iconst d_L_law_678 rfl
(aw_aload_n d_L_law_679 rfl rfl 0 rfl (by decide)
(aw_iload_n d_L_law_680 rfl rfl 3 rfl
(aw_iconst d_L_law_681 rfl
(aw_iadd d_L_law_682 rfl
(lw_sld d_L_law_683 z267
(aw_aload_n d_L_law_684 rfl rfl 0 rfl (by decide)
(aw_iload_n d_L_law_685 rfl rfl 3 rfl
(aw_iconst d_L_law_686 rfl
(aw_iadd d_L_law_687 rfl
(lw_sld d_L_law_688 z269
(aw_VI (As := [zi (sx G (v3 + 1)), zi 0, zi (sx G (v3 + 3)), zi (sx G (v3 + 4))]) (st := [zi x273]) d_L_law_689 rfl cvL_79 ⟨Nat.le_of_ble_eq_true rfl, Nat.le_of_ble_eq_true rfl⟩ rfl rfl (Nat.le_of_ble_eq_true rfl) (Nat.le_of_ble_eq_true rfl) e272 (fun x277 M275 e276 => (have e278 := e276.2; lw_icmp_eq d_L_law_692 rfl e276.1 e278))))))))))))))) (fun c274 => absurd c263 (by omega)))))))))))))))))))))))))))) (fun c264 => have e266 := e262.2 c264; (aw_iconst d_L_law_642 rfl
(aw_goto d_L_law_643 rfl
(aw_aload_n d_L_law_647 rfl rfl 0 rfl (by decide)
(aw_iload_n d_L_law_648 rfl rfl 3 rfl
(aw_iconst d_L_law_649 rfl
(aw_iadd d_L_law_650 rfl
(have z279 := e266.1; have e280 := e266.2; lw_sld d_L_law_651 z279
(aw_aload_n d_L_law_652 rfl rfl 0 rfl (by decide)
(aw_iload_n d_L_law_653 rfl rfl 3 rfl
(aw_iconst d_L_law_654 rfl
(aw_iadd d_L_law_655 rfl
(have z281 := e280.1; have e282 := e280.2; lw_sld d_L_law_656 z281
(aw_VI (As := [zi (sx G (v3 + 1)), zi 1, zi (sx G (v3 + 3)), zi (sx G (v3 + 4))]) (st := []) d_L_law_657 rfl cvL_75 ⟨Nat.le_of_ble_eq_true rfl, Nat.le_of_ble_eq_true rfl⟩ rfl rfl (Nat.le_of_ble_eq_true rfl) (Nat.le_of_ble_eq_true rfl) e282 (fun x285 M283 e284 => (aw_aload_n d_L_law_660 rfl rfl 2 rfl (by decide)
(aw_aload_n d_L_law_661 rfl rfl 0 rfl (by decide)
(aw_iload_n d_L_law_662 rfl rfl 3 rfl
(aw_iconst d_L_law_663 rfl
(aw_iadd d_L_law_664 rfl
(lw_sld d_L_law_665 z257
(aw_aload_n d_L_law_666 rfl rfl 0 rfl (by decide)
(aw_iload_n d_L_law_667 rfl rfl 3 rfl
(aw_iconst d_L_law_668 rfl
(aw_iadd d_L_law_669 rfl
(lw_sld d_L_law_670 z259
(aw_if_eq d_L_law_671 rfl rfl z261 (fun c286 => absurd c264 (by omega)) (fun _ => (aw_iconst d_L_law_674 rfl
(aw_goto d_L_law_675 rfl
(aw_aload_n d_L_law_679 rfl rfl 0 rfl (by decide)
(aw_iload_n d_L_law_680 rfl rfl 3 rfl
(aw_iconst d_L_law_681 rfl
(aw_iadd d_L_law_682 rfl
(lw_sld d_L_law_683 z279
(aw_aload_n d_L_law_684 rfl rfl 0 rfl (by decide)
(aw_iload_n d_L_law_685 rfl rfl 3 rfl
(aw_iconst d_L_law_686 rfl
(aw_iadd d_L_law_687 rfl
(lw_sld d_L_law_688 z281
(aw_VI (As := [zi (sx G (v3 + 1)), zi 1, zi (sx G (v3 + 3)), zi (sx G (v3 + 4))]) (st := [zi x285]) d_L_law_689 rfl cvL_79 ⟨Nat.le_of_ble_eq_true rfl, Nat.le_of_ble_eq_true rfl⟩ rfl rfl (Nat.le_of_ble_eq_true rfl) (Nat.le_of_ble_eq_true rfl) e284 (fun x289 M287 e288 => (have e290 := e288.2; lw_icmp_eq d_L_law_692 rfl e288.1 e290)))))))))))))))))))))))))))))))))))))))))))))))))))))))
theorem vL_law_697 {l : Launch} {G : lwG} {v3 : Int} {M : zM}
    (H0 : (((0 ≤ (v3 + 1) ∧ (v3 + 1) < sL G) ∧ sL G < 2000000000) ∧ (((0 ≤ (v3 + 2) ∧ (v3 + 2) < sL G) ∧ sL G < 2000000000) ∧ (CI l m_X8_market [zr 8 0, zi (sx G (v3 + 1)), zi (sx G (v3 + 2))] M (fun x297 M295 => (CI l m_X9_market [zr 9 0, zi (sx G (v3 + 1)), zi (sx G (v3 + 2))] M295 (fun x300 M298 => (x297 = x300 ∧ LL_law_1609 l G v3 M298)))))))) :
    LL_law_697 l G v3 M :=
(aw_aload_n d_L_law_697 rfl rfl 1 rfl (by decide)
(aw_aload_n d_L_law_698 rfl rfl 0 rfl (by decide)
(aw_iload_n d_L_law_699 rfl rfl 3 rfl
(aw_iconst d_L_law_700 rfl
(aw_iadd d_L_law_701 rfl
(have z291 := H0.1; have e292 := H0.2; lw_sld d_L_law_702 z291
(aw_aload_n d_L_law_703 rfl rfl 0 rfl (by decide)
(aw_iload_n d_L_law_704 rfl rfl 3 rfl
(aw_iconst d_L_law_705 rfl
(aw_iadd d_L_law_706 rfl
(have z293 := e292.1; have e294 := e292.2; lw_sld d_L_law_707 z293
(aw_VI (As := [zi (sx G (v3 + 1)), zi (sx G (v3 + 2))]) (st := []) d_L_law_708 rfl cvL_80 ⟨Nat.le_of_ble_eq_true rfl, Nat.le_of_ble_eq_true rfl⟩ rfl rfl (Nat.le_of_ble_eq_true rfl) (Nat.le_of_ble_eq_true rfl) e294 (fun x297 M295 e296 => (aw_aload_n d_L_law_711 rfl rfl 2 rfl (by decide)
(aw_aload_n d_L_law_712 rfl rfl 0 rfl (by decide)
(aw_iload_n d_L_law_713 rfl rfl 3 rfl
(aw_iconst d_L_law_714 rfl
(aw_iadd d_L_law_715 rfl
(lw_sld d_L_law_716 z291
(aw_aload_n d_L_law_717 rfl rfl 0 rfl (by decide)
(aw_iload_n d_L_law_718 rfl rfl 3 rfl
(aw_iconst d_L_law_719 rfl
(aw_iadd d_L_law_720 rfl
(lw_sld d_L_law_721 z293
(aw_VI (As := [zi (sx G (v3 + 1)), zi (sx G (v3 + 2))]) (st := [zi x297]) d_L_law_722 rfl cvL_83 ⟨Nat.le_of_ble_eq_true rfl, Nat.le_of_ble_eq_true rfl⟩ rfl rfl (Nat.le_of_ble_eq_true rfl) (Nat.le_of_ble_eq_true rfl) e296 (fun x300 M298 e299 => (have e301 := e299.2; lw_icmp_eq d_L_law_725 rfl e299.1 e301)))))))))))))))))))))))))))
theorem vL_law_730 {l : Launch} {G : lwG} {v3 : Int} {M : zM}
    (H0 : (((0 ≤ (v3 + 1) ∧ (v3 + 1) < sL G) ∧ sL G < 2000000000) ∧ (((0 ≤ (v3 + 2) ∧ (v3 + 2) < sL G) ∧ sL G < 2000000000) ∧ (CI l m_X8_deal [zr 8 0, zi (sx G (v3 + 1)), zi (sx G (v3 + 2))] M (fun x308 M306 => (CI l m_X9_deal [zr 9 0, zi (sx G (v3 + 1)), zi (sx G (v3 + 2))] M306 (fun x311 M309 => (x308 = x311 ∧ LL_law_1609 l G v3 M309)))))))) :
    LL_law_730 l G v3 M :=
(aw_aload_n d_L_law_730 rfl rfl 1 rfl (by decide)
(aw_aload_n d_L_law_731 rfl rfl 0 rfl (by decide)
(aw_iload_n d_L_law_732 rfl rfl 3 rfl
(aw_iconst d_L_law_733 rfl
(aw_iadd d_L_law_734 rfl
(have z302 := H0.1; have e303 := H0.2; lw_sld d_L_law_735 z302
(aw_aload_n d_L_law_736 rfl rfl 0 rfl (by decide)
(aw_iload_n d_L_law_737 rfl rfl 3 rfl
(aw_iconst d_L_law_738 rfl
(aw_iadd d_L_law_739 rfl
(have z304 := e303.1; have e305 := e303.2; lw_sld d_L_law_740 z304
(aw_VI (As := [zi (sx G (v3 + 1)), zi (sx G (v3 + 2))]) (st := []) d_L_law_741 rfl cvL_84 ⟨Nat.le_of_ble_eq_true rfl, Nat.le_of_ble_eq_true rfl⟩ rfl rfl (Nat.le_of_ble_eq_true rfl) (Nat.le_of_ble_eq_true rfl) e305 (fun x308 M306 e307 => (aw_aload_n d_L_law_744 rfl rfl 2 rfl (by decide)
(aw_aload_n d_L_law_745 rfl rfl 0 rfl (by decide)
(aw_iload_n d_L_law_746 rfl rfl 3 rfl
(aw_iconst d_L_law_747 rfl
(aw_iadd d_L_law_748 rfl
(lw_sld d_L_law_749 z302
(aw_aload_n d_L_law_750 rfl rfl 0 rfl (by decide)
(aw_iload_n d_L_law_751 rfl rfl 3 rfl
(aw_iconst d_L_law_752 rfl
(aw_iadd d_L_law_753 rfl
(lw_sld d_L_law_754 z304
(aw_VI (As := [zi (sx G (v3 + 1)), zi (sx G (v3 + 2))]) (st := [zi x308]) d_L_law_755 rfl cvL_87 ⟨Nat.le_of_ble_eq_true rfl, Nat.le_of_ble_eq_true rfl⟩ rfl rfl (Nat.le_of_ble_eq_true rfl) (Nat.le_of_ble_eq_true rfl) e307 (fun x311 M309 e310 => (have e312 := e310.2; lw_icmp_eq d_L_law_758 rfl e310.1 e312)))))))))))))))))))))))))))
theorem vL_law_763 {l : Launch} {G : lwG} {v3 : Int} {M : zM}
    (H0 : (((0 ≤ (v3 + 1) ∧ (v3 + 1) < sL G) ∧ sL G < 2000000000) ∧ (((0 ≤ (v3 + 2) ∧ (v3 + 2) < sL G) ∧ sL G < 2000000000) ∧ (CI l m_X8_lie [zr 8 0, zi (sx G (v3 + 1)), zi (sx G (v3 + 2))] M (fun x319 M317 => (CI l m_X9_lie [zr 9 0, zi (sx G (v3 + 1)), zi (sx G (v3 + 2))] M317 (fun x322 M320 => (x319 = x322 ∧ LL_law_1609 l G v3 M320)))))))) :
    LL_law_763 l G v3 M :=
(aw_aload_n d_L_law_763 rfl rfl 1 rfl (by decide)
(aw_aload_n d_L_law_764 rfl rfl 0 rfl (by decide)
(aw_iload_n d_L_law_765 rfl rfl 3 rfl
(aw_iconst d_L_law_766 rfl
(aw_iadd d_L_law_767 rfl
(have z313 := H0.1; have e314 := H0.2; lw_sld d_L_law_768 z313
(aw_aload_n d_L_law_769 rfl rfl 0 rfl (by decide)
(aw_iload_n d_L_law_770 rfl rfl 3 rfl
(aw_iconst d_L_law_771 rfl
(aw_iadd d_L_law_772 rfl
(have z315 := e314.1; have e316 := e314.2; lw_sld d_L_law_773 z315
(aw_VI (As := [zi (sx G (v3 + 1)), zi (sx G (v3 + 2))]) (st := []) d_L_law_774 rfl cvL_88 ⟨Nat.le_of_ble_eq_true rfl, Nat.le_of_ble_eq_true rfl⟩ rfl rfl (Nat.le_of_ble_eq_true rfl) (Nat.le_of_ble_eq_true rfl) e316 (fun x319 M317 e318 => (aw_aload_n d_L_law_777 rfl rfl 2 rfl (by decide)
(aw_aload_n d_L_law_778 rfl rfl 0 rfl (by decide)
(aw_iload_n d_L_law_779 rfl rfl 3 rfl
(aw_iconst d_L_law_780 rfl
(aw_iadd d_L_law_781 rfl
(lw_sld d_L_law_782 z313
(aw_aload_n d_L_law_783 rfl rfl 0 rfl (by decide)
(aw_iload_n d_L_law_784 rfl rfl 3 rfl
(aw_iconst d_L_law_785 rfl
(aw_iadd d_L_law_786 rfl
(lw_sld d_L_law_787 z315
(aw_VI (As := [zi (sx G (v3 + 1)), zi (sx G (v3 + 2))]) (st := [zi x319]) d_L_law_788 rfl cvL_91 ⟨Nat.le_of_ble_eq_true rfl, Nat.le_of_ble_eq_true rfl⟩ rfl rfl (Nat.le_of_ble_eq_true rfl) (Nat.le_of_ble_eq_true rfl) e318 (fun x322 M320 e321 => (have e323 := e321.2; lw_icmp_eq d_L_law_791 rfl e321.1 e323)))))))))))))))))))))))))))
theorem vL_law_796 {l : Launch} {G : lwG} {v3 : Int} {M : zM}
    (H0 : (((0 ≤ (v3 + 1) ∧ (v3 + 1) < sL G) ∧ sL G < 2000000000) ∧ (((0 ≤ (v3 + 2) ∧ (v3 + 2) < sL G) ∧ sL G < 2000000000) ∧ (CI l m_X8_tempted [zr 8 0, zi (sx G (v3 + 1)), zi (sx G (v3 + 2))] M (fun x330 M328 => (CI l m_X9_tempted [zr 9 0, zi (sx G (v3 + 1)), zi (sx G (v3 + 2))] M328 (fun x333 M331 => (x330 = x333 ∧ LL_law_1609 l G v3 M331)))))))) :
    LL_law_796 l G v3 M :=
(aw_aload_n d_L_law_796 rfl rfl 1 rfl (by decide)
(aw_aload_n d_L_law_797 rfl rfl 0 rfl (by decide)
(aw_iload_n d_L_law_798 rfl rfl 3 rfl
(aw_iconst d_L_law_799 rfl
(aw_iadd d_L_law_800 rfl
(have z324 := H0.1; have e325 := H0.2; lw_sld d_L_law_801 z324
(aw_aload_n d_L_law_802 rfl rfl 0 rfl (by decide)
(aw_iload_n d_L_law_803 rfl rfl 3 rfl
(aw_iconst d_L_law_804 rfl
(aw_iadd d_L_law_805 rfl
(have z326 := e325.1; have e327 := e325.2; lw_sld d_L_law_806 z326
(aw_VI (As := [zi (sx G (v3 + 1)), zi (sx G (v3 + 2))]) (st := []) d_L_law_807 rfl cvL_92 ⟨Nat.le_of_ble_eq_true rfl, Nat.le_of_ble_eq_true rfl⟩ rfl rfl (Nat.le_of_ble_eq_true rfl) (Nat.le_of_ble_eq_true rfl) e327 (fun x330 M328 e329 => (aw_aload_n d_L_law_810 rfl rfl 2 rfl (by decide)
(aw_aload_n d_L_law_811 rfl rfl 0 rfl (by decide)
(aw_iload_n d_L_law_812 rfl rfl 3 rfl
(aw_iconst d_L_law_813 rfl
(aw_iadd d_L_law_814 rfl
(lw_sld d_L_law_815 z324
(aw_aload_n d_L_law_816 rfl rfl 0 rfl (by decide)
(aw_iload_n d_L_law_817 rfl rfl 3 rfl
(aw_iconst d_L_law_818 rfl
(aw_iadd d_L_law_819 rfl
(lw_sld d_L_law_820 z326
(aw_VI (As := [zi (sx G (v3 + 1)), zi (sx G (v3 + 2))]) (st := [zi x330]) d_L_law_821 rfl cvL_95 ⟨Nat.le_of_ble_eq_true rfl, Nat.le_of_ble_eq_true rfl⟩ rfl rfl (Nat.le_of_ble_eq_true rfl) (Nat.le_of_ble_eq_true rfl) e329 (fun x333 M331 e332 => (have e334 := e332.2; lw_icmp_eq d_L_law_824 rfl e332.1 e334)))))))))))))))))))))))))))
theorem vL_law_829 {l : Launch} {G : lwG} {v3 : Int} {M : zM}
    (H0 : (((0 ≤ (v3 + 1) ∧ (v3 + 1) < sL G) ∧ sL G < 2000000000) ∧ (CI l m_X8_missed [zr 8 0, zi (sx G (v3 + 1))] M (fun x339 M337 => (CI l m_X9_missed [zr 9 0, zi (sx G (v3 + 1))] M337 (fun x342 M340 => (x339 = x342 ∧ LL_law_1609 l G v3 M340))))))) :
    LL_law_829 l G v3 M :=
(aw_aload_n d_L_law_829 rfl rfl 1 rfl (by decide)
(aw_aload_n d_L_law_830 rfl rfl 0 rfl (by decide)
(aw_iload_n d_L_law_831 rfl rfl 3 rfl
(aw_iconst d_L_law_832 rfl
(aw_iadd d_L_law_833 rfl
(have z335 := H0.1; have e336 := H0.2; lw_sld d_L_law_834 z335
(aw_VI (As := [zi (sx G (v3 + 1))]) (st := []) d_L_law_835 rfl cvL_96 ⟨Nat.le_of_ble_eq_true rfl, Nat.le_of_ble_eq_true rfl⟩ rfl rfl (Nat.le_of_ble_eq_true rfl) (Nat.le_of_ble_eq_true rfl) e336 (fun x339 M337 e338 => (aw_aload_n d_L_law_838 rfl rfl 2 rfl (by decide)
(aw_aload_n d_L_law_839 rfl rfl 0 rfl (by decide)
(aw_iload_n d_L_law_840 rfl rfl 3 rfl
(aw_iconst d_L_law_841 rfl
(aw_iadd d_L_law_842 rfl
(lw_sld d_L_law_843 z335
(aw_VI (As := [zi (sx G (v3 + 1))]) (st := [zi x339]) d_L_law_844 rfl cvL_99 ⟨Nat.le_of_ble_eq_true rfl, Nat.le_of_ble_eq_true rfl⟩ rfl rfl (Nat.le_of_ble_eq_true rfl) (Nat.le_of_ble_eq_true rfl) e338 (fun x342 M340 e341 => (have e343 := e341.2; lw_icmp_eq d_L_law_847 rfl e341.1 e343)))))))))))))))))
theorem vL_law_852 {l : Launch} {G : lwG} {v3 : Int} {M : zM}
    (H0 : (((0 ≤ (v3 + 1) ∧ (v3 + 1) < sL G) ∧ sL G < 2000000000) ∧ (((0 ≤ (v3 + 2) ∧ (v3 + 2) < sL G) ∧ sL G < 2000000000) ∧ (CI l m_X8_open [zr 8 0, zi (sx G (v3 + 1)), zi (sx G (v3 + 2))] M (fun x350 M348 => (CI l m_X9_open [zr 9 0, zi (sx G (v3 + 1)), zi (sx G (v3 + 2))] M348 (fun x353 M351 => (x350 = x353 ∧ LL_law_1609 l G v3 M351)))))))) :
    LL_law_852 l G v3 M :=
(aw_aload_n d_L_law_852 rfl rfl 1 rfl (by decide)
(aw_aload_n d_L_law_853 rfl rfl 0 rfl (by decide)
(aw_iload_n d_L_law_854 rfl rfl 3 rfl
(aw_iconst d_L_law_855 rfl
(aw_iadd d_L_law_856 rfl
(have z344 := H0.1; have e345 := H0.2; lw_sld d_L_law_857 z344
(aw_aload_n d_L_law_858 rfl rfl 0 rfl (by decide)
(aw_iload_n d_L_law_859 rfl rfl 3 rfl
(aw_iconst d_L_law_860 rfl
(aw_iadd d_L_law_861 rfl
(have z346 := e345.1; have e347 := e345.2; lw_sld d_L_law_862 z346
(aw_VI (As := [zi (sx G (v3 + 1)), zi (sx G (v3 + 2))]) (st := []) d_L_law_863 rfl cvL_100 ⟨Nat.le_of_ble_eq_true rfl, Nat.le_of_ble_eq_true rfl⟩ rfl rfl (Nat.le_of_ble_eq_true rfl) (Nat.le_of_ble_eq_true rfl) e347 (fun x350 M348 e349 => (aw_aload_n d_L_law_866 rfl rfl 2 rfl (by decide)
(aw_aload_n d_L_law_867 rfl rfl 0 rfl (by decide)
(aw_iload_n d_L_law_868 rfl rfl 3 rfl
(aw_iconst d_L_law_869 rfl
(aw_iadd d_L_law_870 rfl
(lw_sld d_L_law_871 z344
(aw_aload_n d_L_law_872 rfl rfl 0 rfl (by decide)
(aw_iload_n d_L_law_873 rfl rfl 3 rfl
(aw_iconst d_L_law_874 rfl
(aw_iadd d_L_law_875 rfl
(lw_sld d_L_law_876 z346
(aw_VI (As := [zi (sx G (v3 + 1)), zi (sx G (v3 + 2))]) (st := [zi x350]) d_L_law_877 rfl cvL_103 ⟨Nat.le_of_ble_eq_true rfl, Nat.le_of_ble_eq_true rfl⟩ rfl rfl (Nat.le_of_ble_eq_true rfl) (Nat.le_of_ble_eq_true rfl) e349 (fun x353 M351 e352 => (have e354 := e352.2; lw_icmp_eq d_L_law_880 rfl e352.1 e354)))))))))))))))))))))))))))
theorem vL_law_885 {l : Launch} {G : lwG} {v3 : Int} {M : zM}
    (H0 : (((0 ≤ (v3 + 1) ∧ (v3 + 1) < sL G) ∧ sL G < 2000000000) ∧ (CL l m_X8_ties [zr 8 0, zi (sx G (v3 + 1))] M (fun x359 M357 => (CL l m_X9_ties [zr 9 0, zi (sx G (v3 + 1))] M357 (fun x362 M360 => (x359 = x362 ∧ LL_law_1609 l G v3 M360))))))) :
    LL_law_885 l G v3 M :=
(aw_aload_n d_L_law_885 rfl rfl 1 rfl (by decide)
(aw_aload_n d_L_law_886 rfl rfl 0 rfl (by decide)
(aw_iload_n d_L_law_887 rfl rfl 3 rfl
(aw_iconst d_L_law_888 rfl
(aw_iadd d_L_law_889 rfl
(have z355 := H0.1; have e356 := H0.2; lw_sld d_L_law_890 z355
(aw_VL (As := [zi (sx G (v3 + 1))]) (st := []) d_L_law_891 rfl cvL_104 ⟨Nat.le_of_ble_eq_true rfl, Nat.le_of_ble_eq_true rfl⟩ rfl rfl (Nat.le_of_ble_eq_true rfl) (Nat.le_of_ble_eq_true rfl) e356 (fun x359 M357 e358 => (aw_aload_n d_L_law_894 rfl rfl 2 rfl (by decide)
(aw_aload_n d_L_law_895 rfl rfl 0 rfl (by decide)
(aw_iload_n d_L_law_896 rfl rfl 3 rfl
(aw_iconst d_L_law_897 rfl
(aw_iadd d_L_law_898 rfl
(lw_sld d_L_law_899 z355
(aw_VL (As := [zi (sx G (v3 + 1))]) (st := [zl x359]) d_L_law_900 rfl cvL_108 ⟨Nat.le_of_ble_eq_true rfl, Nat.le_of_ble_eq_true rfl⟩ rfl rfl (Nat.le_of_ble_eq_true rfl) (Nat.le_of_ble_eq_true rfl) e358 (fun x362 M360 e361 => (have e363 := e361.2; lw_lcmp d_L_law_903 d_L_law_904 rfl e361.1 e363)))))))))))))))))
theorem vL_law_909 {l : Launch} {G : lwG} {v3 : Int} {M : zM}
    (H0 : (((0 ≤ (v3 + 1) ∧ (v3 + 1) < sL G) ∧ sL G < 2000000000) ∧ (((0 ≤ (v3 + 2) ∧ (v3 + 2) < sL G) ∧ sL G < 2000000000) ∧ (((0 ≤ (v3 + 3) ∧ (v3 + 3) < sL G) ∧ sL G < 2000000000) ∧ (CI l m_X8_under [zr 8 0, zi (sx G (v3 + 1)), zi (sx G (v3 + 2)), zi (sx G (v3 + 3))] M (fun x372 M370 => (CI l m_X9_under [zr 9 0, zi (sx G (v3 + 1)), zi (sx G (v3 + 2)), zi (sx G (v3 + 3))] M370 (fun x375 M373 => (x372 = x375 ∧ LL_law_1609 l G v3 M373))))))))) :
    LL_law_909 l G v3 M :=
(aw_aload_n d_L_law_909 rfl rfl 1 rfl (by decide)
(aw_aload_n d_L_law_910 rfl rfl 0 rfl (by decide)
(aw_iload_n d_L_law_911 rfl rfl 3 rfl
(aw_iconst d_L_law_912 rfl
(aw_iadd d_L_law_913 rfl
(have z364 := H0.1; have e365 := H0.2; lw_sld d_L_law_914 z364
(aw_aload_n d_L_law_915 rfl rfl 0 rfl (by decide)
(aw_iload_n d_L_law_916 rfl rfl 3 rfl
(aw_iconst d_L_law_917 rfl
(aw_iadd d_L_law_918 rfl
(have z366 := e365.1; have e367 := e365.2; lw_sld d_L_law_919 z366
(aw_aload_n d_L_law_920 rfl rfl 0 rfl (by decide)
(aw_iload_n d_L_law_921 rfl rfl 3 rfl
(aw_iconst d_L_law_922 rfl
(aw_iadd d_L_law_923 rfl
(have z368 := e367.1; have e369 := e367.2; lw_sld d_L_law_924 z368
(aw_VI (As := [zi (sx G (v3 + 1)), zi (sx G (v3 + 2)), zi (sx G (v3 + 3))]) (st := []) d_L_law_925 rfl cvL_109 ⟨Nat.le_of_ble_eq_true rfl, Nat.le_of_ble_eq_true rfl⟩ rfl rfl (Nat.le_of_ble_eq_true rfl) (Nat.le_of_ble_eq_true rfl) e369 (fun x372 M370 e371 => (aw_aload_n d_L_law_928 rfl rfl 2 rfl (by decide)
(aw_aload_n d_L_law_929 rfl rfl 0 rfl (by decide)
(aw_iload_n d_L_law_930 rfl rfl 3 rfl
(aw_iconst d_L_law_931 rfl
(aw_iadd d_L_law_932 rfl
(lw_sld d_L_law_933 z364
(aw_aload_n d_L_law_934 rfl rfl 0 rfl (by decide)
(aw_iload_n d_L_law_935 rfl rfl 3 rfl
(aw_iconst d_L_law_936 rfl
(aw_iadd d_L_law_937 rfl
(lw_sld d_L_law_938 z366
(aw_aload_n d_L_law_939 rfl rfl 0 rfl (by decide)
(aw_iload_n d_L_law_940 rfl rfl 3 rfl
(aw_iconst d_L_law_941 rfl
(aw_iadd d_L_law_942 rfl
(lw_sld d_L_law_943 z368
(aw_VI (As := [zi (sx G (v3 + 1)), zi (sx G (v3 + 2)), zi (sx G (v3 + 3))]) (st := [zi x372]) d_L_law_944 rfl cvL_112 ⟨Nat.le_of_ble_eq_true rfl, Nat.le_of_ble_eq_true rfl⟩ rfl rfl (Nat.le_of_ble_eq_true rfl) (Nat.le_of_ble_eq_true rfl) e371 (fun x375 M373 e374 => (have e376 := e374.2; lw_icmp_eq d_L_law_947 rfl e374.1 e376)))))))))))))))))))))))))))))))))))))
theorem vL_law_952 {l : Launch} {G : lwG} {v3 : Int} {M : zM}
    (H0 : (((0 ≤ (v3 + 1) ∧ (v3 + 1) < sL G) ∧ sL G < 2000000000) ∧ (((0 ≤ (v3 + 2) ∧ (v3 + 2) < sL G) ∧ sL G < 2000000000) ∧ (((0 ≤ (v3 + 3) ∧ (v3 + 3) < sL G) ∧ sL G < 2000000000) ∧ (CI l m_X8_feeing [zr 8 0, zi (sx G (v3 + 1)), zi (sx G (v3 + 2)), zi (sx G (v3 + 3))] M (fun x385 M383 => (CI l m_X9_feeing [zr 9 0, zi (sx G (v3 + 1)), zi (sx G (v3 + 2)), zi (sx G (v3 + 3))] M383 (fun x388 M386 => (x385 = x388 ∧ LL_law_1609 l G v3 M386))))))))) :
    LL_law_952 l G v3 M :=
(aw_aload_n d_L_law_952 rfl rfl 1 rfl (by decide)
(aw_aload_n d_L_law_953 rfl rfl 0 rfl (by decide)
(aw_iload_n d_L_law_954 rfl rfl 3 rfl
(aw_iconst d_L_law_955 rfl
(aw_iadd d_L_law_956 rfl
(have z377 := H0.1; have e378 := H0.2; lw_sld d_L_law_957 z377
(aw_aload_n d_L_law_958 rfl rfl 0 rfl (by decide)
(aw_iload_n d_L_law_959 rfl rfl 3 rfl
(aw_iconst d_L_law_960 rfl
(aw_iadd d_L_law_961 rfl
(have z379 := e378.1; have e380 := e378.2; lw_sld d_L_law_962 z379
(aw_aload_n d_L_law_963 rfl rfl 0 rfl (by decide)
(aw_iload_n d_L_law_964 rfl rfl 3 rfl
(aw_iconst d_L_law_965 rfl
(aw_iadd d_L_law_966 rfl
(have z381 := e380.1; have e382 := e380.2; lw_sld d_L_law_967 z381
(aw_VI (As := [zi (sx G (v3 + 1)), zi (sx G (v3 + 2)), zi (sx G (v3 + 3))]) (st := []) d_L_law_968 rfl cvL_113 ⟨Nat.le_of_ble_eq_true rfl, Nat.le_of_ble_eq_true rfl⟩ rfl rfl (Nat.le_of_ble_eq_true rfl) (Nat.le_of_ble_eq_true rfl) e382 (fun x385 M383 e384 => (aw_aload_n d_L_law_971 rfl rfl 2 rfl (by decide)
(aw_aload_n d_L_law_972 rfl rfl 0 rfl (by decide)
(aw_iload_n d_L_law_973 rfl rfl 3 rfl
(aw_iconst d_L_law_974 rfl
(aw_iadd d_L_law_975 rfl
(lw_sld d_L_law_976 z377
(aw_aload_n d_L_law_977 rfl rfl 0 rfl (by decide)
(aw_iload_n d_L_law_978 rfl rfl 3 rfl
(aw_iconst d_L_law_979 rfl
(aw_iadd d_L_law_980 rfl
(lw_sld d_L_law_981 z379
(aw_aload_n d_L_law_982 rfl rfl 0 rfl (by decide)
(aw_iload_n d_L_law_983 rfl rfl 3 rfl
(aw_iconst d_L_law_984 rfl
(aw_iadd d_L_law_985 rfl
(lw_sld d_L_law_986 z381
(aw_VI (As := [zi (sx G (v3 + 1)), zi (sx G (v3 + 2)), zi (sx G (v3 + 3))]) (st := [zi x385]) d_L_law_987 rfl cvL_116 ⟨Nat.le_of_ble_eq_true rfl, Nat.le_of_ble_eq_true rfl⟩ rfl rfl (Nat.le_of_ble_eq_true rfl) (Nat.le_of_ble_eq_true rfl) e384 (fun x388 M386 e387 => (have e389 := e387.2; lw_icmp_eq d_L_law_990 rfl e387.1 e389)))))))))))))))))))))))))))))))))))))
theorem vL_law_995 {l : Launch} {G : lwG} {v3 : Int} {M : zM}
    (H0 : (((0 ≤ (v3 + 1) ∧ (v3 + 1) < sL G) ∧ sL G < 2000000000) ∧ (CI l m_X8_bestFee [zr 8 0, zi (sx G (v3 + 1))] M (fun x394 M392 => (CI l m_X9_bestFee [zr 9 0, zi (sx G (v3 + 1))] M392 (fun x397 M395 => (x394 = x397 ∧ LL_law_1609 l G v3 M395))))))) :
    LL_law_995 l G v3 M :=
(aw_aload_n d_L_law_995 rfl rfl 1 rfl (by decide)
(aw_aload_n d_L_law_996 rfl rfl 0 rfl (by decide)
(aw_iload_n d_L_law_997 rfl rfl 3 rfl
(aw_iconst d_L_law_998 rfl
(aw_iadd d_L_law_999 rfl
(have z390 := H0.1; have e391 := H0.2; lw_sld d_L_law_1000 z390
(aw_VI (As := [zi (sx G (v3 + 1))]) (st := []) d_L_law_1001 rfl cvL_117 ⟨Nat.le_of_ble_eq_true rfl, Nat.le_of_ble_eq_true rfl⟩ rfl rfl (Nat.le_of_ble_eq_true rfl) (Nat.le_of_ble_eq_true rfl) e391 (fun x394 M392 e393 => (aw_aload_n d_L_law_1004 rfl rfl 2 rfl (by decide)
(aw_aload_n d_L_law_1005 rfl rfl 0 rfl (by decide)
(aw_iload_n d_L_law_1006 rfl rfl 3 rfl
(aw_iconst d_L_law_1007 rfl
(aw_iadd d_L_law_1008 rfl
(lw_sld d_L_law_1009 z390
(aw_VI (As := [zi (sx G (v3 + 1))]) (st := [zi x394]) d_L_law_1010 rfl cvL_120 ⟨Nat.le_of_ble_eq_true rfl, Nat.le_of_ble_eq_true rfl⟩ rfl rfl (Nat.le_of_ble_eq_true rfl) (Nat.le_of_ble_eq_true rfl) e393 (fun x397 M395 e396 => (have e398 := e396.2; lw_icmp_eq d_L_law_1013 rfl e396.1 e398)))))))))))))))))
theorem vL_law_1018 {l : Launch} {G : lwG} {v3 : Int} {M : zM}
    (H0 : (((0 ≤ (v3 + 1) ∧ (v3 + 1) < sL G) ∧ sL G < 2000000000) ∧ (CI l m_X8_served [zr 8 0, zi (sx G (v3 + 1))] M (fun x403 M401 => (CI l m_X9_served [zr 9 0, zi (sx G (v3 + 1))] M401 (fun x406 M404 => (x403 = x406 ∧ LL_law_1609 l G v3 M404))))))) :
    LL_law_1018 l G v3 M :=
(aw_aload_n d_L_law_1018 rfl rfl 1 rfl (by decide)
(aw_aload_n d_L_law_1019 rfl rfl 0 rfl (by decide)
(aw_iload_n d_L_law_1020 rfl rfl 3 rfl
(aw_iconst d_L_law_1021 rfl
(aw_iadd d_L_law_1022 rfl
(have z399 := H0.1; have e400 := H0.2; lw_sld d_L_law_1023 z399
(aw_VI (As := [zi (sx G (v3 + 1))]) (st := []) d_L_law_1024 rfl cvL_121 ⟨Nat.le_of_ble_eq_true rfl, Nat.le_of_ble_eq_true rfl⟩ rfl rfl (Nat.le_of_ble_eq_true rfl) (Nat.le_of_ble_eq_true rfl) e400 (fun x403 M401 e402 => (aw_aload_n d_L_law_1027 rfl rfl 2 rfl (by decide)
(aw_aload_n d_L_law_1028 rfl rfl 0 rfl (by decide)
(aw_iload_n d_L_law_1029 rfl rfl 3 rfl
(aw_iconst d_L_law_1030 rfl
(aw_iadd d_L_law_1031 rfl
(lw_sld d_L_law_1032 z399
(aw_VI (As := [zi (sx G (v3 + 1))]) (st := [zi x403]) d_L_law_1033 rfl cvL_124 ⟨Nat.le_of_ble_eq_true rfl, Nat.le_of_ble_eq_true rfl⟩ rfl rfl (Nat.le_of_ble_eq_true rfl) (Nat.le_of_ble_eq_true rfl) e402 (fun x406 M404 e405 => (have e407 := e405.2; lw_icmp_eq d_L_law_1036 rfl e405.1 e407)))))))))))))))))
theorem vL_law_1041 {l : Launch} {G : lwG} {v3 : Int} {M : zM}
    (H0 : (CL l m_X8_share [zr 8 0] M (fun x410 M408 => (CL l m_X9_share [zr 9 0] M408 (fun x413 M411 => (x410 = x413 ∧ LL_law_1609 l G v3 M411)))))) :
    LL_law_1041 l G v3 M :=
(aw_aload_n d_L_law_1041 rfl rfl 1 rfl (by decide)
(aw_VL (As := []) (st := []) d_L_law_1042 rfl cvL_125 ⟨Nat.le_of_ble_eq_true rfl, Nat.le_of_ble_eq_true rfl⟩ rfl rfl (Nat.le_of_ble_eq_true rfl) (Nat.le_of_ble_eq_true rfl) H0 (fun x410 M408 e409 => (aw_aload_n d_L_law_1045 rfl rfl 2 rfl (by decide)
(aw_VL (As := []) (st := [zl x410]) d_L_law_1046 rfl cvL_129 ⟨Nat.le_of_ble_eq_true rfl, Nat.le_of_ble_eq_true rfl⟩ rfl rfl (Nat.le_of_ble_eq_true rfl) (Nat.le_of_ble_eq_true rfl) e409 (fun x413 M411 e412 => (have e414 := e412.2; lw_lcmp d_L_law_1049 d_L_law_1050 rfl e412.1 e414)))))))
theorem vL_law_1055 {l : Launch} {G : lwG} {v3 : Int} {M : zM}
    (H0 : (((0 ≤ (v3 + 1) ∧ (v3 + 1) < sL G) ∧ sL G < 2000000000) ∧ (CI l m_X8_audit [zr 8 0, zi (sx G (v3 + 1))] M (fun x419 M417 => (CI l m_X9_audit [zr 9 0, zi (sx G (v3 + 1))] M417 (fun x422 M420 => (x419 = x422 ∧ LL_law_1609 l G v3 M420))))))) :
    LL_law_1055 l G v3 M :=
(aw_aload_n d_L_law_1055 rfl rfl 1 rfl (by decide)
(aw_aload_n d_L_law_1056 rfl rfl 0 rfl (by decide)
(aw_iload_n d_L_law_1057 rfl rfl 3 rfl
(aw_iconst d_L_law_1058 rfl
(aw_iadd d_L_law_1059 rfl
(have z415 := H0.1; have e416 := H0.2; lw_sld d_L_law_1060 z415
(aw_VI (As := [zi (sx G (v3 + 1))]) (st := []) d_L_law_1061 rfl cvL_130 ⟨Nat.le_of_ble_eq_true rfl, Nat.le_of_ble_eq_true rfl⟩ rfl rfl (Nat.le_of_ble_eq_true rfl) (Nat.le_of_ble_eq_true rfl) e416 (fun x419 M417 e418 => (aw_aload_n d_L_law_1064 rfl rfl 2 rfl (by decide)
(aw_aload_n d_L_law_1065 rfl rfl 0 rfl (by decide)
(aw_iload_n d_L_law_1066 rfl rfl 3 rfl
(aw_iconst d_L_law_1067 rfl
(aw_iadd d_L_law_1068 rfl
(lw_sld d_L_law_1069 z415
(aw_VI (As := [zi (sx G (v3 + 1))]) (st := [zi x419]) d_L_law_1070 rfl cvL_133 ⟨Nat.le_of_ble_eq_true rfl, Nat.le_of_ble_eq_true rfl⟩ rfl rfl (Nat.le_of_ble_eq_true rfl) (Nat.le_of_ble_eq_true rfl) e418 (fun x422 M420 e421 => (have e423 := e421.2; lw_icmp_eq d_L_law_1073 rfl e421.1 e423)))))))))))))))))
theorem vL_law_1078 {l : Launch} {G : lwG} {v3 : Int} {M : zM}
    (H0 : (((0 ≤ (v3 + 1) ∧ (v3 + 1) < sL G) ∧ sL G < 2000000000) ∧ (zI (sx G (v3 + 1)) ∧ ((sx G (v3 + 1)) = 0 → (((0 ≤ (v3 + 2) ∧ (v3 + 2) < sL G) ∧ sL G < 2000000000) ∧ (CI l m_X8_entry [zr 8 0, zi 0, zi (sx G (v3 + 2))] M (fun x436 M434 => (CI l m_X9_entry [zr 9 0, zi 0, zi (sx G (v3 + 2))] M434 (fun x440 M438 => (x436 = x440 ∧ LL_law_1609 l G v3 M438))))))) ∧ ((sx G (v3 + 1)) ≠ 0 → (((0 ≤ (v3 + 2) ∧ (v3 + 2) < sL G) ∧ sL G < 2000000000) ∧ (CI l m_X8_entry [zr 8 0, zi 1, zi (sx G (v3 + 2))] M (fun x446 M444 => (CI l m_X9_entry [zr 9 0, zi 1, zi (sx G (v3 + 2))] M444 (fun x450 M448 => (x446 = x450 ∧ LL_law_1609 l G v3 M448)))))))))) :
    LL_law_1078 l G v3 M :=
(aw_aload_n d_L_law_1078 rfl rfl 1 rfl (by decide)
(aw_aload_n d_L_law_1079 rfl rfl 0 rfl (by decide)
(aw_iload_n d_L_law_1080 rfl rfl 3 rfl
(aw_iconst d_L_law_1081 rfl
(aw_iadd d_L_law_1082 rfl
(have z424 := H0.1; have e425 := H0.2; lw_sld d_L_law_1083 z424
(have z426 := e425.1; have e427 := e425.2; aw_if_eq d_L_law_1084 rfl rfl z426 (fun c428 => have e430 := e427.1 c428; (aw_iconst d_L_law_1091 rfl
(aw_aload_n d_L_law_1092 rfl rfl 0 rfl (by decide)
(aw_iload_n d_L_law_1093 rfl rfl 3 rfl
(aw_iconst d_L_law_1094 rfl
(aw_iadd d_L_law_1095 rfl
(have z432 := e430.1; have e433 := e430.2; lw_sld d_L_law_1096 z432
(aw_VI (As := [zi 0, zi (sx G (v3 + 2))]) (st := []) d_L_law_1097 rfl cvL_134 ⟨Nat.le_of_ble_eq_true rfl, Nat.le_of_ble_eq_true rfl⟩ rfl rfl (Nat.le_of_ble_eq_true rfl) (Nat.le_of_ble_eq_true rfl) e433 (fun x436 M434 e435 => (aw_aload_n d_L_law_1100 rfl rfl 2 rfl (by decide)
(aw_aload_n d_L_law_1101 rfl rfl 0 rfl (by decide)
(aw_iload_n d_L_law_1102 rfl rfl 3 rfl
(aw_iconst d_L_law_1103 rfl
(aw_iadd d_L_law_1104 rfl
(lw_sld d_L_law_1105 z424
(aw_if_eq d_L_law_1106 rfl rfl z426 (fun _ => (aw_iconst d_L_law_1113 rfl
(aw_aload_n d_L_law_1114 rfl rfl 0 rfl (by decide)
(aw_iload_n d_L_law_1115 rfl rfl 3 rfl
(aw_iconst d_L_law_1116 rfl
(aw_iadd d_L_law_1117 rfl
(lw_sld d_L_law_1118 z432
(aw_VI (As := [zi 0, zi (sx G (v3 + 2))]) (st := [zi x436]) d_L_law_1119 rfl cvL_137 ⟨Nat.le_of_ble_eq_true rfl, Nat.le_of_ble_eq_true rfl⟩ rfl rfl (Nat.le_of_ble_eq_true rfl) (Nat.le_of_ble_eq_true rfl) e435 (fun x440 M438 e439 => (have e441 := e439.2; lw_icmp_eq d_L_law_1122 rfl e439.1 e441)))))))))) (fun c437 => absurd c428 (by omega)))))))))))))))))) (fun c429 => have e431 := e427.2 c429; (aw_iconst d_L_law_1087 rfl
(aw_goto d_L_law_1088 rfl
(aw_aload_n d_L_law_1092 rfl rfl 0 rfl (by decide)
(aw_iload_n d_L_law_1093 rfl rfl 3 rfl
(aw_iconst d_L_law_1094 rfl
(aw_iadd d_L_law_1095 rfl
(have z442 := e431.1; have e443 := e431.2; lw_sld d_L_law_1096 z442
(aw_VI (As := [zi 1, zi (sx G (v3 + 2))]) (st := []) d_L_law_1097 rfl cvL_134 ⟨Nat.le_of_ble_eq_true rfl, Nat.le_of_ble_eq_true rfl⟩ rfl rfl (Nat.le_of_ble_eq_true rfl) (Nat.le_of_ble_eq_true rfl) e443 (fun x446 M444 e445 => (aw_aload_n d_L_law_1100 rfl rfl 2 rfl (by decide)
(aw_aload_n d_L_law_1101 rfl rfl 0 rfl (by decide)
(aw_iload_n d_L_law_1102 rfl rfl 3 rfl
(aw_iconst d_L_law_1103 rfl
(aw_iadd d_L_law_1104 rfl
(lw_sld d_L_law_1105 z424
(aw_if_eq d_L_law_1106 rfl rfl z426 (fun c447 => absurd c429 (by omega)) (fun _ => (aw_iconst d_L_law_1109 rfl
(aw_goto d_L_law_1110 rfl
(aw_aload_n d_L_law_1114 rfl rfl 0 rfl (by decide)
(aw_iload_n d_L_law_1115 rfl rfl 3 rfl
(aw_iconst d_L_law_1116 rfl
(aw_iadd d_L_law_1117 rfl
(lw_sld d_L_law_1118 z442
(aw_VI (As := [zi 1, zi (sx G (v3 + 2))]) (st := [zi x446]) d_L_law_1119 rfl cvL_137 ⟨Nat.le_of_ble_eq_true rfl, Nat.le_of_ble_eq_true rfl⟩ rfl rfl (Nat.le_of_ble_eq_true rfl) (Nat.le_of_ble_eq_true rfl) e445 (fun x450 M448 e449 => (have e451 := e449.2; lw_icmp_eq d_L_law_1122 rfl e449.1 e451)))))))))))))))))))))))))))))))))))
theorem vL_law_1127 {l : Launch} {G : lwG} {v3 : Int} {M : zM}
    (H0 : (((0 ≤ (v3 + 1) ∧ (v3 + 1) < sL G) ∧ sL G < 2000000000) ∧ (CI l m_X8_letter [zr 8 0, zi (sx G (v3 + 1))] M (fun x456 M454 => (CI l m_X9_letter [zr 9 0, zi (sx G (v3 + 1))] M454 (fun x459 M457 => (x456 = x459 ∧ LL_law_1609 l G v3 M457))))))) :
    LL_law_1127 l G v3 M :=
(aw_aload_n d_L_law_1127 rfl rfl 1 rfl (by decide)
(aw_aload_n d_L_law_1128 rfl rfl 0 rfl (by decide)
(aw_iload_n d_L_law_1129 rfl rfl 3 rfl
(aw_iconst d_L_law_1130 rfl
(aw_iadd d_L_law_1131 rfl
(have z452 := H0.1; have e453 := H0.2; lw_sld d_L_law_1132 z452
(aw_VI (As := [zi (sx G (v3 + 1))]) (st := []) d_L_law_1133 rfl cvL_138 ⟨Nat.le_of_ble_eq_true rfl, Nat.le_of_ble_eq_true rfl⟩ rfl rfl (Nat.le_of_ble_eq_true rfl) (Nat.le_of_ble_eq_true rfl) e453 (fun x456 M454 e455 => (aw_aload_n d_L_law_1136 rfl rfl 2 rfl (by decide)
(aw_aload_n d_L_law_1137 rfl rfl 0 rfl (by decide)
(aw_iload_n d_L_law_1138 rfl rfl 3 rfl
(aw_iconst d_L_law_1139 rfl
(aw_iadd d_L_law_1140 rfl
(lw_sld d_L_law_1141 z452
(aw_VI (As := [zi (sx G (v3 + 1))]) (st := [zi x456]) d_L_law_1142 rfl cvL_141 ⟨Nat.le_of_ble_eq_true rfl, Nat.le_of_ble_eq_true rfl⟩ rfl rfl (Nat.le_of_ble_eq_true rfl) (Nat.le_of_ble_eq_true rfl) e455 (fun x459 M457 e458 => (have e460 := e458.2; lw_icmp_eq d_L_law_1145 rfl e458.1 e460)))))))))))))))))
theorem vL_law_1150 {l : Launch} {G : lwG} {v3 : Int} {M : zM}
    (H0 : (((0 ≤ (v3 + 1) ∧ (v3 + 1) < sL G) ∧ sL G < 2000000000) ∧ (((0 ≤ (v3 + 2) ∧ (v3 + 2) < sL G) ∧ sL G < 2000000000) ∧ (((0 ≤ (v3 + 3) ∧ (v3 + 3) < sL G) ∧ sL G < 2000000000) ∧ (CI l m_X8_match [zr 8 0, zi (sx G (v3 + 1)), zi (sx G (v3 + 2)), zi (sx G (v3 + 3))] M (fun x469 M467 => (CI l m_X9_match [zr 9 0, zi (sx G (v3 + 1)), zi (sx G (v3 + 2)), zi (sx G (v3 + 3))] M467 (fun x472 M470 => (x469 = x472 ∧ LL_law_1609 l G v3 M470))))))))) :
    LL_law_1150 l G v3 M :=
(aw_aload_n d_L_law_1150 rfl rfl 1 rfl (by decide)
(aw_aload_n d_L_law_1151 rfl rfl 0 rfl (by decide)
(aw_iload_n d_L_law_1152 rfl rfl 3 rfl
(aw_iconst d_L_law_1153 rfl
(aw_iadd d_L_law_1154 rfl
(have z461 := H0.1; have e462 := H0.2; lw_sld d_L_law_1155 z461
(aw_aload_n d_L_law_1156 rfl rfl 0 rfl (by decide)
(aw_iload_n d_L_law_1157 rfl rfl 3 rfl
(aw_iconst d_L_law_1158 rfl
(aw_iadd d_L_law_1159 rfl
(have z463 := e462.1; have e464 := e462.2; lw_sld d_L_law_1160 z463
(aw_aload_n d_L_law_1161 rfl rfl 0 rfl (by decide)
(aw_iload_n d_L_law_1162 rfl rfl 3 rfl
(aw_iconst d_L_law_1163 rfl
(aw_iadd d_L_law_1164 rfl
(have z465 := e464.1; have e466 := e464.2; lw_sld d_L_law_1165 z465
(aw_VI (As := [zi (sx G (v3 + 1)), zi (sx G (v3 + 2)), zi (sx G (v3 + 3))]) (st := []) d_L_law_1166 rfl cvL_142 ⟨Nat.le_of_ble_eq_true rfl, Nat.le_of_ble_eq_true rfl⟩ rfl rfl (Nat.le_of_ble_eq_true rfl) (Nat.le_of_ble_eq_true rfl) e466 (fun x469 M467 e468 => (aw_aload_n d_L_law_1169 rfl rfl 2 rfl (by decide)
(aw_aload_n d_L_law_1170 rfl rfl 0 rfl (by decide)
(aw_iload_n d_L_law_1171 rfl rfl 3 rfl
(aw_iconst d_L_law_1172 rfl
(aw_iadd d_L_law_1173 rfl
(lw_sld d_L_law_1174 z461
(aw_aload_n d_L_law_1175 rfl rfl 0 rfl (by decide)
(aw_iload_n d_L_law_1176 rfl rfl 3 rfl
(aw_iconst d_L_law_1177 rfl
(aw_iadd d_L_law_1178 rfl
(lw_sld d_L_law_1179 z463
(aw_aload_n d_L_law_1180 rfl rfl 0 rfl (by decide)
(aw_iload_n d_L_law_1181 rfl rfl 3 rfl
(aw_iconst d_L_law_1182 rfl
(aw_iadd d_L_law_1183 rfl
(lw_sld d_L_law_1184 z465
(aw_VI (As := [zi (sx G (v3 + 1)), zi (sx G (v3 + 2)), zi (sx G (v3 + 3))]) (st := [zi x469]) d_L_law_1185 rfl cvL_145 ⟨Nat.le_of_ble_eq_true rfl, Nat.le_of_ble_eq_true rfl⟩ rfl rfl (Nat.le_of_ble_eq_true rfl) (Nat.le_of_ble_eq_true rfl) e468 (fun x472 M470 e471 => (have e473 := e471.2; lw_icmp_eq d_L_law_1188 rfl e471.1 e473)))))))))))))))))))))))))))))))))))))
theorem vL_law_1193 {l : Launch} {G : lwG} {v3 : Int} {M : zM}
    (H0 : (((0 ≤ (v3 + 1) ∧ (v3 + 1) < sL G) ∧ sL G < 2000000000) ∧ (((0 ≤ (v3 + 2) ∧ (v3 + 2) < sL G) ∧ sL G < 2000000000) ∧ (((0 ≤ (v3 + 3) ∧ (v3 + 3) < sL G) ∧ sL G < 2000000000) ∧ (CI l m_X8_merged [zr 8 0, zi (sx G (v3 + 1)), zi (sx G (v3 + 2)), zi (sx G (v3 + 3))] M (fun x482 M480 => (CI l m_X9_merged [zr 9 0, zi (sx G (v3 + 1)), zi (sx G (v3 + 2)), zi (sx G (v3 + 3))] M480 (fun x485 M483 => (x482 = x485 ∧ LL_law_1609 l G v3 M483))))))))) :
    LL_law_1193 l G v3 M :=
(aw_aload_n d_L_law_1193 rfl rfl 1 rfl (by decide)
(aw_aload_n d_L_law_1194 rfl rfl 0 rfl (by decide)
(aw_iload_n d_L_law_1195 rfl rfl 3 rfl
(aw_iconst d_L_law_1196 rfl
(aw_iadd d_L_law_1197 rfl
(have z474 := H0.1; have e475 := H0.2; lw_sld d_L_law_1198 z474
(aw_aload_n d_L_law_1199 rfl rfl 0 rfl (by decide)
(aw_iload_n d_L_law_1200 rfl rfl 3 rfl
(aw_iconst d_L_law_1201 rfl
(aw_iadd d_L_law_1202 rfl
(have z476 := e475.1; have e477 := e475.2; lw_sld d_L_law_1203 z476
(aw_aload_n d_L_law_1204 rfl rfl 0 rfl (by decide)
(aw_iload_n d_L_law_1205 rfl rfl 3 rfl
(aw_iconst d_L_law_1206 rfl
(aw_iadd d_L_law_1207 rfl
(have z478 := e477.1; have e479 := e477.2; lw_sld d_L_law_1208 z478
(aw_VI (As := [zi (sx G (v3 + 1)), zi (sx G (v3 + 2)), zi (sx G (v3 + 3))]) (st := []) d_L_law_1209 rfl cvL_146 ⟨Nat.le_of_ble_eq_true rfl, Nat.le_of_ble_eq_true rfl⟩ rfl rfl (Nat.le_of_ble_eq_true rfl) (Nat.le_of_ble_eq_true rfl) e479 (fun x482 M480 e481 => (aw_aload_n d_L_law_1212 rfl rfl 2 rfl (by decide)
(aw_aload_n d_L_law_1213 rfl rfl 0 rfl (by decide)
(aw_iload_n d_L_law_1214 rfl rfl 3 rfl
(aw_iconst d_L_law_1215 rfl
(aw_iadd d_L_law_1216 rfl
(lw_sld d_L_law_1217 z474
(aw_aload_n d_L_law_1218 rfl rfl 0 rfl (by decide)
(aw_iload_n d_L_law_1219 rfl rfl 3 rfl
(aw_iconst d_L_law_1220 rfl
(aw_iadd d_L_law_1221 rfl
(lw_sld d_L_law_1222 z476
(aw_aload_n d_L_law_1223 rfl rfl 0 rfl (by decide)
(aw_iload_n d_L_law_1224 rfl rfl 3 rfl
(aw_iconst d_L_law_1225 rfl
(aw_iadd d_L_law_1226 rfl
(lw_sld d_L_law_1227 z478
(aw_VI (As := [zi (sx G (v3 + 1)), zi (sx G (v3 + 2)), zi (sx G (v3 + 3))]) (st := [zi x482]) d_L_law_1228 rfl cvL_149 ⟨Nat.le_of_ble_eq_true rfl, Nat.le_of_ble_eq_true rfl⟩ rfl rfl (Nat.le_of_ble_eq_true rfl) (Nat.le_of_ble_eq_true rfl) e481 (fun x485 M483 e484 => (have e486 := e484.2; lw_icmp_eq d_L_law_1231 rfl e484.1 e486)))))))))))))))))))))))))))))))))))))
theorem vL_law_1236 {l : Launch} {G : lwG} {v3 : Int} {M : zM}
    (H0 : (((0 ≤ (v3 + 1) ∧ (v3 + 1) < sL G) ∧ sL G < 2000000000) ∧ (((0 ≤ (v3 + 2) ∧ (v3 + 2) < sL G) ∧ sL G < 2000000000) ∧ (CI l m_X8_prices [zr 8 0, zi (sx G (v3 + 1)), zi (sx G (v3 + 2))] M (fun x493 M491 => (CI l m_X9_prices [zr 9 0, zi (sx G (v3 + 1)), zi (sx G (v3 + 2))] M491 (fun x496 M494 => (x493 = x496 ∧ LL_law_1609 l G v3 M494)))))))) :
    LL_law_1236 l G v3 M :=
(aw_aload_n d_L_law_1236 rfl rfl 1 rfl (by decide)
(aw_aload_n d_L_law_1237 rfl rfl 0 rfl (by decide)
(aw_iload_n d_L_law_1238 rfl rfl 3 rfl
(aw_iconst d_L_law_1239 rfl
(aw_iadd d_L_law_1240 rfl
(have z487 := H0.1; have e488 := H0.2; lw_sld d_L_law_1241 z487
(aw_aload_n d_L_law_1242 rfl rfl 0 rfl (by decide)
(aw_iload_n d_L_law_1243 rfl rfl 3 rfl
(aw_iconst d_L_law_1244 rfl
(aw_iadd d_L_law_1245 rfl
(have z489 := e488.1; have e490 := e488.2; lw_sld d_L_law_1246 z489
(aw_VI (As := [zi (sx G (v3 + 1)), zi (sx G (v3 + 2))]) (st := []) d_L_law_1247 rfl cvL_150 ⟨Nat.le_of_ble_eq_true rfl, Nat.le_of_ble_eq_true rfl⟩ rfl rfl (Nat.le_of_ble_eq_true rfl) (Nat.le_of_ble_eq_true rfl) e490 (fun x493 M491 e492 => (aw_aload_n d_L_law_1250 rfl rfl 2 rfl (by decide)
(aw_aload_n d_L_law_1251 rfl rfl 0 rfl (by decide)
(aw_iload_n d_L_law_1252 rfl rfl 3 rfl
(aw_iconst d_L_law_1253 rfl
(aw_iadd d_L_law_1254 rfl
(lw_sld d_L_law_1255 z487
(aw_aload_n d_L_law_1256 rfl rfl 0 rfl (by decide)
(aw_iload_n d_L_law_1257 rfl rfl 3 rfl
(aw_iconst d_L_law_1258 rfl
(aw_iadd d_L_law_1259 rfl
(lw_sld d_L_law_1260 z489
(aw_VI (As := [zi (sx G (v3 + 1)), zi (sx G (v3 + 2))]) (st := [zi x493]) d_L_law_1261 rfl cvL_153 ⟨Nat.le_of_ble_eq_true rfl, Nat.le_of_ble_eq_true rfl⟩ rfl rfl (Nat.le_of_ble_eq_true rfl) (Nat.le_of_ble_eq_true rfl) e492 (fun x496 M494 e495 => (have e497 := e495.2; lw_icmp_eq d_L_law_1264 rfl e495.1 e497)))))))))))))))))))))))))))
theorem vL_law_1269 {l : Launch} {G : lwG} {v3 : Int} {M : zM}
    (H0 : (((0 ≤ (v3 + 1) ∧ (v3 + 1) < sL G) ∧ sL G < 2000000000) ∧ (CI l m_X8_bar [zr 8 0, zi (sx G (v3 + 1))] M (fun x502 M500 => (CI l m_X9_bar [zr 9 0, zi (sx G (v3 + 1))] M500 (fun x505 M503 => (x502 = x505 ∧ LL_law_1609 l G v3 M503))))))) :
    LL_law_1269 l G v3 M :=
(aw_aload_n d_L_law_1269 rfl rfl 1 rfl (by decide)
(aw_aload_n d_L_law_1270 rfl rfl 0 rfl (by decide)
(aw_iload_n d_L_law_1271 rfl rfl 3 rfl
(aw_iconst d_L_law_1272 rfl
(aw_iadd d_L_law_1273 rfl
(have z498 := H0.1; have e499 := H0.2; lw_sld d_L_law_1274 z498
(aw_VI (As := [zi (sx G (v3 + 1))]) (st := []) d_L_law_1275 rfl cvL_154 ⟨Nat.le_of_ble_eq_true rfl, Nat.le_of_ble_eq_true rfl⟩ rfl rfl (Nat.le_of_ble_eq_true rfl) (Nat.le_of_ble_eq_true rfl) e499 (fun x502 M500 e501 => (aw_aload_n d_L_law_1278 rfl rfl 2 rfl (by decide)
(aw_aload_n d_L_law_1279 rfl rfl 0 rfl (by decide)
(aw_iload_n d_L_law_1280 rfl rfl 3 rfl
(aw_iconst d_L_law_1281 rfl
(aw_iadd d_L_law_1282 rfl
(lw_sld d_L_law_1283 z498
(aw_VI (As := [zi (sx G (v3 + 1))]) (st := [zi x502]) d_L_law_1284 rfl cvL_157 ⟨Nat.le_of_ble_eq_true rfl, Nat.le_of_ble_eq_true rfl⟩ rfl rfl (Nat.le_of_ble_eq_true rfl) (Nat.le_of_ble_eq_true rfl) e501 (fun x505 M503 e504 => (have e506 := e504.2; lw_icmp_eq d_L_law_1287 rfl e504.1 e506)))))))))))))))))
theorem vL_law_1292 {l : Launch} {G : lwG} {v3 : Int} {M : zM}
    (H0 : (((0 ≤ (v3 + 1) ∧ (v3 + 1) < sL G) ∧ sL G < 2000000000) ∧ (((0 ≤ (v3 + 2) ∧ (v3 + 2) < sL G) ∧ sL G < 2000000000) ∧ (CI l m_X8_helps [zr 8 0, zi (sx G (v3 + 1)), zi (sx G (v3 + 2))] M (fun x513 M511 => (CI l m_X9_helps [zr 9 0, zi (sx G (v3 + 1)), zi (sx G (v3 + 2))] M511 (fun x516 M514 => (x513 = x516 ∧ LL_law_1609 l G v3 M514)))))))) :
    LL_law_1292 l G v3 M :=
(aw_aload_n d_L_law_1292 rfl rfl 1 rfl (by decide)
(aw_aload_n d_L_law_1293 rfl rfl 0 rfl (by decide)
(aw_iload_n d_L_law_1294 rfl rfl 3 rfl
(aw_iconst d_L_law_1295 rfl
(aw_iadd d_L_law_1296 rfl
(have z507 := H0.1; have e508 := H0.2; lw_sld d_L_law_1297 z507
(aw_aload_n d_L_law_1298 rfl rfl 0 rfl (by decide)
(aw_iload_n d_L_law_1299 rfl rfl 3 rfl
(aw_iconst d_L_law_1300 rfl
(aw_iadd d_L_law_1301 rfl
(have z509 := e508.1; have e510 := e508.2; lw_sld d_L_law_1302 z509
(aw_VI (As := [zi (sx G (v3 + 1)), zi (sx G (v3 + 2))]) (st := []) d_L_law_1303 rfl cvL_158 ⟨Nat.le_of_ble_eq_true rfl, Nat.le_of_ble_eq_true rfl⟩ rfl rfl (Nat.le_of_ble_eq_true rfl) (Nat.le_of_ble_eq_true rfl) e510 (fun x513 M511 e512 => (aw_aload_n d_L_law_1306 rfl rfl 2 rfl (by decide)
(aw_aload_n d_L_law_1307 rfl rfl 0 rfl (by decide)
(aw_iload_n d_L_law_1308 rfl rfl 3 rfl
(aw_iconst d_L_law_1309 rfl
(aw_iadd d_L_law_1310 rfl
(lw_sld d_L_law_1311 z507
(aw_aload_n d_L_law_1312 rfl rfl 0 rfl (by decide)
(aw_iload_n d_L_law_1313 rfl rfl 3 rfl
(aw_iconst d_L_law_1314 rfl
(aw_iadd d_L_law_1315 rfl
(lw_sld d_L_law_1316 z509
(aw_VI (As := [zi (sx G (v3 + 1)), zi (sx G (v3 + 2))]) (st := [zi x513]) d_L_law_1317 rfl cvL_161 ⟨Nat.le_of_ble_eq_true rfl, Nat.le_of_ble_eq_true rfl⟩ rfl rfl (Nat.le_of_ble_eq_true rfl) (Nat.le_of_ble_eq_true rfl) e512 (fun x516 M514 e515 => (have e517 := e515.2; lw_icmp_eq d_L_law_1320 rfl e515.1 e517)))))))))))))))))))))))))))
theorem vL_law_1325 {l : Launch} {G : lwG} {v3 : Int} {M : zM}
    (H0 : (((0 ≤ (v3 + 1) ∧ (v3 + 1) < sL G) ∧ sL G < 2000000000) ∧ (((0 ≤ (v3 + 2) ∧ (v3 + 2) < sL G) ∧ sL G < 2000000000) ∧ (CI l m_X8_winner [zr 8 0, zi (sx G (v3 + 1)), zi (sx G (v3 + 2))] M (fun x524 M522 => (CI l m_X9_winner [zr 9 0, zi (sx G (v3 + 1)), zi (sx G (v3 + 2))] M522 (fun x527 M525 => (x524 = x527 ∧ LL_law_1609 l G v3 M525)))))))) :
    LL_law_1325 l G v3 M :=
(aw_aload_n d_L_law_1325 rfl rfl 1 rfl (by decide)
(aw_aload_n d_L_law_1326 rfl rfl 0 rfl (by decide)
(aw_iload_n d_L_law_1327 rfl rfl 3 rfl
(aw_iconst d_L_law_1328 rfl
(aw_iadd d_L_law_1329 rfl
(have z518 := H0.1; have e519 := H0.2; lw_sld d_L_law_1330 z518
(aw_aload_n d_L_law_1331 rfl rfl 0 rfl (by decide)
(aw_iload_n d_L_law_1332 rfl rfl 3 rfl
(aw_iconst d_L_law_1333 rfl
(aw_iadd d_L_law_1334 rfl
(have z520 := e519.1; have e521 := e519.2; lw_sld d_L_law_1335 z520
(aw_VI (As := [zi (sx G (v3 + 1)), zi (sx G (v3 + 2))]) (st := []) d_L_law_1336 rfl cvL_162 ⟨Nat.le_of_ble_eq_true rfl, Nat.le_of_ble_eq_true rfl⟩ rfl rfl (Nat.le_of_ble_eq_true rfl) (Nat.le_of_ble_eq_true rfl) e521 (fun x524 M522 e523 => (aw_aload_n d_L_law_1339 rfl rfl 2 rfl (by decide)
(aw_aload_n d_L_law_1340 rfl rfl 0 rfl (by decide)
(aw_iload_n d_L_law_1341 rfl rfl 3 rfl
(aw_iconst d_L_law_1342 rfl
(aw_iadd d_L_law_1343 rfl
(lw_sld d_L_law_1344 z518
(aw_aload_n d_L_law_1345 rfl rfl 0 rfl (by decide)
(aw_iload_n d_L_law_1346 rfl rfl 3 rfl
(aw_iconst d_L_law_1347 rfl
(aw_iadd d_L_law_1348 rfl
(lw_sld d_L_law_1349 z520
(aw_VI (As := [zi (sx G (v3 + 1)), zi (sx G (v3 + 2))]) (st := [zi x524]) d_L_law_1350 rfl cvL_165 ⟨Nat.le_of_ble_eq_true rfl, Nat.le_of_ble_eq_true rfl⟩ rfl rfl (Nat.le_of_ble_eq_true rfl) (Nat.le_of_ble_eq_true rfl) e523 (fun x527 M525 e526 => (have e528 := e526.2; lw_icmp_eq d_L_law_1353 rfl e526.1 e528)))))))))))))))))))))))))))
theorem vL_law_1358 {l : Launch} {G : lwG} {v3 : Int} {M : zM}
    (H0 : (((0 ≤ (v3 + 1) ∧ (v3 + 1) < sL G) ∧ sL G < 2000000000) ∧ (((0 ≤ (v3 + 2) ∧ (v3 + 2) < sL G) ∧ sL G < 2000000000) ∧ (((0 ≤ (v3 + 3) ∧ (v3 + 3) < sL G) ∧ sL G < 2000000000) ∧ (CI l m_X8_demand [zr 8 0, zi (sx G (v3 + 1)), zi (sx G (v3 + 2)), zi (sx G (v3 + 3))] M (fun x537 M535 => (CI l m_X9_demand [zr 9 0, zi (sx G (v3 + 1)), zi (sx G (v3 + 2)), zi (sx G (v3 + 3))] M535 (fun x540 M538 => (x537 = x540 ∧ LL_law_1609 l G v3 M538))))))))) :
    LL_law_1358 l G v3 M :=
(aw_aload_n d_L_law_1358 rfl rfl 1 rfl (by decide)
(aw_aload_n d_L_law_1359 rfl rfl 0 rfl (by decide)
(aw_iload_n d_L_law_1360 rfl rfl 3 rfl
(aw_iconst d_L_law_1361 rfl
(aw_iadd d_L_law_1362 rfl
(have z529 := H0.1; have e530 := H0.2; lw_sld d_L_law_1363 z529
(aw_aload_n d_L_law_1364 rfl rfl 0 rfl (by decide)
(aw_iload_n d_L_law_1365 rfl rfl 3 rfl
(aw_iconst d_L_law_1366 rfl
(aw_iadd d_L_law_1367 rfl
(have z531 := e530.1; have e532 := e530.2; lw_sld d_L_law_1368 z531
(aw_aload_n d_L_law_1369 rfl rfl 0 rfl (by decide)
(aw_iload_n d_L_law_1370 rfl rfl 3 rfl
(aw_iconst d_L_law_1371 rfl
(aw_iadd d_L_law_1372 rfl
(have z533 := e532.1; have e534 := e532.2; lw_sld d_L_law_1373 z533
(aw_VI (As := [zi (sx G (v3 + 1)), zi (sx G (v3 + 2)), zi (sx G (v3 + 3))]) (st := []) d_L_law_1374 rfl cvL_166 ⟨Nat.le_of_ble_eq_true rfl, Nat.le_of_ble_eq_true rfl⟩ rfl rfl (Nat.le_of_ble_eq_true rfl) (Nat.le_of_ble_eq_true rfl) e534 (fun x537 M535 e536 => (aw_aload_n d_L_law_1377 rfl rfl 2 rfl (by decide)
(aw_aload_n d_L_law_1378 rfl rfl 0 rfl (by decide)
(aw_iload_n d_L_law_1379 rfl rfl 3 rfl
(aw_iconst d_L_law_1380 rfl
(aw_iadd d_L_law_1381 rfl
(lw_sld d_L_law_1382 z529
(aw_aload_n d_L_law_1383 rfl rfl 0 rfl (by decide)
(aw_iload_n d_L_law_1384 rfl rfl 3 rfl
(aw_iconst d_L_law_1385 rfl
(aw_iadd d_L_law_1386 rfl
(lw_sld d_L_law_1387 z531
(aw_aload_n d_L_law_1388 rfl rfl 0 rfl (by decide)
(aw_iload_n d_L_law_1389 rfl rfl 3 rfl
(aw_iconst d_L_law_1390 rfl
(aw_iadd d_L_law_1391 rfl
(lw_sld d_L_law_1392 z533
(aw_VI (As := [zi (sx G (v3 + 1)), zi (sx G (v3 + 2)), zi (sx G (v3 + 3))]) (st := [zi x537]) d_L_law_1393 rfl cvL_169 ⟨Nat.le_of_ble_eq_true rfl, Nat.le_of_ble_eq_true rfl⟩ rfl rfl (Nat.le_of_ble_eq_true rfl) (Nat.le_of_ble_eq_true rfl) e536 (fun x540 M538 e539 => (have e541 := e539.2; lw_icmp_eq d_L_law_1396 rfl e539.1 e541)))))))))))))))))))))))))))))))))))))
theorem vL_law_1401 {l : Launch} {G : lwG} {v3 : Int} {M : zM}
    (H0 : (((0 ≤ (v3 + 1) ∧ (v3 + 1) < sL G) ∧ sL G < 2000000000) ∧ (((0 ≤ (v3 + 2) ∧ (v3 + 2) < sL G) ∧ sL G < 2000000000) ∧ (CI l m_X8_lively [zr 8 0, zi (sx G (v3 + 1)), zi (sx G (v3 + 2))] M (fun x548 M546 => (CI l m_X9_lively [zr 9 0, zi (sx G (v3 + 1)), zi (sx G (v3 + 2))] M546 (fun x551 M549 => (x548 = x551 ∧ LL_law_1609 l G v3 M549)))))))) :
    LL_law_1401 l G v3 M :=
(aw_aload_n d_L_law_1401 rfl rfl 1 rfl (by decide)
(aw_aload_n d_L_law_1402 rfl rfl 0 rfl (by decide)
(aw_iload_n d_L_law_1403 rfl rfl 3 rfl
(aw_iconst d_L_law_1404 rfl
(aw_iadd d_L_law_1405 rfl
(have z542 := H0.1; have e543 := H0.2; lw_sld d_L_law_1406 z542
(aw_aload_n d_L_law_1407 rfl rfl 0 rfl (by decide)
(aw_iload_n d_L_law_1408 rfl rfl 3 rfl
(aw_iconst d_L_law_1409 rfl
(aw_iadd d_L_law_1410 rfl
(have z544 := e543.1; have e545 := e543.2; lw_sld d_L_law_1411 z544
(aw_VI (As := [zi (sx G (v3 + 1)), zi (sx G (v3 + 2))]) (st := []) d_L_law_1412 rfl cvL_170 ⟨Nat.le_of_ble_eq_true rfl, Nat.le_of_ble_eq_true rfl⟩ rfl rfl (Nat.le_of_ble_eq_true rfl) (Nat.le_of_ble_eq_true rfl) e545 (fun x548 M546 e547 => (aw_aload_n d_L_law_1415 rfl rfl 2 rfl (by decide)
(aw_aload_n d_L_law_1416 rfl rfl 0 rfl (by decide)
(aw_iload_n d_L_law_1417 rfl rfl 3 rfl
(aw_iconst d_L_law_1418 rfl
(aw_iadd d_L_law_1419 rfl
(lw_sld d_L_law_1420 z542
(aw_aload_n d_L_law_1421 rfl rfl 0 rfl (by decide)
(aw_iload_n d_L_law_1422 rfl rfl 3 rfl
(aw_iconst d_L_law_1423 rfl
(aw_iadd d_L_law_1424 rfl
(lw_sld d_L_law_1425 z544
(aw_VI (As := [zi (sx G (v3 + 1)), zi (sx G (v3 + 2))]) (st := [zi x548]) d_L_law_1426 rfl cvL_173 ⟨Nat.le_of_ble_eq_true rfl, Nat.le_of_ble_eq_true rfl⟩ rfl rfl (Nat.le_of_ble_eq_true rfl) (Nat.le_of_ble_eq_true rfl) e547 (fun x551 M549 e550 => (have e552 := e550.2; lw_icmp_eq d_L_law_1429 rfl e550.1 e552)))))))))))))))))))))))))))
theorem vL_law_1434 {l : Launch} {G : lwG} {v3 : Int} {M : zM}
    (H0 : (((0 ≤ (v3 + 1) ∧ (v3 + 1) < sL G) ∧ sL G < 2000000000) ∧ (((0 ≤ (v3 + 2) ∧ (v3 + 2) < sL G) ∧ sL G < 2000000000) ∧ (((0 ≤ (v3 + 3) ∧ (v3 + 3) < sL G) ∧ sL G < 2000000000) ∧ (CI l m_X8_pact [zr 8 0, zi (sx G (v3 + 1)), zi (sx G (v3 + 2)), zi (sx G (v3 + 3))] M (fun x561 M559 => (CI l m_X9_pact [zr 9 0, zi (sx G (v3 + 1)), zi (sx G (v3 + 2)), zi (sx G (v3 + 3))] M559 (fun x564 M562 => (x561 = x564 ∧ LL_law_1609 l G v3 M562))))))))) :
    LL_law_1434 l G v3 M :=
(aw_aload_n d_L_law_1434 rfl rfl 1 rfl (by decide)
(aw_aload_n d_L_law_1435 rfl rfl 0 rfl (by decide)
(aw_iload_n d_L_law_1436 rfl rfl 3 rfl
(aw_iconst d_L_law_1437 rfl
(aw_iadd d_L_law_1438 rfl
(have z553 := H0.1; have e554 := H0.2; lw_sld d_L_law_1439 z553
(aw_aload_n d_L_law_1440 rfl rfl 0 rfl (by decide)
(aw_iload_n d_L_law_1441 rfl rfl 3 rfl
(aw_iconst d_L_law_1442 rfl
(aw_iadd d_L_law_1443 rfl
(have z555 := e554.1; have e556 := e554.2; lw_sld d_L_law_1444 z555
(aw_aload_n d_L_law_1445 rfl rfl 0 rfl (by decide)
(aw_iload_n d_L_law_1446 rfl rfl 3 rfl
(aw_iconst d_L_law_1447 rfl
(aw_iadd d_L_law_1448 rfl
(have z557 := e556.1; have e558 := e556.2; lw_sld d_L_law_1449 z557
(aw_VI (As := [zi (sx G (v3 + 1)), zi (sx G (v3 + 2)), zi (sx G (v3 + 3))]) (st := []) d_L_law_1450 rfl cvL_174 ⟨Nat.le_of_ble_eq_true rfl, Nat.le_of_ble_eq_true rfl⟩ rfl rfl (Nat.le_of_ble_eq_true rfl) (Nat.le_of_ble_eq_true rfl) e558 (fun x561 M559 e560 => (aw_aload_n d_L_law_1453 rfl rfl 2 rfl (by decide)
(aw_aload_n d_L_law_1454 rfl rfl 0 rfl (by decide)
(aw_iload_n d_L_law_1455 rfl rfl 3 rfl
(aw_iconst d_L_law_1456 rfl
(aw_iadd d_L_law_1457 rfl
(lw_sld d_L_law_1458 z553
(aw_aload_n d_L_law_1459 rfl rfl 0 rfl (by decide)
(aw_iload_n d_L_law_1460 rfl rfl 3 rfl
(aw_iconst d_L_law_1461 rfl
(aw_iadd d_L_law_1462 rfl
(lw_sld d_L_law_1463 z555
(aw_aload_n d_L_law_1464 rfl rfl 0 rfl (by decide)
(aw_iload_n d_L_law_1465 rfl rfl 3 rfl
(aw_iconst d_L_law_1466 rfl
(aw_iadd d_L_law_1467 rfl
(lw_sld d_L_law_1468 z557
(aw_VI (As := [zi (sx G (v3 + 1)), zi (sx G (v3 + 2)), zi (sx G (v3 + 3))]) (st := [zi x561]) d_L_law_1469 rfl cvL_177 ⟨Nat.le_of_ble_eq_true rfl, Nat.le_of_ble_eq_true rfl⟩ rfl rfl (Nat.le_of_ble_eq_true rfl) (Nat.le_of_ble_eq_true rfl) e560 (fun x564 M562 e563 => (have e565 := e563.2; lw_icmp_eq d_L_law_1472 rfl e563.1 e565)))))))))))))))))))))))))))))))))))))
theorem vL_law_1477 {l : Launch} {G : lwG} {v3 : Int} {M : zM}
    (H0 : (((0 ≤ (v3 + 1) ∧ (v3 + 1) < sL G) ∧ sL G < 2000000000) ∧ (((0 ≤ (v3 + 2) ∧ (v3 + 2) < sL G) ∧ sL G < 2000000000) ∧ (CI l m_X8_moved [zr 8 0, zi (sx G (v3 + 1)), zi (sx G (v3 + 2))] M (fun x572 M570 => (CI l m_X9_moved [zr 9 0, zi (sx G (v3 + 1)), zi (sx G (v3 + 2))] M570 (fun x575 M573 => (x572 = x575 ∧ LL_law_1609 l G v3 M573)))))))) :
    LL_law_1477 l G v3 M :=
(aw_aload_n d_L_law_1477 rfl rfl 1 rfl (by decide)
(aw_aload_n d_L_law_1478 rfl rfl 0 rfl (by decide)
(aw_iload_n d_L_law_1479 rfl rfl 3 rfl
(aw_iconst d_L_law_1480 rfl
(aw_iadd d_L_law_1481 rfl
(have z566 := H0.1; have e567 := H0.2; lw_sld d_L_law_1482 z566
(aw_aload_n d_L_law_1483 rfl rfl 0 rfl (by decide)
(aw_iload_n d_L_law_1484 rfl rfl 3 rfl
(aw_iconst d_L_law_1485 rfl
(aw_iadd d_L_law_1486 rfl
(have z568 := e567.1; have e569 := e567.2; lw_sld d_L_law_1487 z568
(aw_VI (As := [zi (sx G (v3 + 1)), zi (sx G (v3 + 2))]) (st := []) d_L_law_1488 rfl cvL_178 ⟨Nat.le_of_ble_eq_true rfl, Nat.le_of_ble_eq_true rfl⟩ rfl rfl (Nat.le_of_ble_eq_true rfl) (Nat.le_of_ble_eq_true rfl) e569 (fun x572 M570 e571 => (aw_aload_n d_L_law_1491 rfl rfl 2 rfl (by decide)
(aw_aload_n d_L_law_1492 rfl rfl 0 rfl (by decide)
(aw_iload_n d_L_law_1493 rfl rfl 3 rfl
(aw_iconst d_L_law_1494 rfl
(aw_iadd d_L_law_1495 rfl
(lw_sld d_L_law_1496 z566
(aw_aload_n d_L_law_1497 rfl rfl 0 rfl (by decide)
(aw_iload_n d_L_law_1498 rfl rfl 3 rfl
(aw_iconst d_L_law_1499 rfl
(aw_iadd d_L_law_1500 rfl
(lw_sld d_L_law_1501 z568
(aw_VI (As := [zi (sx G (v3 + 1)), zi (sx G (v3 + 2))]) (st := [zi x572]) d_L_law_1502 rfl cvL_181 ⟨Nat.le_of_ble_eq_true rfl, Nat.le_of_ble_eq_true rfl⟩ rfl rfl (Nat.le_of_ble_eq_true rfl) (Nat.le_of_ble_eq_true rfl) e571 (fun x575 M573 e574 => (have e576 := e574.2; lw_icmp_eq d_L_law_1505 rfl e574.1 e576)))))))))))))))))))))))))))
theorem vL_law_1510 {l : Launch} {G : lwG} {v3 : Int} {M : zM}
    (H0 : (((0 ≤ (v3 + 1) ∧ (v3 + 1) < sL G) ∧ sL G < 2000000000) ∧ (((0 ≤ (v3 + 2) ∧ (v3 + 2) < sL G) ∧ sL G < 2000000000) ∧ (CI l m_X8_ranked [zr 8 0, zi (sx G (v3 + 1)), zi (sx G (v3 + 2))] M (fun x583 M581 => (CI l m_X9_ranked [zr 9 0, zi (sx G (v3 + 1)), zi (sx G (v3 + 2))] M581 (fun x586 M584 => (x583 = x586 ∧ LL_law_1609 l G v3 M584)))))))) :
    LL_law_1510 l G v3 M :=
(aw_aload_n d_L_law_1510 rfl rfl 1 rfl (by decide)
(aw_aload_n d_L_law_1511 rfl rfl 0 rfl (by decide)
(aw_iload_n d_L_law_1512 rfl rfl 3 rfl
(aw_iconst d_L_law_1513 rfl
(aw_iadd d_L_law_1514 rfl
(have z577 := H0.1; have e578 := H0.2; lw_sld d_L_law_1515 z577
(aw_aload_n d_L_law_1516 rfl rfl 0 rfl (by decide)
(aw_iload_n d_L_law_1517 rfl rfl 3 rfl
(aw_iconst d_L_law_1518 rfl
(aw_iadd d_L_law_1519 rfl
(have z579 := e578.1; have e580 := e578.2; lw_sld d_L_law_1520 z579
(aw_VI (As := [zi (sx G (v3 + 1)), zi (sx G (v3 + 2))]) (st := []) d_L_law_1521 rfl cvL_182 ⟨Nat.le_of_ble_eq_true rfl, Nat.le_of_ble_eq_true rfl⟩ rfl rfl (Nat.le_of_ble_eq_true rfl) (Nat.le_of_ble_eq_true rfl) e580 (fun x583 M581 e582 => (aw_aload_n d_L_law_1524 rfl rfl 2 rfl (by decide)
(aw_aload_n d_L_law_1525 rfl rfl 0 rfl (by decide)
(aw_iload_n d_L_law_1526 rfl rfl 3 rfl
(aw_iconst d_L_law_1527 rfl
(aw_iadd d_L_law_1528 rfl
(lw_sld d_L_law_1529 z577
(aw_aload_n d_L_law_1530 rfl rfl 0 rfl (by decide)
(aw_iload_n d_L_law_1531 rfl rfl 3 rfl
(aw_iconst d_L_law_1532 rfl
(aw_iadd d_L_law_1533 rfl
(lw_sld d_L_law_1534 z579
(aw_VI (As := [zi (sx G (v3 + 1)), zi (sx G (v3 + 2))]) (st := [zi x583]) d_L_law_1535 rfl cvL_185 ⟨Nat.le_of_ble_eq_true rfl, Nat.le_of_ble_eq_true rfl⟩ rfl rfl (Nat.le_of_ble_eq_true rfl) (Nat.le_of_ble_eq_true rfl) e582 (fun x586 M584 e585 => (have e587 := e585.2; lw_icmp_eq d_L_law_1538 rfl e585.1 e587)))))))))))))))))))))))))))
theorem vL_law_1543 {l : Launch} {G : lwG} {v3 : Int} {M : zM}
    (H0 : (((0 ≤ (v3 + 1) ∧ (v3 + 1) < sL G) ∧ sL G < 2000000000) ∧ (((0 ≤ (v3 + 2) ∧ (v3 + 2) < sL G) ∧ sL G < 2000000000) ∧ (((0 ≤ (v3 + 3) ∧ (v3 + 3) < sL G) ∧ sL G < 2000000000) ∧ (CI l m_X8_skim [zr 8 0, zi (sx G (v3 + 1)), zi (sx G (v3 + 2)), zi (sx G (v3 + 3))] M (fun x596 M594 => (CI l m_X9_skim [zr 9 0, zi (sx G (v3 + 1)), zi (sx G (v3 + 2)), zi (sx G (v3 + 3))] M594 (fun x599 M597 => (x596 = x599 ∧ LL_law_1609 l G v3 M597))))))))) :
    LL_law_1543 l G v3 M :=
(aw_aload_n d_L_law_1543 rfl rfl 1 rfl (by decide)
(aw_aload_n d_L_law_1544 rfl rfl 0 rfl (by decide)
(aw_iload_n d_L_law_1545 rfl rfl 3 rfl
(aw_iconst d_L_law_1546 rfl
(aw_iadd d_L_law_1547 rfl
(have z588 := H0.1; have e589 := H0.2; lw_sld d_L_law_1548 z588
(aw_aload_n d_L_law_1549 rfl rfl 0 rfl (by decide)
(aw_iload_n d_L_law_1550 rfl rfl 3 rfl
(aw_iconst d_L_law_1551 rfl
(aw_iadd d_L_law_1552 rfl
(have z590 := e589.1; have e591 := e589.2; lw_sld d_L_law_1553 z590
(aw_aload_n d_L_law_1554 rfl rfl 0 rfl (by decide)
(aw_iload_n d_L_law_1555 rfl rfl 3 rfl
(aw_iconst d_L_law_1556 rfl
(aw_iadd d_L_law_1557 rfl
(have z592 := e591.1; have e593 := e591.2; lw_sld d_L_law_1558 z592
(aw_VI (As := [zi (sx G (v3 + 1)), zi (sx G (v3 + 2)), zi (sx G (v3 + 3))]) (st := []) d_L_law_1559 rfl cvL_186 ⟨Nat.le_of_ble_eq_true rfl, Nat.le_of_ble_eq_true rfl⟩ rfl rfl (Nat.le_of_ble_eq_true rfl) (Nat.le_of_ble_eq_true rfl) e593 (fun x596 M594 e595 => (aw_aload_n d_L_law_1562 rfl rfl 2 rfl (by decide)
(aw_aload_n d_L_law_1563 rfl rfl 0 rfl (by decide)
(aw_iload_n d_L_law_1564 rfl rfl 3 rfl
(aw_iconst d_L_law_1565 rfl
(aw_iadd d_L_law_1566 rfl
(lw_sld d_L_law_1567 z588
(aw_aload_n d_L_law_1568 rfl rfl 0 rfl (by decide)
(aw_iload_n d_L_law_1569 rfl rfl 3 rfl
(aw_iconst d_L_law_1570 rfl
(aw_iadd d_L_law_1571 rfl
(lw_sld d_L_law_1572 z590
(aw_aload_n d_L_law_1573 rfl rfl 0 rfl (by decide)
(aw_iload_n d_L_law_1574 rfl rfl 3 rfl
(aw_iconst d_L_law_1575 rfl
(aw_iadd d_L_law_1576 rfl
(lw_sld d_L_law_1577 z592
(aw_VI (As := [zi (sx G (v3 + 1)), zi (sx G (v3 + 2)), zi (sx G (v3 + 3))]) (st := [zi x596]) d_L_law_1578 rfl cvL_189 ⟨Nat.le_of_ble_eq_true rfl, Nat.le_of_ble_eq_true rfl⟩ rfl rfl (Nat.le_of_ble_eq_true rfl) (Nat.le_of_ble_eq_true rfl) e595 (fun x599 M597 e598 => (have e600 := e598.2; lw_icmp_eq d_L_law_1581 rfl e598.1 e600)))))))))))))))))))))))))))))))))))))
theorem vL_law_1586 {l : Launch} {G : lwG} {v3 : Int} {M : zM}
    (H0 : (((0 ≤ (v3 + 1) ∧ (v3 + 1) < sL G) ∧ sL G < 2000000000) ∧ (CI l m_X8_count [zr 8 0, zi (sx G (v3 + 1))] M (fun x605 M603 => (CI l m_X9_count [zr 9 0, zi (sx G (v3 + 1))] M603 (fun x608 M606 => (x605 = x608 ∧ LL_law_1609 l G v3 M606))))))) :
    LL_law_1586 l G v3 M :=
(aw_aload_n d_L_law_1586 rfl rfl 1 rfl (by decide)
(aw_aload_n d_L_law_1587 rfl rfl 0 rfl (by decide)
(aw_iload_n d_L_law_1588 rfl rfl 3 rfl
(aw_iconst d_L_law_1589 rfl
(aw_iadd d_L_law_1590 rfl
(have z601 := H0.1; have e602 := H0.2; lw_sld d_L_law_1591 z601
(aw_VI (As := [zi (sx G (v3 + 1))]) (st := []) d_L_law_1592 rfl cvL_190 ⟨Nat.le_of_ble_eq_true rfl, Nat.le_of_ble_eq_true rfl⟩ rfl rfl (Nat.le_of_ble_eq_true rfl) (Nat.le_of_ble_eq_true rfl) e602 (fun x605 M603 e604 => (aw_aload_n d_L_law_1595 rfl rfl 2 rfl (by decide)
(aw_aload_n d_L_law_1596 rfl rfl 0 rfl (by decide)
(aw_iload_n d_L_law_1597 rfl rfl 3 rfl
(aw_iconst d_L_law_1598 rfl
(aw_iadd d_L_law_1599 rfl
(lw_sld d_L_law_1600 z601
(aw_VI (As := [zi (sx G (v3 + 1))]) (st := [zi x605]) d_L_law_1601 rfl cvL_193 ⟨Nat.le_of_ble_eq_true rfl, Nat.le_of_ble_eq_true rfl⟩ rfl rfl (Nat.le_of_ble_eq_true rfl) (Nat.le_of_ble_eq_true rfl) e604 (fun x608 M606 e607 => (have e609 := e607.2; lw_icmp_eq d_L_law_1604 rfl e607.1 e609)))))))))))))))))
