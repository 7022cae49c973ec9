/-! ===== objects made: facts ===== -/
set_option maxRecDepth 100000
theorem an_int : Cond.arrayClass .int ∈ zTB := zti 92 (by decide +kernel) (by decide +kernel)
theorem an_boolean : Cond.arrayClass .boolean ∈ zTB := zti 91 (by decide +kernel) (by decide +kernel)
theorem an_byte : Cond.arrayClass .byte ∈ zTB := zti 452 (by decide +kernel) (by decide +kernel)
theorem an_long : Cond.arrayClass .long ∈ zTB := zti 281 (by decide +kernel) (by decide +kernel)
theorem oi_ : Cond.instanceMethod Lib.objectInit ∈ zTB := zti 29 (by decide +kernel) (by decide +kernel)
theorem oc_ : Cond.code Lib.objectInit ⟨#[0xb1]⟩ 1 none ∈ zTB := zti 30 (by decide +kernel) (by decide +kernel)
theorem ic0 : Cond.instantiable RX0 11 ∈ zTB := zti 176 (by decide +kernel) (by decide +kernel)
theorem ini0 : Cond.initialized RX0 ∈ zTB := zti 7 (by decide +kernel) (by decide +kernel)
theorem nf0 : ∀ j, j < 11 → defaultValue (tyX0 j) = vp_V (nfs 0) j := fun j hj => match j, hj with
  | 0, _ => rfl
  | 1, _ => rfl
  | 2, _ => rfl
  | 3, _ => rfl
  | 4, _ => rfl
  | 5, _ => rfl
  | 6, _ => rfl
  | 7, _ => rfl
  | 8, _ => rfl
  | 9, _ => rfl
  | 10, _ => rfl
  | j + 11, h => absurd h (by omega)
theorem ic1 : Cond.instantiable RX1 13 ∈ zTB := zti 32 (by decide +kernel) (by decide +kernel)
theorem ini1 : Cond.initialized RX1 ∈ zTB := zti 2 (by decide +kernel) (by decide +kernel)
theorem nf1 : ∀ j, j < 13 → defaultValue (tyX1 j) = vp_V (nfs 1) j := fun j hj => match j, hj with
  | 0, _ => rfl
  | 1, _ => rfl
  | 2, _ => rfl
  | 3, _ => rfl
  | 4, _ => rfl
  | 5, _ => rfl
  | 6, _ => rfl
  | 7, _ => rfl
  | 8, _ => rfl
  | 9, _ => rfl
  | 10, _ => rfl
  | 11, _ => rfl
  | 12, _ => rfl
  | j + 13, h => absurd h (by omega)
theorem ic2 : Cond.instantiable RX2 3 ∈ zTB := zti 126 (by decide +kernel) (by decide +kernel)
theorem ini2 : Cond.initialized RX2 ∈ zTB := zti 4 (by decide +kernel) (by decide +kernel)
theorem nf2 : ∀ j, j < 3 → defaultValue (tyX2 j) = vp_V (nfs 2) j := fun j hj => match j, hj with
  | 0, _ => rfl
  | 1, _ => rfl
  | 2, _ => rfl
  | j + 3, h => absurd h (by omega)
theorem ic3 : Cond.instantiable RX3 2 ∈ zTB := zti 162 (by decide +kernel) (by decide +kernel)
theorem ini3 : Cond.initialized RX3 ∈ zTB := zti 6 (by decide +kernel) (by decide +kernel)
theorem nf3 : ∀ j, j < 2 → defaultValue (tyX3 j) = vp_V (nfs 3) j := fun j hj => match j, hj with
  | 0, _ => rfl
  | 1, _ => rfl
  | j + 2, h => absurd h (by omega)
theorem ic4 : Cond.instantiable RX4 3 ∈ zTB := zti 219 (by decide +kernel) (by decide +kernel)
theorem ini4 : Cond.initialized RX4 ∈ zTB := zti 8 (by decide +kernel) (by decide +kernel)
theorem nf4 : ∀ j, j < 3 → defaultValue (tyX4 j) = vp_V (nfs 4) j := fun j hj => match j, hj with
  | 0, _ => rfl
  | 1, _ => rfl
  | 2, _ => rfl
  | j + 3, h => absurd h (by omega)
theorem ic5 : Cond.instantiable RX5 3 ∈ zTB := zti 234 (by decide +kernel) (by decide +kernel)
theorem ini5 : Cond.initialized RX5 ∈ zTB := zti 9 (by decide +kernel) (by decide +kernel)
theorem nf5 : ∀ j, j < 3 → defaultValue (tyX5 j) = vp_V (nfs 5) j := fun j hj => match j, hj with
  | 0, _ => rfl
  | 1, _ => rfl
  | 2, _ => rfl
  | j + 3, h => absurd h (by omega)
theorem ic6 : Cond.instantiable RX6 2 ∈ zTB := zti 146 (by decide +kernel) (by decide +kernel)
theorem ini6 : Cond.initialized RX6 ∈ zTB := zti 5 (by decide +kernel) (by decide +kernel)
theorem nf6 : ∀ j, j < 2 → defaultValue (tyX6 j) = vp_V (nfs 6) j := fun j hj => match j, hj with
  | 0, _ => rfl
  | 1, _ => rfl
  | j + 2, h => absurd h (by omega)
theorem ic7 : Cond.instantiable RX7 7 ∈ zTB := zti 94 (by decide +kernel) (by decide +kernel)
theorem ini7 : Cond.initialized RX7 ∈ zTB := zti 3 (by decide +kernel) (by decide +kernel)
theorem nf7 : ∀ j, j < 7 → defaultValue (tyX7 j) = vp_V (nfs 7) j := fun j hj => match j, hj with
  | 0, _ => rfl
  | 1, _ => rfl
  | 2, _ => rfl
  | 3, _ => rfl
  | 4, _ => rfl
  | 5, _ => rfl
  | 6, _ => rfl
  | j + 7, h => absurd h (by omega)
theorem ic8 : Cond.instantiable RX8 11 ∈ zTB := zti 24 (by decide +kernel) (by decide +kernel)
theorem ini8 : Cond.initialized RX8 ∈ zTB := zti 1 (by decide +kernel) (by decide +kernel)
theorem nf8 : ∀ j, j < 11 → defaultValue (tyX8 j) = vp_V (nfs 8) j := fun j hj => match j, hj with
  | 0, _ => rfl
  | 1, _ => rfl
  | 2, _ => rfl
  | 3, _ => rfl
  | 4, _ => rfl
  | 5, _ => rfl
  | 6, _ => rfl
  | 7, _ => rfl
  | 8, _ => rfl
  | 9, _ => rfl
  | 10, _ => rfl
  | j + 11, h => absurd h (by omega)
theorem d_X0_init_0 : dec m_X0_init 0 = .ok (.aload_n 0, 1) := by decide +kernel
theorem d_X0_init_1 : dec m_X0_init 1 = .ok (.invokespecial 3, 3) := by decide +kernel
theorem d_X0_init_4 : dec m_X0_init 4 = .ok (.aload_n 0, 1) := by decide +kernel
theorem d_X0_init_5 : dec m_X0_init 5 = .ok (.bipush 80, 2) := by decide +kernel
theorem d_X0_init_7 : dec m_X0_init 7 = .ok (.newarray .int, 2) := by decide +kernel
theorem d_X0_init_9 : dec m_X0_init 9 = .ok (.putfield 9, 3) := by decide +kernel
theorem d_X0_init_12 : dec m_X0_init 12 = .ok (.aload_n 0, 1) := by decide +kernel
theorem d_X0_init_13 : dec m_X0_init 13 = .ok (.bipush 80, 2) := by decide +kernel
theorem d_X0_init_15 : dec m_X0_init 15 = .ok (.newarray .int, 2) := by decide +kernel
theorem d_X0_init_17 : dec m_X0_init 17 = .ok (.putfield 15, 3) := by decide +kernel
theorem d_X0_init_20 : dec m_X0_init 20 = .ok (.return_, 1) := by decide +kernel
theorem ol0 : Cond.methodLink "TradeHall$Book" 3 Lib.objectInit ∈ zTB := zti 180 (by decide +kernel) (by decide +kernel)
theorem d_X1_init_0 : dec m_X1_init 0 = .ok (.aload_n 0, 1) := by decide +kernel
theorem d_X1_init_1 : dec m_X1_init 1 = .ok (.invokespecial 3, 3) := by decide +kernel
theorem d_X1_init_4 : dec m_X1_init 4 = .ok (.aload_n 0, 1) := by decide +kernel
theorem d_X1_init_5 : dec m_X1_init 5 = .ok (.bipush 20, 2) := by decide +kernel
theorem d_X1_init_7 : dec m_X1_init 7 = .ok (.newarray .boolean, 2) := by decide +kernel
theorem d_X1_init_9 : dec m_X1_init 9 = .ok (.putfield 9, 3) := by decide +kernel
theorem d_X1_init_12 : dec m_X1_init 12 = .ok (.aload_n 0, 1) := by decide +kernel
theorem d_X1_init_13 : dec m_X1_init 13 = .ok (.bipush 20, 2) := by decide +kernel
theorem d_X1_init_15 : dec m_X1_init 15 = .ok (.newarray .int, 2) := by decide +kernel
theorem d_X1_init_17 : dec m_X1_init 17 = .ok (.putfield 15, 3) := by decide +kernel
theorem d_X1_init_20 : dec m_X1_init 20 = .ok (.aload_n 0, 1) := by decide +kernel
theorem d_X1_init_21 : dec m_X1_init 21 = .ok (.bipush 20, 2) := by decide +kernel
theorem d_X1_init_23 : dec m_X1_init 23 = .ok (.newarray .int, 2) := by decide +kernel
theorem d_X1_init_25 : dec m_X1_init 25 = .ok (.putfield 19, 3) := by decide +kernel
theorem d_X1_init_28 : dec m_X1_init 28 = .ok (.aload_n 0, 1) := by decide +kernel
theorem d_X1_init_29 : dec m_X1_init 29 = .ok (.bipush 80, 2) := by decide +kernel
theorem d_X1_init_31 : dec m_X1_init 31 = .ok (.newarray .int, 2) := by decide +kernel
theorem d_X1_init_33 : dec m_X1_init 33 = .ok (.putfield 22, 3) := by decide +kernel
theorem d_X1_init_36 : dec m_X1_init 36 = .ok (.aload_n 0, 1) := by decide +kernel
theorem d_X1_init_37 : dec m_X1_init 37 = .ok (.bipush 20, 2) := by decide +kernel
theorem d_X1_init_39 : dec m_X1_init 39 = .ok (.newarray .int, 2) := by decide +kernel
theorem d_X1_init_41 : dec m_X1_init 41 = .ok (.putfield 25, 3) := by decide +kernel
theorem d_X1_init_44 : dec m_X1_init 44 = .ok (.aload_n 0, 1) := by decide +kernel
theorem d_X1_init_45 : dec m_X1_init 45 = .ok (.bipush 20, 2) := by decide +kernel
theorem d_X1_init_47 : dec m_X1_init 47 = .ok (.newarray .int, 2) := by decide +kernel
theorem d_X1_init_49 : dec m_X1_init 49 = .ok (.putfield 28, 3) := by decide +kernel
theorem d_X1_init_52 : dec m_X1_init 52 = .ok (.return_, 1) := by decide +kernel
theorem ol1 : Cond.methodLink "TradeHall$Hall" 3 Lib.objectInit ∈ zTB := zti 36 (by decide +kernel) (by decide +kernel)
theorem d_X2_init_0 : dec m_X2_init 0 = .ok (.aload_n 0, 1) := by decide +kernel
theorem d_X2_init_1 : dec m_X2_init 1 = .ok (.invokespecial 3, 3) := by decide +kernel
theorem d_X2_init_4 : dec m_X2_init 4 = .ok (.aload_n 0, 1) := by decide +kernel
theorem d_X2_init_5 : dec m_X2_init 5 = .ok (.bipush 10, 2) := by decide +kernel
theorem d_X2_init_7 : dec m_X2_init 7 = .ok (.anewarray 9, 3) := by decide +kernel
theorem d_X2_init_10 : dec m_X2_init 10 = .ok (.putfield 11, 3) := by decide +kernel
theorem d_X2_init_13 : dec m_X2_init 13 = .ok (.iconst 0, 1) := by decide +kernel
theorem d_X2_init_14 : dec m_X2_init 14 = .ok (.istore_n 1, 1) := by decide +kernel
theorem d_X2_init_15 : dec m_X2_init 15 = .ok (.iload_n 1, 1) := by decide +kernel
theorem d_X2_init_16 : dec m_X2_init 16 = .ok (.bipush 10, 2) := by decide +kernel
theorem d_X2_init_18 : dec m_X2_init 18 = .ok (.if_icmp .ge 22, 3) := by decide +kernel
theorem d_X2_init_21 : dec m_X2_init 21 = .ok (.aload_n 0, 1) := by decide +kernel
theorem d_X2_init_22 : dec m_X2_init 22 = .ok (.getfield 11, 3) := by decide +kernel
theorem d_X2_init_25 : dec m_X2_init 25 = .ok (.iload_n 1, 1) := by decide +kernel
theorem d_X2_init_26 : dec m_X2_init 26 = .ok (.new 9, 3) := by decide +kernel
theorem d_X2_init_29 : dec m_X2_init 29 = .ok (.dup, 1) := by decide +kernel
theorem d_X2_init_30 : dec m_X2_init 30 = .ok (.invokespecial 17, 3) := by decide +kernel
theorem d_X2_init_33 : dec m_X2_init 33 = .ok (.aastore, 1) := by decide +kernel
theorem d_X2_init_34 : dec m_X2_init 34 = .ok (.iinc 1 1, 3) := by decide +kernel
theorem d_X2_init_37 : dec m_X2_init 37 = .ok (.goto (-22), 3) := by decide +kernel
theorem d_X2_init_40 : dec m_X2_init 40 = .ok (.return_, 1) := by decide +kernel
theorem ol2 : Cond.methodLink "TradeHall$History" 3 Lib.objectInit ∈ zTB := zti 130 (by decide +kernel) (by decide +kernel)
theorem cl2_9 : Cond.classLink "TradeHall$History" 9 "TradeHall$Hall" ∈ zTB := zti 131 (by decide +kernel) (by decide +kernel)
theorem cI2_17 : zCI "TradeHall$History" 17 m_X1_init := ⟨⟨by decide +kernel, zti 35 (by decide +kernel) (by decide +kernel), zti 2 (by decide +kernel) (by decide +kernel), ⟨by decide +kernel, by decide +kernel⟩, by decide +kernel, Or.inr ⟨_, zni (w := .methodLinkNest "TradeHall$History" 17 yX1_init "TradeHall") 133 (by decide +kernel) (by decide +kernel)⟩⟩, zti 34 (by decide +kernel) (by decide +kernel), rfl, rfl⟩
theorem d_X3_init_0 : dec m_X3_init 0 = .ok (.aload_n 0, 1) := by decide +kernel
theorem d_X3_init_1 : dec m_X3_init 1 = .ok (.invokespecial 3, 3) := by decide +kernel
theorem d_X3_init_4 : dec m_X3_init 4 = .ok (.aload_n 0, 1) := by decide +kernel
theorem d_X3_init_5 : dec m_X3_init 5 = .ok (.sipush 640, 3) := by decide +kernel
theorem d_X3_init_8 : dec m_X3_init 8 = .ok (.newarray .int, 2) := by decide +kernel
theorem d_X3_init_10 : dec m_X3_init 10 = .ok (.putfield 9, 3) := by decide +kernel
theorem d_X3_init_13 : dec m_X3_init 13 = .ok (.return_, 1) := by decide +kernel
theorem ol3 : Cond.methodLink "TradeHall$Letters" 3 Lib.objectInit ∈ zTB := zti 166 (by decide +kernel) (by decide +kernel)
theorem d_X4_init_0 : dec m_X4_init 0 = .ok (.aload_n 0, 1) := by decide +kernel
theorem d_X4_init_1 : dec m_X4_init 1 = .ok (.invokespecial 3, 3) := by decide +kernel
theorem d_X4_init_4 : dec m_X4_init 4 = .ok (.aload_n 0, 1) := by decide +kernel
theorem d_X4_init_5 : dec m_X4_init 5 = .ok (.bipush 20, 2) := by decide +kernel
theorem d_X4_init_7 : dec m_X4_init 7 = .ok (.newarray .int, 2) := by decide +kernel
theorem d_X4_init_9 : dec m_X4_init 9 = .ok (.putfield 9, 3) := by decide +kernel
theorem d_X4_init_12 : dec m_X4_init 12 = .ok (.aload_n 0, 1) := by decide +kernel
theorem d_X4_init_13 : dec m_X4_init 13 = .ok (.bipush 20, 2) := by decide +kernel
theorem d_X4_init_15 : dec m_X4_init 15 = .ok (.newarray .int, 2) := by decide +kernel
theorem d_X4_init_17 : dec m_X4_init 17 = .ok (.putfield 15, 3) := by decide +kernel
theorem d_X4_init_20 : dec m_X4_init 20 = .ok (.return_, 1) := by decide +kernel
theorem ol4 : Cond.methodLink "TradeHall$Ranking" 3 Lib.objectInit ∈ zTB := zti 223 (by decide +kernel) (by decide +kernel)
theorem d_X5_init_0 : dec m_X5_init 0 = .ok (.aload_n 0, 1) := by decide +kernel
theorem d_X5_init_1 : dec m_X5_init 1 = .ok (.invokespecial 3, 3) := by decide +kernel
theorem d_X5_init_4 : dec m_X5_init 4 = .ok (.aload_n 0, 1) := by decide +kernel
theorem d_X5_init_5 : dec m_X5_init 5 = .ok (.bipush 81, 2) := by decide +kernel
theorem d_X5_init_7 : dec m_X5_init 7 = .ok (.newarray .int, 2) := by decide +kernel
theorem d_X5_init_9 : dec m_X5_init 9 = .ok (.putfield 9, 3) := by decide +kernel
theorem d_X5_init_12 : dec m_X5_init 12 = .ok (.return_, 1) := by decide +kernel
theorem ol5 : Cond.methodLink "TradeHall$Serving" 3 Lib.objectInit ∈ zTB := zti 238 (by decide +kernel) (by decide +kernel)
theorem d_X6_init_0 : dec m_X6_init 0 = .ok (.aload_n 0, 1) := by decide +kernel
theorem d_X6_init_1 : dec m_X6_init 1 = .ok (.invokespecial 3, 3) := by decide +kernel
theorem d_X6_init_4 : dec m_X6_init 4 = .ok (.aload_n 0, 1) := by decide +kernel
theorem d_X6_init_5 : dec m_X6_init 5 = .ok (.iconst 2, 1) := by decide +kernel
theorem d_X6_init_6 : dec m_X6_init 6 = .ok (.anewarray 9, 3) := by decide +kernel
theorem d_X6_init_9 : dec m_X6_init 9 = .ok (.putfield 11, 3) := by decide +kernel
theorem d_X6_init_12 : dec m_X6_init 12 = .ok (.iconst 0, 1) := by decide +kernel
theorem d_X6_init_13 : dec m_X6_init 13 = .ok (.istore_n 1, 1) := by decide +kernel
theorem d_X6_init_14 : dec m_X6_init 14 = .ok (.iload_n 1, 1) := by decide +kernel
theorem d_X6_init_15 : dec m_X6_init 15 = .ok (.iconst 2, 1) := by decide +kernel
theorem d_X6_init_16 : dec m_X6_init 16 = .ok (.if_icmp .ge 22, 3) := by decide +kernel
theorem d_X6_init_19 : dec m_X6_init 19 = .ok (.aload_n 0, 1) := by decide +kernel
theorem d_X6_init_20 : dec m_X6_init 20 = .ok (.getfield 11, 3) := by decide +kernel
theorem d_X6_init_23 : dec m_X6_init 23 = .ok (.iload_n 1, 1) := by decide +kernel
theorem d_X6_init_24 : dec m_X6_init 24 = .ok (.new 9, 3) := by decide +kernel
theorem d_X6_init_27 : dec m_X6_init 27 = .ok (.dup, 1) := by decide +kernel
theorem d_X6_init_28 : dec m_X6_init 28 = .ok (.invokespecial 17, 3) := by decide +kernel
theorem d_X6_init_31 : dec m_X6_init 31 = .ok (.aastore, 1) := by decide +kernel
theorem d_X6_init_32 : dec m_X6_init 32 = .ok (.iinc 1 1, 3) := by decide +kernel
theorem d_X6_init_35 : dec m_X6_init 35 = .ok (.goto (-21), 3) := by decide +kernel
theorem d_X6_init_38 : dec m_X6_init 38 = .ok (.return_, 1) := by decide +kernel
theorem ol6 : Cond.methodLink "TradeHall$Shelves" 3 Lib.objectInit ∈ zTB := zti 150 (by decide +kernel) (by decide +kernel)
theorem cl6_9 : Cond.classLink "TradeHall$Shelves" 9 "TradeHall$Hall" ∈ zTB := zti 151 (by decide +kernel) (by decide +kernel)
theorem cI6_17 : zCI "TradeHall$Shelves" 17 m_X1_init := ⟨⟨by decide +kernel, zti 35 (by decide +kernel) (by decide +kernel), zti 2 (by decide +kernel) (by decide +kernel), ⟨by decide +kernel, by decide +kernel⟩, by decide +kernel, Or.inr ⟨_, zni (w := .methodLinkNest "TradeHall$Shelves" 17 yX1_init "TradeHall") 152 (by decide +kernel) (by decide +kernel)⟩⟩, zti 34 (by decide +kernel) (by decide +kernel), rfl, rfl⟩
theorem d_X7_init_0 : dec m_X7_init 0 = .ok (.aload_n 0, 1) := by decide +kernel
theorem d_X7_init_1 : dec m_X7_init 1 = .ok (.invokespecial 3, 3) := by decide +kernel
theorem d_X7_init_4 : dec m_X7_init 4 = .ok (.aload_n 0, 1) := by decide +kernel
theorem d_X7_init_5 : dec m_X7_init 5 = .ok (.sipush 400, 3) := by decide +kernel
theorem d_X7_init_8 : dec m_X7_init 8 = .ok (.newarray .int, 2) := by decide +kernel
theorem d_X7_init_10 : dec m_X7_init 10 = .ok (.putfield 9, 3) := by decide +kernel
theorem d_X7_init_13 : dec m_X7_init 13 = .ok (.aload_n 0, 1) := by decide +kernel
theorem d_X7_init_14 : dec m_X7_init 14 = .ok (.new 15, 3) := by decide +kernel
theorem d_X7_init_17 : dec m_X7_init 17 = .ok (.dup, 1) := by decide +kernel
theorem d_X7_init_18 : dec m_X7_init 18 = .ok (.invokespecial 17, 3) := by decide +kernel
theorem d_X7_init_21 : dec m_X7_init 21 = .ok (.putfield 18, 3) := by decide +kernel
theorem d_X7_init_24 : dec m_X7_init 24 = .ok (.return_, 1) := by decide +kernel
theorem ol7 : Cond.methodLink "TradeHall$Tape" 3 Lib.objectInit ∈ zTB := zti 98 (by decide +kernel) (by decide +kernel)
theorem cl7_15 : Cond.classLink "TradeHall$Tape" 15 "TradeHall$Hall" ∈ zTB := zti 99 (by decide +kernel) (by decide +kernel)
theorem cI7_17 : zCI "TradeHall$Tape" 17 m_X1_init := ⟨⟨by decide +kernel, zti 35 (by decide +kernel) (by decide +kernel), zti 2 (by decide +kernel) (by decide +kernel), ⟨by decide +kernel, by decide +kernel⟩, by decide +kernel, Or.inr ⟨_, zni (w := .methodLinkNest "TradeHall$Tape" 17 yX1_init "TradeHall") 100 (by decide +kernel) (by decide +kernel)⟩⟩, zti 34 (by decide +kernel) (by decide +kernel), rfl, rfl⟩
theorem d_X8_init_0 : dec m_X8_init 0 = .ok (.aload_n 0, 1) := by decide +kernel
theorem d_X8_init_1 : dec m_X8_init 1 = .ok (.invokespecial 3, 3) := by decide +kernel
theorem d_X8_init_4 : dec m_X8_init 4 = .ok (.aload_n 0, 1) := by decide +kernel
theorem d_X8_init_5 : dec m_X8_init 5 = .ok (.new 9, 3) := by decide +kernel
theorem d_X8_init_8 : dec m_X8_init 8 = .ok (.dup, 1) := by decide +kernel
theorem d_X8_init_9 : dec m_X8_init 9 = .ok (.invokespecial 11, 3) := by decide +kernel
theorem d_X8_init_12 : dec m_X8_init 12 = .ok (.putfield 12, 3) := by decide +kernel
theorem d_X8_init_15 : dec m_X8_init 15 = .ok (.aload_n 0, 1) := by decide +kernel
theorem d_X8_init_16 : dec m_X8_init 16 = .ok (.new 16, 3) := by decide +kernel
theorem d_X8_init_19 : dec m_X8_init 19 = .ok (.dup, 1) := by decide +kernel
theorem d_X8_init_20 : dec m_X8_init 20 = .ok (.invokespecial 18, 3) := by decide +kernel
theorem d_X8_init_23 : dec m_X8_init 23 = .ok (.putfield 19, 3) := by decide +kernel
theorem d_X8_init_26 : dec m_X8_init 26 = .ok (.aload_n 0, 1) := by decide +kernel
theorem d_X8_init_27 : dec m_X8_init 27 = .ok (.new 23, 3) := by decide +kernel
theorem d_X8_init_30 : dec m_X8_init 30 = .ok (.dup, 1) := by decide +kernel
theorem d_X8_init_31 : dec m_X8_init 31 = .ok (.invokespecial 25, 3) := by decide +kernel
theorem d_X8_init_34 : dec m_X8_init 34 = .ok (.putfield 26, 3) := by decide +kernel
theorem d_X8_init_37 : dec m_X8_init 37 = .ok (.aload_n 0, 1) := by decide +kernel
theorem d_X8_init_38 : dec m_X8_init 38 = .ok (.new 30, 3) := by decide +kernel
theorem d_X8_init_41 : dec m_X8_init 41 = .ok (.dup, 1) := by decide +kernel
theorem d_X8_init_42 : dec m_X8_init 42 = .ok (.invokespecial 32, 3) := by decide +kernel
theorem d_X8_init_45 : dec m_X8_init 45 = .ok (.putfield 33, 3) := by decide +kernel
theorem d_X8_init_48 : dec m_X8_init 48 = .ok (.aload_n 0, 1) := by decide +kernel
theorem d_X8_init_49 : dec m_X8_init 49 = .ok (.new 37, 3) := by decide +kernel
theorem d_X8_init_52 : dec m_X8_init 52 = .ok (.dup, 1) := by decide +kernel
theorem d_X8_init_53 : dec m_X8_init 53 = .ok (.invokespecial 39, 3) := by decide +kernel
theorem d_X8_init_56 : dec m_X8_init 56 = .ok (.putfield 40, 3) := by decide +kernel
theorem d_X8_init_59 : dec m_X8_init 59 = .ok (.aload_n 0, 1) := by decide +kernel
theorem d_X8_init_60 : dec m_X8_init 60 = .ok (.new 44, 3) := by decide +kernel
theorem d_X8_init_63 : dec m_X8_init 63 = .ok (.dup, 1) := by decide +kernel
theorem d_X8_init_64 : dec m_X8_init 64 = .ok (.invokespecial 46, 3) := by decide +kernel
theorem d_X8_init_67 : dec m_X8_init 67 = .ok (.putfield 47, 3) := by decide +kernel
theorem d_X8_init_70 : dec m_X8_init 70 = .ok (.aload_n 0, 1) := by decide +kernel
theorem d_X8_init_71 : dec m_X8_init 71 = .ok (.new 44, 3) := by decide +kernel
theorem d_X8_init_74 : dec m_X8_init 74 = .ok (.dup, 1) := by decide +kernel
theorem d_X8_init_75 : dec m_X8_init 75 = .ok (.invokespecial 46, 3) := by decide +kernel
theorem d_X8_init_78 : dec m_X8_init 78 = .ok (.putfield 51, 3) := by decide +kernel
theorem d_X8_init_81 : dec m_X8_init 81 = .ok (.aload_n 0, 1) := by decide +kernel
theorem d_X8_init_82 : dec m_X8_init 82 = .ok (.new 54, 3) := by decide +kernel
theorem d_X8_init_85 : dec m_X8_init 85 = .ok (.dup, 1) := by decide +kernel
theorem d_X8_init_86 : dec m_X8_init 86 = .ok (.invokespecial 56, 3) := by decide +kernel
theorem d_X8_init_89 : dec m_X8_init 89 = .ok (.putfield 57, 3) := by decide +kernel
theorem d_X8_init_92 : dec m_X8_init 92 = .ok (.aload_n 0, 1) := by decide +kernel
theorem d_X8_init_93 : dec m_X8_init 93 = .ok (.new 61, 3) := by decide +kernel
theorem d_X8_init_96 : dec m_X8_init 96 = .ok (.dup, 1) := by decide +kernel
theorem d_X8_init_97 : dec m_X8_init 97 = .ok (.invokespecial 63, 3) := by decide +kernel
theorem d_X8_init_100 : dec m_X8_init 100 = .ok (.putfield 64, 3) := by decide +kernel
theorem d_X8_init_103 : dec m_X8_init 103 = .ok (.aload_n 0, 1) := by decide +kernel
theorem d_X8_init_104 : dec m_X8_init 104 = .ok (.sipush 501, 3) := by decide +kernel
theorem d_X8_init_107 : dec m_X8_init 107 = .ok (.newarray .int, 2) := by decide +kernel
theorem d_X8_init_109 : dec m_X8_init 109 = .ok (.putfield 68, 3) := by decide +kernel
theorem d_X8_init_112 : dec m_X8_init 112 = .ok (.aload_n 0, 1) := by decide +kernel
theorem d_X8_init_113 : dec m_X8_init 113 = .ok (.bipush 81, 2) := by decide +kernel
theorem d_X8_init_115 : dec m_X8_init 115 = .ok (.newarray .long, 2) := by decide +kernel
theorem d_X8_init_117 : dec m_X8_init 117 = .ok (.putfield 72, 3) := by decide +kernel
theorem d_X8_init_120 : dec m_X8_init 120 = .ok (.return_, 1) := by decide +kernel
theorem ol8 : Cond.methodLink "TradeHall" 3 Lib.objectInit ∈ zTB := zti 28 (by decide +kernel) (by decide +kernel)
theorem cl8_9 : Cond.classLink "TradeHall" 9 "TradeHall$Hall" ∈ zTB := zti 31 (by decide +kernel) (by decide +kernel)
theorem cI8_11 : zCI "TradeHall" 11 m_X1_init := ⟨⟨by decide +kernel, zti 35 (by decide +kernel) (by decide +kernel), zti 2 (by decide +kernel) (by decide +kernel), ⟨by decide +kernel, by decide +kernel⟩, by decide +kernel, Or.inr ⟨_, zni (w := .methodLinkNest "TradeHall" 11 yX1_init "TradeHall") 33 (by decide +kernel) (by decide +kernel)⟩⟩, zti 34 (by decide +kernel) (by decide +kernel), rfl, rfl⟩
theorem cl8_16 : Cond.classLink "TradeHall" 16 "TradeHall$Tape" ∈ zTB := zti 93 (by decide +kernel) (by decide +kernel)
theorem cI8_18 : zCI "TradeHall" 18 m_X7_init := ⟨⟨by decide +kernel, zti 97 (by decide +kernel) (by decide +kernel), zti 3 (by decide +kernel) (by decide +kernel), ⟨by decide +kernel, by decide +kernel⟩, by decide +kernel, Or.inr ⟨_, zni (w := .methodLinkNest "TradeHall" 18 yX7_init "TradeHall") 95 (by decide +kernel) (by decide +kernel)⟩⟩, zti 96 (by decide +kernel) (by decide +kernel), rfl, rfl⟩
theorem cl8_23 : Cond.classLink "TradeHall" 23 "TradeHall$History" ∈ zTB := zti 125 (by decide +kernel) (by decide +kernel)
theorem cI8_25 : zCI "TradeHall" 25 m_X2_init := ⟨⟨by decide +kernel, zti 129 (by decide +kernel) (by decide +kernel), zti 4 (by decide +kernel) (by decide +kernel), ⟨by decide +kernel, by decide +kernel⟩, by decide +kernel, Or.inl (zti 127 (by decide +kernel) (by decide +kernel))⟩, zti 128 (by decide +kernel) (by decide +kernel), rfl, rfl⟩
theorem cl8_30 : Cond.classLink "TradeHall" 30 "TradeHall$Shelves" ∈ zTB := zti 145 (by decide +kernel) (by decide +kernel)
theorem cI8_32 : zCI "TradeHall" 32 m_X6_init := ⟨⟨by decide +kernel, zti 149 (by decide +kernel) (by decide +kernel), zti 5 (by decide +kernel) (by decide +kernel), ⟨by decide +kernel, by decide +kernel⟩, by decide +kernel, Or.inl (zti 147 (by decide +kernel) (by decide +kernel))⟩, zti 148 (by decide +kernel) (by decide +kernel), rfl, rfl⟩
theorem cl8_37 : Cond.classLink "TradeHall" 37 "TradeHall$Letters" ∈ zTB := zti 161 (by decide +kernel) (by decide +kernel)
theorem cI8_39 : zCI "TradeHall" 39 m_X3_init := ⟨⟨by decide +kernel, zti 165 (by decide +kernel) (by decide +kernel), zti 6 (by decide +kernel) (by decide +kernel), ⟨by decide +kernel, by decide +kernel⟩, by decide +kernel, Or.inr ⟨_, zni (w := .methodLinkNest "TradeHall" 39 yX3_init "TradeHall") 163 (by decide +kernel) (by decide +kernel)⟩⟩, zti 164 (by decide +kernel) (by decide +kernel), rfl, rfl⟩
theorem cl8_44 : Cond.classLink "TradeHall" 44 "TradeHall$Book" ∈ zTB := zti 175 (by decide +kernel) (by decide +kernel)
theorem cI8_46 : zCI "TradeHall" 46 m_X0_init := ⟨⟨by decide +kernel, zti 179 (by decide +kernel) (by decide +kernel), zti 7 (by decide +kernel) (by decide +kernel), ⟨by decide +kernel, by decide +kernel⟩, by decide +kernel, Or.inr ⟨_, zni (w := .methodLinkNest "TradeHall" 46 yX0_init "TradeHall") 177 (by decide +kernel) (by decide +kernel)⟩⟩, zti 178 (by decide +kernel) (by decide +kernel), rfl, rfl⟩
theorem cl8_54 : Cond.classLink "TradeHall" 54 "TradeHall$Ranking" ∈ zTB := zti 218 (by decide +kernel) (by decide +kernel)
theorem cI8_56 : zCI "TradeHall" 56 m_X4_init := ⟨⟨by decide +kernel, zti 222 (by decide +kernel) (by decide +kernel), zti 8 (by decide +kernel) (by decide +kernel), ⟨by decide +kernel, by decide +kernel⟩, by decide +kernel, Or.inr ⟨_, zni (w := .methodLinkNest "TradeHall" 56 yX4_init "TradeHall") 220 (by decide +kernel) (by decide +kernel)⟩⟩, zti 221 (by decide +kernel) (by decide +kernel), rfl, rfl⟩
theorem cl8_61 : Cond.classLink "TradeHall" 61 "TradeHall$Serving" ∈ zTB := zti 233 (by decide +kernel) (by decide +kernel)
theorem cI8_63 : zCI "TradeHall" 63 m_X5_init := ⟨⟨by decide +kernel, zti 237 (by decide +kernel) (by decide +kernel), zti 9 (by decide +kernel) (by decide +kernel), ⟨by decide +kernel, by decide +kernel⟩, by decide +kernel, Or.inr ⟨_, zni (w := .methodLinkNest "TradeHall" 63 yX5_init "TradeHall") 235 (by decide +kernel) (by decide +kernel)⟩⟩, zti 236 (by decide +kernel) (by decide +kernel), rfl, rfl⟩
