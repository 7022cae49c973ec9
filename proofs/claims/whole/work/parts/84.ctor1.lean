/-! ===== objects made: facts ===== -/
set_option maxRecDepth 100000
theorem ac_int : Cond.arrayClass .int ∈ zTB := zti 88 (by decide +kernel) (by decide +kernel)
theorem ac_boolean : Cond.arrayClass .boolean ∈ zTB := zti 87 (by decide +kernel) (by decide +kernel)
theorem ac_byte : Cond.arrayClass .byte ∈ zTB := zti 470 (by decide +kernel) (by decide +kernel)
theorem ac_long : Cond.arrayClass .long ∈ zTB := zti 287 (by decide +kernel) (by decide +kernel)
theorem oi_ : Cond.instanceMethod Lib.objectInit ∈ zTB := zti 23 (by decide +kernel) (by decide +kernel)
theorem oc_ : Cond.code Lib.objectInit ⟨#[0xb1]⟩ 1 none ∈ zTB := zti 24 (by decide +kernel) (by decide +kernel)
theorem ic0 : Cond.instantiable RX0 11 ∈ zTB := zti 172 (by decide +kernel) (by decide +kernel)
theorem ini0 : Cond.initialized RX0 ∈ zTB := zti 7 (by decide +kernel) (by decide +kernel)
theorem nf0 : ∀ j, j < 11 → defaultValue (tyX0 j) = vp_V (nfs 0) j := fun j hj => match j, hj with
  | 0, _ => rfl
  | 1, _ => rfl
  | 2, _ => rfl
  | 3, _ => rfl
  | 4, _ => rfl
  | 5, _ => rfl
  | 6, _ => rfl
  | 7, _ => rfl
  | 8, _ => rfl
  | 9, _ => rfl
  | 10, _ => rfl
  | j + 11, h => absurd h (by omega)
theorem ic1 : Cond.instantiable RX1 13 ∈ zTB := zti 26 (by decide +kernel) (by decide +kernel)
theorem ini1 : Cond.initialized RX1 ∈ zTB := zti 2 (by decide +kernel) (by decide +kernel)
theorem nf1 : ∀ j, j < 13 → defaultValue (tyX1 j) = vp_V (nfs 1) j := fun j hj => match j, hj with
  | 0, _ => rfl
  | 1, _ => rfl
  | 2, _ => rfl
  | 3, _ => rfl
  | 4, _ => rfl
  | 5, _ => rfl
  | 6, _ => rfl
  | 7, _ => rfl
  | 8, _ => rfl
  | 9, _ => rfl
  | 10, _ => rfl
  | 11, _ => rfl
  | 12, _ => rfl
  | j + 13, h => absurd h (by omega)
theorem ic2 : Cond.instantiable RX2 3 ∈ zTB := zti 122 (by decide +kernel) (by decide +kernel)
theorem ini2 : Cond.initialized RX2 ∈ zTB := zti 4 (by decide +kernel) (by decide +kernel)
theorem nf2 : ∀ j, j < 3 → defaultValue (tyX2 j) = vp_V (nfs 2) j := fun j hj => match j, hj with
  | 0, _ => rfl
  | 1, _ => rfl
  | 2, _ => rfl
  | j + 3, h => absurd h (by omega)
theorem ic3 : Cond.instantiable RX3 2 ∈ zTB := zti 158 (by decide +kernel) (by decide +kernel)
theorem ini3 : Cond.initialized RX3 ∈ zTB := zti 6 (by decide +kernel) (by decide +kernel)
theorem nf3 : ∀ j, j < 2 → defaultValue (tyX3 j) = vp_V (nfs 3) j := fun j hj => match j, hj with
  | 0, _ => rfl
  | 1, _ => rfl
  | j + 2, h => absurd h (by omega)
theorem ic4 : Cond.instantiable RX4 3 ∈ zTB := zti 219 (by decide +kernel) (by decide +kernel)
theorem ini4 : Cond.initialized RX4 ∈ zTB := zti 8 (by decide +kernel) (by decide +kernel)
theorem nf4 : ∀ j, j < 3 → defaultValue (tyX4 j) = vp_V (nfs 4) j := fun j hj => match j, hj with
  | 0, _ => rfl
  | 1, _ => rfl
  | 2, _ => rfl
  | j + 3, h => absurd h (by omega)
theorem ic5 : Cond.instantiable RX5 3 ∈ zTB := zti 236 (by decide +kernel) (by decide +kernel)
theorem ini5 : Cond.initialized RX5 ∈ zTB := zti 9 (by decide +kernel) (by decide +kernel)
theorem nf5 : ∀ j, j < 3 → defaultValue (tyX5 j) = vp_V (nfs 5) j := fun j hj => match j, hj with
  | 0, _ => rfl
  | 1, _ => rfl
  | 2, _ => rfl
  | j + 3, h => absurd h (by omega)
theorem ic6 : Cond.instantiable RX6 2 ∈ zTB := zti 142 (by decide +kernel) (by decide +kernel)
theorem ini6 : Cond.initialized RX6 ∈ zTB := zti 5 (by decide +kernel) (by decide +kernel)
theorem nf6 : ∀ j, j < 2 → defaultValue (tyX6 j) = vp_V (nfs 6) j := fun j hj => match j, hj with
  | 0, _ => rfl
  | 1, _ => rfl
  | j + 2, h => absurd h (by omega)
theorem ic7 : Cond.instantiable RX7 7 ∈ zTB := zti 90 (by decide +kernel) (by decide +kernel)
theorem ini7 : Cond.initialized RX7 ∈ zTB := zti 3 (by decide +kernel) (by decide +kernel)
theorem nf7 : ∀ j, j < 7 → defaultValue (tyX7 j) = vp_V (nfs 7) j := fun j hj => match j, hj with
  | 0, _ => rfl
  | 1, _ => rfl
  | 2, _ => rfl
  | 3, _ => rfl
  | 4, _ => rfl
  | 5, _ => rfl
  | 6, _ => rfl
  | j + 7, h => absurd h (by omega)
theorem ic8 : Cond.instantiable RX8 11 ∈ zTB := zti 18 (by decide +kernel) (by decide +kernel)
theorem ini8 : Cond.initialized RX8 ∈ zTB := zti 1 (by decide +kernel) (by decide +kernel)
theorem nf8 : ∀ j, j < 11 → defaultValue (tyX8 j) = vp_V (nfs 8) j := fun j hj => match j, hj with
  | 0, _ => rfl
  | 1, _ => rfl
  | 2, _ => rfl
  | 3, _ => rfl
  | 4, _ => rfl
  | 5, _ => rfl
  | 6, _ => rfl
  | 7, _ => rfl
  | 8, _ => rfl
  | 9, _ => rfl
  | 10, _ => rfl
  | j + 11, h => absurd h (by omega)
theorem ic9 : Cond.instantiable RX9 44 ∈ zTB := zti 1040 (by decide +kernel) (by decide +kernel)
theorem ini9 : Cond.initialized RX9 ∈ zTB := zti 10 (by decide +kernel) (by decide +kernel)
theorem nf9 : ∀ j, j < 44 → defaultValue (tyX9 j) = vp_V (nfs 9) j := fun j hj => match j, hj with
  | 0, _ => rfl
  | 1, _ => rfl
  | 2, _ => rfl
  | 3, _ => rfl
  | 4, _ => rfl
  | 5, _ => rfl
  | 6, _ => rfl
  | 7, _ => rfl
  | 8, _ => rfl
  | 9, _ => rfl
  | 10, _ => rfl
  | 11, _ => rfl
  | 12, _ => rfl
  | 13, _ => rfl
  | 14, _ => rfl
  | 15, _ => rfl
  | 16, _ => rfl
  | 17, _ => rfl
  | 18, _ => rfl
  | 19, _ => rfl
  | 20, _ => rfl
  | 21, _ => rfl
  | 22, _ => rfl
  | 23, _ => rfl
  | 24, _ => rfl
  | 25, _ => rfl
  | 26, _ => rfl
  | 27, _ => rfl
  | 28, _ => rfl
  | 29, _ => rfl
  | 30, _ => rfl
  | 31, _ => rfl
  | 32, _ => rfl
  | 33, _ => rfl
  | 34, _ => rfl
  | 35, _ => rfl
  | 36, _ => rfl
  | 37, _ => rfl
  | 38, _ => rfl
  | 39, _ => rfl
  | 40, _ => rfl
  | 41, _ => rfl
  | 42, _ => rfl
  | 43, _ => rfl
  | j + 44, h => absurd h (by omega)
theorem d_X0_init_0 : dec m_X0_init 0 = .ok (.aload_n 0, 1) := by decide +kernel
theorem d_X0_init_1 : dec m_X0_init 1 = .ok (.invokespecial 3, 3) := by decide +kernel
theorem d_X0_init_4 : dec m_X0_init 4 = .ok (.aload_n 0, 1) := by decide +kernel
theorem d_X0_init_5 : dec m_X0_init 5 = .ok (.bipush 80, 2) := by decide +kernel
theorem d_X0_init_7 : dec m_X0_init 7 = .ok (.newarray .int, 2) := by decide +kernel
theorem d_X0_init_9 : dec m_X0_init 9 = .ok (.putfield 9, 3) := by decide +kernel
theorem d_X0_init_12 : dec m_X0_init 12 = .ok (.aload_n 0, 1) := by decide +kernel
theorem d_X0_init_13 : dec m_X0_init 13 = .ok (.bipush 80, 2) := by decide +kernel
theorem d_X0_init_15 : dec m_X0_init 15 = .ok (.newarray .int, 2) := by decide +kernel
theorem d_X0_init_17 : dec m_X0_init 17 = .ok (.putfield 15, 3) := by decide +kernel
theorem d_X0_init_20 : dec m_X0_init 20 = .ok (.return_, 1) := by decide +kernel
theorem ol0 : Cond.methodLink "TradeHall$Book" 3 Lib.objectInit ∈ zTB := zti 176 (by decide +kernel) (by decide +kernel)
theorem d_X1_init_0 : dec m_X1_init 0 = .ok (.aload_n 0, 1) := by decide +kernel
theorem d_X1_init_1 : dec m_X1_init 1 = .ok (.invokespecial 3, 3) := by decide +kernel
theorem d_X1_init_4 : dec m_X1_init 4 = .ok (.aload_n 0, 1) := by decide +kernel
theorem d_X1_init_5 : dec m_X1_init 5 = .ok (.bipush 20, 2) := by decide +kernel
theorem d_X1_init_7 : dec m_X1_init 7 = .ok (.newarray .boolean, 2) := by decide +kernel
theorem d_X1_init_9 : dec m_X1_init 9 = .ok (.putfield 9, 3) := by decide +kernel
theorem d_X1_init_12 : dec m_X1_init 12 = .ok (.aload_n 0, 1) := by decide +kernel
theorem d_X1_init_13 : dec m_X1_init 13 = .ok (.bipush 20, 2) := by decide +kernel
theorem d_X1_init_15 : dec m_X1_init 15 = .ok (.newarray .int, 2) := by decide +kernel
theorem d_X1_init_17 : dec m_X1_init 17 = .ok (.putfield 15, 3) := by decide +kernel
theorem d_X1_init_20 : dec m_X1_init 20 = .ok (.aload_n 0, 1) := by decide +kernel
theorem d_X1_init_21 : dec m_X1_init 21 = .ok (.bipush 20, 2) := by decide +kernel
theorem d_X1_init_23 : dec m_X1_init 23 = .ok (.newarray .int, 2) := by decide +kernel
theorem d_X1_init_25 : dec m_X1_init 25 = .ok (.putfield 19, 3) := by decide +kernel
theorem d_X1_init_28 : dec m_X1_init 28 = .ok (.aload_n 0, 1) := by decide +kernel
theorem d_X1_init_29 : dec m_X1_init 29 = .ok (.bipush 80, 2) := by decide +kernel
theorem d_X1_init_31 : dec m_X1_init 31 = .ok (.newarray .int, 2) := by decide +kernel
theorem d_X1_init_33 : dec m_X1_init 33 = .ok (.putfield 22, 3) := by decide +kernel
theorem d_X1_init_36 : dec m_X1_init 36 = .ok (.aload_n 0, 1) := by decide +kernel
theorem d_X1_init_37 : dec m_X1_init 37 = .ok (.bipush 20, 2) := by decide +kernel
theorem d_X1_init_39 : dec m_X1_init 39 = .ok (.newarray .int, 2) := by decide +kernel
theorem d_X1_init_41 : dec m_X1_init 41 = .ok (.putfield 25, 3) := by decide +kernel
theorem d_X1_init_44 : dec m_X1_init 44 = .ok (.aload_n 0, 1) := by decide +kernel
theorem d_X1_init_45 : dec m_X1_init 45 = .ok (.bipush 20, 2) := by decide +kernel
theorem d_X1_init_47 : dec m_X1_init 47 = .ok (.newarray .int, 2) := by decide +kernel
theorem d_X1_init_49 : dec m_X1_init 49 = .ok (.putfield 28, 3) := by decide +kernel
theorem d_X1_init_52 : dec m_X1_init 52 = .ok (.return_, 1) := by decide +kernel
theorem ol1 : Cond.methodLink "TradeHall$Hall" 3 Lib.objectInit ∈ zTB := zti 30 (by decide +kernel) (by decide +kernel)
theorem d_X2_init_0 : dec m_X2_init 0 = .ok (.aload_n 0, 1) := by decide +kernel
theorem d_X2_init_1 : dec m_X2_init 1 = .ok (.invokespecial 3, 3) := by decide +kernel
theorem d_X2_init_4 : dec m_X2_init 4 = .ok (.aload_n 0, 1) := by decide +kernel
theorem d_X2_init_5 : dec m_X2_init 5 = .ok (.bipush 10, 2) := by decide +kernel
theorem d_X2_init_7 : dec m_X2_init 7 = .ok (.anewarray 9, 3) := by decide +kernel
theorem d_X2_init_10 : dec m_X2_init 10 = .ok (.putfield 11, 3) := by decide +kernel
theorem d_X2_init_13 : dec m_X2_init 13 = .ok (.iconst 0, 1) := by decide +kernel
theorem d_X2_init_14 : dec m_X2_init 14 = .ok (.istore_n 1, 1) := by decide +kernel
theorem d_X2_init_15 : dec m_X2_init 15 = .ok (.iload_n 1, 1) := by decide +kernel
theorem d_X2_init_16 : dec m_X2_init 16 = .ok (.bipush 10, 2) := by decide +kernel
theorem d_X2_init_18 : dec m_X2_init 18 = .ok (.if_icmp .ge 22, 3) := by decide +kernel
theorem d_X2_init_21 : dec m_X2_init 21 = .ok (.aload_n 0, 1) := by decide +kernel
theorem d_X2_init_22 : dec m_X2_init 22 = .ok (.getfield 11, 3) := by decide +kernel
theorem d_X2_init_25 : dec m_X2_init 25 = .ok (.iload_n 1, 1) := by decide +kernel
theorem d_X2_init_26 : dec m_X2_init 26 = .ok (.new 9, 3) := by decide +kernel
theorem d_X2_init_29 : dec m_X2_init 29 = .ok (.dup, 1) := by decide +kernel
theorem d_X2_init_30 : dec m_X2_init 30 = .ok (.invokespecial 17, 3) := by decide +kernel
theorem d_X2_init_33 : dec m_X2_init 33 = .ok (.aastore, 1) := by decide +kernel
theorem d_X2_init_34 : dec m_X2_init 34 = .ok (.iinc 1 1, 3) := by decide +kernel
theorem d_X2_init_37 : dec m_X2_init 37 = .ok (.goto (-22), 3) := by decide +kernel
theorem d_X2_init_40 : dec m_X2_init 40 = .ok (.return_, 1) := by decide +kernel
theorem ol2 : Cond.methodLink "TradeHall$History" 3 Lib.objectInit ∈ zTB := zti 126 (by decide +kernel) (by decide +kernel)
theorem cl2_9 : Cond.classLink "TradeHall$History" 9 "TradeHall$Hall" ∈ zTB := zti 127 (by decide +kernel) (by decide +kernel)
theorem cI2_17 : zCI "TradeHall$History" 17 m_X1_init := ⟨⟨by decide +kernel, zti 29 (by decide +kernel) (by decide +kernel), zti 2 (by decide +kernel) (by decide +kernel), ⟨by decide +kernel, by decide +kernel⟩, by decide +kernel, Or.inr ⟨_, zni (w := .methodLinkNest "TradeHall$History" 17 yX1_init "TradeHall") 129 (by decide +kernel) (by decide +kernel)⟩⟩, zti 28 (by decide +kernel) (by decide +kernel), rfl, rfl⟩
theorem d_X3_init_0 : dec m_X3_init 0 = .ok (.aload_n 0, 1) := by decide +kernel
theorem d_X3_init_1 : dec m_X3_init 1 = .ok (.invokespecial 3, 3) := by decide +kernel
theorem d_X3_init_4 : dec m_X3_init 4 = .ok (.aload_n 0, 1) := by decide +kernel
theorem d_X3_init_5 : dec m_X3_init 5 = .ok (.sipush 640, 3) := by decide +kernel
theorem d_X3_init_8 : dec m_X3_init 8 = .ok (.newarray .int, 2) := by decide +kernel
theorem d_X3_init_10 : dec m_X3_init 10 = .ok (.putfield 9, 3) := by decide +kernel
theorem d_X3_init_13 : dec m_X3_init 13 = .ok (.return_, 1) := by decide +kernel
theorem ol3 : Cond.methodLink "TradeHall$Letters" 3 Lib.objectInit ∈ zTB := zti 162 (by decide +kernel) (by decide +kernel)
theorem d_X4_init_0 : dec m_X4_init 0 = .ok (.aload_n 0, 1) := by decide +kernel
theorem d_X4_init_1 : dec m_X4_init 1 = .ok (.invokespecial 3, 3) := by decide +kernel
theorem d_X4_init_4 : dec m_X4_init 4 = .ok (.aload_n 0, 1) := by decide +kernel
theorem d_X4_init_5 : dec m_X4_init 5 = .ok (.bipush 20, 2) := by decide +kernel
theorem d_X4_init_7 : dec m_X4_init 7 = .ok (.newarray .int, 2) := by decide +kernel
theorem d_X4_init_9 : dec m_X4_init 9 = .ok (.putfield 9, 3) := by decide +kernel
theorem d_X4_init_12 : dec m_X4_init 12 = .ok (.aload_n 0, 1) := by decide +kernel
theorem d_X4_init_13 : dec m_X4_init 13 = .ok (.bipush 20, 2) := by decide +kernel
theorem d_X4_init_15 : dec m_X4_init 15 = .ok (.newarray .int, 2) := by decide +kernel
theorem d_X4_init_17 : dec m_X4_init 17 = .ok (.putfield 15, 3) := by decide +kernel
theorem d_X4_init_20 : dec m_X4_init 20 = .ok (.return_, 1) := by decide +kernel
theorem ol4 : Cond.methodLink "TradeHall$Ranking" 3 Lib.objectInit ∈ zTB := zti 223 (by decide +kernel) (by decide +kernel)
theorem d_X5_init_0 : dec m_X5_init 0 = .ok (.aload_n 0, 1) := by decide +kernel
theorem d_X5_init_1 : dec m_X5_init 1 = .ok (.invokespecial 3, 3) := by decide +kernel
theorem d_X5_init_4 : dec m_X5_init 4 = .ok (.aload_n 0, 1) := by decide +kernel
theorem d_X5_init_5 : dec m_X5_init 5 = .ok (.bipush 81, 2) := by decide +kernel
theorem d_X5_init_7 : dec m_X5_init 7 = .ok (.newarray .int, 2) := by decide +kernel
theorem d_X5_init_9 : dec m_X5_init 9 = .ok (.putfield 9, 3) := by decide +kernel
theorem d_X5_init_12 : dec m_X5_init 12 = .ok (.return_, 1) := by decide +kernel
theorem ol5 : Cond.methodLink "TradeHall$Serving" 3 Lib.objectInit ∈ zTB := zti 240 (by decide +kernel) (by decide +kernel)
theorem d_X6_init_0 : dec m_X6_init 0 = .ok (.aload_n 0, 1) := by decide +kernel
theorem d_X6_init_1 : dec m_X6_init 1 = .ok (.invokespecial 3, 3) := by decide +kernel
theorem d_X6_init_4 : dec m_X6_init 4 = .ok (.aload_n 0, 1) := by decide +kernel
theorem d_X6_init_5 : dec m_X6_init 5 = .ok (.iconst 2, 1) := by decide +kernel
theorem d_X6_init_6 : dec m_X6_init 6 = .ok (.anewarray 9, 3) := by decide +kernel
theorem d_X6_init_9 : dec m_X6_init 9 = .ok (.putfield 11, 3) := by decide +kernel
theorem d_X6_init_12 : dec m_X6_init 12 = .ok (.iconst 0, 1) := by decide +kernel
theorem d_X6_init_13 : dec m_X6_init 13 = .ok (.istore_n 1, 1) := by decide +kernel
theorem d_X6_init_14 : dec m_X6_init 14 = .ok (.iload_n 1, 1) := by decide +kernel
theorem d_X6_init_15 : dec m_X6_init 15 = .ok (.iconst 2, 1) := by decide +kernel
theorem d_X6_init_16 : dec m_X6_init 16 = .ok (.if_icmp .ge 22, 3) := by decide +kernel
theorem d_X6_init_19 : dec m_X6_init 19 = .ok (.aload_n 0, 1) := by decide +kernel
theorem d_X6_init_20 : dec m_X6_init 20 = .ok (.getfield 11, 3) := by decide +kernel
theorem d_X6_init_23 : dec m_X6_init 23 = .ok (.iload_n 1, 1) := by decide +kernel
theorem d_X6_init_24 : dec m_X6_init 24 = .ok (.new 9, 3) := by decide +kernel
theorem d_X6_init_27 : dec m_X6_init 27 = .ok (.dup, 1) := by decide +kernel
theorem d_X6_init_28 : dec m_X6_init 28 = .ok (.invokespecial 17, 3) := by decide +kernel
theorem d_X6_init_31 : dec m_X6_init 31 = .ok (.aastore, 1) := by decide +kernel
theorem d_X6_init_32 : dec m_X6_init 32 = .ok (.iinc 1 1, 3) := by decide +kernel
theorem d_X6_init_35 : dec m_X6_init 35 = .ok (.goto (-21), 3) := by decide +kernel
theorem d_X6_init_38 : dec m_X6_init 38 = .ok (.return_, 1) := by decide +kernel
theorem ol6 : Cond.methodLink "TradeHall$Shelves" 3 Lib.objectInit ∈ zTB := zti 146 (by decide +kernel) (by decide +kernel)
theorem cl6_9 : Cond.classLink "TradeHall$Shelves" 9 "TradeHall$Hall" ∈ zTB := zti 147 (by decide +kernel) (by decide +kernel)
theorem cI6_17 : zCI "TradeHall$Shelves" 17 m_X1_init := ⟨⟨by decide +kernel, zti 29 (by decide +kernel) (by decide +kernel), zti 2 (by decide +kernel) (by decide +kernel), ⟨by decide +kernel, by decide +kernel⟩, by decide +kernel, Or.inr ⟨_, zni (w := .methodLinkNest "TradeHall$Shelves" 17 yX1_init "TradeHall") 148 (by decide +kernel) (by decide +kernel)⟩⟩, zti 28 (by decide +kernel) (by decide +kernel), rfl, rfl⟩
theorem d_X7_init_0 : dec m_X7_init 0 = .ok (.aload_n 0, 1) := by decide +kernel
theorem d_X7_init_1 : dec m_X7_init 1 = .ok (.invokespecial 3, 3) := by decide +kernel
theorem d_X7_init_4 : dec m_X7_init 4 = .ok (.aload_n 0, 1) := by decide +kernel
theorem d_X7_init_5 : dec m_X7_init 5 = .ok (.sipush 400, 3) := by decide +kernel
theorem d_X7_init_8 : dec m_X7_init 8 = .ok (.newarray .int, 2) := by decide +kernel
theorem d_X7_init_10 : dec m_X7_init 10 = .ok (.putfield 9, 3) := by decide +kernel
theorem d_X7_init_13 : dec m_X7_init 13 = .ok (.aload_n 0, 1) := by decide +kernel
theorem d_X7_init_14 : dec m_X7_init 14 = .ok (.new 15, 3) := by decide +kernel
theorem d_X7_init_17 : dec m_X7_init 17 = .ok (.dup, 1) := by decide +kernel
theorem d_X7_init_18 : dec m_X7_init 18 = .ok (.invokespecial 17, 3) := by decide +kernel
theorem d_X7_init_21 : dec m_X7_init 21 = .ok (.putfield 18, 3) := by decide +kernel
theorem d_X7_init_24 : dec m_X7_init 24 = .ok (.return_, 1) := by decide +kernel
theorem ol7 : Cond.methodLink "TradeHall$Tape" 3 Lib.objectInit ∈ zTB := zti 94 (by decide +kernel) (by decide +kernel)
theorem cl7_15 : Cond.classLink "TradeHall$Tape" 15 "TradeHall$Hall" ∈ zTB := zti 95 (by decide +kernel) (by decide +kernel)
theorem cI7_17 : zCI "TradeHall$Tape" 17 m_X1_init := ⟨⟨by decide +kernel, zti 29 (by decide +kernel) (by decide +kernel), zti 2 (by decide +kernel) (by decide +kernel), ⟨by decide +kernel, by decide +kernel⟩, by decide +kernel, Or.inr ⟨_, zni (w := .methodLinkNest "TradeHall$Tape" 17 yX1_init "TradeHall") 96 (by decide +kernel) (by decide +kernel)⟩⟩, zti 28 (by decide +kernel) (by decide +kernel), rfl, rfl⟩
theorem d_X8_init_0 : dec m_X8_init 0 = .ok (.aload_n 0, 1) := by decide +kernel
theorem d_X8_init_1 : dec m_X8_init 1 = .ok (.invokespecial 3, 3) := by decide +kernel
theorem d_X8_init_4 : dec m_X8_init 4 = .ok (.aload_n 0, 1) := by decide +kernel
theorem d_X8_init_5 : dec m_X8_init 5 = .ok (.new 9, 3) := by decide +kernel
theorem d_X8_init_8 : dec m_X8_init 8 = .ok (.dup, 1) := by decide +kernel
theorem d_X8_init_9 : dec m_X8_init 9 = .ok (.invokespecial 11, 3) := by decide +kernel
theorem d_X8_init_12 : dec m_X8_init 12 = .ok (.putfield 12, 3) := by decide +kernel
theorem d_X8_init_15 : dec m_X8_init 15 = .ok (.aload_n 0, 1) := by decide +kernel
theorem d_X8_init_16 : dec m_X8_init 16 = .ok (.new 16, 3) := by decide +kernel
theorem d_X8_init_19 : dec m_X8_init 19 = .ok (.dup, 1) := by decide +kernel
theorem d_X8_init_20 : dec m_X8_init 20 = .ok (.invokespecial 18, 3) := by decide +kernel
theorem d_X8_init_23 : dec m_X8_init 23 = .ok (.putfield 19, 3) := by decide +kernel
theorem d_X8_init_26 : dec m_X8_init 26 = .ok (.aload_n 0, 1) := by decide +kernel
theorem d_X8_init_27 : dec m_X8_init 27 = .ok (.new 23, 3) := by decide +kernel
theorem d_X8_init_30 : dec m_X8_init 30 = .ok (.dup, 1) := by decide +kernel
theorem d_X8_init_31 : dec m_X8_init 31 = .ok (.invokespecial 25, 3) := by decide +kernel
theorem d_X8_init_34 : dec m_X8_init 34 = .ok (.putfield 26, 3) := by decide +kernel
theorem d_X8_init_37 : dec m_X8_init 37 = .ok (.aload_n 0, 1) := by decide +kernel
theorem d_X8_init_38 : dec m_X8_init 38 = .ok (.new 30, 3) := by decide +kernel
theorem d_X8_init_41 : dec m_X8_init 41 = .ok (.dup, 1) := by decide +kernel
theorem d_X8_init_42 : dec m_X8_init 42 = .ok (.invokespecial 32, 3) := by decide +kernel
theorem d_X8_init_45 : dec m_X8_init 45 = .ok (.putfield 33, 3) := by decide +kernel
theorem d_X8_init_48 : dec m_X8_init 48 = .ok (.aload_n 0, 1) := by decide +kernel
theorem d_X8_init_49 : dec m_X8_init 49 = .ok (.new 37, 3) := by decide +kernel
theorem d_X8_init_52 : dec m_X8_init 52 = .ok (.dup, 1) := by decide +kernel
theorem d_X8_init_53 : dec m_X8_init 53 = .ok (.invokespecial 39, 3) := by decide +kernel
theorem d_X8_init_56 : dec m_X8_init 56 = .ok (.putfield 40, 3) := by decide +kernel
theorem d_X8_init_59 : dec m_X8_init 59 = .ok (.aload_n 0, 1) := by decide +kernel
theorem d_X8_init_60 : dec m_X8_init 60 = .ok (.new 44, 3) := by decide +kernel
theorem d_X8_init_63 : dec m_X8_init 63 = .ok (.dup, 1) := by decide +kernel
theorem d_X8_init_64 : dec m_X8_init 64 = .ok (.invokespecial 46, 3) := by decide +kernel
theorem d_X8_init_67 : dec m_X8_init 67 = .ok (.putfield 47, 3) := by decide +kernel
theorem d_X8_init_70 : dec m_X8_init 70 = .ok (.aload_n 0, 1) := by decide +kernel
theorem d_X8_init_71 : dec m_X8_init 71 = .ok (.new 44, 3) := by decide +kernel
theorem d_X8_init_74 : dec m_X8_init 74 = .ok (.dup, 1) := by decide +kernel
theorem d_X8_init_75 : dec m_X8_init 75 = .ok (.invokespecial 46, 3) := by decide +kernel
theorem d_X8_init_78 : dec m_X8_init 78 = .ok (.putfield 51, 3) := by decide +kernel
theorem d_X8_init_81 : dec m_X8_init 81 = .ok (.aload_n 0, 1) := by decide +kernel
theorem d_X8_init_82 : dec m_X8_init 82 = .ok (.new 54, 3) := by decide +kernel
theorem d_X8_init_85 : dec m_X8_init 85 = .ok (.dup, 1) := by decide +kernel
theorem d_X8_init_86 : dec m_X8_init 86 = .ok (.invokespecial 56, 3) := by decide +kernel
theorem d_X8_init_89 : dec m_X8_init 89 = .ok (.putfield 57, 3) := by decide +kernel
theorem d_X8_init_92 : dec m_X8_init 92 = .ok (.aload_n 0, 1) := by decide +kernel
theorem d_X8_init_93 : dec m_X8_init 93 = .ok (.new 61, 3) := by decide +kernel
theorem d_X8_init_96 : dec m_X8_init 96 = .ok (.dup, 1) := by decide +kernel
theorem d_X8_init_97 : dec m_X8_init 97 = .ok (.invokespecial 63, 3) := by decide +kernel
theorem d_X8_init_100 : dec m_X8_init 100 = .ok (.putfield 64, 3) := by decide +kernel
theorem d_X8_init_103 : dec m_X8_init 103 = .ok (.aload_n 0, 1) := by decide +kernel
theorem d_X8_init_104 : dec m_X8_init 104 = .ok (.sipush 501, 3) := by decide +kernel
theorem d_X8_init_107 : dec m_X8_init 107 = .ok (.newarray .int, 2) := by decide +kernel
theorem d_X8_init_109 : dec m_X8_init 109 = .ok (.putfield 68, 3) := by decide +kernel
theorem d_X8_init_112 : dec m_X8_init 112 = .ok (.aload_n 0, 1) := by decide +kernel
theorem d_X8_init_113 : dec m_X8_init 113 = .ok (.bipush 81, 2) := by decide +kernel
theorem d_X8_init_115 : dec m_X8_init 115 = .ok (.newarray .long, 2) := by decide +kernel
theorem d_X8_init_117 : dec m_X8_init 117 = .ok (.putfield 72, 3) := by decide +kernel
theorem d_X8_init_120 : dec m_X8_init 120 = .ok (.return_, 1) := by decide +kernel
theorem ol8 : Cond.methodLink "TradeHall" 3 Lib.objectInit ∈ zTB := zti 22 (by decide +kernel) (by decide +kernel)
theorem cl8_9 : Cond.classLink "TradeHall" 9 "TradeHall$Hall" ∈ zTB := zti 25 (by decide +kernel) (by decide +kernel)
theorem cI8_11 : zCI "TradeHall" 11 m_X1_init := ⟨⟨by decide +kernel, zti 29 (by decide +kernel) (by decide +kernel), zti 2 (by decide +kernel) (by decide +kernel), ⟨by decide +kernel, by decide +kernel⟩, by decide +kernel, Or.inr ⟨_, zni (w := .methodLinkNest "TradeHall" 11 yX1_init "TradeHall") 27 (by decide +kernel) (by decide +kernel)⟩⟩, zti 28 (by decide +kernel) (by decide +kernel), rfl, rfl⟩
theorem cl8_16 : Cond.classLink "TradeHall" 16 "TradeHall$Tape" ∈ zTB := zti 89 (by decide +kernel) (by decide +kernel)
theorem cI8_18 : zCI "TradeHall" 18 m_X7_init := ⟨⟨by decide +kernel, zti 93 (by decide +kernel) (by decide +kernel), zti 3 (by decide +kernel) (by decide +kernel), ⟨by decide +kernel, by decide +kernel⟩, by decide +kernel, Or.inr ⟨_, zni (w := .methodLinkNest "TradeHall" 18 yX7_init "TradeHall") 91 (by decide +kernel) (by decide +kernel)⟩⟩, zti 92 (by decide +kernel) (by decide +kernel), rfl, rfl⟩
theorem cl8_23 : Cond.classLink "TradeHall" 23 "TradeHall$History" ∈ zTB := zti 121 (by decide +kernel) (by decide +kernel)
theorem cI8_25 : zCI "TradeHall" 25 m_X2_init := ⟨⟨by decide +kernel, zti 125 (by decide +kernel) (by decide +kernel), zti 4 (by decide +kernel) (by decide +kernel), ⟨by decide +kernel, by decide +kernel⟩, by decide +kernel, Or.inl (zti 123 (by decide +kernel) (by decide +kernel))⟩, zti 124 (by decide +kernel) (by decide +kernel), rfl, rfl⟩
theorem cl8_30 : Cond.classLink "TradeHall" 30 "TradeHall$Shelves" ∈ zTB := zti 141 (by decide +kernel) (by decide +kernel)
theorem cI8_32 : zCI "TradeHall" 32 m_X6_init := ⟨⟨by decide +kernel, zti 145 (by decide +kernel) (by decide +kernel), zti 5 (by decide +kernel) (by decide +kernel), ⟨by decide +kernel, by decide +kernel⟩, by decide +kernel, Or.inl (zti 143 (by decide +kernel) (by decide +kernel))⟩, zti 144 (by decide +kernel) (by decide +kernel), rfl, rfl⟩
theorem cl8_37 : Cond.classLink "TradeHall" 37 "TradeHall$Letters" ∈ zTB := zti 157 (by decide +kernel) (by decide +kernel)
theorem cI8_39 : zCI "TradeHall" 39 m_X3_init := ⟨⟨by decide +kernel, zti 161 (by decide +kernel) (by decide +kernel), zti 6 (by decide +kernel) (by decide +kernel), ⟨by decide +kernel, by decide +kernel⟩, by decide +kernel, Or.inr ⟨_, zni (w := .methodLinkNest "TradeHall" 39 yX3_init "TradeHall") 159 (by decide +kernel) (by decide +kernel)⟩⟩, zti 160 (by decide +kernel) (by decide +kernel), rfl, rfl⟩
theorem cl8_44 : Cond.classLink "TradeHall" 44 "TradeHall$Book" ∈ zTB := zti 171 (by decide +kernel) (by decide +kernel)
theorem cI8_46 : zCI "TradeHall" 46 m_X0_init := ⟨⟨by decide +kernel, zti 175 (by decide +kernel) (by decide +kernel), zti 7 (by decide +kernel) (by decide +kernel), ⟨by decide +kernel, by decide +kernel⟩, by decide +kernel, Or.inr ⟨_, zni (w := .methodLinkNest "TradeHall" 46 yX0_init "TradeHall") 173 (by decide +kernel) (by decide +kernel)⟩⟩, zti 174 (by decide +kernel) (by decide +kernel), rfl, rfl⟩
theorem cl8_54 : Cond.classLink "TradeHall" 54 "TradeHall$Ranking" ∈ zTB := zti 218 (by decide +kernel) (by decide +kernel)
theorem cI8_56 : zCI "TradeHall" 56 m_X4_init := ⟨⟨by decide +kernel, zti 222 (by decide +kernel) (by decide +kernel), zti 8 (by decide +kernel) (by decide +kernel), ⟨by decide +kernel, by decide +kernel⟩, by decide +kernel, Or.inr ⟨_, zni (w := .methodLinkNest "TradeHall" 56 yX4_init "TradeHall") 220 (by decide +kernel) (by decide +kernel)⟩⟩, zti 221 (by decide +kernel) (by decide +kernel), rfl, rfl⟩
theorem cl8_61 : Cond.classLink "TradeHall" 61 "TradeHall$Serving" ∈ zTB := zti 235 (by decide +kernel) (by decide +kernel)
theorem cI8_63 : zCI "TradeHall" 63 m_X5_init := ⟨⟨by decide +kernel, zti 239 (by decide +kernel) (by decide +kernel), zti 9 (by decide +kernel) (by decide +kernel), ⟨by decide +kernel, by decide +kernel⟩, by decide +kernel, Or.inr ⟨_, zni (w := .methodLinkNest "TradeHall" 63 yX5_init "TradeHall") 237 (by decide +kernel) (by decide +kernel)⟩⟩, zti 238 (by decide +kernel) (by decide +kernel), rfl, rfl⟩
theorem d_X9_init_0 : dec m_X9_init 0 = .ok (.aload_n 0, 1) := by decide +kernel
theorem d_X9_init_1 : dec m_X9_init 1 = .ok (.invokespecial 1, 3) := by decide +kernel
theorem d_X9_init_4 : dec m_X9_init 4 = .ok (.aload_n 0, 1) := by decide +kernel
theorem d_X9_init_5 : dec m_X9_init 5 = .ok (.sipush 187, 3) := by decide +kernel
theorem d_X9_init_8 : dec m_X9_init 8 = .ok (.newarray .int, 2) := by decide +kernel
theorem d_X9_init_10 : dec m_X9_init 10 = .ok (.putfield 7, 3) := by decide +kernel
theorem d_X9_init_13 : dec m_X9_init 13 = .ok (.aload_n 0, 1) := by decide +kernel
theorem d_X9_init_14 : dec m_X9_init 14 = .ok (.sipush 1870, 3) := by decide +kernel
theorem d_X9_init_17 : dec m_X9_init 17 = .ok (.newarray .int, 2) := by decide +kernel
theorem d_X9_init_19 : dec m_X9_init 19 = .ok (.putfield 13, 3) := by decide +kernel
theorem d_X9_init_22 : dec m_X9_init 22 = .ok (.aload_n 0, 1) := by decide +kernel
theorem d_X9_init_23 : dec m_X9_init 23 = .ok (.sipush 374, 3) := by decide +kernel
theorem d_X9_init_26 : dec m_X9_init 26 = .ok (.newarray .int, 2) := by decide +kernel
theorem d_X9_init_28 : dec m_X9_init 28 = .ok (.putfield 16, 3) := by decide +kernel
theorem d_X9_init_31 : dec m_X9_init 31 = .ok (.aload_n 0, 1) := by decide +kernel
theorem d_X9_init_32 : dec m_X9_init 32 = .ok (.iconst 2, 1) := by decide +kernel
theorem d_X9_init_33 : dec m_X9_init 33 = .ok (.newarray .boolean, 2) := by decide +kernel
theorem d_X9_init_35 : dec m_X9_init 35 = .ok (.putfield 19, 3) := by decide +kernel
theorem d_X9_init_38 : dec m_X9_init 38 = .ok (.aload_n 0, 1) := by decide +kernel
theorem d_X9_init_39 : dec m_X9_init 39 = .ok (.bipush 80, 2) := by decide +kernel
theorem d_X9_init_41 : dec m_X9_init 41 = .ok (.newarray .int, 2) := by decide +kernel
theorem d_X9_init_43 : dec m_X9_init 43 = .ok (.putfield 23, 3) := by decide +kernel
theorem d_X9_init_46 : dec m_X9_init 46 = .ok (.aload_n 0, 1) := by decide +kernel
theorem d_X9_init_47 : dec m_X9_init 47 = .ok (.bipush 80, 2) := by decide +kernel
theorem d_X9_init_49 : dec m_X9_init 49 = .ok (.newarray .int, 2) := by decide +kernel
theorem d_X9_init_51 : dec m_X9_init 51 = .ok (.putfield 26, 3) := by decide +kernel
theorem d_X9_init_54 : dec m_X9_init 54 = .ok (.aload_n 0, 1) := by decide +kernel
theorem d_X9_init_55 : dec m_X9_init 55 = .ok (.bipush 80, 2) := by decide +kernel
theorem d_X9_init_57 : dec m_X9_init 57 = .ok (.newarray .int, 2) := by decide +kernel
theorem d_X9_init_59 : dec m_X9_init 59 = .ok (.putfield 29, 3) := by decide +kernel
theorem d_X9_init_62 : dec m_X9_init 62 = .ok (.aload_n 0, 1) := by decide +kernel
theorem d_X9_init_63 : dec m_X9_init 63 = .ok (.bipush 80, 2) := by decide +kernel
theorem d_X9_init_65 : dec m_X9_init 65 = .ok (.newarray .int, 2) := by decide +kernel
theorem d_X9_init_67 : dec m_X9_init 67 = .ok (.putfield 32, 3) := by decide +kernel
theorem d_X9_init_70 : dec m_X9_init 70 = .ok (.aload_n 0, 1) := by decide +kernel
theorem d_X9_init_71 : dec m_X9_init 71 = .ok (.bipush 80, 2) := by decide +kernel
theorem d_X9_init_73 : dec m_X9_init 73 = .ok (.newarray .int, 2) := by decide +kernel
theorem d_X9_init_75 : dec m_X9_init 75 = .ok (.putfield 35, 3) := by decide +kernel
theorem d_X9_init_78 : dec m_X9_init 78 = .ok (.aload_n 0, 1) := by decide +kernel
theorem d_X9_init_79 : dec m_X9_init 79 = .ok (.bipush 80, 2) := by decide +kernel
theorem d_X9_init_81 : dec m_X9_init 81 = .ok (.newarray .int, 2) := by decide +kernel
theorem d_X9_init_83 : dec m_X9_init 83 = .ok (.putfield 38, 3) := by decide +kernel
theorem d_X9_init_86 : dec m_X9_init 86 = .ok (.aload_n 0, 1) := by decide +kernel
theorem d_X9_init_87 : dec m_X9_init 87 = .ok (.bipush 20, 2) := by decide +kernel
theorem d_X9_init_89 : dec m_X9_init 89 = .ok (.newarray .int, 2) := by decide +kernel
theorem d_X9_init_91 : dec m_X9_init 91 = .ok (.putfield 41, 3) := by decide +kernel
theorem d_X9_init_94 : dec m_X9_init 94 = .ok (.aload_n 0, 1) := by decide +kernel
theorem d_X9_init_95 : dec m_X9_init 95 = .ok (.bipush 20, 2) := by decide +kernel
theorem d_X9_init_97 : dec m_X9_init 97 = .ok (.newarray .int, 2) := by decide +kernel
theorem d_X9_init_99 : dec m_X9_init 99 = .ok (.putfield 44, 3) := by decide +kernel
theorem d_X9_init_102 : dec m_X9_init 102 = .ok (.aload_n 0, 1) := by decide +kernel
theorem d_X9_init_103 : dec m_X9_init 103 = .ok (.bipush 81, 2) := by decide +kernel
theorem d_X9_init_105 : dec m_X9_init 105 = .ok (.newarray .int, 2) := by decide +kernel
theorem d_X9_init_107 : dec m_X9_init 107 = .ok (.putfield 47, 3) := by decide +kernel
theorem d_X9_init_110 : dec m_X9_init 110 = .ok (.aload_n 0, 1) := by decide +kernel
theorem d_X9_init_111 : dec m_X9_init 111 = .ok (.bipush 81, 2) := by decide +kernel
theorem d_X9_init_113 : dec m_X9_init 113 = .ok (.newarray .int, 2) := by decide +kernel
theorem d_X9_init_115 : dec m_X9_init 115 = .ok (.putfield 50, 3) := by decide +kernel
theorem d_X9_init_118 : dec m_X9_init 118 = .ok (.aload_n 0, 1) := by decide +kernel
theorem d_X9_init_119 : dec m_X9_init 119 = .ok (.bipush 81, 2) := by decide +kernel
theorem d_X9_init_121 : dec m_X9_init 121 = .ok (.newarray .int, 2) := by decide +kernel
theorem d_X9_init_123 : dec m_X9_init 123 = .ok (.putfield 53, 3) := by decide +kernel
theorem d_X9_init_126 : dec m_X9_init 126 = .ok (.aload_n 0, 1) := by decide +kernel
theorem d_X9_init_127 : dec m_X9_init 127 = .ok (.bipush 81, 2) := by decide +kernel
theorem d_X9_init_129 : dec m_X9_init 129 = .ok (.newarray .int, 2) := by decide +kernel
theorem d_X9_init_131 : dec m_X9_init 131 = .ok (.putfield 56, 3) := by decide +kernel
theorem d_X9_init_134 : dec m_X9_init 134 = .ok (.aload_n 0, 1) := by decide +kernel
theorem d_X9_init_135 : dec m_X9_init 135 = .ok (.bipush 81, 2) := by decide +kernel
theorem d_X9_init_137 : dec m_X9_init 137 = .ok (.newarray .int, 2) := by decide +kernel
theorem d_X9_init_139 : dec m_X9_init 139 = .ok (.putfield 59, 3) := by decide +kernel
theorem d_X9_init_142 : dec m_X9_init 142 = .ok (.aload_n 0, 1) := by decide +kernel
theorem d_X9_init_143 : dec m_X9_init 143 = .ok (.bipush 81, 2) := by decide +kernel
theorem d_X9_init_145 : dec m_X9_init 145 = .ok (.newarray .int, 2) := by decide +kernel
theorem d_X9_init_147 : dec m_X9_init 147 = .ok (.putfield 62, 3) := by decide +kernel
theorem d_X9_init_150 : dec m_X9_init 150 = .ok (.aload_n 0, 1) := by decide +kernel
theorem d_X9_init_151 : dec m_X9_init 151 = .ok (.bipush 20, 2) := by decide +kernel
theorem d_X9_init_153 : dec m_X9_init 153 = .ok (.newarray .int, 2) := by decide +kernel
theorem d_X9_init_155 : dec m_X9_init 155 = .ok (.putfield 65, 3) := by decide +kernel
theorem d_X9_init_158 : dec m_X9_init 158 = .ok (.aload_n 0, 1) := by decide +kernel
theorem d_X9_init_159 : dec m_X9_init 159 = .ok (.bipush 20, 2) := by decide +kernel
theorem d_X9_init_161 : dec m_X9_init 161 = .ok (.newarray .int, 2) := by decide +kernel
theorem d_X9_init_163 : dec m_X9_init 163 = .ok (.putfield 68, 3) := by decide +kernel
theorem d_X9_init_166 : dec m_X9_init 166 = .ok (.aload_n 0, 1) := by decide +kernel
theorem d_X9_init_167 : dec m_X9_init 167 = .ok (.sipush 400, 3) := by decide +kernel
theorem d_X9_init_170 : dec m_X9_init 170 = .ok (.newarray .byte, 2) := by decide +kernel
theorem d_X9_init_172 : dec m_X9_init 172 = .ok (.putfield 71, 3) := by decide +kernel
theorem d_X9_init_175 : dec m_X9_init 175 = .ok (.aload_n 0, 1) := by decide +kernel
theorem d_X9_init_176 : dec m_X9_init 176 = .ok (.sipush 187, 3) := by decide +kernel
theorem d_X9_init_179 : dec m_X9_init 179 = .ok (.newarray .int, 2) := by decide +kernel
theorem d_X9_init_181 : dec m_X9_init 181 = .ok (.putfield 75, 3) := by decide +kernel
theorem d_X9_init_184 : dec m_X9_init 184 = .ok (.return_, 1) := by decide +kernel
theorem ol9 : Cond.methodLink "TradeHallModel" 1 Lib.objectInit ∈ zTB := zti 1044 (by decide +kernel) (by decide +kernel)
