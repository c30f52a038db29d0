section
variable {g : z_G} {d : Nat} {h : z_H} {P : z_Res → Prop} {ls st : List Value} {v0 v1 v2 v3 v4 v5 v6 v7 v8 v9 v10 v11 vw : Value} {x y x0 x1 x2 x3 x4 x5 x6 : Int32} {a b a0 a1 a2 a3 a4 a5 k0 k1 k2 : Nat}
-- LatinRectanglesLaw.feeds(LLatinRectangles;Ljava/lang/String;)Z
theorem zm_142 : z_maxL 142 = 6 := by decide +kernel
theorem zh_142 : z_hds 142 = [] := by decide +kernel
theorem zj_142 : z_jdk 142 = false := by decide +kernel
theorem zr_142 : z_rt 142 = (some .boolean) := by decide +kernel
theorem zn_142 : z_Ca g d 142 [.ref a0, .ref a1] h P = z_T g d 142 0 [.ref a0, .ref a1, z_un, z_un, z_un, z_un] [] h P := z_Ca_ent zm_142 rfl rfl
theorem zn_142_l : z_Ca g d 142 [.ref a0, .retAddr k1] h P = z_T g d 142 0 [.ref a0, .retAddr k1, z_un, z_un, z_un, z_un] [] h P := z_Ca_ent zm_142 rfl rfl
theorem zi_142_0 : z_ins 142 0 = some (.iconst 0, 1) := by decide +kernel
theorem ze_142_0 : z_T g d 142 0 ls st h P = z_T g d 142 1 ls (.int (nI 0) :: st) h P := zt_iconst zi_142_0 rfl
theorem zi_142_1 : z_ins 142 1 = some (.istore_n 2, 1) := by decide +kernel
theorem ze_142_1 : z_T g d 142 1 (v0 :: v1 :: v2 :: ls) (.int x :: st) h P = z_T g d 142 2 (v0 :: v1 :: .int x :: ls) st h P := zt_istoren zi_142_1 rfl (Nat.le_add_left 3 _)
theorem zi_142_2 : z_ins 142 2 = some (.iconst 0, 1) := by decide +kernel
theorem ze_142_2 : z_T g d 142 2 ls st h P = z_T g d 142 3 ls (.int (nI 0) :: st) h P := zt_iconst zi_142_2 rfl
theorem zi_142_3 : z_ins 142 3 = some (.istore_n 3, 1) := by decide +kernel
theorem ze_142_3 : z_T g d 142 3 (v0 :: v1 :: v2 :: v3 :: ls) (.int x :: st) h P = z_T g d 142 4 (v0 :: v1 :: v2 :: .int x :: ls) st h P := zt_istoren zi_142_3 rfl (Nat.le_add_left 4 _)
theorem zi_142_4 : z_ins 142 4 = some (.iload_n 3, 1) := by decide +kernel
theorem ze_142_4 : z_T g d 142 4 (v0 :: v1 :: v2 :: .int x :: ls) st h P = z_T g d 142 5 (v0 :: v1 :: v2 :: .int x :: ls) (.int x :: st) h P := zt_iloadn zi_142_4 rfl rfl
theorem zi_142_5 : z_ins 142 5 = some (.aload_n 1, 1) := by decide +kernel
theorem ze_142_5 : z_T g d 142 5 (v0 :: .ref a :: ls) st h P = z_T g d 142 6 (v0 :: .ref a :: ls) (.ref a :: st) h P := zt_aloadn zi_142_5 rfl rfl
theorem ze_142_5_s : z_T g d 142 5 (v0 :: .retAddr b :: ls) st h P = z_T g d 142 6 (v0 :: .retAddr b :: ls) (.retAddr b :: st) h P := zt_aloadnS zi_142_5 rfl rfl
theorem ze_142_5_n : z_T g d 142 5 (v0 :: .null :: ls) st h P = z_T g d 142 6 (v0 :: .null :: ls) (.null :: st) h P := zt_aloadnN zi_142_5 rfl rfl
theorem zi_142_6 : z_ins 142 6 = some (.invokevirtual 7, 3) := by decide +kernel
theorem ze_142_6 : z_T g d 142 6 ls (.ref a :: st) h P = ((z_okS 8 st = true ∧ z_gO h.1 a 11 ∧ 0 < d) ∧ z_Ca g (d - 1) 123 [.ref a] h (fun r => z_k r (fun v h' => z_T g d 142 9 ls (z_push v st) h' P) P)) := zt_cV (as := []) (kk := 0) zi_142_6 rfl (zt_call zj_142 zh_142) (z_opV ((congrArg (fun o => z_lookup z_cns (o, 7)) zo_142).trans zq_cns_LatinRectanglesLaw_7) ((congrArg (fun o => z_lookup z_prs (o, 7)) zo_142).trans zq_prs_LatinRectanglesLaw_7)) ((congrArg (fun o => z_clk o 7) zo_142).trans zk_LatinRectanglesLaw_7) rfl rfl rfl rfl (z_rcv0 zc_123)
theorem ze_142_6_r (hb : b < 6) : z_T g d 142 6 ls (.retAddr b :: st) h P = ((z_okS 8 st = true ∧ 0 < d) ∧ z_Ca g (d - 1) 123 [.retAddr b] h (fun r => z_k r (fun v h' => z_T g d 142 9 ls (z_push v st) h' P) P)) := zt_cS (as := [.retAddr b]) (kk := 0) zi_142_6 rfl (zt_call zj_142 zh_142) (z_opV ((congrArg (fun o => z_lookup z_cns (o, 7)) zo_142).trans zq_cns_LatinRectanglesLaw_7) ((congrArg (fun o => z_lookup z_prs (o, 7)) zo_142).trans zq_prs_LatinRectanglesLaw_7)) ((congrArg (fun o => z_clk o 7) zo_142).trans zk_LatinRectanglesLaw_7) rfl rfl rfl rfl (z_rcvL hb zo_123)
theorem zi_142_9 : z_ins 142 9 = some (.if_icmp .ge 105, 3) := by decide +kernel
theorem ze_142_9 : z_T g d 142 9 ls (.int y :: .int x :: st) h P = (if x < y then z_T g d 142 12 ls st h P else z_T g d 142 114 ls st h P) := zt_icmpge zi_142_9 (by decide)
theorem zi_142_12 : z_ins 142 12 = some (.iconst 5, 1) := by decide +kernel
theorem ze_142_12 : z_T g d 142 12 ls st h P = z_T g d 142 13 ls (.int (nI 5) :: st) h P := zt_iconst zi_142_12 rfl
theorem zi_142_13 : z_ins 142 13 = some (.newarray .int, 2) := by decide +kernel
theorem ze_142_13 : z_T g d 142 13 ls (.int x :: st) h P = z_nA h .int x (fun q h' => z_T g d 142 15 ls (.ref q :: st) h' P) := zt_newarray zi_142_13
theorem zi_142_15 : z_ins 142 15 = some (.astore 4, 2) := by decide +kernel
theorem ze_142_15 : z_T g d 142 15 (v0 :: v1 :: v2 :: v3 :: v4 :: ls) (.ref a :: st) h P = z_T g d 142 17 (v0 :: v1 :: v2 :: v3 :: .ref a :: ls) st h P := zt_astore rfl zi_142_15 (Nat.le_add_left 5 _)
theorem ze_142_15_n : z_T g d 142 15 (v0 :: v1 :: v2 :: v3 :: v4 :: ls) (.null :: st) h P = z_T g d 142 17 (v0 :: v1 :: v2 :: v3 :: .null :: ls) st h P := zt_astore rfl zi_142_15 (Nat.le_add_left 5 _)
theorem zi_142_17 : z_ins 142 17 = some (.iconst 0, 1) := by decide +kernel
theorem ze_142_17 : z_T g d 142 17 ls st h P = z_T g d 142 18 ls (.int (nI 0) :: st) h P := zt_iconst zi_142_17 rfl
theorem zi_142_18 : z_ins 142 18 = some (.istore 5, 2) := by decide +kernel
theorem ze_142_18 : z_T g d 142 18 (v0 :: v1 :: v2 :: v3 :: v4 :: v5 :: ls) (.int x :: st) h P = z_T g d 142 20 (v0 :: v1 :: v2 :: v3 :: v4 :: .int x :: ls) st h P := zt_istore zi_142_18 (Nat.le_add_left 6 _)
theorem zi_142_20 : z_ins 142 20 = some (.iload 5, 2) := by decide +kernel
theorem ze_142_20 : z_T g d 142 20 (v0 :: v1 :: v2 :: v3 :: v4 :: .int x :: ls) st h P = z_T g d 142 22 (v0 :: v1 :: v2 :: v3 :: v4 :: .int x :: ls) (.int x :: st) h P := zt_iload zi_142_20 rfl
theorem zi_142_22 : z_ins 142 22 = some (.bipush 20, 2) := by decide +kernel
theorem ze_142_22 : z_T g d 142 22 ls st h P = z_T g d 142 24 ls (.int (nI 20) :: st) h P := zt_bipush zi_142_22 rfl
theorem zi_142_24 : z_ins 142 24 = some (.if_icmp .ge 51, 3) := by decide +kernel
theorem ze_142_24 : z_T g d 142 24 ls (.int y :: .int x :: st) h P = (if x < y then z_T g d 142 27 ls st h P else z_T g d 142 75 ls st h P) := zt_icmpge zi_142_24 (by decide)
theorem zi_142_27 : z_ins 142 27 = some (.aload 4, 2) := by decide +kernel
theorem ze_142_27 : z_T g d 142 27 (v0 :: v1 :: v2 :: v3 :: .ref a :: ls) st h P = z_T g d 142 29 (v0 :: v1 :: v2 :: v3 :: .ref a :: ls) (.ref a :: st) h P := zt_aload zi_142_27 rfl
theorem ze_142_27_n : z_T g d 142 27 (v0 :: v1 :: v2 :: v3 :: .null :: ls) st h P = z_T g d 142 29 (v0 :: v1 :: v2 :: v3 :: .null :: ls) (.null :: st) h P := zt_aloadN zi_142_27 rfl
theorem zi_142_29 : z_ins 142 29 = some (.iload 5, 2) := by decide +kernel
theorem ze_142_29 : z_T g d 142 29 (v0 :: v1 :: v2 :: v3 :: v4 :: .int x :: ls) st h P = z_T g d 142 31 (v0 :: v1 :: v2 :: v3 :: v4 :: .int x :: ls) (.int x :: st) h P := zt_iload zi_142_29 rfl
theorem zi_142_31 : z_ins 142 31 = some (.iconst 4, 1) := by decide +kernel
theorem ze_142_31 : z_T g d 142 31 ls st h P = z_T g d 142 32 ls (.int (nI 4) :: st) h P := zt_iconst zi_142_31 rfl
theorem zi_142_32 : z_ins 142 32 = some (.idiv, 1) := by decide +kernel
theorem ze_142_32 : z_T g d 142 32 ls (.int y :: .int x :: st) h P = (¬ y = nI 0 ∧ z_T g d 142 33 ls (.int (x / y) :: st) h P) := zt_idiv zi_142_32
theorem zi_142_33 : z_ins 142 33 = some (.aload 4, 2) := by decide +kernel
theorem ze_142_33 : z_T g d 142 33 (v0 :: v1 :: v2 :: v3 :: .ref a :: ls) st h P = z_T g d 142 35 (v0 :: v1 :: v2 :: v3 :: .ref a :: ls) (.ref a :: st) h P := zt_aload zi_142_33 rfl
theorem ze_142_33_n : z_T g d 142 33 (v0 :: v1 :: v2 :: v3 :: .null :: ls) st h P = z_T g d 142 35 (v0 :: v1 :: v2 :: v3 :: .null :: ls) (.null :: st) h P := zt_aloadN zi_142_33 rfl
theorem zi_142_35 : z_ins 142 35 = some (.iload 5, 2) := by decide +kernel
theorem ze_142_35 : z_T g d 142 35 (v0 :: v1 :: v2 :: v3 :: v4 :: .int x :: ls) st h P = z_T g d 142 37 (v0 :: v1 :: v2 :: v3 :: v4 :: .int x :: ls) (.int x :: st) h P := zt_iload zi_142_35 rfl
theorem zi_142_37 : z_ins 142 37 = some (.iconst 4, 1) := by decide +kernel
theorem ze_142_37 : z_T g d 142 37 ls st h P = z_T g d 142 38 ls (.int (nI 4) :: st) h P := zt_iconst zi_142_37 rfl
theorem zi_142_38 : z_ins 142 38 = some (.idiv, 1) := by decide +kernel
theorem ze_142_38 : z_T g d 142 38 ls (.int y :: .int x :: st) h P = (¬ y = nI 0 ∧ z_T g d 142 39 ls (.int (x / y) :: st) h P) := zt_idiv zi_142_38
theorem zi_142_39 : z_ins 142 39 = some (.iaload, 1) := by decide +kernel
theorem ze_142_39 : z_T g d 142 39 ls (.int x :: .ref a :: st) h P = z_aL h.1 a z_tI x (fun v => z_T g d 142 40 ls (.int v :: st) h P) := zt_iaload zi_142_39
theorem zi_142_40 : z_ins 142 40 = some (.bipush 8, 2) := by decide +kernel
theorem ze_142_40 : z_T g d 142 40 ls st h P = z_T g d 142 42 ls (.int (nI 8) :: st) h P := zt_bipush zi_142_40 rfl
theorem zi_142_42 : z_ins 142 42 = some (.ishl, 1) := by decide +kernel
theorem ze_142_42 : z_T g d 142 42 ls (.int y :: .int x :: st) h P = z_T g d 142 43 ls (.int (x <<< (y &&& 31)) :: st) h P := zt_bin (f := fun x y => x <<< (y &&& 31)) zi_142_42 rfl (fun _ _ _ => rfl)
theorem zi_142_43 : z_ins 142 43 = some (.iload_n 3, 1) := by decide +kernel
theorem ze_142_43 : z_T g d 142 43 (v0 :: v1 :: v2 :: .int x :: ls) st h P = z_T g d 142 44 (v0 :: v1 :: v2 :: .int x :: ls) (.int x :: st) h P := zt_iloadn zi_142_43 rfl rfl
theorem zi_142_44 : z_ins 142 44 = some (.iload 5, 2) := by decide +kernel
theorem ze_142_44 : z_T g d 142 44 (v0 :: v1 :: v2 :: v3 :: v4 :: .int x :: ls) st h P = z_T g d 142 46 (v0 :: v1 :: v2 :: v3 :: v4 :: .int x :: ls) (.int x :: st) h P := zt_iload zi_142_44 rfl
theorem zi_142_46 : z_ins 142 46 = some (.iadd, 1) := by decide +kernel
theorem ze_142_46 : z_T g d 142 46 ls (.int y :: .int x :: st) h P = z_T g d 142 47 ls (.int (x + y) :: st) h P := zt_bin (f := fun x y => x + y) zi_142_46 rfl (fun _ _ _ => rfl)
theorem zi_142_47 : z_ins 142 47 = some (.aload_n 1, 1) := by decide +kernel
theorem ze_142_47 : z_T g d 142 47 (v0 :: .ref a :: ls) st h P = z_T g d 142 48 (v0 :: .ref a :: ls) (.ref a :: st) h P := zt_aloadn zi_142_47 rfl rfl
theorem ze_142_47_s : z_T g d 142 47 (v0 :: .retAddr b :: ls) st h P = z_T g d 142 48 (v0 :: .retAddr b :: ls) (.retAddr b :: st) h P := zt_aloadnS zi_142_47 rfl rfl
theorem ze_142_47_n : z_T g d 142 47 (v0 :: .null :: ls) st h P = z_T g d 142 48 (v0 :: .null :: ls) (.null :: st) h P := zt_aloadnN zi_142_47 rfl rfl
theorem zi_142_48 : z_ins 142 48 = some (.invokevirtual 7, 3) := by decide +kernel
theorem ze_142_48 : z_T g d 142 48 ls (.ref a :: st) h P = ((z_okS 8 st = true ∧ z_gO h.1 a 11 ∧ 0 < d) ∧ z_Ca g (d - 1) 123 [.ref a] h (fun r => z_k r (fun v h' => z_T g d 142 51 ls (z_push v st) h' P) P)) := zt_cV (as := []) (kk := 0) zi_142_48 rfl (zt_call zj_142 zh_142) (z_opV ((congrArg (fun o => z_lookup z_cns (o, 7)) zo_142).trans zq_cns_LatinRectanglesLaw_7) ((congrArg (fun o => z_lookup z_prs (o, 7)) zo_142).trans zq_prs_LatinRectanglesLaw_7)) ((congrArg (fun o => z_clk o 7) zo_142).trans zk_LatinRectanglesLaw_7) rfl rfl rfl rfl (z_rcv0 zc_123)
theorem ze_142_48_r (hb : b < 6) : z_T g d 142 48 ls (.retAddr b :: st) h P = ((z_okS 8 st = true ∧ 0 < d) ∧ z_Ca g (d - 1) 123 [.retAddr b] h (fun r => z_k r (fun v h' => z_T g d 142 51 ls (z_push v st) h' P) P)) := zt_cS (as := [.retAddr b]) (kk := 0) zi_142_48 rfl (zt_call zj_142 zh_142) (z_opV ((congrArg (fun o => z_lookup z_cns (o, 7)) zo_142).trans zq_cns_LatinRectanglesLaw_7) ((congrArg (fun o => z_lookup z_prs (o, 7)) zo_142).trans zq_prs_LatinRectanglesLaw_7)) ((congrArg (fun o => z_clk o 7) zo_142).trans zk_LatinRectanglesLaw_7) rfl rfl rfl rfl (z_rcvL hb zo_123)
theorem zi_142_51 : z_ins 142 51 = some (.if_icmp .ge 14, 3) := by decide +kernel
theorem ze_142_51 : z_T g d 142 51 ls (.int y :: .int x :: st) h P = (if x < y then z_T g d 142 54 ls st h P else z_T g d 142 65 ls st h P) := zt_icmpge zi_142_51 (by decide)
theorem zi_142_54 : z_ins 142 54 = some (.aload_n 1, 1) := by decide +kernel
theorem ze_142_54 : z_T g d 142 54 (v0 :: .ref a :: ls) st h P = z_T g d 142 55 (v0 :: .ref a :: ls) (.ref a :: st) h P := zt_aloadn zi_142_54 rfl rfl
theorem ze_142_54_s : z_T g d 142 54 (v0 :: .retAddr b :: ls) st h P = z_T g d 142 55 (v0 :: .retAddr b :: ls) (.retAddr b :: st) h P := zt_aloadnS zi_142_54 rfl rfl
theorem ze_142_54_n : z_T g d 142 54 (v0 :: .null :: ls) st h P = z_T g d 142 55 (v0 :: .null :: ls) (.null :: st) h P := zt_aloadnN zi_142_54 rfl rfl
theorem zi_142_55 : z_ins 142 55 = some (.iload_n 3, 1) := by decide +kernel
theorem ze_142_55 : z_T g d 142 55 (v0 :: v1 :: v2 :: .int x :: ls) st h P = z_T g d 142 56 (v0 :: v1 :: v2 :: .int x :: ls) (.int x :: st) h P := zt_iloadn zi_142_55 rfl rfl
theorem zi_142_56 : z_ins 142 56 = some (.iload 5, 2) := by decide +kernel
theorem ze_142_56 : z_T g d 142 56 (v0 :: v1 :: v2 :: v3 :: v4 :: .int x :: ls) st h P = z_T g d 142 58 (v0 :: v1 :: v2 :: v3 :: v4 :: .int x :: ls) (.int x :: st) h P := zt_iload zi_142_56 rfl
theorem zi_142_58 : z_ins 142 58 = some (.iadd, 1) := by decide +kernel
theorem ze_142_58 : z_T g d 142 58 ls (.int y :: .int x :: st) h P = z_T g d 142 59 ls (.int (x + y) :: st) h P := zt_bin (f := fun x y => x + y) zi_142_58 rfl (fun _ _ _ => rfl)
theorem zi_142_59 : z_ins 142 59 = some (.invokevirtual 13, 3) := by decide +kernel
theorem ze_142_59 : z_T g d 142 59 ls (.int x0 :: .ref a :: st) h P = ((z_okS 8 st = true ∧ z_gO h.1 a 11 ∧ 0 < d) ∧ z_Ca g (d - 1) 124 [.ref a, .int x0] h (fun r => z_k r (fun v h' => z_T g d 142 62 ls (z_push v st) h' P) P)) := zt_cV (as := [.int x0]) (kk := 0) zi_142_59 rfl (zt_call zj_142 zh_142) (z_opV ((congrArg (fun o => z_lookup z_cns (o, 13)) zo_142).trans zq_cns_LatinRectanglesLaw_13) ((congrArg (fun o => z_lookup z_prs (o, 13)) zo_142).trans zq_prs_LatinRectanglesLaw_13)) ((congrArg (fun o => z_clk o 13) zo_142).trans zk_LatinRectanglesLaw_13) rfl rfl rfl rfl (z_rcv0 zc_124)
theorem ze_142_59_r (hb : b < 6) : z_T g d 142 59 ls (.int x0 :: .retAddr b :: st) h P = ((z_okS 8 st = true ∧ 0 < d) ∧ z_Ca g (d - 1) 124 [.retAddr b, .int x0] h (fun r => z_k r (fun v h' => z_T g d 142 62 ls (z_push v st) h' P) P)) := zt_cS (as := [.retAddr b, .int x0]) (kk := 0) zi_142_59 rfl (zt_call zj_142 zh_142) (z_opV ((congrArg (fun o => z_lookup z_cns (o, 13)) zo_142).trans zq_cns_LatinRectanglesLaw_13) ((congrArg (fun o => z_lookup z_prs (o, 13)) zo_142).trans zq_prs_LatinRectanglesLaw_13)) ((congrArg (fun o => z_clk o 13) zo_142).trans zk_LatinRectanglesLaw_13) rfl rfl rfl rfl (z_rcvL hb zo_124)
theorem zi_142_62 : z_ins 142 62 = some (.goto 5, 3) := by decide +kernel
theorem ze_142_62 : z_T g d 142 62 ls st h P = z_T g d 142 67 ls st h P := zt_goto zi_142_62 (by decide)
theorem zi_142_65 : z_ins 142 65 = some (.bipush 32, 2) := by decide +kernel
theorem ze_142_65 : z_T g d 142 65 ls st h P = z_T g d 142 67 ls (.int (nI 32) :: st) h P := zt_bipush zi_142_65 rfl
theorem zi_142_67 : z_ins 142 67 = some (.ior, 1) := by decide +kernel
theorem ze_142_67 : z_T g d 142 67 ls (.int y :: .int x :: st) h P = z_T g d 142 68 ls (.int (x ||| y) :: st) h P := zt_bin (f := fun x y => x ||| y) zi_142_67 rfl (fun _ _ _ => rfl)
theorem zi_142_68 : z_ins 142 68 = some (.iastore, 1) := by decide +kernel
theorem ze_142_68 : z_T g d 142 68 ls (.int y :: .int x :: .ref a :: st) h P = z_aS h.1 a z_tI x y (fun f => z_T g d 142 69 ls st (f, h.2) P) := zt_iastore zi_142_68
theorem zi_142_69 : z_ins 142 69 = some (.iinc 5 1, 3) := by decide +kernel
theorem ze_142_69 : z_T g d 142 69 (v0 :: v1 :: v2 :: v3 :: v4 :: .int x :: ls) st h P = z_T g d 142 72 (v0 :: v1 :: v2 :: v3 :: v4 :: .int (x + (nI 1)) :: ls) st h P := zt_iinc zi_142_69 rfl rfl
theorem zi_142_72 : z_ins 142 72 = some (.goto (-52), 3) := by decide +kernel
theorem ze_142_72 : z_T g d 142 72 ls st h P = z_T g d 142 20 ls st h P := zt_goto zi_142_72 (by decide)
theorem zi_142_75 : z_ins 142 75 = some (.iinc 2 20, 3) := by decide +kernel
theorem ze_142_75 : z_T g d 142 75 (v0 :: v1 :: .int x :: ls) st h P = z_T g d 142 78 (v0 :: v1 :: .int (x + (nI 20)) :: ls) st h P := zt_iinc zi_142_75 rfl rfl
theorem zi_142_78 : z_ins 142 78 = some (.aload_n 0, 1) := by decide +kernel
theorem ze_142_78 : z_T g d 142 78 (.ref a :: ls) st h P = z_T g d 142 79 (.ref a :: ls) (.ref a :: st) h P := zt_aloadn zi_142_78 rfl rfl
theorem ze_142_78_n : z_T g d 142 78 (.null :: ls) st h P = z_T g d 142 79 (.null :: ls) (.null :: st) h P := zt_aloadnN zi_142_78 rfl rfl
theorem zi_142_79 : z_ins 142 79 = some (.aload 4, 2) := by decide +kernel
theorem ze_142_79 : z_T g d 142 79 (v0 :: v1 :: v2 :: v3 :: .ref a :: ls) st h P = z_T g d 142 81 (v0 :: v1 :: v2 :: v3 :: .ref a :: ls) (.ref a :: st) h P := zt_aload zi_142_79 rfl
theorem ze_142_79_n : z_T g d 142 79 (v0 :: v1 :: v2 :: v3 :: .null :: ls) st h P = z_T g d 142 81 (v0 :: v1 :: v2 :: v3 :: .null :: ls) (.null :: st) h P := zt_aloadN zi_142_79 rfl
theorem zi_142_81 : z_ins 142 81 = some (.iconst 0, 1) := by decide +kernel
theorem ze_142_81 : z_T g d 142 81 ls st h P = z_T g d 142 82 ls (.int (nI 0) :: st) h P := zt_iconst zi_142_81 rfl
theorem zi_142_82 : z_ins 142 82 = some (.iaload, 1) := by decide +kernel
theorem ze_142_82 : z_T g d 142 82 ls (.int x :: .ref a :: st) h P = z_aL h.1 a z_tI x (fun v => z_T g d 142 83 ls (.int v :: st) h P) := zt_iaload zi_142_82
theorem zi_142_83 : z_ins 142 83 = some (.aload 4, 2) := by decide +kernel
theorem ze_142_83 : z_T g d 142 83 (v0 :: v1 :: v2 :: v3 :: .ref a :: ls) st h P = z_T g d 142 85 (v0 :: v1 :: v2 :: v3 :: .ref a :: ls) (.ref a :: st) h P := zt_aload zi_142_83 rfl
theorem ze_142_83_n : z_T g d 142 83 (v0 :: v1 :: v2 :: v3 :: .null :: ls) st h P = z_T g d 142 85 (v0 :: v1 :: v2 :: v3 :: .null :: ls) (.null :: st) h P := zt_aloadN zi_142_83 rfl
theorem zi_142_85 : z_ins 142 85 = some (.iconst 1, 1) := by decide +kernel
theorem ze_142_85 : z_T g d 142 85 ls st h P = z_T g d 142 86 ls (.int (nI 1) :: st) h P := zt_iconst zi_142_85 rfl
theorem zi_142_86 : z_ins 142 86 = some (.iaload, 1) := by decide +kernel
theorem ze_142_86 : z_T g d 142 86 ls (.int x :: .ref a :: st) h P = z_aL h.1 a z_tI x (fun v => z_T g d 142 87 ls (.int v :: st) h P) := zt_iaload zi_142_86
theorem zi_142_87 : z_ins 142 87 = some (.aload 4, 2) := by decide +kernel
theorem ze_142_87 : z_T g d 142 87 (v0 :: v1 :: v2 :: v3 :: .ref a :: ls) st h P = z_T g d 142 89 (v0 :: v1 :: v2 :: v3 :: .ref a :: ls) (.ref a :: st) h P := zt_aload zi_142_87 rfl
theorem ze_142_87_n : z_T g d 142 87 (v0 :: v1 :: v2 :: v3 :: .null :: ls) st h P = z_T g d 142 89 (v0 :: v1 :: v2 :: v3 :: .null :: ls) (.null :: st) h P := zt_aloadN zi_142_87 rfl
theorem zi_142_89 : z_ins 142 89 = some (.iconst 2, 1) := by decide +kernel
theorem ze_142_89 : z_T g d 142 89 ls st h P = z_T g d 142 90 ls (.int (nI 2) :: st) h P := zt_iconst zi_142_89 rfl
theorem zi_142_90 : z_ins 142 90 = some (.iaload, 1) := by decide +kernel
theorem ze_142_90 : z_T g d 142 90 ls (.int x :: .ref a :: st) h P = z_aL h.1 a z_tI x (fun v => z_T g d 142 91 ls (.int v :: st) h P) := zt_iaload zi_142_90
theorem zi_142_91 : z_ins 142 91 = some (.aload 4, 2) := by decide +kernel
theorem ze_142_91 : z_T g d 142 91 (v0 :: v1 :: v2 :: v3 :: .ref a :: ls) st h P = z_T g d 142 93 (v0 :: v1 :: v2 :: v3 :: .ref a :: ls) (.ref a :: st) h P := zt_aload zi_142_91 rfl
theorem ze_142_91_n : z_T g d 142 91 (v0 :: v1 :: v2 :: v3 :: .null :: ls) st h P = z_T g d 142 93 (v0 :: v1 :: v2 :: v3 :: .null :: ls) (.null :: st) h P := zt_aloadN zi_142_91 rfl
theorem zi_142_93 : z_ins 142 93 = some (.iconst 3, 1) := by decide +kernel
theorem ze_142_93 : z_T g d 142 93 ls st h P = z_T g d 142 94 ls (.int (nI 3) :: st) h P := zt_iconst zi_142_93 rfl
theorem zi_142_94 : z_ins 142 94 = some (.iaload, 1) := by decide +kernel
theorem ze_142_94 : z_T g d 142 94 ls (.int x :: .ref a :: st) h P = z_aL h.1 a z_tI x (fun v => z_T g d 142 95 ls (.int v :: st) h P) := zt_iaload zi_142_94
theorem zi_142_95 : z_ins 142 95 = some (.aload 4, 2) := by decide +kernel
theorem ze_142_95 : z_T g d 142 95 (v0 :: v1 :: v2 :: v3 :: .ref a :: ls) st h P = z_T g d 142 97 (v0 :: v1 :: v2 :: v3 :: .ref a :: ls) (.ref a :: st) h P := zt_aload zi_142_95 rfl
theorem ze_142_95_n : z_T g d 142 95 (v0 :: v1 :: v2 :: v3 :: .null :: ls) st h P = z_T g d 142 97 (v0 :: v1 :: v2 :: v3 :: .null :: ls) (.null :: st) h P := zt_aloadN zi_142_95 rfl
theorem zi_142_97 : z_ins 142 97 = some (.iconst 4, 1) := by decide +kernel
theorem ze_142_97 : z_T g d 142 97 ls st h P = z_T g d 142 98 ls (.int (nI 4) :: st) h P := zt_iconst zi_142_97 rfl
theorem zi_142_98 : z_ins 142 98 = some (.iaload, 1) := by decide +kernel
theorem ze_142_98 : z_T g d 142 98 ls (.int x :: .ref a :: st) h P = z_aL h.1 a z_tI x (fun v => z_T g d 142 99 ls (.int v :: st) h P) := zt_iaload zi_142_98
theorem zi_142_99 : z_ins 142 99 = some (.invokevirtual 17, 3) := by decide +kernel
theorem ze_142_99 : z_T g d 142 99 ls (.int x4 :: .int x3 :: .int x2 :: .int x1 :: .int x0 :: .ref a :: st) h P = ((z_okS 8 st = true ∧ z_gO h.1 a 9 ∧ 0 < d) ∧ z_Ca g (d - 1) 68 [.ref a, .int x0, .int x1, .int x2, .int x3, .int x4] h (fun r => z_k r (fun v h' => z_T g d 142 102 ls (z_push v st) h' P) P)) := zt_cV (as := [.int x0, .int x1, .int x2, .int x3, .int x4]) (kk := 0) zi_142_99 rfl (zt_call zj_142 zh_142) (z_opV ((congrArg (fun o => z_lookup z_cns (o, 17)) zo_142).trans zq_cns_LatinRectanglesLaw_17) ((congrArg (fun o => z_lookup z_prs (o, 17)) zo_142).trans zq_prs_LatinRectanglesLaw_17)) ((congrArg (fun o => z_clk o 17) zo_142).trans zk_LatinRectanglesLaw_17) rfl rfl rfl rfl (z_rcv0 zc_68)
theorem zi_142_102 : z_ins 142 102 = some (.iload_n 2, 1) := by decide +kernel
theorem ze_142_102 : z_T g d 142 102 (v0 :: v1 :: .int x :: ls) st h P = z_T g d 142 103 (v0 :: v1 :: .int x :: ls) (.int x :: st) h P := zt_iloadn zi_142_102 rfl rfl
theorem zi_142_103 : z_ins 142 103 = some (.if_icmp .eq 5, 3) := by decide +kernel
theorem ze_142_103 : z_T g d 142 103 ls (.int y :: .int x :: st) h P = (if x = y then z_T g d 142 108 ls st h P else z_T g d 142 106 ls st h P) := zt_icmpeq zi_142_103 (by decide)
theorem zi_142_106 : z_ins 142 106 = some (.iconst 0, 1) := by decide +kernel
theorem ze_142_106 : z_T g d 142 106 ls st h P = z_T g d 142 107 ls (.int (nI 0) :: st) h P := zt_iconst zi_142_106 rfl
theorem zi_142_107 : z_ins 142 107 = some (.ireturn, 1) := by decide +kernel
theorem ze_142_107 : z_T g d 142 107 ls [.int x] h P = ((x = nI 0 ∨ x = nI 1) ∧ P (.inr (some (.int x)), h)) := zt_zreturn zi_142_107 zr_142
theorem zi_142_108 : z_ins 142 108 = some (.iinc 3 20, 3) := by decide +kernel
theorem ze_142_108 : z_T g d 142 108 (v0 :: v1 :: v2 :: .int x :: ls) st h P = z_T g d 142 111 (v0 :: v1 :: v2 :: .int (x + (nI 20)) :: ls) st h P := zt_iinc zi_142_108 rfl rfl
theorem zi_142_111 : z_ins 142 111 = some (.goto (-107), 3) := by decide +kernel
theorem ze_142_111 : z_T g d 142 111 ls st h P = z_T g d 142 4 ls st h P := zt_goto zi_142_111 (by decide)
theorem zi_142_114 : z_ins 142 114 = some (.iconst 1, 1) := by decide +kernel
theorem ze_142_114 : z_T g d 142 114 ls st h P = z_T g d 142 115 ls (.int (nI 1) :: st) h P := zt_iconst zi_142_114 rfl
theorem zi_142_115 : z_ins 142 115 = some (.ireturn, 1) := by decide +kernel
theorem ze_142_115 : z_T g d 142 115 ls [.int x] h P = ((x = nI 0 ∨ x = nI 1) ∧ P (.inr (some (.int x)), h)) := zt_zreturn zi_142_115 zr_142
-- LatinRectanglesLaw.draw([II)I
theorem zm_143 : z_maxL 143 = 2 := by decide +kernel
theorem zh_143 : z_hds 143 = [] := by decide +kernel
theorem zj_143 : z_jdk 143 = false := by decide +kernel
theorem zr_143 : z_rt 143 = (some .int) := by decide +kernel
theorem zn_143 : z_Ca g d 143 [.ref a0, .int x1] h P = z_T g d 143 0 [.ref a0, .int x1] [] h P := z_Ca_ent zm_143 rfl rfl
theorem zi_143_0 : z_ins 143 0 = some (.aload_n 0, 1) := by decide +kernel
theorem ze_143_0 : z_T g d 143 0 (.ref a :: ls) st h P = z_T g d 143 1 (.ref a :: ls) (.ref a :: st) h P := zt_aloadn zi_143_0 rfl rfl
theorem ze_143_0_n : z_T g d 143 0 (.null :: ls) st h P = z_T g d 143 1 (.null :: ls) (.null :: st) h P := zt_aloadnN zi_143_0 rfl rfl
theorem zi_143_1 : z_ins 143 1 = some (.iconst 0, 1) := by decide +kernel
theorem ze_143_1 : z_T g d 143 1 ls st h P = z_T g d 143 2 ls (.int (nI 0) :: st) h P := zt_iconst zi_143_1 rfl
theorem zi_143_2 : z_ins 143 2 = some (.aload_n 0, 1) := by decide +kernel
theorem ze_143_2 : z_T g d 143 2 (.ref a :: ls) st h P = z_T g d 143 3 (.ref a :: ls) (.ref a :: st) h P := zt_aloadn zi_143_2 rfl rfl
theorem ze_143_2_n : z_T g d 143 2 (.null :: ls) st h P = z_T g d 143 3 (.null :: ls) (.null :: st) h P := zt_aloadnN zi_143_2 rfl rfl
theorem zi_143_3 : z_ins 143 3 = some (.iconst 0, 1) := by decide +kernel
theorem ze_143_3 : z_T g d 143 3 ls st h P = z_T g d 143 4 ls (.int (nI 0) :: st) h P := zt_iconst zi_143_3 rfl
theorem zi_143_4 : z_ins 143 4 = some (.iaload, 1) := by decide +kernel
theorem ze_143_4 : z_T g d 143 4 ls (.int x :: .ref a :: st) h P = z_aL h.1 a z_tI x (fun v => z_T g d 143 5 ls (.int v :: st) h P) := zt_iaload zi_143_4
theorem zi_143_5 : z_ins 143 5 = some (.ldc 23, 2) := by decide +kernel
theorem ze_143_5 : z_T g d 143 5 ls st h P = z_T g d 143 7 ls (.int 1664525 :: st) h P := zt_ldcI zi_143_5 ((congrArg (fun o => z_lookup z_srs (o, 23)) zo_143).trans zq_srs_LatinRectanglesLaw_23) ((congrArg (fun o => z_lookup z_kss (o, 23)) zo_143).trans zq_kss_LatinRectanglesLaw_23)
theorem zi_143_7 : z_ins 143 7 = some (.imul, 1) := by decide +kernel
theorem ze_143_7 : z_T g d 143 7 ls (.int y :: .int x :: st) h P = z_T g d 143 8 ls (.int (x * y) :: st) h P := zt_bin (f := fun x y => x * y) zi_143_7 rfl (fun _ _ _ => rfl)
theorem zi_143_8 : z_ins 143 8 = some (.ldc 24, 2) := by decide +kernel
theorem ze_143_8 : z_T g d 143 8 ls st h P = z_T g d 143 10 ls (.int 1013904223 :: st) h P := zt_ldcI zi_143_8 ((congrArg (fun o => z_lookup z_srs (o, 24)) zo_143).trans zq_srs_LatinRectanglesLaw_24) ((congrArg (fun o => z_lookup z_kss (o, 24)) zo_143).trans zq_kss_LatinRectanglesLaw_24)
theorem zi_143_10 : z_ins 143 10 = some (.iadd, 1) := by decide +kernel
theorem ze_143_10 : z_T g d 143 10 ls (.int y :: .int x :: st) h P = z_T g d 143 11 ls (.int (x + y) :: st) h P := zt_bin (f := fun x y => x + y) zi_143_10 rfl (fun _ _ _ => rfl)
theorem zi_143_11 : z_ins 143 11 = some (.iastore, 1) := by decide +kernel
theorem ze_143_11 : z_T g d 143 11 ls (.int y :: .int x :: .ref a :: st) h P = z_aS h.1 a z_tI x y (fun f => z_T g d 143 12 ls st (f, h.2) P) := zt_iastore zi_143_11
theorem zi_143_12 : z_ins 143 12 = some (.aload_n 0, 1) := by decide +kernel
theorem ze_143_12 : z_T g d 143 12 (.ref a :: ls) st h P = z_T g d 143 13 (.ref a :: ls) (.ref a :: st) h P := zt_aloadn zi_143_12 rfl rfl
theorem ze_143_12_n : z_T g d 143 12 (.null :: ls) st h P = z_T g d 143 13 (.null :: ls) (.null :: st) h P := zt_aloadnN zi_143_12 rfl rfl
theorem zi_143_13 : z_ins 143 13 = some (.iconst 0, 1) := by decide +kernel
theorem ze_143_13 : z_T g d 143 13 ls st h P = z_T g d 143 14 ls (.int (nI 0) :: st) h P := zt_iconst zi_143_13 rfl
theorem zi_143_14 : z_ins 143 14 = some (.iaload, 1) := by decide +kernel
theorem ze_143_14 : z_T g d 143 14 ls (.int x :: .ref a :: st) h P = z_aL h.1 a z_tI x (fun v => z_T g d 143 15 ls (.int v :: st) h P) := zt_iaload zi_143_14
theorem zi_143_15 : z_ins 143 15 = some (.bipush 8, 2) := by decide +kernel
theorem ze_143_15 : z_T g d 143 15 ls st h P = z_T g d 143 17 ls (.int (nI 8) :: st) h P := zt_bipush zi_143_15 rfl
theorem zi_143_17 : z_ins 143 17 = some (.iushr, 1) := by decide +kernel
theorem ze_143_17 : z_T g d 143 17 ls (.int y :: .int x :: st) h P = z_T g d 143 18 ls (.int ((x.toUInt32 >>> (y.toUInt32 &&& Int32.toUInt32 31)).toInt32) :: st) h P := zt_bin (f := fun x y => (x.toUInt32 >>> (y.toUInt32 &&& Int32.toUInt32 31)).toInt32) zi_143_17 rfl (fun _ _ _ => rfl)
theorem zi_143_18 : z_ins 143 18 = some (.iload_n 1, 1) := by decide +kernel
theorem ze_143_18 : z_T g d 143 18 (v0 :: .int x :: ls) st h P = z_T g d 143 19 (v0 :: .int x :: ls) (.int x :: st) h P := zt_iloadn zi_143_18 rfl rfl
theorem zi_143_19 : z_ins 143 19 = some (.irem, 1) := by decide +kernel
theorem ze_143_19 : z_T g d 143 19 ls (.int y :: .int x :: st) h P = (¬ y = nI 0 ∧ z_T g d 143 20 ls (.int (x - x / y * y) :: st) h P) := zt_irem zi_143_19
theorem zi_143_20 : z_ins 143 20 = some (.ireturn, 1) := by decide +kernel
theorem ze_143_20 : z_T g d 143 20 ls [.int x] h P = P (.inr (some (.int x)), h) := zt_ireturn zi_143_20 zr_143
-- LatinRectanglesLaw.size([Z)I
theorem zm_144 : z_maxL 144 = 6 := by decide +kernel
theorem zh_144 : z_hds 144 = [] := by decide +kernel
theorem zj_144 : z_jdk 144 = false := by decide +kernel
theorem zr_144 : z_rt 144 = (some .int) := by decide +kernel
theorem zn_144 : z_Ca g d 144 [.ref a0] h P = z_T g d 144 0 [.ref a0, z_un, z_un, z_un, z_un, z_un] [] h P := z_Ca_ent zm_144 rfl rfl
theorem zi_144_0 : z_ins 144 0 = some (.iconst 0, 1) := by decide +kernel
theorem ze_144_0 : z_T g d 144 0 ls st h P = z_T g d 144 1 ls (.int (nI 0) :: st) h P := zt_iconst zi_144_0 rfl
theorem zi_144_1 : z_ins 144 1 = some (.istore_n 1, 1) := by decide +kernel
theorem ze_144_1 : z_T g d 144 1 (v0 :: v1 :: ls) (.int x :: st) h P = z_T g d 144 2 (v0 :: .int x :: ls) st h P := zt_istoren zi_144_1 rfl (Nat.le_add_left 2 _)
theorem zi_144_2 : z_ins 144 2 = some (.aload_n 0, 1) := by decide +kernel
theorem ze_144_2 : z_T g d 144 2 (.ref a :: ls) st h P = z_T g d 144 3 (.ref a :: ls) (.ref a :: st) h P := zt_aloadn zi_144_2 rfl rfl
theorem ze_144_2_n : z_T g d 144 2 (.null :: ls) st h P = z_T g d 144 3 (.null :: ls) (.null :: st) h P := zt_aloadnN zi_144_2 rfl rfl
theorem zi_144_3 : z_ins 144 3 = some (.astore_n 2, 1) := by decide +kernel
theorem ze_144_3 : z_T g d 144 3 (v0 :: v1 :: v2 :: ls) (.ref a :: st) h P = z_T g d 144 4 (v0 :: v1 :: .ref a :: ls) st h P := zt_astoren rfl zi_144_3 rfl (Nat.le_add_left 3 _)
theorem ze_144_3_n : z_T g d 144 3 (v0 :: v1 :: v2 :: ls) (.null :: st) h P = z_T g d 144 4 (v0 :: v1 :: .null :: ls) st h P := zt_astoren rfl zi_144_3 rfl (Nat.le_add_left 3 _)
theorem zi_144_4 : z_ins 144 4 = some (.aload_n 2, 1) := by decide +kernel
theorem ze_144_4 : z_T g d 144 4 (v0 :: v1 :: .ref a :: ls) st h P = z_T g d 144 5 (v0 :: v1 :: .ref a :: ls) (.ref a :: st) h P := zt_aloadn zi_144_4 rfl rfl
theorem ze_144_4_n : z_T g d 144 4 (v0 :: v1 :: .null :: ls) st h P = z_T g d 144 5 (v0 :: v1 :: .null :: ls) (.null :: st) h P := zt_aloadnN zi_144_4 rfl rfl
theorem zi_144_5 : z_ins 144 5 = some (.arraylength, 1) := by decide +kernel
theorem ze_144_5 : z_T g d 144 5 ls (.ref a :: st) h P = z_aN h.1 a (fun n => z_T g d 144 6 ls (.int (nI n) :: st) h P) := zt_alen zi_144_5
theorem zi_144_6 : z_ins 144 6 = some (.istore_n 3, 1) := by decide +kernel
theorem ze_144_6 : z_T g d 144 6 (v0 :: v1 :: v2 :: v3 :: ls) (.int x :: st) h P = z_T g d 144 7 (v0 :: v1 :: v2 :: .int x :: ls) st h P := zt_istoren zi_144_6 rfl (Nat.le_add_left 4 _)
theorem zi_144_7 : z_ins 144 7 = some (.iconst 0, 1) := by decide +kernel
theorem ze_144_7 : z_T g d 144 7 ls st h P = z_T g d 144 8 ls (.int (nI 0) :: st) h P := zt_iconst zi_144_7 rfl
theorem zi_144_8 : z_ins 144 8 = some (.istore 4, 2) := by decide +kernel
theorem ze_144_8 : z_T g d 144 8 (v0 :: v1 :: v2 :: v3 :: v4 :: ls) (.int x :: st) h P = z_T g d 144 10 (v0 :: v1 :: v2 :: v3 :: .int x :: ls) st h P := zt_istore zi_144_8 (Nat.le_add_left 5 _)
theorem zi_144_10 : z_ins 144 10 = some (.iload 4, 2) := by decide +kernel
theorem ze_144_10 : z_T g d 144 10 (v0 :: v1 :: v2 :: v3 :: .int x :: ls) st h P = z_T g d 144 12 (v0 :: v1 :: v2 :: v3 :: .int x :: ls) (.int x :: st) h P := zt_iload zi_144_10 rfl
theorem zi_144_12 : z_ins 144 12 = some (.iload_n 3, 1) := by decide +kernel
theorem ze_144_12 : z_T g d 144 12 (v0 :: v1 :: v2 :: .int x :: ls) st h P = z_T g d 144 13 (v0 :: v1 :: v2 :: .int x :: ls) (.int x :: st) h P := zt_iloadn zi_144_12 rfl rfl
theorem zi_144_13 : z_ins 144 13 = some (.if_icmp .ge 23, 3) := by decide +kernel
theorem ze_144_13 : z_T g d 144 13 ls (.int y :: .int x :: st) h P = (if x < y then z_T g d 144 16 ls st h P else z_T g d 144 36 ls st h P) := zt_icmpge zi_144_13 (by decide)
theorem zi_144_16 : z_ins 144 16 = some (.aload_n 2, 1) := by decide +kernel
theorem ze_144_16 : z_T g d 144 16 (v0 :: v1 :: .ref a :: ls) st h P = z_T g d 144 17 (v0 :: v1 :: .ref a :: ls) (.ref a :: st) h P := zt_aloadn zi_144_16 rfl rfl
theorem ze_144_16_n : z_T g d 144 16 (v0 :: v1 :: .null :: ls) st h P = z_T g d 144 17 (v0 :: v1 :: .null :: ls) (.null :: st) h P := zt_aloadnN zi_144_16 rfl rfl
theorem zi_144_17 : z_ins 144 17 = some (.iload 4, 2) := by decide +kernel
theorem ze_144_17 : z_T g d 144 17 (v0 :: v1 :: v2 :: v3 :: .int x :: ls) st h P = z_T g d 144 19 (v0 :: v1 :: v2 :: v3 :: .int x :: ls) (.int x :: st) h P := zt_iload zi_144_17 rfl
theorem zi_144_19 : z_ins 144 19 = some (.baload, 1) := by decide +kernel
theorem ze_144_19 : z_T g d 144 19 ls (.int x :: .ref a :: st) h P = z_aL h.1 a z_tB x (fun v => z_T g d 144 20 ls (.int v :: st) h P) := zt_baload zi_144_19
theorem zi_144_20 : z_ins 144 20 = some (.istore 5, 2) := by decide +kernel
theorem ze_144_20 : z_T g d 144 20 (v0 :: v1 :: v2 :: v3 :: v4 :: v5 :: ls) (.int x :: st) h P = z_T g d 144 22 (v0 :: v1 :: v2 :: v3 :: v4 :: .int x :: ls) st h P := zt_istore zi_144_20 (Nat.le_add_left 6 _)
theorem zi_144_22 : z_ins 144 22 = some (.iload 5, 2) := by decide +kernel
theorem ze_144_22 : z_T g d 144 22 (v0 :: v1 :: v2 :: v3 :: v4 :: .int x :: ls) st h P = z_T g d 144 24 (v0 :: v1 :: v2 :: v3 :: v4 :: .int x :: ls) (.int x :: st) h P := zt_iload zi_144_22 rfl
theorem zi_144_24 : z_ins 144 24 = some (.ifCond .eq 6, 3) := by decide +kernel
theorem ze_144_24 : z_T g d 144 24 ls (.int x :: st) h P = (if x = nI 0 then z_T g d 144 30 ls st h P else z_T g d 144 27 ls st h P) := zt_ifeq zi_144_24 (by decide)
theorem zi_144_27 : z_ins 144 27 = some (.iinc 1 1, 3) := by decide +kernel
theorem ze_144_27 : z_T g d 144 27 (v0 :: .int x :: ls) st h P = z_T g d 144 30 (v0 :: .int (x + (nI 1)) :: ls) st h P := zt_iinc zi_144_27 rfl rfl
theorem zi_144_30 : z_ins 144 30 = some (.iinc 4 1, 3) := by decide +kernel
theorem ze_144_30 : z_T g d 144 30 (v0 :: v1 :: v2 :: v3 :: .int x :: ls) st h P = z_T g d 144 33 (v0 :: v1 :: v2 :: v3 :: .int (x + (nI 1)) :: ls) st h P := zt_iinc zi_144_30 rfl rfl
theorem zi_144_33 : z_ins 144 33 = some (.goto (-23), 3) := by decide +kernel
theorem ze_144_33 : z_T g d 144 33 ls st h P = z_T g d 144 10 ls st h P := zt_goto zi_144_33 (by decide)
theorem zi_144_36 : z_ins 144 36 = some (.iload_n 1, 1) := by decide +kernel
theorem ze_144_36 : z_T g d 144 36 (v0 :: .int x :: ls) st h P = z_T g d 144 37 (v0 :: .int x :: ls) (.int x :: st) h P := zt_iloadn zi_144_36 rfl rfl
theorem zi_144_37 : z_ins 144 37 = some (.ireturn, 1) := by decide +kernel
theorem ze_144_37 : z_T g d 144 37 ls [.int x] h P = P (.inr (some (.int x)), h) := zt_ireturn zi_144_37 zr_144
-- LatinRectanglesLaw.grid(Ljava/lang/StringBuilder;[I)LLatinRectanglesLaw$Grid;
theorem zm_145 : z_maxL 145 = 8 := by decide +kernel
theorem zh_145 : z_hds 145 = [] := by decide +kernel
theorem zj_145 : z_jdk 145 = false := by decide +kernel
theorem zr_145 : z_rt 145 = (some (.object "LatinRectanglesLaw$Grid")) := by decide +kernel
theorem zn_145 : z_Ca g d 145 [.ref a0, .ref a1] h P = z_T g d 145 0 [.ref a0, .ref a1, z_un, z_un, z_un, z_un, z_un, z_un] [] h P := z_Ca_ent zm_145 rfl rfl
theorem zi_145_0 : z_ins 145 0 = some (.iconst 2, 1) := by decide +kernel
theorem ze_145_0 : z_T g d 145 0 ls st h P = z_T g d 145 1 ls (.int (nI 2) :: st) h P := zt_iconst zi_145_0 rfl
theorem zi_145_1 : z_ins 145 1 = some (.aload_n 1, 1) := by decide +kernel
theorem ze_145_1 : z_T g d 145 1 (v0 :: .ref a :: ls) st h P = z_T g d 145 2 (v0 :: .ref a :: ls) (.ref a :: st) h P := zt_aloadn zi_145_1 rfl rfl
theorem ze_145_1_n : z_T g d 145 1 (v0 :: .null :: ls) st h P = z_T g d 145 2 (v0 :: .null :: ls) (.null :: st) h P := zt_aloadnN zi_145_1 rfl rfl
theorem zi_145_2 : z_ins 145 2 = some (.iconst 4, 1) := by decide +kernel
theorem ze_145_2 : z_T g d 145 2 ls st h P = z_T g d 145 3 ls (.int (nI 4) :: st) h P := zt_iconst zi_145_2 rfl
theorem zi_145_3 : z_ins 145 3 = some (.invokestatic 32, 3) := by decide +kernel
theorem ze_145_3 : z_T g d 145 3 ls (.int x1 :: .ref a0 :: st) h P = ((z_okS 8 st = true ∧ 0 < d) ∧ z_Ca g (d - 1) 143 [.ref a0, .int x1] h (fun r => z_k r (fun v h' => z_T g d 145 6 ls (z_push v st) h' P) P)) := zt_cS (as := [.ref a0, .int x1]) (kk := 1) zi_145_3 rfl (zt_call zj_145 zh_145) (z_opT ((congrArg (fun o => z_lookup z_cps (o, 32)) zo_145).trans zq_cps_LatinRectanglesLaw_32) ((congrArg (fun o => z_lookup z_prs (o, 32)) zo_145).trans zq_prs_LatinRectanglesLaw_32)) ((congrArg (fun o => z_clk o 32) zo_145).trans zk_LatinRectanglesLaw_32) rfl rfl rfl rfl rfl
theorem zi_145_6 : z_ins 145 6 = some (.iadd, 1) := by decide +kernel
theorem ze_145_6 : z_T g d 145 6 ls (.int y :: .int x :: st) h P = z_T g d 145 7 ls (.int (x + y) :: st) h P := zt_bin (f := fun x y => x + y) zi_145_6 rfl (fun _ _ _ => rfl)
theorem zi_145_7 : z_ins 145 7 = some (.istore_n 2, 1) := by decide +kernel
theorem ze_145_7 : z_T g d 145 7 (v0 :: v1 :: v2 :: ls) (.int x :: st) h P = z_T g d 145 8 (v0 :: v1 :: .int x :: ls) st h P := zt_istoren zi_145_7 rfl (Nat.le_add_left 3 _)
theorem zi_145_8 : z_ins 145 8 = some (.new 36, 3) := by decide +kernel
theorem ze_145_8 : z_T g d 145 8 ls st h P = z_nO h 10 12 [.int 0, .int 0, .int 0, .int 0, .null, .null, .null, .int 0, .null, .null, .null, .null] (fun q h' => z_T g d 145 11 ls (.ref q :: st) h' P) := zt_new zi_145_8 (by decide +kernel)
theorem zi_145_11 : z_ins 145 11 = some (.dup, 1) := by decide +kernel
theorem ze_145_11 : z_T g d 145 11 ls (.ref a :: st) h P = z_T g d 145 12 ls (.ref a :: .ref a :: st) h P := zt_dup rfl zi_145_11
theorem ze_145_11_i : z_T g d 145 11 ls (.int x :: st) h P = z_T g d 145 12 ls (.int x :: .int x :: st) h P := zt_dup rfl zi_145_11
theorem zi_145_12 : z_ins 145 12 = some (.iconst 1, 1) := by decide +kernel
theorem ze_145_12 : z_T g d 145 12 ls st h P = z_T g d 145 13 ls (.int (nI 1) :: st) h P := zt_iconst zi_145_12 rfl
theorem zi_145_13 : z_ins 145 13 = some (.aload_n 1, 1) := by decide +kernel
theorem ze_145_13 : z_T g d 145 13 (v0 :: .ref a :: ls) st h P = z_T g d 145 14 (v0 :: .ref a :: ls) (.ref a :: st) h P := zt_aloadn zi_145_13 rfl rfl
theorem ze_145_13_n : z_T g d 145 13 (v0 :: .null :: ls) st h P = z_T g d 145 14 (v0 :: .null :: ls) (.null :: st) h P := zt_aloadnN zi_145_13 rfl rfl
theorem zi_145_14 : z_ins 145 14 = some (.iload_n 2, 1) := by decide +kernel
theorem ze_145_14 : z_T g d 145 14 (v0 :: v1 :: .int x :: ls) st h P = z_T g d 145 15 (v0 :: v1 :: .int x :: ls) (.int x :: st) h P := zt_iloadn zi_145_14 rfl rfl
theorem zi_145_15 : z_ins 145 15 = some (.invokestatic 32, 3) := by decide +kernel
theorem ze_145_15 : z_T g d 145 15 ls (.int x1 :: .ref a0 :: st) h P = ((z_okS 8 st = true ∧ 0 < d) ∧ z_Ca g (d - 1) 143 [.ref a0, .int x1] h (fun r => z_k r (fun v h' => z_T g d 145 18 ls (z_push v st) h' P) P)) := zt_cS (as := [.ref a0, .int x1]) (kk := 1) zi_145_15 rfl (zt_call zj_145 zh_145) (z_opT ((congrArg (fun o => z_lookup z_cps (o, 32)) zo_145).trans zq_cps_LatinRectanglesLaw_32) ((congrArg (fun o => z_lookup z_prs (o, 32)) zo_145).trans zq_prs_LatinRectanglesLaw_32)) ((congrArg (fun o => z_clk o 32) zo_145).trans zk_LatinRectanglesLaw_32) rfl rfl rfl rfl rfl
theorem zi_145_18 : z_ins 145 18 = some (.iadd, 1) := by decide +kernel
theorem ze_145_18 : z_T g d 145 18 ls (.int y :: .int x :: st) h P = z_T g d 145 19 ls (.int (x + y) :: st) h P := zt_bin (f := fun x y => x + y) zi_145_18 rfl (fun _ _ _ => rfl)
theorem zi_145_19 : z_ins 145 19 = some (.iload_n 2, 1) := by decide +kernel
theorem ze_145_19 : z_T g d 145 19 (v0 :: v1 :: .int x :: ls) st h P = z_T g d 145 20 (v0 :: v1 :: .int x :: ls) (.int x :: st) h P := zt_iloadn zi_145_19 rfl rfl
theorem zi_145_20 : z_ins 145 20 = some (.invokespecial 38, 3) := by decide +kernel
theorem ze_145_20 : z_T g d 145 20 ls (.int x1 :: .int x0 :: .ref a :: st) h P = ((z_okS 8 st = true ∧ 0 < d) ∧ z_Ca g (d - 1) 94 [.ref a, .int x0, .int x1] h (fun r => z_k r (fun v h' => z_T g d 145 23 ls (z_push v st) h' P) P)) := zt_cS (as := [.ref a, .int x0, .int x1]) (kk := 2) zi_145_20 rfl (zt_call zj_145 zh_145) (z_opI ((congrArg (fun o => z_lookup z_ois (o, 38)) zo_145).trans zq_ois_LatinRectanglesLaw_38)) ((congrArg (fun o => z_clk o 38) zo_145).trans zk_LatinRectanglesLaw_38) rfl rfl rfl rfl rfl
theorem zi_145_23 : z_ins 145 23 = some (.astore_n 3, 1) := by decide +kernel
theorem ze_145_23 : z_T g d 145 23 (v0 :: v1 :: v2 :: v3 :: ls) (.ref a :: st) h P = z_T g d 145 24 (v0 :: v1 :: v2 :: .ref a :: ls) st h P := zt_astoren rfl zi_145_23 rfl (Nat.le_add_left 4 _)
theorem ze_145_23_n : z_T g d 145 23 (v0 :: v1 :: v2 :: v3 :: ls) (.null :: st) h P = z_T g d 145 24 (v0 :: v1 :: v2 :: .null :: ls) st h P := zt_astoren rfl zi_145_23 rfl (Nat.le_add_left 4 _)
theorem zi_145_24 : z_ins 145 24 = some (.aload_n 0, 1) := by decide +kernel
theorem ze_145_24 : z_T g d 145 24 (.ref a :: ls) st h P = z_T g d 145 25 (.ref a :: ls) (.ref a :: st) h P := zt_aloadn zi_145_24 rfl rfl
theorem ze_145_24_n : z_T g d 145 24 (.null :: ls) st h P = z_T g d 145 25 (.null :: ls) (.null :: st) h P := zt_aloadnN zi_145_24 rfl rfl
theorem zi_145_25 : z_ins 145 25 = some (.ldc 41, 2) := by decide +kernel
theorem ze_145_25 : z_T g d 145 25 ls st h P = z_T g d 145 27 ls (.retAddr 3 :: st) h P := zt_ldc zi_145_25 (by decide +kernel)
theorem zi_145_27 : z_ins 145 27 = some (.invokevirtual 43, 3) := by decide +kernel
theorem ze_145_27 : z_T g d 145 27 ls (.ref a0 :: .ref a :: st) h P = ((z_okS 8 st = true ∧ z_gO h.1 a 12 ∧ 0 < d) ∧ z_Ca g (d - 1) 130 [.ref a, .ref a0] h (fun r => z_k r (fun v h' => z_T g d 145 30 ls (z_push v st) h' P) P)) := zt_cV (as := [.ref a0]) (kk := 0) zi_145_27 rfl (zt_call zj_145 zh_145) (z_opV ((congrArg (fun o => z_lookup z_cns (o, 43)) zo_145).trans zq_cns_LatinRectanglesLaw_43) ((congrArg (fun o => z_lookup z_prs (o, 43)) zo_145).trans zq_prs_LatinRectanglesLaw_43)) ((congrArg (fun o => z_clk o 43) zo_145).trans zk_LatinRectanglesLaw_43) rfl rfl rfl rfl (z_rcv0 zc_130)
theorem ze_145_27_l : z_T g d 145 27 ls (.retAddr k0 :: .ref a :: st) h P = ((z_okS 8 st = true ∧ z_gO h.1 a 12 ∧ 0 < d) ∧ z_Ca g (d - 1) 130 [.ref a, .retAddr k0] h (fun r => z_k r (fun v h' => z_T g d 145 30 ls (z_push v st) h' P) P)) := zt_cV (as := [.retAddr k0]) (kk := 0) zi_145_27 rfl (zt_call zj_145 zh_145) (z_opV ((congrArg (fun o => z_lookup z_cns (o, 43)) zo_145).trans zq_cns_LatinRectanglesLaw_43) ((congrArg (fun o => z_lookup z_prs (o, 43)) zo_145).trans zq_prs_LatinRectanglesLaw_43)) ((congrArg (fun o => z_clk o 43) zo_145).trans zk_LatinRectanglesLaw_43) rfl rfl rfl rfl (z_rcv0 zc_130)
theorem zi_145_30 : z_ins 145 30 = some (.aload_n 3, 1) := by decide +kernel
theorem ze_145_30 : z_T g d 145 30 (v0 :: v1 :: v2 :: .ref a :: ls) st h P = z_T g d 145 31 (v0 :: v1 :: v2 :: .ref a :: ls) (.ref a :: st) h P := zt_aloadn zi_145_30 rfl rfl
theorem ze_145_30_n : z_T g d 145 30 (v0 :: v1 :: v2 :: .null :: ls) st h P = z_T g d 145 31 (v0 :: v1 :: v2 :: .null :: ls) (.null :: st) h P := zt_aloadnN zi_145_30 rfl rfl
theorem zi_145_31 : z_ins 145 31 = some (.getfield 48, 3) := by decide +kernel
theorem ze_145_31 : z_T g d 145 31 ls (.ref a :: st) h P = z_gI h.1 a 10 0 (fun x => z_T g d 145 34 ls (.int x :: st) h P) := zt_getI zi_145_31 ((congrArg (fun o => z_fl o 48) zo_145).trans zf_LatinRectanglesLaw_48)
theorem zi_145_34 : z_ins 145 34 = some (.invokevirtual 52, 3) := by decide +kernel
theorem ze_145_34 : z_T g d 145 34 ls (.int x0 :: .ref a :: st) h P = ((z_okS 8 st = true ∧ z_gO h.1 a 12 ∧ 0 < d) ∧ z_Ca g (d - 1) 132 [.ref a, .int x0] h (fun r => z_k r (fun v h' => z_T g d 145 37 ls (z_push v st) h' P) P)) := zt_cV (as := [.int x0]) (kk := 0) zi_145_34 rfl (zt_call zj_145 zh_145) (z_opV ((congrArg (fun o => z_lookup z_cns (o, 52)) zo_145).trans zq_cns_LatinRectanglesLaw_52) ((congrArg (fun o => z_lookup z_prs (o, 52)) zo_145).trans zq_prs_LatinRectanglesLaw_52)) ((congrArg (fun o => z_clk o 52) zo_145).trans zk_LatinRectanglesLaw_52) rfl rfl rfl rfl (z_rcv0 zc_132)
theorem zi_145_37 : z_ins 145 37 = some (.bipush 32, 2) := by decide +kernel
theorem ze_145_37 : z_T g d 145 37 ls st h P = z_T g d 145 39 ls (.int (nI 32) :: st) h P := zt_bipush zi_145_37 rfl
theorem zi_145_39 : z_ins 145 39 = some (.invokevirtual 55, 3) := by decide +kernel
theorem ze_145_39 : z_T g d 145 39 ls (.int x0 :: .ref a :: st) h P = ((z_okS 8 st = true ∧ z_gO h.1 a 12 ∧ 0 < d) ∧ z_Ca g (d - 1) 131 [.ref a, .int x0] h (fun r => z_k r (fun v h' => z_T g d 145 42 ls (z_push v st) h' P) P)) := zt_cV (as := [.int x0]) (kk := 0) zi_145_39 rfl (zt_call zj_145 zh_145) (z_opV ((congrArg (fun o => z_lookup z_cns (o, 55)) zo_145).trans zq_cns_LatinRectanglesLaw_55) ((congrArg (fun o => z_lookup z_prs (o, 55)) zo_145).trans zq_prs_LatinRectanglesLaw_55)) ((congrArg (fun o => z_clk o 55) zo_145).trans zk_LatinRectanglesLaw_55) rfl rfl rfl rfl (z_rcv0 zc_131)
theorem zi_145_42 : z_ins 145 42 = some (.iload_n 2, 1) := by decide +kernel
theorem ze_145_42 : z_T g d 145 42 (v0 :: v1 :: .int x :: ls) st h P = z_T g d 145 43 (v0 :: v1 :: .int x :: ls) (.int x :: st) h P := zt_iloadn zi_145_42 rfl rfl
theorem zi_145_43 : z_ins 145 43 = some (.invokevirtual 52, 3) := by decide +kernel
theorem ze_145_43 : z_T g d 145 43 ls (.int x0 :: .ref a :: st) h P = ((z_okS 8 st = true ∧ z_gO h.1 a 12 ∧ 0 < d) ∧ z_Ca g (d - 1) 132 [.ref a, .int x0] h (fun r => z_k r (fun v h' => z_T g d 145 46 ls (z_push v st) h' P) P)) := zt_cV (as := [.int x0]) (kk := 0) zi_145_43 rfl (zt_call zj_145 zh_145) (z_opV ((congrArg (fun o => z_lookup z_cns (o, 52)) zo_145).trans zq_cns_LatinRectanglesLaw_52) ((congrArg (fun o => z_lookup z_prs (o, 52)) zo_145).trans zq_prs_LatinRectanglesLaw_52)) ((congrArg (fun o => z_clk o 52) zo_145).trans zk_LatinRectanglesLaw_52) rfl rfl rfl rfl (z_rcv0 zc_132)
theorem zi_145_46 : z_ins 145 46 = some (.bipush 59, 2) := by decide +kernel
theorem ze_145_46 : z_T g d 145 46 ls st h P = z_T g d 145 48 ls (.int (nI 59) :: st) h P := zt_bipush zi_145_46 rfl
theorem zi_145_48 : z_ins 145 48 = some (.invokevirtual 55, 3) := by decide +kernel
theorem ze_145_48 : z_T g d 145 48 ls (.int x0 :: .ref a :: st) h P = ((z_okS 8 st = true ∧ z_gO h.1 a 12 ∧ 0 < d) ∧ z_Ca g (d - 1) 131 [.ref a, .int x0] h (fun r => z_k r (fun v h' => z_T g d 145 51 ls (z_push v st) h' P) P)) := zt_cV (as := [.int x0]) (kk := 0) zi_145_48 rfl (zt_call zj_145 zh_145) (z_opV ((congrArg (fun o => z_lookup z_cns (o, 55)) zo_145).trans zq_cns_LatinRectanglesLaw_55) ((congrArg (fun o => z_lookup z_prs (o, 55)) zo_145).trans zq_prs_LatinRectanglesLaw_55)) ((congrArg (fun o => z_clk o 55) zo_145).trans zk_LatinRectanglesLaw_55) rfl rfl rfl rfl (z_rcv0 zc_131)
theorem zi_145_51 : z_ins 145 51 = some (.pop, 1) := by decide +kernel
theorem ze_145_51_i : z_T g d 145 51 ls (.int x :: st) h P = z_T g d 145 52 ls st h P := zt_pop rfl zi_145_51
theorem ze_145_51 : z_T g d 145 51 ls (.ref a :: st) h P = z_T g d 145 52 ls st h P := zt_pop rfl zi_145_51
theorem zi_145_52 : z_ins 145 52 = some (.aload_n 1, 1) := by decide +kernel
theorem ze_145_52 : z_T g d 145 52 (v0 :: .ref a :: ls) st h P = z_T g d 145 53 (v0 :: .ref a :: ls) (.ref a :: st) h P := zt_aloadn zi_145_52 rfl rfl
theorem ze_145_52_n : z_T g d 145 52 (v0 :: .null :: ls) st h P = z_T g d 145 53 (v0 :: .null :: ls) (.null :: st) h P := zt_aloadnN zi_145_52 rfl rfl
theorem zi_145_53 : z_ins 145 53 = some (.bipush 9, 2) := by decide +kernel
theorem ze_145_53 : z_T g d 145 53 ls st h P = z_T g d 145 55 ls (.int (nI 9) :: st) h P := zt_bipush zi_145_53 rfl
theorem zi_145_55 : z_ins 145 55 = some (.invokestatic 32, 3) := by decide +kernel
theorem ze_145_55 : z_T g d 145 55 ls (.int x1 :: .ref a0 :: st) h P = ((z_okS 8 st = true ∧ 0 < d) ∧ z_Ca g (d - 1) 143 [.ref a0, .int x1] h (fun r => z_k r (fun v h' => z_T g d 145 58 ls (z_push v st) h' P) P)) := zt_cS (as := [.ref a0, .int x1]) (kk := 1) zi_145_55 rfl (zt_call zj_145 zh_145) (z_opT ((congrArg (fun o => z_lookup z_cps (o, 32)) zo_145).trans zq_cps_LatinRectanglesLaw_32) ((congrArg (fun o => z_lookup z_prs (o, 32)) zo_145).trans zq_prs_LatinRectanglesLaw_32)) ((congrArg (fun o => z_clk o 32) zo_145).trans zk_LatinRectanglesLaw_32) rfl rfl rfl rfl rfl
theorem zi_145_58 : z_ins 145 58 = some (.istore 4, 2) := by decide +kernel
theorem ze_145_58 : z_T g d 145 58 (v0 :: v1 :: v2 :: v3 :: v4 :: ls) (.int x :: st) h P = z_T g d 145 60 (v0 :: v1 :: v2 :: v3 :: .int x :: ls) st h P := zt_istore zi_145_58 (Nat.le_add_left 5 _)
theorem zi_145_60 : z_ins 145 60 = some (.iload 4, 2) := by decide +kernel
theorem ze_145_60 : z_T g d 145 60 (v0 :: v1 :: v2 :: v3 :: .int x :: ls) st h P = z_T g d 145 62 (v0 :: v1 :: v2 :: v3 :: .int x :: ls) (.int x :: st) h P := zt_iload zi_145_60 rfl
theorem zi_145_62 : z_ins 145 62 = some (.ifCond .le 219, 3) := by decide +kernel
theorem ze_145_62 : z_T g d 145 62 ls (.int x :: st) h P = (if nI 0 < x then z_T g d 145 65 ls st h P else z_T g d 145 281 ls st h P) := zt_ifle zi_145_62 (by decide)
theorem zi_145_65 : z_ins 145 65 = some (.aload_n 1, 1) := by decide +kernel
theorem ze_145_65 : z_T g d 145 65 (v0 :: .ref a :: ls) st h P = z_T g d 145 66 (v0 :: .ref a :: ls) (.ref a :: st) h P := zt_aloadn zi_145_65 rfl rfl
theorem ze_145_65_n : z_T g d 145 65 (v0 :: .null :: ls) st h P = z_T g d 145 66 (v0 :: .null :: ls) (.null :: st) h P := zt_aloadnN zi_145_65 rfl rfl
theorem zi_145_66 : z_ins 145 66 = some (.aload_n 3, 1) := by decide +kernel
theorem ze_145_66 : z_T g d 145 66 (v0 :: v1 :: v2 :: .ref a :: ls) st h P = z_T g d 145 67 (v0 :: v1 :: v2 :: .ref a :: ls) (.ref a :: st) h P := zt_aloadn zi_145_66 rfl rfl
theorem ze_145_66_n : z_T g d 145 66 (v0 :: v1 :: v2 :: .null :: ls) st h P = z_T g d 145 67 (v0 :: v1 :: v2 :: .null :: ls) (.null :: st) h P := zt_aloadnN zi_145_66 rfl rfl
theorem zi_145_67 : z_ins 145 67 = some (.getfield 48, 3) := by decide +kernel
theorem ze_145_67 : z_T g d 145 67 ls (.ref a :: st) h P = z_gI h.1 a 10 0 (fun x => z_T g d 145 70 ls (.int x :: st) h P) := zt_getI zi_145_67 ((congrArg (fun o => z_fl o 48) zo_145).trans zf_LatinRectanglesLaw_48)
theorem zi_145_70 : z_ins 145 70 = some (.invokestatic 32, 3) := by decide +kernel
theorem ze_145_70 : z_T g d 145 70 ls (.int x1 :: .ref a0 :: st) h P = ((z_okS 8 st = true ∧ 0 < d) ∧ z_Ca g (d - 1) 143 [.ref a0, .int x1] h (fun r => z_k r (fun v h' => z_T g d 145 73 ls (z_push v st) h' P) P)) := zt_cS (as := [.ref a0, .int x1]) (kk := 1) zi_145_70 rfl (zt_call zj_145 zh_145) (z_opT ((congrArg (fun o => z_lookup z_cps (o, 32)) zo_145).trans zq_cps_LatinRectanglesLaw_32) ((congrArg (fun o => z_lookup z_prs (o, 32)) zo_145).trans zq_prs_LatinRectanglesLaw_32)) ((congrArg (fun o => z_clk o 32) zo_145).trans zk_LatinRectanglesLaw_32) rfl rfl rfl rfl rfl
theorem zi_145_73 : z_ins 145 73 = some (.istore 5, 2) := by decide +kernel
theorem ze_145_73 : z_T g d 145 73 (v0 :: v1 :: v2 :: v3 :: v4 :: v5 :: ls) (.int x :: st) h P = z_T g d 145 75 (v0 :: v1 :: v2 :: v3 :: v4 :: .int x :: ls) st h P := zt_istore zi_145_73 (Nat.le_add_left 6 _)
theorem zi_145_75 : z_ins 145 75 = some (.aload_n 1, 1) := by decide +kernel
theorem ze_145_75 : z_T g d 145 75 (v0 :: .ref a :: ls) st h P = z_T g d 145 76 (v0 :: .ref a :: ls) (.ref a :: st) h P := zt_aloadn zi_145_75 rfl rfl
theorem ze_145_75_n : z_T g d 145 75 (v0 :: .null :: ls) st h P = z_T g d 145 76 (v0 :: .null :: ls) (.null :: st) h P := zt_aloadnN zi_145_75 rfl rfl
theorem zi_145_76 : z_ins 145 76 = some (.iload_n 2, 1) := by decide +kernel
theorem ze_145_76 : z_T g d 145 76 (v0 :: v1 :: .int x :: ls) st h P = z_T g d 145 77 (v0 :: v1 :: .int x :: ls) (.int x :: st) h P := zt_iloadn zi_145_76 rfl rfl
theorem zi_145_77 : z_ins 145 77 = some (.invokestatic 32, 3) := by decide +kernel
theorem ze_145_77 : z_T g d 145 77 ls (.int x1 :: .ref a0 :: st) h P = ((z_okS 8 st = true ∧ 0 < d) ∧ z_Ca g (d - 1) 143 [.ref a0, .int x1] h (fun r => z_k r (fun v h' => z_T g d 145 80 ls (z_push v st) h' P) P)) := zt_cS (as := [.ref a0, .int x1]) (kk := 1) zi_145_77 rfl (zt_call zj_145 zh_145) (z_opT ((congrArg (fun o => z_lookup z_cps (o, 32)) zo_145).trans zq_cps_LatinRectanglesLaw_32) ((congrArg (fun o => z_lookup z_prs (o, 32)) zo_145).trans zq_prs_LatinRectanglesLaw_32)) ((congrArg (fun o => z_clk o 32) zo_145).trans zk_LatinRectanglesLaw_32) rfl rfl rfl rfl rfl
theorem zi_145_80 : z_ins 145 80 = some (.istore 6, 2) := by decide +kernel
theorem ze_145_80 : z_T g d 145 80 (v0 :: v1 :: v2 :: v3 :: v4 :: v5 :: v6 :: ls) (.int x :: st) h P = z_T g d 145 82 (v0 :: v1 :: v2 :: v3 :: v4 :: v5 :: .int x :: ls) st h P := zt_istore zi_145_80 (Nat.le_add_left 7 _)
theorem zi_145_82 : z_ins 145 82 = some (.aload_n 1, 1) := by decide +kernel
theorem ze_145_82 : z_T g d 145 82 (v0 :: .ref a :: ls) st h P = z_T g d 145 83 (v0 :: .ref a :: ls) (.ref a :: st) h P := zt_aloadn zi_145_82 rfl rfl
theorem ze_145_82_n : z_T g d 145 82 (v0 :: .null :: ls) st h P = z_T g d 145 83 (v0 :: .null :: ls) (.null :: st) h P := zt_aloadnN zi_145_82 rfl rfl
theorem zi_145_83 : z_ins 145 83 = some (.iload_n 2, 1) := by decide +kernel
theorem ze_145_83 : z_T g d 145 83 (v0 :: v1 :: .int x :: ls) st h P = z_T g d 145 84 (v0 :: v1 :: .int x :: ls) (.int x :: st) h P := zt_iloadn zi_145_83 rfl rfl
theorem zi_145_84 : z_ins 145 84 = some (.invokestatic 32, 3) := by decide +kernel
theorem ze_145_84 : z_T g d 145 84 ls (.int x1 :: .ref a0 :: st) h P = ((z_okS 8 st = true ∧ 0 < d) ∧ z_Ca g (d - 1) 143 [.ref a0, .int x1] h (fun r => z_k r (fun v h' => z_T g d 145 87 ls (z_push v st) h' P) P)) := zt_cS (as := [.ref a0, .int x1]) (kk := 1) zi_145_84 rfl (zt_call zj_145 zh_145) (z_opT ((congrArg (fun o => z_lookup z_cps (o, 32)) zo_145).trans zq_cps_LatinRectanglesLaw_32) ((congrArg (fun o => z_lookup z_prs (o, 32)) zo_145).trans zq_prs_LatinRectanglesLaw_32)) ((congrArg (fun o => z_clk o 32) zo_145).trans zk_LatinRectanglesLaw_32) rfl rfl rfl rfl rfl
theorem zi_145_87 : z_ins 145 87 = some (.istore 7, 2) := by decide +kernel
theorem ze_145_87 : z_T g d 145 87 (v0 :: v1 :: v2 :: v3 :: v4 :: v5 :: v6 :: v7 :: ls) (.int x :: st) h P = z_T g d 145 89 (v0 :: v1 :: v2 :: v3 :: v4 :: v5 :: v6 :: .int x :: ls) st h P := zt_istore zi_145_87 (Nat.le_add_left 8 _)
theorem zi_145_89 : z_ins 145 89 = some (.aload_n 1, 1) := by decide +kernel
theorem ze_145_89 : z_T g d 145 89 (v0 :: .ref a :: ls) st h P = z_T g d 145 90 (v0 :: .ref a :: ls) (.ref a :: st) h P := zt_aloadn zi_145_89 rfl rfl
theorem ze_145_89_n : z_T g d 145 89 (v0 :: .null :: ls) st h P = z_T g d 145 90 (v0 :: .null :: ls) (.null :: st) h P := zt_aloadnN zi_145_89 rfl rfl
theorem zi_145_90 : z_ins 145 90 = some (.iconst 2, 1) := by decide +kernel
theorem ze_145_90 : z_T g d 145 90 ls st h P = z_T g d 145 91 ls (.int (nI 2) :: st) h P := zt_iconst zi_145_90 rfl
theorem zi_145_91 : z_ins 145 91 = some (.invokestatic 32, 3) := by decide +kernel
theorem ze_145_91 : z_T g d 145 91 ls (.int x1 :: .ref a0 :: st) h P = ((z_okS 8 st = true ∧ 0 < d) ∧ z_Ca g (d - 1) 143 [.ref a0, .int x1] h (fun r => z_k r (fun v h' => z_T g d 145 94 ls (z_push v st) h' P) P)) := zt_cS (as := [.ref a0, .int x1]) (kk := 1) zi_145_91 rfl (zt_call zj_145 zh_145) (z_opT ((congrArg (fun o => z_lookup z_cps (o, 32)) zo_145).trans zq_cps_LatinRectanglesLaw_32) ((congrArg (fun o => z_lookup z_prs (o, 32)) zo_145).trans zq_prs_LatinRectanglesLaw_32)) ((congrArg (fun o => z_clk o 32) zo_145).trans zk_LatinRectanglesLaw_32) rfl rfl rfl rfl rfl
theorem zi_145_94 : z_ins 145 94 = some (.ifCond .ne 89, 3) := by decide +kernel
theorem ze_145_94 : z_T g d 145 94 ls (.int x :: st) h P = (if x = nI 0 then z_T g d 145 97 ls st h P else z_T g d 145 183 ls st h P) := zt_ifne zi_145_94 (by decide)
theorem zi_145_97 : z_ins 145 97 = some (.aload_n 3, 1) := by decide +kernel
theorem ze_145_97 : z_T g d 145 97 (v0 :: v1 :: v2 :: .ref a :: ls) st h P = z_T g d 145 98 (v0 :: v1 :: v2 :: .ref a :: ls) (.ref a :: st) h P := zt_aloadn zi_145_97 rfl rfl
theorem ze_145_97_n : z_T g d 145 97 (v0 :: v1 :: v2 :: .null :: ls) st h P = z_T g d 145 98 (v0 :: v1 :: v2 :: .null :: ls) (.null :: st) h P := zt_aloadnN zi_145_97 rfl rfl
theorem zi_145_98 : z_ins 145 98 = some (.iload 5, 2) := by decide +kernel
theorem ze_145_98 : z_T g d 145 98 (v0 :: v1 :: v2 :: v3 :: v4 :: .int x :: ls) st h P = z_T g d 145 100 (v0 :: v1 :: v2 :: v3 :: v4 :: .int x :: ls) (.int x :: st) h P := zt_iload zi_145_98 rfl
theorem zi_145_100 : z_ins 145 100 = some (.iload 6, 2) := by decide +kernel
theorem ze_145_100 : z_T g d 145 100 (v0 :: v1 :: v2 :: v3 :: v4 :: v5 :: .int x :: ls) st h P = z_T g d 145 102 (v0 :: v1 :: v2 :: v3 :: v4 :: v5 :: .int x :: ls) (.int x :: st) h P := zt_iload zi_145_100 rfl
theorem zi_145_102 : z_ins 145 102 = some (.iload 7, 2) := by decide +kernel
theorem ze_145_102 : z_T g d 145 102 (v0 :: v1 :: v2 :: v3 :: v4 :: v5 :: v6 :: .int x :: ls) st h P = z_T g d 145 104 (v0 :: v1 :: v2 :: v3 :: v4 :: v5 :: v6 :: .int x :: ls) (.int x :: st) h P := zt_iload zi_145_102 rfl
theorem zi_145_104 : z_ins 145 104 = some (.invokevirtual 58, 3) := by decide +kernel
theorem ze_145_104 : z_T g d 145 104 ls (.int x2 :: .int x1 :: .int x0 :: .ref a :: st) h P = ((z_okS 8 st = true ∧ z_gO h.1 a 10 ∧ 0 < d) ∧ z_Ca g (d - 1) 95 [.ref a, .int x0, .int x1, .int x2] h (fun r => z_k r (fun v h' => z_T g d 145 107 ls (z_push v st) h' P) P)) := zt_cV (as := [.int x0, .int x1, .int x2]) (kk := 0) zi_145_104 rfl (zt_call zj_145 zh_145) (z_opV ((congrArg (fun o => z_lookup z_cns (o, 58)) zo_145).trans zq_cns_LatinRectanglesLaw_58) ((congrArg (fun o => z_lookup z_prs (o, 58)) zo_145).trans zq_prs_LatinRectanglesLaw_58)) ((congrArg (fun o => z_clk o 58) zo_145).trans zk_LatinRectanglesLaw_58) rfl rfl rfl rfl (z_rcv0 zc_95)
theorem zi_145_107 : z_ins 145 107 = some (.ifCond .eq 76, 3) := by decide +kernel
theorem ze_145_107 : z_T g d 145 107 ls (.int x :: st) h P = (if x = nI 0 then z_T g d 145 183 ls st h P else z_T g d 145 110 ls st h P) := zt_ifeq zi_145_107 (by decide)
theorem zi_145_110 : z_ins 145 110 = some (.aload_n 3, 1) := by decide +kernel
theorem ze_145_110 : z_T g d 145 110 (v0 :: v1 :: v2 :: .ref a :: ls) st h P = z_T g d 145 111 (v0 :: v1 :: v2 :: .ref a :: ls) (.ref a :: st) h P := zt_aloadn zi_145_110 rfl rfl
theorem ze_145_110_n : z_T g d 145 110 (v0 :: v1 :: v2 :: .null :: ls) st h P = z_T g d 145 111 (v0 :: v1 :: v2 :: .null :: ls) (.null :: st) h P := zt_aloadnN zi_145_110 rfl rfl
theorem zi_145_111 : z_ins 145 111 = some (.getfield 62, 3) := by decide +kernel
theorem ze_145_111 : z_T g d 145 111 ls (.ref a :: st) h P = z_gR h.1 a 10 4 (fun x => z_T g d 145 114 ls (x :: st) h P) := zt_getR zi_145_111 ((congrArg (fun o => z_fl o 62) zo_145).trans zf_LatinRectanglesLaw_62)
theorem zi_145_114 : z_ins 145 114 = some (.iload 5, 2) := by decide +kernel
theorem ze_145_114 : z_T g d 145 114 (v0 :: v1 :: v2 :: v3 :: v4 :: .int x :: ls) st h P = z_T g d 145 116 (v0 :: v1 :: v2 :: v3 :: v4 :: .int x :: ls) (.int x :: st) h P := zt_iload zi_145_114 rfl
theorem zi_145_116 : z_ins 145 116 = some (.aaload, 1) := by decide +kernel
theorem ze_145_116 : z_T g d 145 116 ls (.int x :: .ref a :: st) h P = z_qL h.1 a x (fun v => z_T g d 145 117 ls (.ref v :: st) h P) := zt_aaload zi_145_116
theorem zi_145_117 : z_ins 145 117 = some (.iload 6, 2) := by decide +kernel
theorem ze_145_117 : z_T g d 145 117 (v0 :: v1 :: v2 :: v3 :: v4 :: v5 :: .int x :: ls) st h P = z_T g d 145 119 (v0 :: v1 :: v2 :: v3 :: v4 :: v5 :: .int x :: ls) (.int x :: st) h P := zt_iload zi_145_117 rfl
theorem zi_145_119 : z_ins 145 119 = some (.iload 7, 2) := by decide +kernel
theorem ze_145_119 : z_T g d 145 119 (v0 :: v1 :: v2 :: v3 :: v4 :: v5 :: v6 :: .int x :: ls) st h P = z_T g d 145 121 (v0 :: v1 :: v2 :: v3 :: v4 :: v5 :: v6 :: .int x :: ls) (.int x :: st) h P := zt_iload zi_145_119 rfl
theorem zi_145_121 : z_ins 145 121 = some (.iastore, 1) := by decide +kernel
theorem ze_145_121 : z_T g d 145 121 ls (.int y :: .int x :: .ref a :: st) h P = z_aS h.1 a z_tI x y (fun f => z_T g d 145 122 ls st (f, h.2) P) := zt_iastore zi_145_121
theorem zi_145_122 : z_ins 145 122 = some (.aload_n 3, 1) := by decide +kernel
theorem ze_145_122 : z_T g d 145 122 (v0 :: v1 :: v2 :: .ref a :: ls) st h P = z_T g d 145 123 (v0 :: v1 :: v2 :: .ref a :: ls) (.ref a :: st) h P := zt_aloadn zi_145_122 rfl rfl
theorem ze_145_122_n : z_T g d 145 122 (v0 :: v1 :: v2 :: .null :: ls) st h P = z_T g d 145 123 (v0 :: v1 :: v2 :: .null :: ls) (.null :: st) h P := zt_aloadnN zi_145_122 rfl rfl
theorem zi_145_123 : z_ins 145 123 = some (.getfield 66, 3) := by decide +kernel
theorem ze_145_123 : z_T g d 145 123 ls (.ref a :: st) h P = z_gR h.1 a 10 5 (fun x => z_T g d 145 126 ls (x :: st) h P) := zt_getR zi_145_123 ((congrArg (fun o => z_fl o 66) zo_145).trans zf_LatinRectanglesLaw_66)
theorem zi_145_126 : z_ins 145 126 = some (.iload 5, 2) := by decide +kernel
theorem ze_145_126 : z_T g d 145 126 (v0 :: v1 :: v2 :: v3 :: v4 :: .int x :: ls) st h P = z_T g d 145 128 (v0 :: v1 :: v2 :: v3 :: v4 :: .int x :: ls) (.int x :: st) h P := zt_iload zi_145_126 rfl
theorem zi_145_128 : z_ins 145 128 = some (.aaload, 1) := by decide +kernel
theorem ze_145_128 : z_T g d 145 128 ls (.int x :: .ref a :: st) h P = z_qL h.1 a x (fun v => z_T g d 145 129 ls (.ref v :: st) h P) := zt_aaload zi_145_128
theorem zi_145_129 : z_ins 145 129 = some (.iload 6, 2) := by decide +kernel
theorem ze_145_129 : z_T g d 145 129 (v0 :: v1 :: v2 :: v3 :: v4 :: v5 :: .int x :: ls) st h P = z_T g d 145 131 (v0 :: v1 :: v2 :: v3 :: v4 :: v5 :: .int x :: ls) (.int x :: st) h P := zt_iload zi_145_129 rfl
theorem zi_145_131 : z_ins 145 131 = some (.iconst 1, 1) := by decide +kernel
theorem ze_145_131 : z_T g d 145 131 ls st h P = z_T g d 145 132 ls (.int (nI 1) :: st) h P := zt_iconst zi_145_131 rfl
theorem zi_145_132 : z_ins 145 132 = some (.bastore, 1) := by decide +kernel
theorem ze_145_132 : z_T g d 145 132 ls (.int y :: .int x :: .ref a :: st) h P = z_aS h.1 a z_tB x y (fun f => z_T g d 145 133 ls st (f, h.2) P) := zt_bastore zi_145_132
theorem zi_145_133 : z_ins 145 133 = some (.aload_n 3, 1) := by decide +kernel
theorem ze_145_133 : z_T g d 145 133 (v0 :: v1 :: v2 :: .ref a :: ls) st h P = z_T g d 145 134 (v0 :: v1 :: v2 :: .ref a :: ls) (.ref a :: st) h P := zt_aloadn zi_145_133 rfl rfl
theorem ze_145_133_n : z_T g d 145 133 (v0 :: v1 :: v2 :: .null :: ls) st h P = z_T g d 145 134 (v0 :: v1 :: v2 :: .null :: ls) (.null :: st) h P := zt_aloadnN zi_145_133 rfl rfl
theorem zi_145_134 : z_ins 145 134 = some (.dup, 1) := by decide +kernel
theorem ze_145_134 : z_T g d 145 134 ls (.ref a :: st) h P = z_T g d 145 135 ls (.ref a :: .ref a :: st) h P := zt_dup rfl zi_145_134
theorem ze_145_134_i : z_T g d 145 134 ls (.int x :: st) h P = z_T g d 145 135 ls (.int x :: .int x :: st) h P := zt_dup rfl zi_145_134
theorem zi_145_135 : z_ins 145 135 = some (.getfield 70, 3) := by decide +kernel
theorem ze_145_135 : z_T g d 145 135 ls (.ref a :: st) h P = z_gI h.1 a 10 3 (fun x => z_T g d 145 138 ls (.int x :: st) h P) := zt_getI zi_145_135 ((congrArg (fun o => z_fl o 70) zo_145).trans zf_LatinRectanglesLaw_70)
theorem zi_145_138 : z_ins 145 138 = some (.iconst 1, 1) := by decide +kernel
theorem ze_145_138 : z_T g d 145 138 ls st h P = z_T g d 145 139 ls (.int (nI 1) :: st) h P := zt_iconst zi_145_138 rfl
theorem zi_145_139 : z_ins 145 139 = some (.iadd, 1) := by decide +kernel
theorem ze_145_139 : z_T g d 145 139 ls (.int y :: .int x :: st) h P = z_T g d 145 140 ls (.int (x + y) :: st) h P := zt_bin (f := fun x y => x + y) zi_145_139 rfl (fun _ _ _ => rfl)
theorem zi_145_140 : z_ins 145 140 = some (.putfield 70, 3) := by decide +kernel
theorem ze_145_140 : z_T g d 145 140 ls (.int x :: .ref a :: st) h P = z_pF h.1 a 10 3 (.int x) (fun f => z_T g d 145 143 ls st (f, h.2) P) := zt_put zi_145_140 ((congrArg (fun o => z_fl o 70) zo_145).trans zf_LatinRectanglesLaw_70) (by decide +kernel) rfl rfl
theorem zi_145_143 : z_ins 145 143 = some (.aload_n 0, 1) := by decide +kernel
theorem ze_145_143 : z_T g d 145 143 (.ref a :: ls) st h P = z_T g d 145 144 (.ref a :: ls) (.ref a :: st) h P := zt_aloadn zi_145_143 rfl rfl
theorem ze_145_143_n : z_T g d 145 143 (.null :: ls) st h P = z_T g d 145 144 (.null :: ls) (.null :: st) h P := zt_aloadnN zi_145_143 rfl rfl
theorem zi_145_144 : z_ins 145 144 = some (.ldc 73, 2) := by decide +kernel
theorem ze_145_144 : z_T g d 145 144 ls st h P = z_T g d 145 146 ls (.retAddr 4 :: st) h P := zt_ldc zi_145_144 (by decide +kernel)
theorem zi_145_146 : z_ins 145 146 = some (.invokevirtual 43, 3) := by decide +kernel
theorem ze_145_146 : z_T g d 145 146 ls (.ref a0 :: .ref a :: st) h P = ((z_okS 8 st = true ∧ z_gO h.1 a 12 ∧ 0 < d) ∧ z_Ca g (d - 1) 130 [.ref a, .ref a0] h (fun r => z_k r (fun v h' => z_T g d 145 149 ls (z_push v st) h' P) P)) := zt_cV (as := [.ref a0]) (kk := 0) zi_145_146 rfl (zt_call zj_145 zh_145) (z_opV ((congrArg (fun o => z_lookup z_cns (o, 43)) zo_145).trans zq_cns_LatinRectanglesLaw_43) ((congrArg (fun o => z_lookup z_prs (o, 43)) zo_145).trans zq_prs_LatinRectanglesLaw_43)) ((congrArg (fun o => z_clk o 43) zo_145).trans zk_LatinRectanglesLaw_43) rfl rfl rfl rfl (z_rcv0 zc_130)
theorem ze_145_146_l : z_T g d 145 146 ls (.retAddr k0 :: .ref a :: st) h P = ((z_okS 8 st = true ∧ z_gO h.1 a 12 ∧ 0 < d) ∧ z_Ca g (d - 1) 130 [.ref a, .retAddr k0] h (fun r => z_k r (fun v h' => z_T g d 145 149 ls (z_push v st) h' P) P)) := zt_cV (as := [.retAddr k0]) (kk := 0) zi_145_146 rfl (zt_call zj_145 zh_145) (z_opV ((congrArg (fun o => z_lookup z_cns (o, 43)) zo_145).trans zq_cns_LatinRectanglesLaw_43) ((congrArg (fun o => z_lookup z_prs (o, 43)) zo_145).trans zq_prs_LatinRectanglesLaw_43)) ((congrArg (fun o => z_clk o 43) zo_145).trans zk_LatinRectanglesLaw_43) rfl rfl rfl rfl (z_rcv0 zc_130)
theorem zi_145_149 : z_ins 145 149 = some (.iload 5, 2) := by decide +kernel
theorem ze_145_149 : z_T g d 145 149 (v0 :: v1 :: v2 :: v3 :: v4 :: .int x :: ls) st h P = z_T g d 145 151 (v0 :: v1 :: v2 :: v3 :: v4 :: .int x :: ls) (.int x :: st) h P := zt_iload zi_145_149 rfl
theorem zi_145_151 : z_ins 145 151 = some (.invokevirtual 52, 3) := by decide +kernel
theorem ze_145_151 : z_T g d 145 151 ls (.int x0 :: .ref a :: st) h P = ((z_okS 8 st = true ∧ z_gO h.1 a 12 ∧ 0 < d) ∧ z_Ca g (d - 1) 132 [.ref a, .int x0] h (fun r => z_k r (fun v h' => z_T g d 145 154 ls (z_push v st) h' P) P)) := zt_cV (as := [.int x0]) (kk := 0) zi_145_151 rfl (zt_call zj_145 zh_145) (z_opV ((congrArg (fun o => z_lookup z_cns (o, 52)) zo_145).trans zq_cns_LatinRectanglesLaw_52) ((congrArg (fun o => z_lookup z_prs (o, 52)) zo_145).trans zq_prs_LatinRectanglesLaw_52)) ((congrArg (fun o => z_clk o 52) zo_145).trans zk_LatinRectanglesLaw_52) rfl rfl rfl rfl (z_rcv0 zc_132)
theorem zi_145_154 : z_ins 145 154 = some (.bipush 32, 2) := by decide +kernel
theorem ze_145_154 : z_T g d 145 154 ls st h P = z_T g d 145 156 ls (.int (nI 32) :: st) h P := zt_bipush zi_145_154 rfl
theorem zi_145_156 : z_ins 145 156 = some (.invokevirtual 55, 3) := by decide +kernel
theorem ze_145_156 : z_T g d 145 156 ls (.int x0 :: .ref a :: st) h P = ((z_okS 8 st = true ∧ z_gO h.1 a 12 ∧ 0 < d) ∧ z_Ca g (d - 1) 131 [.ref a, .int x0] h (fun r => z_k r (fun v h' => z_T g d 145 159 ls (z_push v st) h' P) P)) := zt_cV (as := [.int x0]) (kk := 0) zi_145_156 rfl (zt_call zj_145 zh_145) (z_opV ((congrArg (fun o => z_lookup z_cns (o, 55)) zo_145).trans zq_cns_LatinRectanglesLaw_55) ((congrArg (fun o => z_lookup z_prs (o, 55)) zo_145).trans zq_prs_LatinRectanglesLaw_55)) ((congrArg (fun o => z_clk o 55) zo_145).trans zk_LatinRectanglesLaw_55) rfl rfl rfl rfl (z_rcv0 zc_131)
theorem zi_145_159 : z_ins 145 159 = some (.iload 6, 2) := by decide +kernel
theorem ze_145_159 : z_T g d 145 159 (v0 :: v1 :: v2 :: v3 :: v4 :: v5 :: .int x :: ls) st h P = z_T g d 145 161 (v0 :: v1 :: v2 :: v3 :: v4 :: v5 :: .int x :: ls) (.int x :: st) h P := zt_iload zi_145_159 rfl
theorem zi_145_161 : z_ins 145 161 = some (.invokevirtual 52, 3) := by decide +kernel
theorem ze_145_161 : z_T g d 145 161 ls (.int x0 :: .ref a :: st) h P = ((z_okS 8 st = true ∧ z_gO h.1 a 12 ∧ 0 < d) ∧ z_Ca g (d - 1) 132 [.ref a, .int x0] h (fun r => z_k r (fun v h' => z_T g d 145 164 ls (z_push v st) h' P) P)) := zt_cV (as := [.int x0]) (kk := 0) zi_145_161 rfl (zt_call zj_145 zh_145) (z_opV ((congrArg (fun o => z_lookup z_cns (o, 52)) zo_145).trans zq_cns_LatinRectanglesLaw_52) ((congrArg (fun o => z_lookup z_prs (o, 52)) zo_145).trans zq_prs_LatinRectanglesLaw_52)) ((congrArg (fun o => z_clk o 52) zo_145).trans zk_LatinRectanglesLaw_52) rfl rfl rfl rfl (z_rcv0 zc_132)
theorem zi_145_164 : z_ins 145 164 = some (.bipush 32, 2) := by decide +kernel
theorem ze_145_164 : z_T g d 145 164 ls st h P = z_T g d 145 166 ls (.int (nI 32) :: st) h P := zt_bipush zi_145_164 rfl
theorem zi_145_166 : z_ins 145 166 = some (.invokevirtual 55, 3) := by decide +kernel
theorem ze_145_166 : z_T g d 145 166 ls (.int x0 :: .ref a :: st) h P = ((z_okS 8 st = true ∧ z_gO h.1 a 12 ∧ 0 < d) ∧ z_Ca g (d - 1) 131 [.ref a, .int x0] h (fun r => z_k r (fun v h' => z_T g d 145 169 ls (z_push v st) h' P) P)) := zt_cV (as := [.int x0]) (kk := 0) zi_145_166 rfl (zt_call zj_145 zh_145) (z_opV ((congrArg (fun o => z_lookup z_cns (o, 55)) zo_145).trans zq_cns_LatinRectanglesLaw_55) ((congrArg (fun o => z_lookup z_prs (o, 55)) zo_145).trans zq_prs_LatinRectanglesLaw_55)) ((congrArg (fun o => z_clk o 55) zo_145).trans zk_LatinRectanglesLaw_55) rfl rfl rfl rfl (z_rcv0 zc_131)
theorem zi_145_169 : z_ins 145 169 = some (.iload 7, 2) := by decide +kernel
theorem ze_145_169 : z_T g d 145 169 (v0 :: v1 :: v2 :: v3 :: v4 :: v5 :: v6 :: .int x :: ls) st h P = z_T g d 145 171 (v0 :: v1 :: v2 :: v3 :: v4 :: v5 :: v6 :: .int x :: ls) (.int x :: st) h P := zt_iload zi_145_169 rfl
theorem zi_145_171 : z_ins 145 171 = some (.invokevirtual 52, 3) := by decide +kernel
theorem ze_145_171 : z_T g d 145 171 ls (.int x0 :: .ref a :: st) h P = ((z_okS 8 st = true ∧ z_gO h.1 a 12 ∧ 0 < d) ∧ z_Ca g (d - 1) 132 [.ref a, .int x0] h (fun r => z_k r (fun v h' => z_T g d 145 174 ls (z_push v st) h' P) P)) := zt_cV (as := [.int x0]) (kk := 0) zi_145_171 rfl (zt_call zj_145 zh_145) (z_opV ((congrArg (fun o => z_lookup z_cns (o, 52)) zo_145).trans zq_cns_LatinRectanglesLaw_52) ((congrArg (fun o => z_lookup z_prs (o, 52)) zo_145).trans zq_prs_LatinRectanglesLaw_52)) ((congrArg (fun o => z_clk o 52) zo_145).trans zk_LatinRectanglesLaw_52) rfl rfl rfl rfl (z_rcv0 zc_132)
theorem zi_145_174 : z_ins 145 174 = some (.bipush 59, 2) := by decide +kernel
theorem ze_145_174 : z_T g d 145 174 ls st h P = z_T g d 145 176 ls (.int (nI 59) :: st) h P := zt_bipush zi_145_174 rfl
theorem zi_145_176 : z_ins 145 176 = some (.invokevirtual 55, 3) := by decide +kernel
theorem ze_145_176 : z_T g d 145 176 ls (.int x0 :: .ref a :: st) h P = ((z_okS 8 st = true ∧ z_gO h.1 a 12 ∧ 0 < d) ∧ z_Ca g (d - 1) 131 [.ref a, .int x0] h (fun r => z_k r (fun v h' => z_T g d 145 179 ls (z_push v st) h' P) P)) := zt_cV (as := [.int x0]) (kk := 0) zi_145_176 rfl (zt_call zj_145 zh_145) (z_opV ((congrArg (fun o => z_lookup z_cns (o, 55)) zo_145).trans zq_cns_LatinRectanglesLaw_55) ((congrArg (fun o => z_lookup z_prs (o, 55)) zo_145).trans zq_prs_LatinRectanglesLaw_55)) ((congrArg (fun o => z_clk o 55) zo_145).trans zk_LatinRectanglesLaw_55) rfl rfl rfl rfl (z_rcv0 zc_131)
theorem zi_145_179 : z_ins 145 179 = some (.pop, 1) := by decide +kernel
theorem ze_145_179_i : z_T g d 145 179 ls (.int x :: st) h P = z_T g d 145 180 ls st h P := zt_pop rfl zi_145_179
theorem ze_145_179 : z_T g d 145 179 ls (.ref a :: st) h P = z_T g d 145 180 ls st h P := zt_pop rfl zi_145_179
theorem zi_145_180 : z_ins 145 180 = some (.goto 95, 3) := by decide +kernel
theorem ze_145_180 : z_T g d 145 180 ls st h P = z_T g d 145 275 ls st h P := zt_goto zi_145_180 (by decide)
theorem zi_145_183 : z_ins 145 183 = some (.aload_n 3, 1) := by decide +kernel
theorem ze_145_183 : z_T g d 145 183 (v0 :: v1 :: v2 :: .ref a :: ls) st h P = z_T g d 145 184 (v0 :: v1 :: v2 :: .ref a :: ls) (.ref a :: st) h P := zt_aloadn zi_145_183 rfl rfl
theorem ze_145_183_n : z_T g d 145 183 (v0 :: v1 :: v2 :: .null :: ls) st h P = z_T g d 145 184 (v0 :: v1 :: v2 :: .null :: ls) (.null :: st) h P := zt_aloadnN zi_145_183 rfl rfl
theorem zi_145_184 : z_ins 145 184 = some (.getfield 75, 3) := by decide +kernel
theorem ze_145_184 : z_T g d 145 184 ls (.ref a :: st) h P = z_gR h.1 a 10 6 (fun x => z_T g d 145 187 ls (x :: st) h P) := zt_getR zi_145_184 ((congrArg (fun o => z_fl o 75) zo_145).trans zf_LatinRectanglesLaw_75)
theorem zi_145_187 : z_ins 145 187 = some (.iload 5, 2) := by decide +kernel
theorem ze_145_187 : z_T g d 145 187 (v0 :: v1 :: v2 :: v3 :: v4 :: .int x :: ls) st h P = z_T g d 145 189 (v0 :: v1 :: v2 :: v3 :: v4 :: .int x :: ls) (.int x :: st) h P := zt_iload zi_145_187 rfl
theorem zi_145_189 : z_ins 145 189 = some (.aaload, 1) := by decide +kernel
theorem ze_145_189 : z_T g d 145 189 ls (.int x :: .ref a :: st) h P = z_qL h.1 a x (fun v => z_T g d 145 190 ls (.ref v :: st) h P) := zt_aaload zi_145_189
theorem zi_145_190 : z_ins 145 190 = some (.iload 6, 2) := by decide +kernel
theorem ze_145_190 : z_T g d 145 190 (v0 :: v1 :: v2 :: v3 :: v4 :: v5 :: .int x :: ls) st h P = z_T g d 145 192 (v0 :: v1 :: v2 :: v3 :: v4 :: v5 :: .int x :: ls) (.int x :: st) h P := zt_iload zi_145_190 rfl
theorem zi_145_192 : z_ins 145 192 = some (.aaload, 1) := by decide +kernel
theorem ze_145_192 : z_T g d 145 192 ls (.int x :: .ref a :: st) h P = z_qL h.1 a x (fun v => z_T g d 145 193 ls (.ref v :: st) h P) := zt_aaload zi_145_192
theorem zi_145_193 : z_ins 145 193 = some (.iload 7, 2) := by decide +kernel
theorem ze_145_193 : z_T g d 145 193 (v0 :: v1 :: v2 :: v3 :: v4 :: v5 :: v6 :: .int x :: ls) st h P = z_T g d 145 195 (v0 :: v1 :: v2 :: v3 :: v4 :: v5 :: v6 :: .int x :: ls) (.int x :: st) h P := zt_iload zi_145_193 rfl
theorem zi_145_195 : z_ins 145 195 = some (.baload, 1) := by decide +kernel
theorem ze_145_195 : z_T g d 145 195 ls (.int x :: .ref a :: st) h P = z_aL h.1 a z_tB x (fun v => z_T g d 145 196 ls (.int v :: st) h P) := zt_baload zi_145_195
theorem zi_145_196 : z_ins 145 196 = some (.ifCond .ne 79, 3) := by decide +kernel
theorem ze_145_196 : z_T g d 145 196 ls (.int x :: st) h P = (if x = nI 0 then z_T g d 145 199 ls st h P else z_T g d 145 275 ls st h P) := zt_ifne zi_145_196 (by decide)
theorem zi_145_199 : z_ins 145 199 = some (.aload_n 3, 1) := by decide +kernel
theorem ze_145_199 : z_T g d 145 199 (v0 :: v1 :: v2 :: .ref a :: ls) st h P = z_T g d 145 200 (v0 :: v1 :: v2 :: .ref a :: ls) (.ref a :: st) h P := zt_aloadn zi_145_199 rfl rfl
theorem ze_145_199_n : z_T g d 145 199 (v0 :: v1 :: v2 :: .null :: ls) st h P = z_T g d 145 200 (v0 :: v1 :: v2 :: .null :: ls) (.null :: st) h P := zt_aloadnN zi_145_199 rfl rfl
theorem zi_145_200 : z_ins 145 200 = some (.getfield 62, 3) := by decide +kernel
theorem ze_145_200 : z_T g d 145 200 ls (.ref a :: st) h P = z_gR h.1 a 10 4 (fun x => z_T g d 145 203 ls (x :: st) h P) := zt_getR zi_145_200 ((congrArg (fun o => z_fl o 62) zo_145).trans zf_LatinRectanglesLaw_62)
theorem zi_145_203 : z_ins 145 203 = some (.iload 5, 2) := by decide +kernel
theorem ze_145_203 : z_T g d 145 203 (v0 :: v1 :: v2 :: v3 :: v4 :: .int x :: ls) st h P = z_T g d 145 205 (v0 :: v1 :: v2 :: v3 :: v4 :: .int x :: ls) (.int x :: st) h P := zt_iload zi_145_203 rfl
theorem zi_145_205 : z_ins 145 205 = some (.aaload, 1) := by decide +kernel
theorem ze_145_205 : z_T g d 145 205 ls (.int x :: .ref a :: st) h P = z_qL h.1 a x (fun v => z_T g d 145 206 ls (.ref v :: st) h P) := zt_aaload zi_145_205
theorem zi_145_206 : z_ins 145 206 = some (.iload 6, 2) := by decide +kernel
theorem ze_145_206 : z_T g d 145 206 (v0 :: v1 :: v2 :: v3 :: v4 :: v5 :: .int x :: ls) st h P = z_T g d 145 208 (v0 :: v1 :: v2 :: v3 :: v4 :: v5 :: .int x :: ls) (.int x :: st) h P := zt_iload zi_145_206 rfl
theorem zi_145_208 : z_ins 145 208 = some (.iaload, 1) := by decide +kernel
theorem ze_145_208 : z_T g d 145 208 ls (.int x :: .ref a :: st) h P = z_aL h.1 a z_tI x (fun v => z_T g d 145 209 ls (.int v :: st) h P) := zt_iaload zi_145_208
theorem zi_145_209 : z_ins 145 209 = some (.iload 7, 2) := by decide +kernel
theorem ze_145_209 : z_T g d 145 209 (v0 :: v1 :: v2 :: v3 :: v4 :: v5 :: v6 :: .int x :: ls) st h P = z_T g d 145 211 (v0 :: v1 :: v2 :: v3 :: v4 :: v5 :: v6 :: .int x :: ls) (.int x :: st) h P := zt_iload zi_145_209 rfl
theorem zi_145_211 : z_ins 145 211 = some (.if_icmp .eq 64, 3) := by decide +kernel
theorem ze_145_211 : z_T g d 145 211 ls (.int y :: .int x :: st) h P = (if x = y then z_T g d 145 275 ls st h P else z_T g d 145 214 ls st h P) := zt_icmpeq zi_145_211 (by decide)
theorem zi_145_214 : z_ins 145 214 = some (.aload_n 3, 1) := by decide +kernel
theorem ze_145_214 : z_T g d 145 214 (v0 :: v1 :: v2 :: .ref a :: ls) st h P = z_T g d 145 215 (v0 :: v1 :: v2 :: .ref a :: ls) (.ref a :: st) h P := zt_aloadn zi_145_214 rfl rfl
theorem ze_145_214_n : z_T g d 145 214 (v0 :: v1 :: v2 :: .null :: ls) st h P = z_T g d 145 215 (v0 :: v1 :: v2 :: .null :: ls) (.null :: st) h P := zt_aloadnN zi_145_214 rfl rfl
theorem zi_145_215 : z_ins 145 215 = some (.getfield 75, 3) := by decide +kernel
theorem ze_145_215 : z_T g d 145 215 ls (.ref a :: st) h P = z_gR h.1 a 10 6 (fun x => z_T g d 145 218 ls (x :: st) h P) := zt_getR zi_145_215 ((congrArg (fun o => z_fl o 75) zo_145).trans zf_LatinRectanglesLaw_75)
theorem zi_145_218 : z_ins 145 218 = some (.iload 5, 2) := by decide +kernel
theorem ze_145_218 : z_T g d 145 218 (v0 :: v1 :: v2 :: v3 :: v4 :: .int x :: ls) st h P = z_T g d 145 220 (v0 :: v1 :: v2 :: v3 :: v4 :: .int x :: ls) (.int x :: st) h P := zt_iload zi_145_218 rfl
theorem zi_145_220 : z_ins 145 220 = some (.aaload, 1) := by decide +kernel
theorem ze_145_220 : z_T g d 145 220 ls (.int x :: .ref a :: st) h P = z_qL h.1 a x (fun v => z_T g d 145 221 ls (.ref v :: st) h P) := zt_aaload zi_145_220
theorem zi_145_221 : z_ins 145 221 = some (.iload 6, 2) := by decide +kernel
theorem ze_145_221 : z_T g d 145 221 (v0 :: v1 :: v2 :: v3 :: v4 :: v5 :: .int x :: ls) st h P = z_T g d 145 223 (v0 :: v1 :: v2 :: v3 :: v4 :: v5 :: .int x :: ls) (.int x :: st) h P := zt_iload zi_145_221 rfl
theorem zi_145_223 : z_ins 145 223 = some (.aaload, 1) := by decide +kernel
theorem ze_145_223 : z_T g d 145 223 ls (.int x :: .ref a :: st) h P = z_qL h.1 a x (fun v => z_T g d 145 224 ls (.ref v :: st) h P) := zt_aaload zi_145_223
theorem zi_145_224 : z_ins 145 224 = some (.iload 7, 2) := by decide +kernel
theorem ze_145_224 : z_T g d 145 224 (v0 :: v1 :: v2 :: v3 :: v4 :: v5 :: v6 :: .int x :: ls) st h P = z_T g d 145 226 (v0 :: v1 :: v2 :: v3 :: v4 :: v5 :: v6 :: .int x :: ls) (.int x :: st) h P := zt_iload zi_145_224 rfl
theorem zi_145_226 : z_ins 145 226 = some (.iconst 1, 1) := by decide +kernel
theorem ze_145_226 : z_T g d 145 226 ls st h P = z_T g d 145 227 ls (.int (nI 1) :: st) h P := zt_iconst zi_145_226 rfl
theorem zi_145_227 : z_ins 145 227 = some (.bastore, 1) := by decide +kernel
theorem ze_145_227 : z_T g d 145 227 ls (.int y :: .int x :: .ref a :: st) h P = z_aS h.1 a z_tB x y (fun f => z_T g d 145 228 ls st (f, h.2) P) := zt_bastore zi_145_227
theorem zi_145_228 : z_ins 145 228 = some (.aload_n 3, 1) := by decide +kernel
theorem ze_145_228 : z_T g d 145 228 (v0 :: v1 :: v2 :: .ref a :: ls) st h P = z_T g d 145 229 (v0 :: v1 :: v2 :: .ref a :: ls) (.ref a :: st) h P := zt_aloadn zi_145_228 rfl rfl
theorem ze_145_228_n : z_T g d 145 228 (v0 :: v1 :: v2 :: .null :: ls) st h P = z_T g d 145 229 (v0 :: v1 :: v2 :: .null :: ls) (.null :: st) h P := zt_aloadnN zi_145_228 rfl rfl
theorem zi_145_229 : z_ins 145 229 = some (.dup, 1) := by decide +kernel
theorem ze_145_229 : z_T g d 145 229 ls (.ref a :: st) h P = z_T g d 145 230 ls (.ref a :: .ref a :: st) h P := zt_dup rfl zi_145_229
theorem ze_145_229_i : z_T g d 145 229 ls (.int x :: st) h P = z_T g d 145 230 ls (.int x :: .int x :: st) h P := zt_dup rfl zi_145_229
theorem zi_145_230 : z_ins 145 230 = some (.getfield 79, 3) := by decide +kernel
theorem ze_145_230 : z_T g d 145 230 ls (.ref a :: st) h P = z_gI h.1 a 10 2 (fun x => z_T g d 145 233 ls (.int x :: st) h P) := zt_getI zi_145_230 ((congrArg (fun o => z_fl o 79) zo_145).trans zf_LatinRectanglesLaw_79)
theorem zi_145_233 : z_ins 145 233 = some (.iconst 1, 1) := by decide +kernel
theorem ze_145_233 : z_T g d 145 233 ls st h P = z_T g d 145 234 ls (.int (nI 1) :: st) h P := zt_iconst zi_145_233 rfl
theorem zi_145_234 : z_ins 145 234 = some (.iadd, 1) := by decide +kernel
theorem ze_145_234 : z_T g d 145 234 ls (.int y :: .int x :: st) h P = z_T g d 145 235 ls (.int (x + y) :: st) h P := zt_bin (f := fun x y => x + y) zi_145_234 rfl (fun _ _ _ => rfl)
theorem zi_145_235 : z_ins 145 235 = some (.putfield 79, 3) := by decide +kernel
theorem ze_145_235 : z_T g d 145 235 ls (.int x :: .ref a :: st) h P = z_pF h.1 a 10 2 (.int x) (fun f => z_T g d 145 238 ls st (f, h.2) P) := zt_put zi_145_235 ((congrArg (fun o => z_fl o 79) zo_145).trans zf_LatinRectanglesLaw_79) (by decide +kernel) rfl rfl
theorem zi_145_238 : z_ins 145 238 = some (.aload_n 0, 1) := by decide +kernel
theorem ze_145_238 : z_T g d 145 238 (.ref a :: ls) st h P = z_T g d 145 239 (.ref a :: ls) (.ref a :: st) h P := zt_aloadn zi_145_238 rfl rfl
theorem ze_145_238_n : z_T g d 145 238 (.null :: ls) st h P = z_T g d 145 239 (.null :: ls) (.null :: st) h P := zt_aloadnN zi_145_238 rfl rfl
theorem zi_145_239 : z_ins 145 239 = some (.ldc 82, 2) := by decide +kernel
theorem ze_145_239 : z_T g d 145 239 ls st h P = z_T g d 145 241 ls (.retAddr 5 :: st) h P := zt_ldc zi_145_239 (by decide +kernel)
theorem zi_145_241 : z_ins 145 241 = some (.invokevirtual 43, 3) := by decide +kernel
theorem ze_145_241 : z_T g d 145 241 ls (.ref a0 :: .ref a :: st) h P = ((z_okS 8 st = true ∧ z_gO h.1 a 12 ∧ 0 < d) ∧ z_Ca g (d - 1) 130 [.ref a, .ref a0] h (fun r => z_k r (fun v h' => z_T g d 145 244 ls (z_push v st) h' P) P)) := zt_cV (as := [.ref a0]) (kk := 0) zi_145_241 rfl (zt_call zj_145 zh_145) (z_opV ((congrArg (fun o => z_lookup z_cns (o, 43)) zo_145).trans zq_cns_LatinRectanglesLaw_43) ((congrArg (fun o => z_lookup z_prs (o, 43)) zo_145).trans zq_prs_LatinRectanglesLaw_43)) ((congrArg (fun o => z_clk o 43) zo_145).trans zk_LatinRectanglesLaw_43) rfl rfl rfl rfl (z_rcv0 zc_130)
theorem ze_145_241_l : z_T g d 145 241 ls (.retAddr k0 :: .ref a :: st) h P = ((z_okS 8 st = true ∧ z_gO h.1 a 12 ∧ 0 < d) ∧ z_Ca g (d - 1) 130 [.ref a, .retAddr k0] h (fun r => z_k r (fun v h' => z_T g d 145 244 ls (z_push v st) h' P) P)) := zt_cV (as := [.retAddr k0]) (kk := 0) zi_145_241 rfl (zt_call zj_145 zh_145) (z_opV ((congrArg (fun o => z_lookup z_cns (o, 43)) zo_145).trans zq_cns_LatinRectanglesLaw_43) ((congrArg (fun o => z_lookup z_prs (o, 43)) zo_145).trans zq_prs_LatinRectanglesLaw_43)) ((congrArg (fun o => z_clk o 43) zo_145).trans zk_LatinRectanglesLaw_43) rfl rfl rfl rfl (z_rcv0 zc_130)
theorem zi_145_244 : z_ins 145 244 = some (.iload 5, 2) := by decide +kernel
theorem ze_145_244 : z_T g d 145 244 (v0 :: v1 :: v2 :: v3 :: v4 :: .int x :: ls) st h P = z_T g d 145 246 (v0 :: v1 :: v2 :: v3 :: v4 :: .int x :: ls) (.int x :: st) h P := zt_iload zi_145_244 rfl
theorem zi_145_246 : z_ins 145 246 = some (.invokevirtual 52, 3) := by decide +kernel
theorem ze_145_246 : z_T g d 145 246 ls (.int x0 :: .ref a :: st) h P = ((z_okS 8 st = true ∧ z_gO h.1 a 12 ∧ 0 < d) ∧ z_Ca g (d - 1) 132 [.ref a, .int x0] h (fun r => z_k r (fun v h' => z_T g d 145 249 ls (z_push v st) h' P) P)) := zt_cV (as := [.int x0]) (kk := 0) zi_145_246 rfl (zt_call zj_145 zh_145) (z_opV ((congrArg (fun o => z_lookup z_cns (o, 52)) zo_145).trans zq_cns_LatinRectanglesLaw_52) ((congrArg (fun o => z_lookup z_prs (o, 52)) zo_145).trans zq_prs_LatinRectanglesLaw_52)) ((congrArg (fun o => z_clk o 52) zo_145).trans zk_LatinRectanglesLaw_52) rfl rfl rfl rfl (z_rcv0 zc_132)
theorem zi_145_249 : z_ins 145 249 = some (.bipush 32, 2) := by decide +kernel
theorem ze_145_249 : z_T g d 145 249 ls st h P = z_T g d 145 251 ls (.int (nI 32) :: st) h P := zt_bipush zi_145_249 rfl
theorem zi_145_251 : z_ins 145 251 = some (.invokevirtual 55, 3) := by decide +kernel
theorem ze_145_251 : z_T g d 145 251 ls (.int x0 :: .ref a :: st) h P = ((z_okS 8 st = true ∧ z_gO h.1 a 12 ∧ 0 < d) ∧ z_Ca g (d - 1) 131 [.ref a, .int x0] h (fun r => z_k r (fun v h' => z_T g d 145 254 ls (z_push v st) h' P) P)) := zt_cV (as := [.int x0]) (kk := 0) zi_145_251 rfl (zt_call zj_145 zh_145) (z_opV ((congrArg (fun o => z_lookup z_cns (o, 55)) zo_145).trans zq_cns_LatinRectanglesLaw_55) ((congrArg (fun o => z_lookup z_prs (o, 55)) zo_145).trans zq_prs_LatinRectanglesLaw_55)) ((congrArg (fun o => z_clk o 55) zo_145).trans zk_LatinRectanglesLaw_55) rfl rfl rfl rfl (z_rcv0 zc_131)
theorem zi_145_254 : z_ins 145 254 = some (.iload 6, 2) := by decide +kernel
theorem ze_145_254 : z_T g d 145 254 (v0 :: v1 :: v2 :: v3 :: v4 :: v5 :: .int x :: ls) st h P = z_T g d 145 256 (v0 :: v1 :: v2 :: v3 :: v4 :: v5 :: .int x :: ls) (.int x :: st) h P := zt_iload zi_145_254 rfl
theorem zi_145_256 : z_ins 145 256 = some (.invokevirtual 52, 3) := by decide +kernel
theorem ze_145_256 : z_T g d 145 256 ls (.int x0 :: .ref a :: st) h P = ((z_okS 8 st = true ∧ z_gO h.1 a 12 ∧ 0 < d) ∧ z_Ca g (d - 1) 132 [.ref a, .int x0] h (fun r => z_k r (fun v h' => z_T g d 145 259 ls (z_push v st) h' P) P)) := zt_cV (as := [.int x0]) (kk := 0) zi_145_256 rfl (zt_call zj_145 zh_145) (z_opV ((congrArg (fun o => z_lookup z_cns (o, 52)) zo_145).trans zq_cns_LatinRectanglesLaw_52) ((congrArg (fun o => z_lookup z_prs (o, 52)) zo_145).trans zq_prs_LatinRectanglesLaw_52)) ((congrArg (fun o => z_clk o 52) zo_145).trans zk_LatinRectanglesLaw_52) rfl rfl rfl rfl (z_rcv0 zc_132)
theorem zi_145_259 : z_ins 145 259 = some (.bipush 32, 2) := by decide +kernel
theorem ze_145_259 : z_T g d 145 259 ls st h P = z_T g d 145 261 ls (.int (nI 32) :: st) h P := zt_bipush zi_145_259 rfl
theorem zi_145_261 : z_ins 145 261 = some (.invokevirtual 55, 3) := by decide +kernel
theorem ze_145_261 : z_T g d 145 261 ls (.int x0 :: .ref a :: st) h P = ((z_okS 8 st = true ∧ z_gO h.1 a 12 ∧ 0 < d) ∧ z_Ca g (d - 1) 131 [.ref a, .int x0] h (fun r => z_k r (fun v h' => z_T g d 145 264 ls (z_push v st) h' P) P)) := zt_cV (as := [.int x0]) (kk := 0) zi_145_261 rfl (zt_call zj_145 zh_145) (z_opV ((congrArg (fun o => z_lookup z_cns (o, 55)) zo_145).trans zq_cns_LatinRectanglesLaw_55) ((congrArg (fun o => z_lookup z_prs (o, 55)) zo_145).trans zq_prs_LatinRectanglesLaw_55)) ((congrArg (fun o => z_clk o 55) zo_145).trans zk_LatinRectanglesLaw_55) rfl rfl rfl rfl (z_rcv0 zc_131)
theorem zi_145_264 : z_ins 145 264 = some (.iload 7, 2) := by decide +kernel
theorem ze_145_264 : z_T g d 145 264 (v0 :: v1 :: v2 :: v3 :: v4 :: v5 :: v6 :: .int x :: ls) st h P = z_T g d 145 266 (v0 :: v1 :: v2 :: v3 :: v4 :: v5 :: v6 :: .int x :: ls) (.int x :: st) h P := zt_iload zi_145_264 rfl
theorem zi_145_266 : z_ins 145 266 = some (.invokevirtual 52, 3) := by decide +kernel
theorem ze_145_266 : z_T g d 145 266 ls (.int x0 :: .ref a :: st) h P = ((z_okS 8 st = true ∧ z_gO h.1 a 12 ∧ 0 < d) ∧ z_Ca g (d - 1) 132 [.ref a, .int x0] h (fun r => z_k r (fun v h' => z_T g d 145 269 ls (z_push v st) h' P) P)) := zt_cV (as := [.int x0]) (kk := 0) zi_145_266 rfl (zt_call zj_145 zh_145) (z_opV ((congrArg (fun o => z_lookup z_cns (o, 52)) zo_145).trans zq_cns_LatinRectanglesLaw_52) ((congrArg (fun o => z_lookup z_prs (o, 52)) zo_145).trans zq_prs_LatinRectanglesLaw_52)) ((congrArg (fun o => z_clk o 52) zo_145).trans zk_LatinRectanglesLaw_52) rfl rfl rfl rfl (z_rcv0 zc_132)
theorem zi_145_269 : z_ins 145 269 = some (.bipush 59, 2) := by decide +kernel
theorem ze_145_269 : z_T g d 145 269 ls st h P = z_T g d 145 271 ls (.int (nI 59) :: st) h P := zt_bipush zi_145_269 rfl
theorem zi_145_271 : z_ins 145 271 = some (.invokevirtual 55, 3) := by decide +kernel
theorem ze_145_271 : z_T g d 145 271 ls (.int x0 :: .ref a :: st) h P = ((z_okS 8 st = true ∧ z_gO h.1 a 12 ∧ 0 < d) ∧ z_Ca g (d - 1) 131 [.ref a, .int x0] h (fun r => z_k r (fun v h' => z_T g d 145 274 ls (z_push v st) h' P) P)) := zt_cV (as := [.int x0]) (kk := 0) zi_145_271 rfl (zt_call zj_145 zh_145) (z_opV ((congrArg (fun o => z_lookup z_cns (o, 55)) zo_145).trans zq_cns_LatinRectanglesLaw_55) ((congrArg (fun o => z_lookup z_prs (o, 55)) zo_145).trans zq_prs_LatinRectanglesLaw_55)) ((congrArg (fun o => z_clk o 55) zo_145).trans zk_LatinRectanglesLaw_55) rfl rfl rfl rfl (z_rcv0 zc_131)
theorem zi_145_274 : z_ins 145 274 = some (.pop, 1) := by decide +kernel
theorem ze_145_274_i : z_T g d 145 274 ls (.int x :: st) h P = z_T g d 145 275 ls st h P := zt_pop rfl zi_145_274
theorem ze_145_274 : z_T g d 145 274 ls (.ref a :: st) h P = z_T g d 145 275 ls st h P := zt_pop rfl zi_145_274
theorem zi_145_275 : z_ins 145 275 = some (.iinc 4 (-1), 3) := by decide +kernel
theorem ze_145_275 : z_T g d 145 275 (v0 :: v1 :: v2 :: v3 :: .int x :: ls) st h P = z_T g d 145 278 (v0 :: v1 :: v2 :: v3 :: .int (x + (-1)) :: ls) st h P := zt_iinc zi_145_275 rfl rfl
theorem zi_145_278 : z_ins 145 278 = some (.goto (-218), 3) := by decide +kernel
theorem ze_145_278 : z_T g d 145 278 ls st h P = z_T g d 145 60 ls st h P := zt_goto zi_145_278 (by decide)
theorem zi_145_281 : z_ins 145 281 = some (.aload_n 3, 1) := by decide +kernel
theorem ze_145_281 : z_T g d 145 281 (v0 :: v1 :: v2 :: .ref a :: ls) st h P = z_T g d 145 282 (v0 :: v1 :: v2 :: .ref a :: ls) (.ref a :: st) h P := zt_aloadn zi_145_281 rfl rfl
theorem ze_145_281_n : z_T g d 145 281 (v0 :: v1 :: v2 :: .null :: ls) st h P = z_T g d 145 282 (v0 :: v1 :: v2 :: .null :: ls) (.null :: st) h P := zt_aloadnN zi_145_281 rfl rfl
theorem zi_145_282 : z_ins 145 282 = some (.areturn, 1) := by decide +kernel
theorem ze_145_282 : z_T g d 145 282 ls [.ref a] h P = P (.inr (some (.ref a)), h) := zt_areturn rfl zi_145_282 zr_145 rfl
theorem ze_145_282_n : z_T g d 145 282 ls [.null] h P = P (.inr (some (.null)), h) := zt_areturn rfl zi_145_282 zr_145 rfl
-- LatinRectanglesLaw.plays(LLatinRectangles;[I)Z
theorem zm_146 : z_maxL 146 = 5 := by decide +kernel
theorem zh_146 : z_hds 146 = [] := by decide +kernel
theorem zj_146 : z_jdk 146 = false := by decide +kernel
theorem zr_146 : z_rt 146 = (some .boolean) := by decide +kernel
theorem zn_146 : z_Ca g d 146 [.ref a0, .ref a1] h P = z_T g d 146 0 [.ref a0, .ref a1, z_un, z_un, z_un] [] h P := z_Ca_ent zm_146 rfl rfl
theorem zi_146_0 : z_ins 146 0 = some (.new 44, 3) := by decide +kernel
theorem ze_146_0 : z_T g d 146 0 ls st h P = z_nO h 12 4 [.null, .int 0, .int 0, .int 0] (fun q h' => z_T g d 146 3 ls (.ref q :: st) h' P) := zt_new zi_146_0 (by decide +kernel)
theorem zi_146_3 : z_ins 146 3 = some (.dup, 1) := by decide +kernel
theorem ze_146_3 : z_T g d 146 3 ls (.ref a :: st) h P = z_T g d 146 4 ls (.ref a :: .ref a :: st) h P := zt_dup rfl zi_146_3
theorem ze_146_3_i : z_T g d 146 3 ls (.int x :: st) h P = z_T g d 146 4 ls (.int x :: .int x :: st) h P := zt_dup rfl zi_146_3
theorem zi_146_4 : z_ins 146 4 = some (.invokespecial 84, 3) := by decide +kernel
theorem ze_146_4 : z_T g d 146 4 ls (.ref a :: st) h P = ((z_okS 8 st = true ∧ 0 < d) ∧ z_Ca g (d - 1) 129 [.ref a] h (fun r => z_k r (fun v h' => z_T g d 146 7 ls (z_push v st) h' P) P)) := zt_cS (as := [.ref a]) (kk := 2) zi_146_4 rfl (zt_call zj_146 zh_146) (z_opI ((congrArg (fun o => z_lookup z_ois (o, 84)) zo_146).trans zq_ois_LatinRectanglesLaw_84)) ((congrArg (fun o => z_clk o 84) zo_146).trans zk_LatinRectanglesLaw_84) rfl rfl rfl rfl rfl
theorem zi_146_7 : z_ins 146 7 = some (.astore_n 2, 1) := by decide +kernel
theorem ze_146_7 : z_T g d 146 7 (v0 :: v1 :: v2 :: ls) (.ref a :: st) h P = z_T g d 146 8 (v0 :: v1 :: .ref a :: ls) st h P := zt_astoren rfl zi_146_7 rfl (Nat.le_add_left 3 _)
theorem ze_146_7_n : z_T g d 146 7 (v0 :: v1 :: v2 :: ls) (.null :: st) h P = z_T g d 146 8 (v0 :: v1 :: .null :: ls) st h P := zt_astoren rfl zi_146_7 rfl (Nat.le_add_left 3 _)
theorem zi_146_8 : z_ins 146 8 = some (.aload_n 2, 1) := by decide +kernel
theorem ze_146_8 : z_T g d 146 8 (v0 :: v1 :: .ref a :: ls) st h P = z_T g d 146 9 (v0 :: v1 :: .ref a :: ls) (.ref a :: st) h P := zt_aloadn zi_146_8 rfl rfl
theorem ze_146_8_n : z_T g d 146 8 (v0 :: v1 :: .null :: ls) st h P = z_T g d 146 9 (v0 :: v1 :: .null :: ls) (.null :: st) h P := zt_aloadnN zi_146_8 rfl rfl
theorem zi_146_9 : z_ins 146 9 = some (.aload_n 1, 1) := by decide +kernel
theorem ze_146_9 : z_T g d 146 9 (v0 :: .ref a :: ls) st h P = z_T g d 146 10 (v0 :: .ref a :: ls) (.ref a :: st) h P := zt_aloadn zi_146_9 rfl rfl
theorem ze_146_9_n : z_T g d 146 9 (v0 :: .null :: ls) st h P = z_T g d 146 10 (v0 :: .null :: ls) (.null :: st) h P := zt_aloadnN zi_146_9 rfl rfl
theorem zi_146_10 : z_ins 146 10 = some (.invokestatic 85, 3) := by decide +kernel
theorem ze_146_10 : z_T g d 146 10 ls (.ref a1 :: .ref a0 :: st) h P = ((z_okS 8 st = true ∧ 0 < d) ∧ z_Ca g (d - 1) 145 [.ref a0, .ref a1] h (fun r => z_k r (fun v h' => z_T g d 146 13 ls (z_push v st) h' P) P)) := zt_cS (as := [.ref a0, .ref a1]) (kk := 1) zi_146_10 rfl (zt_call zj_146 zh_146) (z_opT ((congrArg (fun o => z_lookup z_cps (o, 85)) zo_146).trans zq_cps_LatinRectanglesLaw_85) ((congrArg (fun o => z_lookup z_prs (o, 85)) zo_146).trans zq_prs_LatinRectanglesLaw_85)) ((congrArg (fun o => z_clk o 85) zo_146).trans zk_LatinRectanglesLaw_85) rfl rfl rfl rfl rfl
theorem zi_146_13 : z_ins 146 13 = some (.astore_n 3, 1) := by decide +kernel
theorem ze_146_13 : z_T g d 146 13 (v0 :: v1 :: v2 :: v3 :: ls) (.ref a :: st) h P = z_T g d 146 14 (v0 :: v1 :: v2 :: .ref a :: ls) st h P := zt_astoren rfl zi_146_13 rfl (Nat.le_add_left 4 _)
theorem ze_146_13_n : z_T g d 146 13 (v0 :: v1 :: v2 :: v3 :: ls) (.null :: st) h P = z_T g d 146 14 (v0 :: v1 :: v2 :: .null :: ls) st h P := zt_astoren rfl zi_146_13 rfl (Nat.le_add_left 4 _)
theorem zi_146_14 : z_ins 146 14 = some (.aload_n 0, 1) := by decide +kernel
theorem ze_146_14 : z_T g d 146 14 (.ref a :: ls) st h P = z_T g d 146 15 (.ref a :: ls) (.ref a :: st) h P := zt_aloadn zi_146_14 rfl rfl
theorem ze_146_14_n : z_T g d 146 14 (.null :: ls) st h P = z_T g d 146 15 (.null :: ls) (.null :: st) h P := zt_aloadnN zi_146_14 rfl rfl
theorem zi_146_15 : z_ins 146 15 = some (.aload_n 2, 1) := by decide +kernel
theorem ze_146_15 : z_T g d 146 15 (v0 :: v1 :: .ref a :: ls) st h P = z_T g d 146 16 (v0 :: v1 :: .ref a :: ls) (.ref a :: st) h P := zt_aloadn zi_146_15 rfl rfl
theorem ze_146_15_n : z_T g d 146 15 (v0 :: v1 :: .null :: ls) st h P = z_T g d 146 16 (v0 :: v1 :: .null :: ls) (.null :: st) h P := zt_aloadnN zi_146_15 rfl rfl
theorem zi_146_16 : z_ins 146 16 = some (.invokevirtual 89, 3) := by decide +kernel
theorem ze_146_16 : z_T g d 146 16 ls (.ref a :: st) h P = ((z_okS 8 st = true ∧ z_gO h.1 a 12 ∧ 0 < d) ∧ z_Ca g (d - 1) 133 [.ref a] h (fun r => z_k r (fun v h' => z_T g d 146 19 ls (z_push v st) h' P) P)) := zt_cV (as := []) (kk := 0) zi_146_16 rfl (zt_call zj_146 zh_146) (z_opV ((congrArg (fun o => z_lookup z_cns (o, 89)) zo_146).trans zq_cns_LatinRectanglesLaw_89) ((congrArg (fun o => z_lookup z_prs (o, 89)) zo_146).trans zq_prs_LatinRectanglesLaw_89)) ((congrArg (fun o => z_clk o 89) zo_146).trans zk_LatinRectanglesLaw_89) rfl rfl rfl rfl (z_rcv0 zc_133)
theorem zi_146_19 : z_ins 146 19 = some (.invokestatic 93, 3) := by decide +kernel
theorem ze_146_19 : z_T g d 146 19 ls (.ref a1 :: .ref a0 :: st) h P = ((z_okS 8 st = true ∧ 0 < d) ∧ z_Ca g (d - 1) 142 [.ref a0, .ref a1] h (fun r => z_k r (fun v h' => z_T g d 146 22 ls (z_push v st) h' P) P)) := zt_cS (as := [.ref a0, .ref a1]) (kk := 1) zi_146_19 rfl (zt_call zj_146 zh_146) (z_opT ((congrArg (fun o => z_lookup z_cps (o, 93)) zo_146).trans zq_cps_LatinRectanglesLaw_93) ((congrArg (fun o => z_lookup z_prs (o, 93)) zo_146).trans zq_prs_LatinRectanglesLaw_93)) ((congrArg (fun o => z_clk o 93) zo_146).trans zk_LatinRectanglesLaw_93) rfl rfl rfl rfl rfl
theorem ze_146_19_l : z_T g d 146 19 ls (.retAddr k1 :: .ref a0 :: st) h P = ((z_okS 8 st = true ∧ 0 < d) ∧ z_Ca g (d - 1) 142 [.ref a0, .retAddr k1] h (fun r => z_k r (fun v h' => z_T g d 146 22 ls (z_push v st) h' P) P)) := zt_cS (as := [.ref a0, .retAddr k1]) (kk := 1) zi_146_19 rfl (zt_call zj_146 zh_146) (z_opT ((congrArg (fun o => z_lookup z_cps (o, 93)) zo_146).trans zq_cps_LatinRectanglesLaw_93) ((congrArg (fun o => z_lookup z_prs (o, 93)) zo_146).trans zq_prs_LatinRectanglesLaw_93)) ((congrArg (fun o => z_clk o 93) zo_146).trans zk_LatinRectanglesLaw_93) rfl rfl rfl rfl rfl
theorem zi_146_22 : z_ins 146 22 = some (.ifCond .eq 62, 3) := by decide +kernel
theorem ze_146_22 : z_T g d 146 22 ls (.int x :: st) h P = (if x = nI 0 then z_T g d 146 84 ls st h P else z_T g d 146 25 ls st h P) := zt_ifeq zi_146_22 (by decide)
theorem zi_146_25 : z_ins 146 25 = some (.aload_n 0, 1) := by decide +kernel
theorem ze_146_25 : z_T g d 146 25 (.ref a :: ls) st h P = z_T g d 146 26 (.ref a :: ls) (.ref a :: st) h P := zt_aloadn zi_146_25 rfl rfl
theorem ze_146_25_n : z_T g d 146 25 (.null :: ls) st h P = z_T g d 146 26 (.null :: ls) (.null :: st) h P := zt_aloadnN zi_146_25 rfl rfl
theorem zi_146_26 : z_ins 146 26 = some (.aload_n 2, 1) := by decide +kernel
theorem ze_146_26 : z_T g d 146 26 (v0 :: v1 :: .ref a :: ls) st h P = z_T g d 146 27 (v0 :: v1 :: .ref a :: ls) (.ref a :: st) h P := zt_aloadn zi_146_26 rfl rfl
theorem ze_146_26_n : z_T g d 146 26 (v0 :: v1 :: .null :: ls) st h P = z_T g d 146 27 (v0 :: v1 :: .null :: ls) (.null :: st) h P := zt_aloadnN zi_146_26 rfl rfl
theorem zi_146_27 : z_ins 146 27 = some (.invokevirtual 97, 3) := by decide +kernel
theorem ze_146_27 : z_T g d 146 27 ls (.ref a :: st) h P = ((z_okS 8 st = true ∧ z_gO h.1 a 12 ∧ 0 < d) ∧ z_Ca g (d - 1) 134 [.ref a] h (fun r => z_k r (fun v h' => z_T g d 146 30 ls (z_push v st) h' P) P)) := zt_cV (as := []) (kk := 0) zi_146_27 rfl (zt_call zj_146 zh_146) (z_opV ((congrArg (fun o => z_lookup z_cns (o, 97)) zo_146).trans zq_cns_LatinRectanglesLaw_97) ((congrArg (fun o => z_lookup z_prs (o, 97)) zo_146).trans zq_prs_LatinRectanglesLaw_97)) ((congrArg (fun o => z_clk o 97) zo_146).trans zk_LatinRectanglesLaw_97) rfl rfl rfl rfl (z_rcv0 zc_134)
theorem zi_146_30 : z_ins 146 30 = some (.invokevirtual 98, 3) := by decide +kernel
theorem ze_146_30 : z_T g d 146 30 ls (.int x0 :: .ref a :: st) h P = ((z_okS 8 st = true ∧ z_gO h.1 a 9 ∧ 0 < d) ∧ z_Ca g (d - 1) 69 [.ref a, .int x0] h (fun r => z_k r (fun v h' => z_T g d 146 33 ls (z_push v st) h' P) P)) := zt_cV (as := [.int x0]) (kk := 0) zi_146_30 rfl (zt_call zj_146 zh_146) (z_opV ((congrArg (fun o => z_lookup z_cns (o, 98)) zo_146).trans zq_cns_LatinRectanglesLaw_98) ((congrArg (fun o => z_lookup z_prs (o, 98)) zo_146).trans zq_prs_LatinRectanglesLaw_98)) ((congrArg (fun o => z_clk o 98) zo_146).trans zk_LatinRectanglesLaw_98) rfl rfl rfl rfl (z_rcv0 zc_69)
theorem zi_146_33 : z_ins 146 33 = some (.ifCond .ne 51, 3) := by decide +kernel
theorem ze_146_33 : z_T g d 146 33 ls (.int x :: st) h P = (if x = nI 0 then z_T g d 146 36 ls st h P else z_T g d 146 84 ls st h P) := zt_ifne zi_146_33 (by decide)
theorem zi_146_36 : z_ins 146 36 = some (.aload_n 0, 1) := by decide +kernel
theorem ze_146_36 : z_T g d 146 36 (.ref a :: ls) st h P = z_T g d 146 37 (.ref a :: ls) (.ref a :: st) h P := zt_aloadn zi_146_36 rfl rfl
theorem ze_146_36_n : z_T g d 146 36 (.null :: ls) st h P = z_T g d 146 37 (.null :: ls) (.null :: st) h P := zt_aloadnN zi_146_36 rfl rfl
theorem zi_146_37 : z_ins 146 37 = some (.iconst 0, 1) := by decide +kernel
theorem ze_146_37 : z_T g d 146 37 ls st h P = z_T g d 146 38 ls (.int (nI 0) :: st) h P := zt_iconst zi_146_37 rfl
theorem zi_146_38 : z_ins 146 38 = some (.invokevirtual 102, 3) := by decide +kernel
theorem ze_146_38 : z_T g d 146 38 ls (.int x0 :: .ref a :: st) h P = ((z_okS 8 st = true ∧ z_gO h.1 a 9 ∧ 0 < d) ∧ z_Ca g (d - 1) 70 [.ref a, .int x0] h (fun r => z_k r (fun v h' => z_T g d 146 41 ls (z_push v st) h' P) P)) := zt_cV (as := [.int x0]) (kk := 0) zi_146_38 rfl (zt_call zj_146 zh_146) (z_opV ((congrArg (fun o => z_lookup z_cns (o, 102)) zo_146).trans zq_cns_LatinRectanglesLaw_102) ((congrArg (fun o => z_lookup z_prs (o, 102)) zo_146).trans zq_prs_LatinRectanglesLaw_102)) ((congrArg (fun o => z_clk o 102) zo_146).trans zk_LatinRectanglesLaw_102) rfl rfl rfl rfl (z_rcv0 zc_70)
theorem zi_146_41 : z_ins 146 41 = some (.aload_n 3, 1) := by decide +kernel
theorem ze_146_41 : z_T g d 146 41 (v0 :: v1 :: v2 :: .ref a :: ls) st h P = z_T g d 146 42 (v0 :: v1 :: v2 :: .ref a :: ls) (.ref a :: st) h P := zt_aloadn zi_146_41 rfl rfl
theorem ze_146_41_n : z_T g d 146 41 (v0 :: v1 :: v2 :: .null :: ls) st h P = z_T g d 146 42 (v0 :: v1 :: v2 :: .null :: ls) (.null :: st) h P := zt_aloadnN zi_146_41 rfl rfl
theorem zi_146_42 : z_ins 146 42 = some (.getfield 48, 3) := by decide +kernel
theorem ze_146_42 : z_T g d 146 42 ls (.ref a :: st) h P = z_gI h.1 a 10 0 (fun x => z_T g d 146 45 ls (.int x :: st) h P) := zt_getI zi_146_42 ((congrArg (fun o => z_fl o 48) zo_146).trans zf_LatinRectanglesLaw_48)
theorem zi_146_45 : z_ins 146 45 = some (.if_icmp .ne 39, 3) := by decide +kernel
theorem ze_146_45 : z_T g d 146 45 ls (.int y :: .int x :: st) h P = (if x = y then z_T g d 146 48 ls st h P else z_T g d 146 84 ls st h P) := zt_icmpne zi_146_45 (by decide)
theorem zi_146_48 : z_ins 146 48 = some (.aload_n 0, 1) := by decide +kernel
theorem ze_146_48 : z_T g d 146 48 (.ref a :: ls) st h P = z_T g d 146 49 (.ref a :: ls) (.ref a :: st) h P := zt_aloadn zi_146_48 rfl rfl
theorem ze_146_48_n : z_T g d 146 48 (.null :: ls) st h P = z_T g d 146 49 (.null :: ls) (.null :: st) h P := zt_aloadnN zi_146_48 rfl rfl
theorem zi_146_49 : z_ins 146 49 = some (.iconst 1, 1) := by decide +kernel
theorem ze_146_49 : z_T g d 146 49 ls st h P = z_T g d 146 50 ls (.int (nI 1) :: st) h P := zt_iconst zi_146_49 rfl
theorem zi_146_50 : z_ins 146 50 = some (.invokevirtual 102, 3) := by decide +kernel
theorem ze_146_50 : z_T g d 146 50 ls (.int x0 :: .ref a :: st) h P = ((z_okS 8 st = true ∧ z_gO h.1 a 9 ∧ 0 < d) ∧ z_Ca g (d - 1) 70 [.ref a, .int x0] h (fun r => z_k r (fun v h' => z_T g d 146 53 ls (z_push v st) h' P) P)) := zt_cV (as := [.int x0]) (kk := 0) zi_146_50 rfl (zt_call zj_146 zh_146) (z_opV ((congrArg (fun o => z_lookup z_cns (o, 102)) zo_146).trans zq_cns_LatinRectanglesLaw_102) ((congrArg (fun o => z_lookup z_prs (o, 102)) zo_146).trans zq_prs_LatinRectanglesLaw_102)) ((congrArg (fun o => z_clk o 102) zo_146).trans zk_LatinRectanglesLaw_102) rfl rfl rfl rfl (z_rcv0 zc_70)
theorem zi_146_53 : z_ins 146 53 = some (.aload_n 3, 1) := by decide +kernel
theorem ze_146_53 : z_T g d 146 53 (v0 :: v1 :: v2 :: .ref a :: ls) st h P = z_T g d 146 54 (v0 :: v1 :: v2 :: .ref a :: ls) (.ref a :: st) h P := zt_aloadn zi_146_53 rfl rfl
theorem ze_146_53_n : z_T g d 146 53 (v0 :: v1 :: v2 :: .null :: ls) st h P = z_T g d 146 54 (v0 :: v1 :: v2 :: .null :: ls) (.null :: st) h P := zt_aloadnN zi_146_53 rfl rfl
theorem zi_146_54 : z_ins 146 54 = some (.getfield 105, 3) := by decide +kernel
theorem ze_146_54 : z_T g d 146 54 ls (.ref a :: st) h P = z_gI h.1 a 10 1 (fun x => z_T g d 146 57 ls (.int x :: st) h P) := zt_getI zi_146_54 ((congrArg (fun o => z_fl o 105) zo_146).trans zf_LatinRectanglesLaw_105)
theorem zi_146_57 : z_ins 146 57 = some (.if_icmp .ne 27, 3) := by decide +kernel
theorem ze_146_57 : z_T g d 146 57 ls (.int y :: .int x :: st) h P = (if x = y then z_T g d 146 60 ls st h P else z_T g d 146 84 ls st h P) := zt_icmpne zi_146_57 (by decide)
theorem zi_146_60 : z_ins 146 60 = some (.aload_n 0, 1) := by decide +kernel
theorem ze_146_60 : z_T g d 146 60 (.ref a :: ls) st h P = z_T g d 146 61 (.ref a :: ls) (.ref a :: st) h P := zt_aloadn zi_146_60 rfl rfl
theorem ze_146_60_n : z_T g d 146 60 (.null :: ls) st h P = z_T g d 146 61 (.null :: ls) (.null :: st) h P := zt_aloadnN zi_146_60 rfl rfl
theorem zi_146_61 : z_ins 146 61 = some (.iconst 3, 1) := by decide +kernel
theorem ze_146_61 : z_T g d 146 61 ls st h P = z_T g d 146 62 ls (.int (nI 3) :: st) h P := zt_iconst zi_146_61 rfl
theorem zi_146_62 : z_ins 146 62 = some (.invokevirtual 102, 3) := by decide +kernel
theorem ze_146_62 : z_T g d 146 62 ls (.int x0 :: .ref a :: st) h P = ((z_okS 8 st = true ∧ z_gO h.1 a 9 ∧ 0 < d) ∧ z_Ca g (d - 1) 70 [.ref a, .int x0] h (fun r => z_k r (fun v h' => z_T g d 146 65 ls (z_push v st) h' P) P)) := zt_cV (as := [.int x0]) (kk := 0) zi_146_62 rfl (zt_call zj_146 zh_146) (z_opV ((congrArg (fun o => z_lookup z_cns (o, 102)) zo_146).trans zq_cns_LatinRectanglesLaw_102) ((congrArg (fun o => z_lookup z_prs (o, 102)) zo_146).trans zq_prs_LatinRectanglesLaw_102)) ((congrArg (fun o => z_clk o 102) zo_146).trans zk_LatinRectanglesLaw_102) rfl rfl rfl rfl (z_rcv0 zc_70)
theorem zi_146_65 : z_ins 146 65 = some (.aload_n 3, 1) := by decide +kernel
theorem ze_146_65 : z_T g d 146 65 (v0 :: v1 :: v2 :: .ref a :: ls) st h P = z_T g d 146 66 (v0 :: v1 :: v2 :: .ref a :: ls) (.ref a :: st) h P := zt_aloadn zi_146_65 rfl rfl
theorem ze_146_65_n : z_T g d 146 65 (v0 :: v1 :: v2 :: .null :: ls) st h P = z_T g d 146 66 (v0 :: v1 :: v2 :: .null :: ls) (.null :: st) h P := zt_aloadnN zi_146_65 rfl rfl
theorem zi_146_66 : z_ins 146 66 = some (.getfield 70, 3) := by decide +kernel
theorem ze_146_66 : z_T g d 146 66 ls (.ref a :: st) h P = z_gI h.1 a 10 3 (fun x => z_T g d 146 69 ls (.int x :: st) h P) := zt_getI zi_146_66 ((congrArg (fun o => z_fl o 70) zo_146).trans zf_LatinRectanglesLaw_70)
theorem zi_146_69 : z_ins 146 69 = some (.if_icmp .ne 15, 3) := by decide +kernel
theorem ze_146_69 : z_T g d 146 69 ls (.int y :: .int x :: st) h P = (if x = y then z_T g d 146 72 ls st h P else z_T g d 146 84 ls st h P) := zt_icmpne zi_146_69 (by decide)
theorem zi_146_72 : z_ins 146 72 = some (.aload_n 0, 1) := by decide +kernel
theorem ze_146_72 : z_T g d 146 72 (.ref a :: ls) st h P = z_T g d 146 73 (.ref a :: ls) (.ref a :: st) h P := zt_aloadn zi_146_72 rfl rfl
theorem ze_146_72_n : z_T g d 146 72 (.null :: ls) st h P = z_T g d 146 73 (.null :: ls) (.null :: st) h P := zt_aloadnN zi_146_72 rfl rfl
theorem zi_146_73 : z_ins 146 73 = some (.iconst 4, 1) := by decide +kernel
theorem ze_146_73 : z_T g d 146 73 ls st h P = z_T g d 146 74 ls (.int (nI 4) :: st) h P := zt_iconst zi_146_73 rfl
theorem zi_146_74 : z_ins 146 74 = some (.invokevirtual 102, 3) := by decide +kernel
theorem ze_146_74 : z_T g d 146 74 ls (.int x0 :: .ref a :: st) h P = ((z_okS 8 st = true ∧ z_gO h.1 a 9 ∧ 0 < d) ∧ z_Ca g (d - 1) 70 [.ref a, .int x0] h (fun r => z_k r (fun v h' => z_T g d 146 77 ls (z_push v st) h' P) P)) := zt_cV (as := [.int x0]) (kk := 0) zi_146_74 rfl (zt_call zj_146 zh_146) (z_opV ((congrArg (fun o => z_lookup z_cns (o, 102)) zo_146).trans zq_cns_LatinRectanglesLaw_102) ((congrArg (fun o => z_lookup z_prs (o, 102)) zo_146).trans zq_prs_LatinRectanglesLaw_102)) ((congrArg (fun o => z_clk o 102) zo_146).trans zk_LatinRectanglesLaw_102) rfl rfl rfl rfl (z_rcv0 zc_70)
theorem zi_146_77 : z_ins 146 77 = some (.aload_n 3, 1) := by decide +kernel
theorem ze_146_77 : z_T g d 146 77 (v0 :: v1 :: v2 :: .ref a :: ls) st h P = z_T g d 146 78 (v0 :: v1 :: v2 :: .ref a :: ls) (.ref a :: st) h P := zt_aloadn zi_146_77 rfl rfl
theorem ze_146_77_n : z_T g d 146 77 (v0 :: v1 :: v2 :: .null :: ls) st h P = z_T g d 146 78 (v0 :: v1 :: v2 :: .null :: ls) (.null :: st) h P := zt_aloadnN zi_146_77 rfl rfl
theorem zi_146_78 : z_ins 146 78 = some (.getfield 79, 3) := by decide +kernel
theorem ze_146_78 : z_T g d 146 78 ls (.ref a :: st) h P = z_gI h.1 a 10 2 (fun x => z_T g d 146 81 ls (.int x :: st) h P) := zt_getI zi_146_78 ((congrArg (fun o => z_fl o 79) zo_146).trans zf_LatinRectanglesLaw_79)
theorem zi_146_81 : z_ins 146 81 = some (.if_icmp .eq 5, 3) := by decide +kernel
theorem ze_146_81 : z_T g d 146 81 ls (.int y :: .int x :: st) h P = (if x = y then z_T g d 146 86 ls st h P else z_T g d 146 84 ls st h P) := zt_icmpeq zi_146_81 (by decide)
theorem zi_146_84 : z_ins 146 84 = some (.iconst 0, 1) := by decide +kernel
theorem ze_146_84 : z_T g d 146 84 ls st h P = z_T g d 146 85 ls (.int (nI 0) :: st) h P := zt_iconst zi_146_84 rfl
theorem zi_146_85 : z_ins 146 85 = some (.ireturn, 1) := by decide +kernel
theorem ze_146_85 : z_T g d 146 85 ls [.int x] h P = ((x = nI 0 ∨ x = nI 1) ∧ P (.inr (some (.int x)), h)) := zt_zreturn zi_146_85 zr_146
theorem zi_146_86 : z_ins 146 86 = some (.iconst 0, 1) := by decide +kernel
theorem ze_146_86 : z_T g d 146 86 ls st h P = z_T g d 146 87 ls (.int (nI 0) :: st) h P := zt_iconst zi_146_86 rfl
theorem zi_146_87 : z_ins 146 87 = some (.istore 4, 2) := by decide +kernel
theorem ze_146_87 : z_T g d 146 87 (v0 :: v1 :: v2 :: v3 :: v4 :: ls) (.int x :: st) h P = z_T g d 146 89 (v0 :: v1 :: v2 :: v3 :: .int x :: ls) st h P := zt_istore zi_146_87 (Nat.le_add_left 5 _)
theorem zi_146_89 : z_ins 146 89 = some (.iload 4, 2) := by decide +kernel
theorem ze_146_89 : z_T g d 146 89 (v0 :: v1 :: v2 :: v3 :: .int x :: ls) st h P = z_T g d 146 91 (v0 :: v1 :: v2 :: v3 :: .int x :: ls) (.int x :: st) h P := zt_iload zi_146_89 rfl
theorem zi_146_91 : z_ins 146 91 = some (.bipush 24, 2) := by decide +kernel
theorem ze_146_91 : z_T g d 146 91 ls st h P = z_T g d 146 93 ls (.int (nI 24) :: st) h P := zt_bipush zi_146_91 rfl
theorem zi_146_93 : z_ins 146 93 = some (.if_icmp .ge 37, 3) := by decide +kernel
theorem ze_146_93 : z_T g d 146 93 ls (.int y :: .int x :: st) h P = (if x < y then z_T g d 146 96 ls st h P else z_T g d 146 130 ls st h P) := zt_icmpge zi_146_93 (by decide)
theorem zi_146_96 : z_ins 146 96 = some (.aload_n 0, 1) := by decide +kernel
theorem ze_146_96 : z_T g d 146 96 (.ref a :: ls) st h P = z_T g d 146 97 (.ref a :: ls) (.ref a :: st) h P := zt_aloadn zi_146_96 rfl rfl
theorem ze_146_96_n : z_T g d 146 96 (.null :: ls) st h P = z_T g d 146 97 (.null :: ls) (.null :: st) h P := zt_aloadnN zi_146_96 rfl rfl
theorem zi_146_97 : z_ins 146 97 = some (.aload_n 3, 1) := by decide +kernel
theorem ze_146_97 : z_T g d 146 97 (v0 :: v1 :: v2 :: .ref a :: ls) st h P = z_T g d 146 98 (v0 :: v1 :: v2 :: .ref a :: ls) (.ref a :: st) h P := zt_aloadn zi_146_97 rfl rfl
theorem ze_146_97_n : z_T g d 146 97 (v0 :: v1 :: v2 :: .null :: ls) st h P = z_T g d 146 98 (v0 :: v1 :: v2 :: .null :: ls) (.null :: st) h P := zt_aloadnN zi_146_97 rfl rfl
theorem zi_146_98 : z_ins 146 98 = some (.aload_n 1, 1) := by decide +kernel
theorem ze_146_98 : z_T g d 146 98 (v0 :: .ref a :: ls) st h P = z_T g d 146 99 (v0 :: .ref a :: ls) (.ref a :: st) h P := zt_aloadn zi_146_98 rfl rfl
theorem ze_146_98_n : z_T g d 146 98 (v0 :: .null :: ls) st h P = z_T g d 146 99 (v0 :: .null :: ls) (.null :: st) h P := zt_aloadnN zi_146_98 rfl rfl
theorem zi_146_99 : z_ins 146 99 = some (.invokestatic 108, 3) := by decide +kernel
theorem ze_146_99 : z_T g d 146 99 ls (.ref a2 :: .ref a1 :: .ref a0 :: st) h P = ((z_okS 8 st = true ∧ 0 < d) ∧ z_Ca g (d - 1) 147 [.ref a0, .ref a1, .ref a2] h (fun r => z_k r (fun v h' => z_T g d 146 102 ls (z_push v st) h' P) P)) := zt_cS (as := [.ref a0, .ref a1, .ref a2]) (kk := 1) zi_146_99 rfl (zt_call zj_146 zh_146) (z_opT ((congrArg (fun o => z_lookup z_cps (o, 108)) zo_146).trans zq_cps_LatinRectanglesLaw_108) ((congrArg (fun o => z_lookup z_prs (o, 108)) zo_146).trans zq_prs_LatinRectanglesLaw_108)) ((congrArg (fun o => z_clk o 108) zo_146).trans zk_LatinRectanglesLaw_108) rfl rfl rfl rfl rfl
theorem zi_146_102 : z_ins 146 102 = some (.ifCond .eq 20, 3) := by decide +kernel
theorem ze_146_102 : z_T g d 146 102 ls (.int x :: st) h P = (if x = nI 0 then z_T g d 146 122 ls st h P else z_T g d 146 105 ls st h P) := zt_ifeq zi_146_102 (by decide)
theorem zi_146_105 : z_ins 146 105 = some (.aload_n 0, 1) := by decide +kernel
theorem ze_146_105 : z_T g d 146 105 (.ref a :: ls) st h P = z_T g d 146 106 (.ref a :: ls) (.ref a :: st) h P := zt_aloadn zi_146_105 rfl rfl
theorem ze_146_105_n : z_T g d 146 105 (.null :: ls) st h P = z_T g d 146 106 (.null :: ls) (.null :: st) h P := zt_aloadnN zi_146_105 rfl rfl
theorem zi_146_106 : z_ins 146 106 = some (.aload_n 3, 1) := by decide +kernel
theorem ze_146_106 : z_T g d 146 106 (v0 :: v1 :: v2 :: .ref a :: ls) st h P = z_T g d 146 107 (v0 :: v1 :: v2 :: .ref a :: ls) (.ref a :: st) h P := zt_aloadn zi_146_106 rfl rfl
theorem ze_146_106_n : z_T g d 146 106 (v0 :: v1 :: v2 :: .null :: ls) st h P = z_T g d 146 107 (v0 :: v1 :: v2 :: .null :: ls) (.null :: st) h P := zt_aloadnN zi_146_106 rfl rfl
theorem zi_146_107 : z_ins 146 107 = some (.invokestatic 112, 3) := by decide +kernel
theorem ze_146_107 : z_T g d 146 107 ls (.ref a1 :: .ref a0 :: st) h P = ((z_okS 8 st = true ∧ 0 < d) ∧ z_Ca g (d - 1) 152 [.ref a0, .ref a1] h (fun r => z_k r (fun v h' => z_T g d 146 110 ls (z_push v st) h' P) P)) := zt_cS (as := [.ref a0, .ref a1]) (kk := 1) zi_146_107 rfl (zt_call zj_146 zh_146) (z_opT ((congrArg (fun o => z_lookup z_cps (o, 112)) zo_146).trans zq_cps_LatinRectanglesLaw_112) ((congrArg (fun o => z_lookup z_prs (o, 112)) zo_146).trans zq_prs_LatinRectanglesLaw_112)) ((congrArg (fun o => z_clk o 112) zo_146).trans zk_LatinRectanglesLaw_112) rfl rfl rfl rfl rfl
theorem zi_146_110 : z_ins 146 110 = some (.ifCond .eq 12, 3) := by decide +kernel
theorem ze_146_110 : z_T g d 146 110 ls (.int x :: st) h P = (if x = nI 0 then z_T g d 146 122 ls st h P else z_T g d 146 113 ls st h P) := zt_ifeq zi_146_110 (by decide)
theorem zi_146_113 : z_ins 146 113 = some (.aload_n 0, 1) := by decide +kernel
theorem ze_146_113 : z_T g d 146 113 (.ref a :: ls) st h P = z_T g d 146 114 (.ref a :: ls) (.ref a :: st) h P := zt_aloadn zi_146_113 rfl rfl
theorem ze_146_113_n : z_T g d 146 113 (.null :: ls) st h P = z_T g d 146 114 (.null :: ls) (.null :: st) h P := zt_aloadnN zi_146_113 rfl rfl
theorem zi_146_114 : z_ins 146 114 = some (.aload_n 3, 1) := by decide +kernel
theorem ze_146_114 : z_T g d 146 114 (v0 :: v1 :: v2 :: .ref a :: ls) st h P = z_T g d 146 115 (v0 :: v1 :: v2 :: .ref a :: ls) (.ref a :: st) h P := zt_aloadn zi_146_114 rfl rfl
theorem ze_146_114_n : z_T g d 146 114 (v0 :: v1 :: v2 :: .null :: ls) st h P = z_T g d 146 115 (v0 :: v1 :: v2 :: .null :: ls) (.null :: st) h P := zt_aloadnN zi_146_114 rfl rfl
theorem zi_146_115 : z_ins 146 115 = some (.aload_n 1, 1) := by decide +kernel
theorem ze_146_115 : z_T g d 146 115 (v0 :: .ref a :: ls) st h P = z_T g d 146 116 (v0 :: .ref a :: ls) (.ref a :: st) h P := zt_aloadn zi_146_115 rfl rfl
theorem ze_146_115_n : z_T g d 146 115 (v0 :: .null :: ls) st h P = z_T g d 146 116 (v0 :: .null :: ls) (.null :: st) h P := zt_aloadnN zi_146_115 rfl rfl
theorem zi_146_116 : z_ins 146 116 = some (.invokestatic 116, 3) := by decide +kernel
theorem ze_146_116 : z_T g d 146 116 ls (.ref a2 :: .ref a1 :: .ref a0 :: st) h P = ((z_okS 8 st = true ∧ 0 < d) ∧ z_Ca g (d - 1) 153 [.ref a0, .ref a1, .ref a2] h (fun r => z_k r (fun v h' => z_T g d 146 119 ls (z_push v st) h' P) P)) := zt_cS (as := [.ref a0, .ref a1, .ref a2]) (kk := 1) zi_146_116 rfl (zt_call zj_146 zh_146) (z_opT ((congrArg (fun o => z_lookup z_cps (o, 116)) zo_146).trans zq_cps_LatinRectanglesLaw_116) ((congrArg (fun o => z_lookup z_prs (o, 116)) zo_146).trans zq_prs_LatinRectanglesLaw_116)) ((congrArg (fun o => z_clk o 116) zo_146).trans zk_LatinRectanglesLaw_116) rfl rfl rfl rfl rfl
theorem zi_146_119 : z_ins 146 119 = some (.ifCond .ne 5, 3) := by decide +kernel
theorem ze_146_119 : z_T g d 146 119 ls (.int x :: st) h P = (if x = nI 0 then z_T g d 146 122 ls st h P else z_T g d 146 124 ls st h P) := zt_ifne zi_146_119 (by decide)
theorem zi_146_122 : z_ins 146 122 = some (.iconst 0, 1) := by decide +kernel
theorem ze_146_122 : z_T g d 146 122 ls st h P = z_T g d 146 123 ls (.int (nI 0) :: st) h P := zt_iconst zi_146_122 rfl
theorem zi_146_123 : z_ins 146 123 = some (.ireturn, 1) := by decide +kernel
theorem ze_146_123 : z_T g d 146 123 ls [.int x] h P = ((x = nI 0 ∨ x = nI 1) ∧ P (.inr (some (.int x)), h)) := zt_zreturn zi_146_123 zr_146
theorem zi_146_124 : z_ins 146 124 = some (.iinc 4 1, 3) := by decide +kernel
theorem ze_146_124 : z_T g d 146 124 (v0 :: v1 :: v2 :: v3 :: .int x :: ls) st h P = z_T g d 146 127 (v0 :: v1 :: v2 :: v3 :: .int (x + (nI 1)) :: ls) st h P := zt_iinc zi_146_124 rfl rfl
theorem zi_146_127 : z_ins 146 127 = some (.goto (-38), 3) := by decide +kernel
theorem ze_146_127 : z_T g d 146 127 ls st h P = z_T g d 146 89 ls st h P := zt_goto zi_146_127 (by decide)
theorem zi_146_130 : z_ins 146 130 = some (.iconst 1, 1) := by decide +kernel
theorem ze_146_130 : z_T g d 146 130 ls st h P = z_T g d 146 131 ls (.int (nI 1) :: st) h P := zt_iconst zi_146_130 rfl
theorem zi_146_131 : z_ins 146 131 = some (.ireturn, 1) := by decide +kernel
theorem ze_146_131 : z_T g d 146 131 ls [.int x] h P = ((x = nI 0 ∨ x = nI 1) ∧ P (.inr (some (.int x)), h)) := zt_zreturn zi_146_131 zr_146
-- LatinRectanglesLaw.acts(LLatinRectangles;LLatinRectanglesLaw$Grid;[I)Z
theorem zm_147 : z_maxL 147 = 12 := by decide +kernel
theorem zh_147 : z_hds 147 = [] := by decide +kernel
theorem zj_147 : z_jdk 147 = false := by decide +kernel
theorem zr_147 : z_rt 147 = (some .boolean) := by decide +kernel
theorem zn_147 : z_Ca g d 147 [.ref a0, .ref a1, .ref a2] h P = z_T g d 147 0 [.ref a0, .ref a1, .ref a2, z_un, z_un, z_un, z_un, z_un, z_un, z_un, z_un, z_un] [] h P := z_Ca_ent zm_147 rfl rfl
theorem zi_147_0 : z_ins 147 0 = some (.aload_n 2, 1) := by decide +kernel
theorem ze_147_0 : z_T g d 147 0 (v0 :: v1 :: .ref a :: ls) st h P = z_T g d 147 1 (v0 :: v1 :: .ref a :: ls) (.ref a :: st) h P := zt_aloadn zi_147_0 rfl rfl
theorem ze_147_0_n : z_T g d 147 0 (v0 :: v1 :: .null :: ls) st h P = z_T g d 147 1 (v0 :: v1 :: .null :: ls) (.null :: st) h P := zt_aloadnN zi_147_0 rfl rfl
theorem zi_147_1 : z_ins 147 1 = some (.aload_n 1, 1) := by decide +kernel
theorem ze_147_1 : z_T g d 147 1 (v0 :: .ref a :: ls) st h P = z_T g d 147 2 (v0 :: .ref a :: ls) (.ref a :: st) h P := zt_aloadn zi_147_1 rfl rfl
theorem ze_147_1_n : z_T g d 147 1 (v0 :: .null :: ls) st h P = z_T g d 147 2 (v0 :: .null :: ls) (.null :: st) h P := zt_aloadnN zi_147_1 rfl rfl
theorem zi_147_2 : z_ins 147 2 = some (.getfield 48, 3) := by decide +kernel
theorem ze_147_2 : z_T g d 147 2 ls (.ref a :: st) h P = z_gI h.1 a 10 0 (fun x => z_T g d 147 5 ls (.int x :: st) h P) := zt_getI zi_147_2 ((congrArg (fun o => z_fl o 48) zo_147).trans zf_LatinRectanglesLaw_48)
theorem zi_147_5 : z_ins 147 5 = some (.invokestatic 32, 3) := by decide +kernel
theorem ze_147_5 : z_T g d 147 5 ls (.int x1 :: .ref a0 :: st) h P = ((z_okS 8 st = true ∧ 0 < d) ∧ z_Ca g (d - 1) 143 [.ref a0, .int x1] h (fun r => z_k r (fun v h' => z_T g d 147 8 ls (z_push v st) h' P) P)) := zt_cS (as := [.ref a0, .int x1]) (kk := 1) zi_147_5 rfl (zt_call zj_147 zh_147) (z_opT ((congrArg (fun o => z_lookup z_cps (o, 32)) zo_147).trans zq_cps_LatinRectanglesLaw_32) ((congrArg (fun o => z_lookup z_prs (o, 32)) zo_147).trans zq_prs_LatinRectanglesLaw_32)) ((congrArg (fun o => z_clk o 32) zo_147).trans zk_LatinRectanglesLaw_32) rfl rfl rfl rfl rfl
theorem zi_147_8 : z_ins 147 8 = some (.istore_n 3, 1) := by decide +kernel
theorem ze_147_8 : z_T g d 147 8 (v0 :: v1 :: v2 :: v3 :: ls) (.int x :: st) h P = z_T g d 147 9 (v0 :: v1 :: v2 :: .int x :: ls) st h P := zt_istoren zi_147_8 rfl (Nat.le_add_left 4 _)
theorem zi_147_9 : z_ins 147 9 = some (.aload_n 2, 1) := by decide +kernel
theorem ze_147_9 : z_T g d 147 9 (v0 :: v1 :: .ref a :: ls) st h P = z_T g d 147 10 (v0 :: v1 :: .ref a :: ls) (.ref a :: st) h P := zt_aloadn zi_147_9 rfl rfl
theorem ze_147_9_n : z_T g d 147 9 (v0 :: v1 :: .null :: ls) st h P = z_T g d 147 10 (v0 :: v1 :: .null :: ls) (.null :: st) h P := zt_aloadnN zi_147_9 rfl rfl
theorem zi_147_10 : z_ins 147 10 = some (.aload_n 1, 1) := by decide +kernel
theorem ze_147_10 : z_T g d 147 10 (v0 :: .ref a :: ls) st h P = z_T g d 147 11 (v0 :: .ref a :: ls) (.ref a :: st) h P := zt_aloadn zi_147_10 rfl rfl
theorem ze_147_10_n : z_T g d 147 10 (v0 :: .null :: ls) st h P = z_T g d 147 11 (v0 :: .null :: ls) (.null :: st) h P := zt_aloadnN zi_147_10 rfl rfl
theorem zi_147_11 : z_ins 147 11 = some (.getfield 105, 3) := by decide +kernel
theorem ze_147_11 : z_T g d 147 11 ls (.ref a :: st) h P = z_gI h.1 a 10 1 (fun x => z_T g d 147 14 ls (.int x :: st) h P) := zt_getI zi_147_11 ((congrArg (fun o => z_fl o 105) zo_147).trans zf_LatinRectanglesLaw_105)
theorem zi_147_14 : z_ins 147 14 = some (.invokestatic 32, 3) := by decide +kernel
theorem ze_147_14 : z_T g d 147 14 ls (.int x1 :: .ref a0 :: st) h P = ((z_okS 8 st = true ∧ 0 < d) ∧ z_Ca g (d - 1) 143 [.ref a0, .int x1] h (fun r => z_k r (fun v h' => z_T g d 147 17 ls (z_push v st) h' P) P)) := zt_cS (as := [.ref a0, .int x1]) (kk := 1) zi_147_14 rfl (zt_call zj_147 zh_147) (z_opT ((congrArg (fun o => z_lookup z_cps (o, 32)) zo_147).trans zq_cps_LatinRectanglesLaw_32) ((congrArg (fun o => z_lookup z_prs (o, 32)) zo_147).trans zq_prs_LatinRectanglesLaw_32)) ((congrArg (fun o => z_clk o 32) zo_147).trans zk_LatinRectanglesLaw_32) rfl rfl rfl rfl rfl
theorem zi_147_17 : z_ins 147 17 = some (.istore 4, 2) := by decide +kernel
theorem ze_147_17 : z_T g d 147 17 (v0 :: v1 :: v2 :: v3 :: v4 :: ls) (.int x :: st) h P = z_T g d 147 19 (v0 :: v1 :: v2 :: v3 :: .int x :: ls) st h P := zt_istore zi_147_17 (Nat.le_add_left 5 _)
theorem zi_147_19 : z_ins 147 19 = some (.aload_n 2, 1) := by decide +kernel
theorem ze_147_19 : z_T g d 147 19 (v0 :: v1 :: .ref a :: ls) st h P = z_T g d 147 20 (v0 :: v1 :: .ref a :: ls) (.ref a :: st) h P := zt_aloadn zi_147_19 rfl rfl
theorem ze_147_19_n : z_T g d 147 19 (v0 :: v1 :: .null :: ls) st h P = z_T g d 147 20 (v0 :: v1 :: .null :: ls) (.null :: st) h P := zt_aloadnN zi_147_19 rfl rfl
theorem zi_147_20 : z_ins 147 20 = some (.aload_n 1, 1) := by decide +kernel
theorem ze_147_20 : z_T g d 147 20 (v0 :: .ref a :: ls) st h P = z_T g d 147 21 (v0 :: .ref a :: ls) (.ref a :: st) h P := zt_aloadn zi_147_20 rfl rfl
theorem ze_147_20_n : z_T g d 147 20 (v0 :: .null :: ls) st h P = z_T g d 147 21 (v0 :: .null :: ls) (.null :: st) h P := zt_aloadnN zi_147_20 rfl rfl
theorem zi_147_21 : z_ins 147 21 = some (.getfield 105, 3) := by decide +kernel
theorem ze_147_21 : z_T g d 147 21 ls (.ref a :: st) h P = z_gI h.1 a 10 1 (fun x => z_T g d 147 24 ls (.int x :: st) h P) := zt_getI zi_147_21 ((congrArg (fun o => z_fl o 105) zo_147).trans zf_LatinRectanglesLaw_105)
theorem zi_147_24 : z_ins 147 24 = some (.invokestatic 32, 3) := by decide +kernel
theorem ze_147_24 : z_T g d 147 24 ls (.int x1 :: .ref a0 :: st) h P = ((z_okS 8 st = true ∧ 0 < d) ∧ z_Ca g (d - 1) 143 [.ref a0, .int x1] h (fun r => z_k r (fun v h' => z_T g d 147 27 ls (z_push v st) h' P) P)) := zt_cS (as := [.ref a0, .int x1]) (kk := 1) zi_147_24 rfl (zt_call zj_147 zh_147) (z_opT ((congrArg (fun o => z_lookup z_cps (o, 32)) zo_147).trans zq_cps_LatinRectanglesLaw_32) ((congrArg (fun o => z_lookup z_prs (o, 32)) zo_147).trans zq_prs_LatinRectanglesLaw_32)) ((congrArg (fun o => z_clk o 32) zo_147).trans zk_LatinRectanglesLaw_32) rfl rfl rfl rfl rfl
theorem zi_147_27 : z_ins 147 27 = some (.istore 5, 2) := by decide +kernel
theorem ze_147_27 : z_T g d 147 27 (v0 :: v1 :: v2 :: v3 :: v4 :: v5 :: ls) (.int x :: st) h P = z_T g d 147 29 (v0 :: v1 :: v2 :: v3 :: v4 :: .int x :: ls) st h P := zt_istore zi_147_27 (Nat.le_add_left 6 _)
theorem zi_147_29 : z_ins 147 29 = some (.aload_n 2, 1) := by decide +kernel
theorem ze_147_29 : z_T g d 147 29 (v0 :: v1 :: .ref a :: ls) st h P = z_T g d 147 30 (v0 :: v1 :: .ref a :: ls) (.ref a :: st) h P := zt_aloadn zi_147_29 rfl rfl
theorem ze_147_29_n : z_T g d 147 29 (v0 :: v1 :: .null :: ls) st h P = z_T g d 147 30 (v0 :: v1 :: .null :: ls) (.null :: st) h P := zt_aloadnN zi_147_29 rfl rfl
theorem zi_147_30 : z_ins 147 30 = some (.bipush 8, 2) := by decide +kernel
theorem ze_147_30 : z_T g d 147 30 ls st h P = z_T g d 147 32 ls (.int (nI 8) :: st) h P := zt_bipush zi_147_30 rfl
theorem zi_147_32 : z_ins 147 32 = some (.invokestatic 32, 3) := by decide +kernel
theorem ze_147_32 : z_T g d 147 32 ls (.int x1 :: .ref a0 :: st) h P = ((z_okS 8 st = true ∧ 0 < d) ∧ z_Ca g (d - 1) 143 [.ref a0, .int x1] h (fun r => z_k r (fun v h' => z_T g d 147 35 ls (z_push v st) h' P) P)) := zt_cS (as := [.ref a0, .int x1]) (kk := 1) zi_147_32 rfl (zt_call zj_147 zh_147) (z_opT ((congrArg (fun o => z_lookup z_cps (o, 32)) zo_147).trans zq_cps_LatinRectanglesLaw_32) ((congrArg (fun o => z_lookup z_prs (o, 32)) zo_147).trans zq_prs_LatinRectanglesLaw_32)) ((congrArg (fun o => z_clk o 32) zo_147).trans zk_LatinRectanglesLaw_32) rfl rfl rfl rfl rfl
theorem zi_147_35 : z_ins 147 35 = some (.tableswitch 567 0 3 #[29, 114, 242, 287], 29) := by decide +kernel
theorem ze_147_35_0 : z_T g d 147 35 ls (.int (nI 0) :: st) h P = z_T g d 147 64 ls st h P := zt_swIn zi_147_35 (by decide) (by decide) rfl (by decide)
theorem ze_147_35_1 : z_T g d 147 35 ls (.int (nI 1) :: st) h P = z_T g d 147 149 ls st h P := zt_swIn zi_147_35 (by decide) (by decide) rfl (by decide)
theorem ze_147_35_2 : z_T g d 147 35 ls (.int (nI 2) :: st) h P = z_T g d 147 277 ls st h P := zt_swIn zi_147_35 (by decide) (by decide) rfl (by decide)
theorem ze_147_35_3 : z_T g d 147 35 ls (.int (nI 3) :: st) h P = z_T g d 147 322 ls st h P := zt_swIn zi_147_35 (by decide) (by decide) rfl (by decide)
theorem ze_147_35_4 : z_T g d 147 35 ls (.int (nI 4) :: st) h P = z_T g d 147 602 ls st h P := zt_swOut zi_147_35 (by decide) (by decide)
theorem ze_147_35_5 : z_T g d 147 35 ls (.int (nI 5) :: st) h P = z_T g d 147 602 ls st h P := zt_swOut zi_147_35 (by decide) (by decide)
theorem ze_147_35_6 : z_T g d 147 35 ls (.int (nI 6) :: st) h P = z_T g d 147 602 ls st h P := zt_swOut zi_147_35 (by decide) (by decide)
theorem ze_147_35_7 : z_T g d 147 35 ls (.int (nI 7) :: st) h P = z_T g d 147 602 ls st h P := zt_swOut zi_147_35 (by decide) (by decide)
theorem zi_147_64 : z_ins 147 64 = some (.aload_n 1, 1) := by decide +kernel
theorem ze_147_64 : z_T g d 147 64 (v0 :: .ref a :: ls) st h P = z_T g d 147 65 (v0 :: .ref a :: ls) (.ref a :: st) h P := zt_aloadn zi_147_64 rfl rfl
theorem ze_147_64_n : z_T g d 147 64 (v0 :: .null :: ls) st h P = z_T g d 147 65 (v0 :: .null :: ls) (.null :: st) h P := zt_aloadnN zi_147_64 rfl rfl
theorem zi_147_65 : z_ins 147 65 = some (.getfield 62, 3) := by decide +kernel
theorem ze_147_65 : z_T g d 147 65 ls (.ref a :: st) h P = z_gR h.1 a 10 4 (fun x => z_T g d 147 68 ls (x :: st) h P) := zt_getR zi_147_65 ((congrArg (fun o => z_fl o 62) zo_147).trans zf_LatinRectanglesLaw_62)
theorem zi_147_68 : z_ins 147 68 = some (.iload_n 3, 1) := by decide +kernel
theorem ze_147_68 : z_T g d 147 68 (v0 :: v1 :: v2 :: .int x :: ls) st h P = z_T g d 147 69 (v0 :: v1 :: v2 :: .int x :: ls) (.int x :: st) h P := zt_iloadn zi_147_68 rfl rfl
theorem zi_147_69 : z_ins 147 69 = some (.aaload, 1) := by decide +kernel
theorem ze_147_69 : z_T g d 147 69 ls (.int x :: .ref a :: st) h P = z_qL h.1 a x (fun v => z_T g d 147 70 ls (.ref v :: st) h P) := zt_aaload zi_147_69
theorem zi_147_70 : z_ins 147 70 = some (.iload 4, 2) := by decide +kernel
theorem ze_147_70 : z_T g d 147 70 (v0 :: v1 :: v2 :: v3 :: .int x :: ls) st h P = z_T g d 147 72 (v0 :: v1 :: v2 :: v3 :: .int x :: ls) (.int x :: st) h P := zt_iload zi_147_70 rfl
theorem zi_147_72 : z_ins 147 72 = some (.iaload, 1) := by decide +kernel
theorem ze_147_72 : z_T g d 147 72 ls (.int x :: .ref a :: st) h P = z_aL h.1 a z_tI x (fun v => z_T g d 147 73 ls (.int v :: st) h P) := zt_iaload zi_147_72
theorem zi_147_73 : z_ins 147 73 = some (.ifCond .lt 19, 3) := by decide +kernel
theorem ze_147_73 : z_T g d 147 73 ls (.int x :: st) h P = (if x < nI 0 then z_T g d 147 92 ls st h P else z_T g d 147 76 ls st h P) := zt_iflt zi_147_73 (by decide)
theorem zi_147_76 : z_ins 147 76 = some (.aload_n 1, 1) := by decide +kernel
theorem ze_147_76 : z_T g d 147 76 (v0 :: .ref a :: ls) st h P = z_T g d 147 77 (v0 :: .ref a :: ls) (.ref a :: st) h P := zt_aloadn zi_147_76 rfl rfl
theorem ze_147_76_n : z_T g d 147 76 (v0 :: .null :: ls) st h P = z_T g d 147 77 (v0 :: .null :: ls) (.null :: st) h P := zt_aloadnN zi_147_76 rfl rfl
theorem zi_147_77 : z_ins 147 77 = some (.getfield 66, 3) := by decide +kernel
theorem ze_147_77 : z_T g d 147 77 ls (.ref a :: st) h P = z_gR h.1 a 10 5 (fun x => z_T g d 147 80 ls (x :: st) h P) := zt_getR zi_147_77 ((congrArg (fun o => z_fl o 66) zo_147).trans zf_LatinRectanglesLaw_66)
theorem zi_147_80 : z_ins 147 80 = some (.iload_n 3, 1) := by decide +kernel
theorem ze_147_80 : z_T g d 147 80 (v0 :: v1 :: v2 :: .int x :: ls) st h P = z_T g d 147 81 (v0 :: v1 :: v2 :: .int x :: ls) (.int x :: st) h P := zt_iloadn zi_147_80 rfl rfl
theorem zi_147_81 : z_ins 147 81 = some (.aaload, 1) := by decide +kernel
theorem ze_147_81 : z_T g d 147 81 ls (.int x :: .ref a :: st) h P = z_qL h.1 a x (fun v => z_T g d 147 82 ls (.ref v :: st) h P) := zt_aaload zi_147_81
theorem zi_147_82 : z_ins 147 82 = some (.iload 4, 2) := by decide +kernel
theorem ze_147_82 : z_T g d 147 82 (v0 :: v1 :: v2 :: v3 :: .int x :: ls) st h P = z_T g d 147 84 (v0 :: v1 :: v2 :: v3 :: .int x :: ls) (.int x :: st) h P := zt_iload zi_147_82 rfl
theorem zi_147_84 : z_ins 147 84 = some (.baload, 1) := by decide +kernel
theorem ze_147_84 : z_T g d 147 84 ls (.int x :: .ref a :: st) h P = z_aL h.1 a z_tB x (fun v => z_T g d 147 85 ls (.int v :: st) h P) := zt_baload zi_147_84
theorem zi_147_85 : z_ins 147 85 = some (.ifCond .ne 7, 3) := by decide +kernel
theorem ze_147_85 : z_T g d 147 85 ls (.int x :: st) h P = (if x = nI 0 then z_T g d 147 88 ls st h P else z_T g d 147 92 ls st h P) := zt_ifne zi_147_85 (by decide)
theorem zi_147_88 : z_ins 147 88 = some (.iconst 1, 1) := by decide +kernel
theorem ze_147_88 : z_T g d 147 88 ls st h P = z_T g d 147 89 ls (.int (nI 1) :: st) h P := zt_iconst zi_147_88 rfl
theorem zi_147_89 : z_ins 147 89 = some (.goto 4, 3) := by decide +kernel
theorem ze_147_89 : z_T g d 147 89 ls st h P = z_T g d 147 93 ls st h P := zt_goto zi_147_89 (by decide)
theorem zi_147_92 : z_ins 147 92 = some (.iconst 0, 1) := by decide +kernel
theorem ze_147_92 : z_T g d 147 92 ls st h P = z_T g d 147 93 ls (.int (nI 0) :: st) h P := zt_iconst zi_147_92 rfl
theorem zi_147_93 : z_ins 147 93 = some (.istore 6, 2) := by decide +kernel
theorem ze_147_93 : z_T g d 147 93 (v0 :: v1 :: v2 :: v3 :: v4 :: v5 :: v6 :: ls) (.int x :: st) h P = z_T g d 147 95 (v0 :: v1 :: v2 :: v3 :: v4 :: v5 :: .int x :: ls) st h P := zt_istore zi_147_93 (Nat.le_add_left 7 _)
theorem zi_147_95 : z_ins 147 95 = some (.iload 6, 2) := by decide +kernel
theorem ze_147_95 : z_T g d 147 95 (v0 :: v1 :: v2 :: v3 :: v4 :: v5 :: .int x :: ls) st h P = z_T g d 147 97 (v0 :: v1 :: v2 :: v3 :: v4 :: v5 :: .int x :: ls) (.int x :: st) h P := zt_iload zi_147_95 rfl
theorem zi_147_97 : z_ins 147 97 = some (.ifCond .eq 15, 3) := by decide +kernel
theorem ze_147_97 : z_T g d 147 97 ls (.int x :: st) h P = (if x = nI 0 then z_T g d 147 112 ls st h P else z_T g d 147 100 ls st h P) := zt_ifeq zi_147_97 (by decide)
theorem zi_147_100 : z_ins 147 100 = some (.aload_n 1, 1) := by decide +kernel
theorem ze_147_100 : z_T g d 147 100 (v0 :: .ref a :: ls) st h P = z_T g d 147 101 (v0 :: .ref a :: ls) (.ref a :: st) h P := zt_aloadn zi_147_100 rfl rfl
theorem ze_147_100_n : z_T g d 147 100 (v0 :: .null :: ls) st h P = z_T g d 147 101 (v0 :: .null :: ls) (.null :: st) h P := zt_aloadnN zi_147_100 rfl rfl
theorem zi_147_101 : z_ins 147 101 = some (.getfield 62, 3) := by decide +kernel
theorem ze_147_101 : z_T g d 147 101 ls (.ref a :: st) h P = z_gR h.1 a 10 4 (fun x => z_T g d 147 104 ls (x :: st) h P) := zt_getR zi_147_101 ((congrArg (fun o => z_fl o 62) zo_147).trans zf_LatinRectanglesLaw_62)
theorem zi_147_104 : z_ins 147 104 = some (.iload_n 3, 1) := by decide +kernel
theorem ze_147_104 : z_T g d 147 104 (v0 :: v1 :: v2 :: .int x :: ls) st h P = z_T g d 147 105 (v0 :: v1 :: v2 :: .int x :: ls) (.int x :: st) h P := zt_iloadn zi_147_104 rfl rfl
theorem zi_147_105 : z_ins 147 105 = some (.aaload, 1) := by decide +kernel
theorem ze_147_105 : z_T g d 147 105 ls (.int x :: .ref a :: st) h P = z_qL h.1 a x (fun v => z_T g d 147 106 ls (.ref v :: st) h P) := zt_aaload zi_147_105
theorem zi_147_106 : z_ins 147 106 = some (.iload 4, 2) := by decide +kernel
theorem ze_147_106 : z_T g d 147 106 (v0 :: v1 :: v2 :: v3 :: .int x :: ls) st h P = z_T g d 147 108 (v0 :: v1 :: v2 :: v3 :: .int x :: ls) (.int x :: st) h P := zt_iload zi_147_106 rfl
theorem zi_147_108 : z_ins 147 108 = some (.iaload, 1) := by decide +kernel
theorem ze_147_108 : z_T g d 147 108 ls (.int x :: .ref a :: st) h P = z_aL h.1 a z_tI x (fun v => z_T g d 147 109 ls (.int v :: st) h P) := zt_iaload zi_147_108
theorem zi_147_109 : z_ins 147 109 = some (.goto 5, 3) := by decide +kernel
theorem ze_147_109 : z_T g d 147 109 ls st h P = z_T g d 147 114 ls st h P := zt_goto zi_147_109 (by decide)
theorem zi_147_112 : z_ins 147 112 = some (.bipush (-3), 2) := by decide +kernel
theorem ze_147_112 : z_T g d 147 112 ls st h P = z_T g d 147 114 ls (.int (-3) :: st) h P := zt_bipush zi_147_112 rfl
theorem zi_147_114 : z_ins 147 114 = some (.istore 7, 2) := by decide +kernel
theorem ze_147_114 : z_T g d 147 114 (v0 :: v1 :: v2 :: v3 :: v4 :: v5 :: v6 :: v7 :: ls) (.int x :: st) h P = z_T g d 147 116 (v0 :: v1 :: v2 :: v3 :: v4 :: v5 :: v6 :: .int x :: ls) st h P := zt_istore zi_147_114 (Nat.le_add_left 8 _)
theorem zi_147_116 : z_ins 147 116 = some (.iload 6, 2) := by decide +kernel
theorem ze_147_116 : z_T g d 147 116 (v0 :: v1 :: v2 :: v3 :: v4 :: v5 :: .int x :: ls) st h P = z_T g d 147 118 (v0 :: v1 :: v2 :: v3 :: v4 :: v5 :: .int x :: ls) (.int x :: st) h P := zt_iload zi_147_116 rfl
theorem zi_147_118 : z_ins 147 118 = some (.ifCond .eq 13, 3) := by decide +kernel
theorem ze_147_118 : z_T g d 147 118 ls (.int x :: st) h P = (if x = nI 0 then z_T g d 147 131 ls st h P else z_T g d 147 121 ls st h P) := zt_ifeq zi_147_118 (by decide)
theorem zi_147_121 : z_ins 147 121 = some (.aload_n 1, 1) := by decide +kernel
theorem ze_147_121 : z_T g d 147 121 (v0 :: .ref a :: ls) st h P = z_T g d 147 122 (v0 :: .ref a :: ls) (.ref a :: st) h P := zt_aloadn zi_147_121 rfl rfl
theorem ze_147_121_n : z_T g d 147 121 (v0 :: .null :: ls) st h P = z_T g d 147 122 (v0 :: .null :: ls) (.null :: st) h P := zt_aloadnN zi_147_121 rfl rfl
theorem zi_147_122 : z_ins 147 122 = some (.getfield 62, 3) := by decide +kernel
theorem ze_147_122 : z_T g d 147 122 ls (.ref a :: st) h P = z_gR h.1 a 10 4 (fun x => z_T g d 147 125 ls (x :: st) h P) := zt_getR zi_147_122 ((congrArg (fun o => z_fl o 62) zo_147).trans zf_LatinRectanglesLaw_62)
theorem zi_147_125 : z_ins 147 125 = some (.iload_n 3, 1) := by decide +kernel
theorem ze_147_125 : z_T g d 147 125 (v0 :: v1 :: v2 :: .int x :: ls) st h P = z_T g d 147 126 (v0 :: v1 :: v2 :: .int x :: ls) (.int x :: st) h P := zt_iloadn zi_147_125 rfl rfl
theorem zi_147_126 : z_ins 147 126 = some (.aaload, 1) := by decide +kernel
theorem ze_147_126 : z_T g d 147 126 ls (.int x :: .ref a :: st) h P = z_qL h.1 a x (fun v => z_T g d 147 127 ls (.ref v :: st) h P) := zt_aaload zi_147_126
theorem zi_147_127 : z_ins 147 127 = some (.iload 4, 2) := by decide +kernel
theorem ze_147_127 : z_T g d 147 127 (v0 :: v1 :: v2 :: v3 :: .int x :: ls) st h P = z_T g d 147 129 (v0 :: v1 :: v2 :: v3 :: .int x :: ls) (.int x :: st) h P := zt_iload zi_147_127 rfl
theorem zi_147_129 : z_ins 147 129 = some (.iconst (-1), 1) := by decide +kernel
theorem ze_147_129 : z_T g d 147 129 ls st h P = z_T g d 147 130 ls (.int (-1) :: st) h P := zt_iconst zi_147_129 rfl
theorem zi_147_130 : z_ins 147 130 = some (.iastore, 1) := by decide +kernel
theorem ze_147_130 : z_T g d 147 130 ls (.int y :: .int x :: .ref a :: st) h P = z_aS h.1 a z_tI x y (fun f => z_T g d 147 131 ls st (f, h.2) P) := zt_iastore zi_147_130
theorem zi_147_131 : z_ins 147 131 = some (.aload_n 0, 1) := by decide +kernel
theorem ze_147_131 : z_T g d 147 131 (.ref a :: ls) st h P = z_T g d 147 132 (.ref a :: ls) (.ref a :: st) h P := zt_aloadn zi_147_131 rfl rfl
theorem ze_147_131_n : z_T g d 147 131 (.null :: ls) st h P = z_T g d 147 132 (.null :: ls) (.null :: st) h P := zt_aloadnN zi_147_131 rfl rfl
theorem zi_147_132 : z_ins 147 132 = some (.iload_n 3, 1) := by decide +kernel
theorem ze_147_132 : z_T g d 147 132 (v0 :: v1 :: v2 :: .int x :: ls) st h P = z_T g d 147 133 (v0 :: v1 :: v2 :: .int x :: ls) (.int x :: st) h P := zt_iloadn zi_147_132 rfl rfl
theorem zi_147_133 : z_ins 147 133 = some (.iload 4, 2) := by decide +kernel
theorem ze_147_133 : z_T g d 147 133 (v0 :: v1 :: v2 :: v3 :: .int x :: ls) st h P = z_T g d 147 135 (v0 :: v1 :: v2 :: v3 :: .int x :: ls) (.int x :: st) h P := zt_iload zi_147_133 rfl
theorem zi_147_135 : z_ins 147 135 = some (.invokestatic 119, 3) := by decide +kernel
theorem ze_147_135 : z_T g d 147 135 ls (.int x2 :: .int x1 :: .ref a0 :: st) h P = ((z_okS 8 st = true ∧ 0 < d) ∧ z_Ca g (d - 1) 149 [.ref a0, .int x1, .int x2] h (fun r => z_k r (fun v h' => z_T g d 147 138 ls (z_push v st) h' P) P)) := zt_cS (as := [.ref a0, .int x1, .int x2]) (kk := 1) zi_147_135 rfl (zt_call zj_147 zh_147) (z_opT ((congrArg (fun o => z_lookup z_cps (o, 119)) zo_147).trans zq_cps_LatinRectanglesLaw_119) ((congrArg (fun o => z_lookup z_prs (o, 119)) zo_147).trans zq_prs_LatinRectanglesLaw_119)) ((congrArg (fun o => z_clk o 119) zo_147).trans zk_LatinRectanglesLaw_119) rfl rfl rfl rfl rfl
theorem zi_147_138 : z_ins 147 138 = some (.iload 7, 2) := by decide +kernel
theorem ze_147_138 : z_T g d 147 138 (v0 :: v1 :: v2 :: v3 :: v4 :: v5 :: v6 :: .int x :: ls) st h P = z_T g d 147 140 (v0 :: v1 :: v2 :: v3 :: v4 :: v5 :: v6 :: .int x :: ls) (.int x :: st) h P := zt_iload zi_147_138 rfl
theorem zi_147_140 : z_ins 147 140 = some (.if_icmp .ne 7, 3) := by decide +kernel
theorem ze_147_140 : z_T g d 147 140 ls (.int y :: .int x :: st) h P = (if x = y then z_T g d 147 143 ls st h P else z_T g d 147 147 ls st h P) := zt_icmpne zi_147_140 (by decide)
theorem zi_147_143 : z_ins 147 143 = some (.iconst 1, 1) := by decide +kernel
theorem ze_147_143 : z_T g d 147 143 ls st h P = z_T g d 147 144 ls (.int (nI 1) :: st) h P := zt_iconst zi_147_143 rfl
theorem zi_147_144 : z_ins 147 144 = some (.goto 4, 3) := by decide +kernel
theorem ze_147_144 : z_T g d 147 144 ls st h P = z_T g d 147 148 ls st h P := zt_goto zi_147_144 (by decide)
theorem zi_147_147 : z_ins 147 147 = some (.iconst 0, 1) := by decide +kernel
theorem ze_147_147 : z_T g d 147 147 ls st h P = z_T g d 147 148 ls (.int (nI 0) :: st) h P := zt_iconst zi_147_147 rfl
theorem zi_147_148 : z_ins 147 148 = some (.ireturn, 1) := by decide +kernel
theorem ze_147_148 : z_T g d 147 148 ls [.int x] h P = ((x = nI 0 ∨ x = nI 1) ∧ P (.inr (some (.int x)), h)) := zt_zreturn zi_147_148 zr_147
theorem zi_147_149 : z_ins 147 149 = some (.aload_n 2, 1) := by decide +kernel
theorem ze_147_149 : z_T g d 147 149 (v0 :: v1 :: .ref a :: ls) st h P = z_T g d 147 150 (v0 :: v1 :: .ref a :: ls) (.ref a :: st) h P := zt_aloadn zi_147_149 rfl rfl
theorem ze_147_149_n : z_T g d 147 149 (v0 :: v1 :: .null :: ls) st h P = z_T g d 147 150 (v0 :: v1 :: .null :: ls) (.null :: st) h P := zt_aloadnN zi_147_149 rfl rfl
theorem zi_147_150 : z_ins 147 150 = some (.iconst 3, 1) := by decide +kernel
theorem ze_147_150 : z_T g d 147 150 ls st h P = z_T g d 147 151 ls (.int (nI 3) :: st) h P := zt_iconst zi_147_150 rfl
theorem zi_147_151 : z_ins 147 151 = some (.invokestatic 32, 3) := by decide +kernel
theorem ze_147_151 : z_T g d 147 151 ls (.int x1 :: .ref a0 :: st) h P = ((z_okS 8 st = true ∧ 0 < d) ∧ z_Ca g (d - 1) 143 [.ref a0, .int x1] h (fun r => z_k r (fun v h' => z_T g d 147 154 ls (z_push v st) h' P) P)) := zt_cS (as := [.ref a0, .int x1]) (kk := 1) zi_147_151 rfl (zt_call zj_147 zh_147) (z_opT ((congrArg (fun o => z_lookup z_cps (o, 32)) zo_147).trans zq_cps_LatinRectanglesLaw_32) ((congrArg (fun o => z_lookup z_prs (o, 32)) zo_147).trans zq_prs_LatinRectanglesLaw_32)) ((congrArg (fun o => z_clk o 32) zo_147).trans zk_LatinRectanglesLaw_32) rfl rfl rfl rfl rfl
theorem zi_147_154 : z_ins 147 154 = some (.ifCond .le 5, 3) := by decide +kernel
theorem ze_147_154 : z_T g d 147 154 ls (.int x :: st) h P = (if nI 0 < x then z_T g d 147 157 ls st h P else z_T g d 147 159 ls st h P) := zt_ifle zi_147_154 (by decide)
theorem zi_147_157 : z_ins 147 157 = some (.iconst 1, 1) := by decide +kernel
theorem ze_147_157 : z_T g d 147 157 ls st h P = z_T g d 147 158 ls (.int (nI 1) :: st) h P := zt_iconst zi_147_157 rfl
theorem zi_147_158 : z_ins 147 158 = some (.ireturn, 1) := by decide +kernel
theorem ze_147_158 : z_T g d 147 158 ls [.int x] h P = ((x = nI 0 ∨ x = nI 1) ∧ P (.inr (some (.int x)), h)) := zt_zreturn zi_147_158 zr_147
theorem zi_147_159 : z_ins 147 159 = some (.iconst 0, 1) := by decide +kernel
theorem ze_147_159 : z_T g d 147 159 ls st h P = z_T g d 147 160 ls (.int (nI 0) :: st) h P := zt_iconst zi_147_159 rfl
theorem zi_147_160 : z_ins 147 160 = some (.istore 6, 2) := by decide +kernel
theorem ze_147_160 : z_T g d 147 160 (v0 :: v1 :: v2 :: v3 :: v4 :: v5 :: v6 :: ls) (.int x :: st) h P = z_T g d 147 162 (v0 :: v1 :: v2 :: v3 :: v4 :: v5 :: .int x :: ls) st h P := zt_istore zi_147_160 (Nat.le_add_left 7 _)
theorem zi_147_162 : z_ins 147 162 = some (.iconst 1, 1) := by decide +kernel
theorem ze_147_162 : z_T g d 147 162 ls st h P = z_T g d 147 163 ls (.int (nI 1) :: st) h P := zt_iconst zi_147_162 rfl
theorem zi_147_163 : z_ins 147 163 = some (.istore 7, 2) := by decide +kernel
theorem ze_147_163 : z_T g d 147 163 (v0 :: v1 :: v2 :: v3 :: v4 :: v5 :: v6 :: v7 :: ls) (.int x :: st) h P = z_T g d 147 165 (v0 :: v1 :: v2 :: v3 :: v4 :: v5 :: v6 :: .int x :: ls) st h P := zt_istore zi_147_163 (Nat.le_add_left 8 _)
theorem zi_147_165 : z_ins 147 165 = some (.iload 7, 2) := by decide +kernel
theorem ze_147_165 : z_T g d 147 165 (v0 :: v1 :: v2 :: v3 :: v4 :: v5 :: v6 :: .int x :: ls) st h P = z_T g d 147 167 (v0 :: v1 :: v2 :: v3 :: v4 :: v5 :: v6 :: .int x :: ls) (.int x :: st) h P := zt_iload zi_147_165 rfl
theorem zi_147_167 : z_ins 147 167 = some (.ifCond .eq 95, 3) := by decide +kernel
theorem ze_147_167 : z_T g d 147 167 ls (.int x :: st) h P = (if x = nI 0 then z_T g d 147 262 ls st h P else z_T g d 147 170 ls st h P) := zt_ifeq zi_147_167 (by decide)
theorem zi_147_170 : z_ins 147 170 = some (.iconst 0, 1) := by decide +kernel
theorem ze_147_170 : z_T g d 147 170 ls st h P = z_T g d 147 171 ls (.int (nI 0) :: st) h P := zt_iconst zi_147_170 rfl
theorem zi_147_171 : z_ins 147 171 = some (.istore 7, 2) := by decide +kernel
theorem ze_147_171 : z_T g d 147 171 (v0 :: v1 :: v2 :: v3 :: v4 :: v5 :: v6 :: v7 :: ls) (.int x :: st) h P = z_T g d 147 173 (v0 :: v1 :: v2 :: v3 :: v4 :: v5 :: v6 :: .int x :: ls) st h P := zt_istore zi_147_171 (Nat.le_add_left 8 _)
theorem zi_147_173 : z_ins 147 173 = some (.iconst 0, 1) := by decide +kernel
theorem ze_147_173 : z_T g d 147 173 ls st h P = z_T g d 147 174 ls (.int (nI 0) :: st) h P := zt_iconst zi_147_173 rfl
theorem zi_147_174 : z_ins 147 174 = some (.istore 8, 2) := by decide +kernel
theorem ze_147_174 : z_T g d 147 174 (v0 :: v1 :: v2 :: v3 :: v4 :: v5 :: v6 :: v7 :: v8 :: ls) (.int x :: st) h P = z_T g d 147 176 (v0 :: v1 :: v2 :: v3 :: v4 :: v5 :: v6 :: v7 :: .int x :: ls) st h P := zt_istore zi_147_174 (Nat.le_add_left 9 _)
theorem zi_147_176 : z_ins 147 176 = some (.iload 8, 2) := by decide +kernel
theorem ze_147_176 : z_T g d 147 176 (v0 :: v1 :: v2 :: v3 :: v4 :: v5 :: v6 :: v7 :: .int x :: ls) st h P = z_T g d 147 178 (v0 :: v1 :: v2 :: v3 :: v4 :: v5 :: v6 :: v7 :: .int x :: ls) (.int x :: st) h P := zt_iload zi_147_176 rfl
theorem zi_147_178 : z_ins 147 178 = some (.aload_n 1, 1) := by decide +kernel
theorem ze_147_178 : z_T g d 147 178 (v0 :: .ref a :: ls) st h P = z_T g d 147 179 (v0 :: .ref a :: ls) (.ref a :: st) h P := zt_aloadn zi_147_178 rfl rfl
theorem ze_147_178_n : z_T g d 147 178 (v0 :: .null :: ls) st h P = z_T g d 147 179 (v0 :: .null :: ls) (.null :: st) h P := zt_aloadnN zi_147_178 rfl rfl
theorem zi_147_179 : z_ins 147 179 = some (.getfield 48, 3) := by decide +kernel
theorem ze_147_179 : z_T g d 147 179 ls (.ref a :: st) h P = z_gI h.1 a 10 0 (fun x => z_T g d 147 182 ls (.int x :: st) h P) := zt_getI zi_147_179 ((congrArg (fun o => z_fl o 48) zo_147).trans zf_LatinRectanglesLaw_48)
theorem zi_147_182 : z_ins 147 182 = some (.aload_n 1, 1) := by decide +kernel
theorem ze_147_182 : z_T g d 147 182 (v0 :: .ref a :: ls) st h P = z_T g d 147 183 (v0 :: .ref a :: ls) (.ref a :: st) h P := zt_aloadn zi_147_182 rfl rfl
theorem ze_147_182_n : z_T g d 147 182 (v0 :: .null :: ls) st h P = z_T g d 147 183 (v0 :: .null :: ls) (.null :: st) h P := zt_aloadnN zi_147_182 rfl rfl
theorem zi_147_183 : z_ins 147 183 = some (.getfield 105, 3) := by decide +kernel
theorem ze_147_183 : z_T g d 147 183 ls (.ref a :: st) h P = z_gI h.1 a 10 1 (fun x => z_T g d 147 186 ls (.int x :: st) h P) := zt_getI zi_147_183 ((congrArg (fun o => z_fl o 105) zo_147).trans zf_LatinRectanglesLaw_105)
theorem zi_147_186 : z_ins 147 186 = some (.imul, 1) := by decide +kernel
theorem ze_147_186 : z_T g d 147 186 ls (.int y :: .int x :: st) h P = z_T g d 147 187 ls (.int (x * y) :: st) h P := zt_bin (f := fun x y => x * y) zi_147_186 rfl (fun _ _ _ => rfl)
theorem zi_147_187 : z_ins 147 187 = some (.if_icmp .ge 72, 3) := by decide +kernel
theorem ze_147_187 : z_T g d 147 187 ls (.int y :: .int x :: st) h P = (if x < y then z_T g d 147 190 ls st h P else z_T g d 147 259 ls st h P) := zt_icmpge zi_147_187 (by decide)
theorem zi_147_190 : z_ins 147 190 = some (.iload 7, 2) := by decide +kernel
theorem ze_147_190 : z_T g d 147 190 (v0 :: v1 :: v2 :: v3 :: v4 :: v5 :: v6 :: .int x :: ls) st h P = z_T g d 147 192 (v0 :: v1 :: v2 :: v3 :: v4 :: v5 :: v6 :: .int x :: ls) (.int x :: st) h P := zt_iload zi_147_190 rfl
theorem zi_147_192 : z_ins 147 192 = some (.ifCond .ne 67, 3) := by decide +kernel
theorem ze_147_192 : z_T g d 147 192 ls (.int x :: st) h P = (if x = nI 0 then z_T g d 147 195 ls st h P else z_T g d 147 259 ls st h P) := zt_ifne zi_147_192 (by decide)
theorem zi_147_195 : z_ins 147 195 = some (.aload_n 1, 1) := by decide +kernel
theorem ze_147_195 : z_T g d 147 195 (v0 :: .ref a :: ls) st h P = z_T g d 147 196 (v0 :: .ref a :: ls) (.ref a :: st) h P := zt_aloadn zi_147_195 rfl rfl
theorem ze_147_195_n : z_T g d 147 195 (v0 :: .null :: ls) st h P = z_T g d 147 196 (v0 :: .null :: ls) (.null :: st) h P := zt_aloadnN zi_147_195 rfl rfl
theorem zi_147_196 : z_ins 147 196 = some (.iload 8, 2) := by decide +kernel
theorem ze_147_196 : z_T g d 147 196 (v0 :: v1 :: v2 :: v3 :: v4 :: v5 :: v6 :: v7 :: .int x :: ls) st h P = z_T g d 147 198 (v0 :: v1 :: v2 :: v3 :: v4 :: v5 :: v6 :: v7 :: .int x :: ls) (.int x :: st) h P := zt_iload zi_147_196 rfl
theorem zi_147_198 : z_ins 147 198 = some (.aload_n 1, 1) := by decide +kernel
theorem ze_147_198 : z_T g d 147 198 (v0 :: .ref a :: ls) st h P = z_T g d 147 199 (v0 :: .ref a :: ls) (.ref a :: st) h P := zt_aloadn zi_147_198 rfl rfl
theorem ze_147_198_n : z_T g d 147 198 (v0 :: .null :: ls) st h P = z_T g d 147 199 (v0 :: .null :: ls) (.null :: st) h P := zt_aloadnN zi_147_198 rfl rfl
theorem zi_147_199 : z_ins 147 199 = some (.getfield 105, 3) := by decide +kernel
theorem ze_147_199 : z_T g d 147 199 ls (.ref a :: st) h P = z_gI h.1 a 10 1 (fun x => z_T g d 147 202 ls (.int x :: st) h P) := zt_getI zi_147_199 ((congrArg (fun o => z_fl o 105) zo_147).trans zf_LatinRectanglesLaw_105)
theorem zi_147_202 : z_ins 147 202 = some (.idiv, 1) := by decide +kernel
theorem ze_147_202 : z_T g d 147 202 ls (.int y :: .int x :: st) h P = (¬ y = nI 0 ∧ z_T g d 147 203 ls (.int (x / y) :: st) h P) := zt_idiv zi_147_202
theorem zi_147_203 : z_ins 147 203 = some (.iload 8, 2) := by decide +kernel
theorem ze_147_203 : z_T g d 147 203 (v0 :: v1 :: v2 :: v3 :: v4 :: v5 :: v6 :: v7 :: .int x :: ls) st h P = z_T g d 147 205 (v0 :: v1 :: v2 :: v3 :: v4 :: v5 :: v6 :: v7 :: .int x :: ls) (.int x :: st) h P := zt_iload zi_147_203 rfl
theorem zi_147_205 : z_ins 147 205 = some (.aload_n 1, 1) := by decide +kernel
theorem ze_147_205 : z_T g d 147 205 (v0 :: .ref a :: ls) st h P = z_T g d 147 206 (v0 :: .ref a :: ls) (.ref a :: st) h P := zt_aloadn zi_147_205 rfl rfl
theorem ze_147_205_n : z_T g d 147 205 (v0 :: .null :: ls) st h P = z_T g d 147 206 (v0 :: .null :: ls) (.null :: st) h P := zt_aloadnN zi_147_205 rfl rfl
theorem zi_147_206 : z_ins 147 206 = some (.getfield 105, 3) := by decide +kernel
theorem ze_147_206 : z_T g d 147 206 ls (.ref a :: st) h P = z_gI h.1 a 10 1 (fun x => z_T g d 147 209 ls (.int x :: st) h P) := zt_getI zi_147_206 ((congrArg (fun o => z_fl o 105) zo_147).trans zf_LatinRectanglesLaw_105)
theorem zi_147_209 : z_ins 147 209 = some (.irem, 1) := by decide +kernel
theorem ze_147_209 : z_T g d 147 209 ls (.int y :: .int x :: st) h P = (¬ y = nI 0 ∧ z_T g d 147 210 ls (.int (x - x / y * y) :: st) h P) := zt_irem zi_147_209
theorem zi_147_210 : z_ins 147 210 = some (.invokevirtual 123, 3) := by decide +kernel
theorem ze_147_210 : z_T g d 147 210 ls (.int x1 :: .int x0 :: .ref a :: st) h P = ((z_okS 8 st = true ∧ z_gO h.1 a 10 ∧ 0 < d) ∧ z_Ca g (d - 1) 97 [.ref a, .int x0, .int x1] h (fun r => z_k r (fun v h' => z_T g d 147 213 ls (z_push v st) h' P) P)) := zt_cV (as := [.int x0, .int x1]) (kk := 0) zi_147_210 rfl (zt_call zj_147 zh_147) (z_opV ((congrArg (fun o => z_lookup z_cns (o, 123)) zo_147).trans zq_cns_LatinRectanglesLaw_123) ((congrArg (fun o => z_lookup z_prs (o, 123)) zo_147).trans zq_prs_LatinRectanglesLaw_123)) ((congrArg (fun o => z_clk o 123) zo_147).trans zk_LatinRectanglesLaw_123) rfl rfl rfl rfl (z_rcv0 zc_97)
theorem zi_147_213 : z_ins 147 213 = some (.astore 9, 2) := by decide +kernel
theorem ze_147_213 : z_T g d 147 213 (v0 :: v1 :: v2 :: v3 :: v4 :: v5 :: v6 :: v7 :: v8 :: v9 :: ls) (.ref a :: st) h P = z_T g d 147 215 (v0 :: v1 :: v2 :: v3 :: v4 :: v5 :: v6 :: v7 :: v8 :: .ref a :: ls) st h P := zt_astore rfl zi_147_213 (Nat.le_add_left 10 _)
theorem ze_147_213_n : z_T g d 147 213 (v0 :: v1 :: v2 :: v3 :: v4 :: v5 :: v6 :: v7 :: v8 :: v9 :: ls) (.null :: st) h P = z_T g d 147 215 (v0 :: v1 :: v2 :: v3 :: v4 :: v5 :: v6 :: v7 :: v8 :: .null :: ls) st h P := zt_astore rfl zi_147_213 (Nat.le_add_left 10 _)
theorem zi_147_215 : z_ins 147 215 = some (.aload 9, 2) := by decide +kernel
theorem ze_147_215 : z_T g d 147 215 (v0 :: v1 :: v2 :: v3 :: v4 :: v5 :: v6 :: v7 :: v8 :: .ref a :: ls) st h P = z_T g d 147 217 (v0 :: v1 :: v2 :: v3 :: v4 :: v5 :: v6 :: v7 :: v8 :: .ref a :: ls) (.ref a :: st) h P := zt_aload zi_147_215 rfl
theorem ze_147_215_n : z_T g d 147 215 (v0 :: v1 :: v2 :: v3 :: v4 :: v5 :: v6 :: v7 :: v8 :: .null :: ls) st h P = z_T g d 147 217 (v0 :: v1 :: v2 :: v3 :: v4 :: v5 :: v6 :: v7 :: v8 :: .null :: ls) (.null :: st) h P := zt_aloadN zi_147_215 rfl
theorem zi_147_217 : z_ins 147 217 = some (.ifnonnull 6, 3) := by decide +kernel
theorem ze_147_217 : z_T g d 147 217 ls (.ref a :: st) h P = z_T g d 147 223 ls st h P := zt_nnulR zi_147_217 (by decide)
theorem ze_147_217_n : z_T g d 147 217 ls (.null :: st) h P = z_T g d 147 220 ls st h P := zt_nnulN zi_147_217
theorem ze_147_217_s : z_T g d 147 217 ls (.retAddr b :: st) h P = z_T g d 147 223 ls st h P := zt_nnulS zi_147_217 (by decide)
theorem zi_147_220 : z_ins 147 220 = some (.goto 33, 3) := by decide +kernel
theorem ze_147_220 : z_T g d 147 220 ls st h P = z_T g d 147 253 ls st h P := zt_goto zi_147_220 (by decide)
theorem zi_147_223 : z_ins 147 223 = some (.aload_n 1, 1) := by decide +kernel
theorem ze_147_223 : z_T g d 147 223 (v0 :: .ref a :: ls) st h P = z_T g d 147 224 (v0 :: .ref a :: ls) (.ref a :: st) h P := zt_aloadn zi_147_223 rfl rfl
theorem ze_147_223_n : z_T g d 147 223 (v0 :: .null :: ls) st h P = z_T g d 147 224 (v0 :: .null :: ls) (.null :: st) h P := zt_aloadnN zi_147_223 rfl rfl
theorem zi_147_224 : z_ins 147 224 = some (.getfield 62, 3) := by decide +kernel
theorem ze_147_224 : z_T g d 147 224 ls (.ref a :: st) h P = z_gR h.1 a 10 4 (fun x => z_T g d 147 227 ls (x :: st) h P) := zt_getR zi_147_224 ((congrArg (fun o => z_fl o 62) zo_147).trans zf_LatinRectanglesLaw_62)
theorem zi_147_227 : z_ins 147 227 = some (.iload 8, 2) := by decide +kernel
theorem ze_147_227 : z_T g d 147 227 (v0 :: v1 :: v2 :: v3 :: v4 :: v5 :: v6 :: v7 :: .int x :: ls) st h P = z_T g d 147 229 (v0 :: v1 :: v2 :: v3 :: v4 :: v5 :: v6 :: v7 :: .int x :: ls) (.int x :: st) h P := zt_iload zi_147_227 rfl
theorem zi_147_229 : z_ins 147 229 = some (.aload_n 1, 1) := by decide +kernel
theorem ze_147_229 : z_T g d 147 229 (v0 :: .ref a :: ls) st h P = z_T g d 147 230 (v0 :: .ref a :: ls) (.ref a :: st) h P := zt_aloadn zi_147_229 rfl rfl
theorem ze_147_229_n : z_T g d 147 229 (v0 :: .null :: ls) st h P = z_T g d 147 230 (v0 :: .null :: ls) (.null :: st) h P := zt_aloadnN zi_147_229 rfl rfl
theorem zi_147_230 : z_ins 147 230 = some (.getfield 105, 3) := by decide +kernel
theorem ze_147_230 : z_T g d 147 230 ls (.ref a :: st) h P = z_gI h.1 a 10 1 (fun x => z_T g d 147 233 ls (.int x :: st) h P) := zt_getI zi_147_230 ((congrArg (fun o => z_fl o 105) zo_147).trans zf_LatinRectanglesLaw_105)
theorem zi_147_233 : z_ins 147 233 = some (.idiv, 1) := by decide +kernel
theorem ze_147_233 : z_T g d 147 233 ls (.int y :: .int x :: st) h P = (¬ y = nI 0 ∧ z_T g d 147 234 ls (.int (x / y) :: st) h P) := zt_idiv zi_147_233
theorem zi_147_234 : z_ins 147 234 = some (.aaload, 1) := by decide +kernel
theorem ze_147_234 : z_T g d 147 234 ls (.int x :: .ref a :: st) h P = z_qL h.1 a x (fun v => z_T g d 147 235 ls (.ref v :: st) h P) := zt_aaload zi_147_234
theorem zi_147_235 : z_ins 147 235 = some (.iload 8, 2) := by decide +kernel
theorem ze_147_235 : z_T g d 147 235 (v0 :: v1 :: v2 :: v3 :: v4 :: v5 :: v6 :: v7 :: .int x :: ls) st h P = z_T g d 147 237 (v0 :: v1 :: v2 :: v3 :: v4 :: v5 :: v6 :: v7 :: .int x :: ls) (.int x :: st) h P := zt_iload zi_147_235 rfl
theorem zi_147_237 : z_ins 147 237 = some (.aload_n 1, 1) := by decide +kernel
theorem ze_147_237 : z_T g d 147 237 (v0 :: .ref a :: ls) st h P = z_T g d 147 238 (v0 :: .ref a :: ls) (.ref a :: st) h P := zt_aloadn zi_147_237 rfl rfl
theorem ze_147_237_n : z_T g d 147 237 (v0 :: .null :: ls) st h P = z_T g d 147 238 (v0 :: .null :: ls) (.null :: st) h P := zt_aloadnN zi_147_237 rfl rfl
theorem zi_147_238 : z_ins 147 238 = some (.getfield 105, 3) := by decide +kernel
theorem ze_147_238 : z_T g d 147 238 ls (.ref a :: st) h P = z_gI h.1 a 10 1 (fun x => z_T g d 147 241 ls (.int x :: st) h P) := zt_getI zi_147_238 ((congrArg (fun o => z_fl o 105) zo_147).trans zf_LatinRectanglesLaw_105)
theorem zi_147_241 : z_ins 147 241 = some (.irem, 1) := by decide +kernel
theorem ze_147_241 : z_T g d 147 241 ls (.int y :: .int x :: st) h P = (¬ y = nI 0 ∧ z_T g d 147 242 ls (.int (x - x / y * y) :: st) h P) := zt_irem zi_147_241
theorem zi_147_242 : z_ins 147 242 = some (.aload 9, 2) := by decide +kernel
theorem ze_147_242 : z_T g d 147 242 (v0 :: v1 :: v2 :: v3 :: v4 :: v5 :: v6 :: v7 :: v8 :: .ref a :: ls) st h P = z_T g d 147 244 (v0 :: v1 :: v2 :: v3 :: v4 :: v5 :: v6 :: v7 :: v8 :: .ref a :: ls) (.ref a :: st) h P := zt_aload zi_147_242 rfl
theorem ze_147_242_n : z_T g d 147 242 (v0 :: v1 :: v2 :: v3 :: v4 :: v5 :: v6 :: v7 :: v8 :: .null :: ls) st h P = z_T g d 147 244 (v0 :: v1 :: v2 :: v3 :: v4 :: v5 :: v6 :: v7 :: v8 :: .null :: ls) (.null :: st) h P := zt_aloadN zi_147_242 rfl
theorem zi_147_244 : z_ins 147 244 = some (.iconst 0, 1) := by decide +kernel
theorem ze_147_244 : z_T g d 147 244 ls st h P = z_T g d 147 245 ls (.int (nI 0) :: st) h P := zt_iconst zi_147_244 rfl
theorem zi_147_245 : z_ins 147 245 = some (.iaload, 1) := by decide +kernel
theorem ze_147_245 : z_T g d 147 245 ls (.int x :: .ref a :: st) h P = z_aL h.1 a z_tI x (fun v => z_T g d 147 246 ls (.int v :: st) h P) := zt_iaload zi_147_245
theorem zi_147_246 : z_ins 147 246 = some (.iastore, 1) := by decide +kernel
theorem ze_147_246 : z_T g d 147 246 ls (.int y :: .int x :: .ref a :: st) h P = z_aS h.1 a z_tI x y (fun f => z_T g d 147 247 ls st (f, h.2) P) := zt_iastore zi_147_246
theorem zi_147_247 : z_ins 147 247 = some (.iconst 1, 1) := by decide +kernel
theorem ze_147_247 : z_T g d 147 247 ls st h P = z_T g d 147 248 ls (.int (nI 1) :: st) h P := zt_iconst zi_147_247 rfl
theorem zi_147_248 : z_ins 147 248 = some (.istore 7, 2) := by decide +kernel
theorem ze_147_248 : z_T g d 147 248 (v0 :: v1 :: v2 :: v3 :: v4 :: v5 :: v6 :: v7 :: ls) (.int x :: st) h P = z_T g d 147 250 (v0 :: v1 :: v2 :: v3 :: v4 :: v5 :: v6 :: .int x :: ls) st h P := zt_istore zi_147_248 (Nat.le_add_left 8 _)
theorem zi_147_250 : z_ins 147 250 = some (.iinc 6 1, 3) := by decide +kernel
theorem ze_147_250 : z_T g d 147 250 (v0 :: v1 :: v2 :: v3 :: v4 :: v5 :: .int x :: ls) st h P = z_T g d 147 253 (v0 :: v1 :: v2 :: v3 :: v4 :: v5 :: .int (x + (nI 1)) :: ls) st h P := zt_iinc zi_147_250 rfl rfl
theorem zi_147_253 : z_ins 147 253 = some (.iinc 8 1, 3) := by decide +kernel
theorem ze_147_253 : z_T g d 147 253 (v0 :: v1 :: v2 :: v3 :: v4 :: v5 :: v6 :: v7 :: .int x :: ls) st h P = z_T g d 147 256 (v0 :: v1 :: v2 :: v3 :: v4 :: v5 :: v6 :: v7 :: .int (x + (nI 1)) :: ls) st h P := zt_iinc zi_147_253 rfl rfl
theorem zi_147_256 : z_ins 147 256 = some (.goto (-80), 3) := by decide +kernel
theorem ze_147_256 : z_T g d 147 256 ls st h P = z_T g d 147 176 ls st h P := zt_goto zi_147_256 (by decide)
theorem zi_147_259 : z_ins 147 259 = some (.goto (-94), 3) := by decide +kernel
theorem ze_147_259 : z_T g d 147 259 ls st h P = z_T g d 147 165 ls st h P := zt_goto zi_147_259 (by decide)
theorem zi_147_262 : z_ins 147 262 = some (.aload_n 0, 1) := by decide +kernel
theorem ze_147_262 : z_T g d 147 262 (.ref a :: ls) st h P = z_T g d 147 263 (.ref a :: ls) (.ref a :: st) h P := zt_aloadn zi_147_262 rfl rfl
theorem ze_147_262_n : z_T g d 147 262 (.null :: ls) st h P = z_T g d 147 263 (.null :: ls) (.null :: st) h P := zt_aloadnN zi_147_262 rfl rfl
theorem zi_147_263 : z_ins 147 263 = some (.invokevirtual 127, 3) := by decide +kernel
theorem ze_147_263 : z_T g d 147 263 ls (.ref a :: st) h P = ((z_okS 8 st = true ∧ z_gO h.1 a 9 ∧ 0 < d) ∧ z_Ca g (d - 1) 86 [.ref a] h (fun r => z_k r (fun v h' => z_T g d 147 266 ls (z_push v st) h' P) P)) := zt_cV (as := []) (kk := 0) zi_147_263 rfl (zt_call zj_147 zh_147) (z_opV ((congrArg (fun o => z_lookup z_cns (o, 127)) zo_147).trans zq_cns_LatinRectanglesLaw_127) ((congrArg (fun o => z_lookup z_prs (o, 127)) zo_147).trans zq_prs_LatinRectanglesLaw_127)) ((congrArg (fun o => z_clk o 127) zo_147).trans zk_LatinRectanglesLaw_127) rfl rfl rfl rfl (z_rcv0 zc_86)
theorem zi_147_266 : z_ins 147 266 = some (.iload 6, 2) := by decide +kernel
theorem ze_147_266 : z_T g d 147 266 (v0 :: v1 :: v2 :: v3 :: v4 :: v5 :: .int x :: ls) st h P = z_T g d 147 268 (v0 :: v1 :: v2 :: v3 :: v4 :: v5 :: .int x :: ls) (.int x :: st) h P := zt_iload zi_147_266 rfl
theorem zi_147_268 : z_ins 147 268 = some (.if_icmp .ne 7, 3) := by decide +kernel
theorem ze_147_268 : z_T g d 147 268 ls (.int y :: .int x :: st) h P = (if x = y then z_T g d 147 271 ls st h P else z_T g d 147 275 ls st h P) := zt_icmpne zi_147_268 (by decide)
theorem zi_147_271 : z_ins 147 271 = some (.iconst 1, 1) := by decide +kernel
theorem ze_147_271 : z_T g d 147 271 ls st h P = z_T g d 147 272 ls (.int (nI 1) :: st) h P := zt_iconst zi_147_271 rfl
theorem zi_147_272 : z_ins 147 272 = some (.goto 4, 3) := by decide +kernel
theorem ze_147_272 : z_T g d 147 272 ls st h P = z_T g d 147 276 ls st h P := zt_goto zi_147_272 (by decide)
theorem zi_147_275 : z_ins 147 275 = some (.iconst 0, 1) := by decide +kernel
theorem ze_147_275 : z_T g d 147 275 ls st h P = z_T g d 147 276 ls (.int (nI 0) :: st) h P := zt_iconst zi_147_275 rfl
theorem zi_147_276 : z_ins 147 276 = some (.ireturn, 1) := by decide +kernel
theorem ze_147_276 : z_T g d 147 276 ls [.int x] h P = ((x = nI 0 ∨ x = nI 1) ∧ P (.inr (some (.int x)), h)) := zt_zreturn zi_147_276 zr_147
theorem zi_147_277 : z_ins 147 277 = some (.aload_n 1, 1) := by decide +kernel
theorem ze_147_277 : z_T g d 147 277 (v0 :: .ref a :: ls) st h P = z_T g d 147 278 (v0 :: .ref a :: ls) (.ref a :: st) h P := zt_aloadn zi_147_277 rfl rfl
theorem ze_147_277_n : z_T g d 147 277 (v0 :: .null :: ls) st h P = z_T g d 147 278 (v0 :: .null :: ls) (.null :: st) h P := zt_aloadnN zi_147_277 rfl rfl
theorem zi_147_278 : z_ins 147 278 = some (.invokevirtual 130, 3) := by decide +kernel
theorem ze_147_278 : z_T g d 147 278 ls (.ref a :: st) h P = ((z_okS 8 st = true ∧ z_gO h.1 a 10 ∧ 0 < d) ∧ z_Ca g (d - 1) 105 [.ref a] h (fun r => z_k r (fun v h' => z_T g d 147 281 ls (z_push v st) h' P) P)) := zt_cV (as := []) (kk := 0) zi_147_278 rfl (zt_call zj_147 zh_147) (z_opV ((congrArg (fun o => z_lookup z_cns (o, 130)) zo_147).trans zq_cns_LatinRectanglesLaw_130) ((congrArg (fun o => z_lookup z_prs (o, 130)) zo_147).trans zq_prs_LatinRectanglesLaw_130)) ((congrArg (fun o => z_clk o 130) zo_147).trans zk_LatinRectanglesLaw_130) rfl rfl rfl rfl (z_rcv0 zc_105)
theorem zi_147_281 : z_ins 147 281 = some (.istore 6, 2) := by decide +kernel
theorem ze_147_281 : z_T g d 147 281 (v0 :: v1 :: v2 :: v3 :: v4 :: v5 :: v6 :: ls) (.int x :: st) h P = z_T g d 147 283 (v0 :: v1 :: v2 :: v3 :: v4 :: v5 :: .int x :: ls) st h P := zt_istore zi_147_281 (Nat.le_add_left 7 _)
theorem zi_147_283 : z_ins 147 283 = some (.aload_n 1, 1) := by decide +kernel
theorem ze_147_283 : z_T g d 147 283 (v0 :: .ref a :: ls) st h P = z_T g d 147 284 (v0 :: .ref a :: ls) (.ref a :: st) h P := zt_aloadn zi_147_283 rfl rfl
theorem ze_147_283_n : z_T g d 147 283 (v0 :: .null :: ls) st h P = z_T g d 147 284 (v0 :: .null :: ls) (.null :: st) h P := zt_aloadnN zi_147_283 rfl rfl
theorem zi_147_284 : z_ins 147 284 = some (.iload_n 3, 1) := by decide +kernel
theorem ze_147_284 : z_T g d 147 284 (v0 :: v1 :: v2 :: .int x :: ls) st h P = z_T g d 147 285 (v0 :: v1 :: v2 :: .int x :: ls) (.int x :: st) h P := zt_iloadn zi_147_284 rfl rfl
theorem zi_147_285 : z_ins 147 285 = some (.iconst 0, 1) := by decide +kernel
theorem ze_147_285 : z_T g d 147 285 ls st h P = z_T g d 147 286 ls (.int (nI 0) :: st) h P := zt_iconst zi_147_285 rfl
theorem zi_147_286 : z_ins 147 286 = some (.invokevirtual 133, 3) := by decide +kernel
theorem ze_147_286 : z_T g d 147 286 ls (.int x1 :: .int x0 :: .ref a :: st) h P = ((z_okS 8 st = true ∧ z_gO h.1 a 10 ∧ 0 < d) ∧ z_Ca g (d - 1) 106 [.ref a, .int x0, .int x1] h (fun r => z_k r (fun v h' => z_T g d 147 289 ls (z_push v st) h' P) P)) := zt_cV (as := [.int x0, .int x1]) (kk := 0) zi_147_286 rfl (zt_call zj_147 zh_147) (z_opV ((congrArg (fun o => z_lookup z_cns (o, 133)) zo_147).trans zq_cns_LatinRectanglesLaw_133) ((congrArg (fun o => z_lookup z_prs (o, 133)) zo_147).trans zq_prs_LatinRectanglesLaw_133)) ((congrArg (fun o => z_clk o 133) zo_147).trans zk_LatinRectanglesLaw_133) rfl rfl rfl rfl (z_rcv0 zc_106)
theorem zi_147_289 : z_ins 147 289 = some (.ifCond .eq 13, 3) := by decide +kernel
theorem ze_147_289 : z_T g d 147 289 ls (.int x :: st) h P = (if x = nI 0 then z_T g d 147 302 ls st h P else z_T g d 147 292 ls st h P) := zt_ifeq zi_147_289 (by decide)
theorem zi_147_292 : z_ins 147 292 = some (.aload_n 1, 1) := by decide +kernel
theorem ze_147_292 : z_T g d 147 292 (v0 :: .ref a :: ls) st h P = z_T g d 147 293 (v0 :: .ref a :: ls) (.ref a :: st) h P := zt_aloadn zi_147_292 rfl rfl
theorem ze_147_292_n : z_T g d 147 292 (v0 :: .null :: ls) st h P = z_T g d 147 293 (v0 :: .null :: ls) (.null :: st) h P := zt_aloadnN zi_147_292 rfl rfl
theorem zi_147_293 : z_ins 147 293 = some (.invokevirtual 130, 3) := by decide +kernel
theorem ze_147_293 : z_T g d 147 293 ls (.ref a :: st) h P = ((z_okS 8 st = true ∧ z_gO h.1 a 10 ∧ 0 < d) ∧ z_Ca g (d - 1) 105 [.ref a] h (fun r => z_k r (fun v h' => z_T g d 147 296 ls (z_push v st) h' P) P)) := zt_cV (as := []) (kk := 0) zi_147_293 rfl (zt_call zj_147 zh_147) (z_opV ((congrArg (fun o => z_lookup z_cns (o, 130)) zo_147).trans zq_cns_LatinRectanglesLaw_130) ((congrArg (fun o => z_lookup z_prs (o, 130)) zo_147).trans zq_prs_LatinRectanglesLaw_130)) ((congrArg (fun o => z_clk o 130) zo_147).trans zk_LatinRectanglesLaw_130) rfl rfl rfl rfl (z_rcv0 zc_105)
theorem zi_147_296 : z_ins 147 296 = some (.iload 6, 2) := by decide +kernel
theorem ze_147_296 : z_T g d 147 296 (v0 :: v1 :: v2 :: v3 :: v4 :: v5 :: .int x :: ls) st h P = z_T g d 147 298 (v0 :: v1 :: v2 :: v3 :: v4 :: v5 :: .int x :: ls) (.int x :: st) h P := zt_iload zi_147_296 rfl
theorem zi_147_298 : z_ins 147 298 = some (.isub, 1) := by decide +kernel
theorem ze_147_298 : z_T g d 147 298 ls (.int y :: .int x :: st) h P = z_T g d 147 299 ls (.int (x - y) :: st) h P := zt_bin (f := fun x y => x - y) zi_147_298 rfl (fun _ _ _ => rfl)
theorem zi_147_299 : z_ins 147 299 = some (.goto 5, 3) := by decide +kernel
theorem ze_147_299 : z_T g d 147 299 ls st h P = z_T g d 147 304 ls st h P := zt_goto zi_147_299 (by decide)
theorem zi_147_302 : z_ins 147 302 = some (.bipush (-3), 2) := by decide +kernel
theorem ze_147_302 : z_T g d 147 302 ls st h P = z_T g d 147 304 ls (.int (-3) :: st) h P := zt_bipush zi_147_302 rfl
theorem zi_147_304 : z_ins 147 304 = some (.istore 7, 2) := by decide +kernel
theorem ze_147_304 : z_T g d 147 304 (v0 :: v1 :: v2 :: v3 :: v4 :: v5 :: v6 :: v7 :: ls) (.int x :: st) h P = z_T g d 147 306 (v0 :: v1 :: v2 :: v3 :: v4 :: v5 :: v6 :: .int x :: ls) st h P := zt_istore zi_147_304 (Nat.le_add_left 8 _)
theorem zi_147_306 : z_ins 147 306 = some (.aload_n 0, 1) := by decide +kernel
theorem ze_147_306 : z_T g d 147 306 (.ref a :: ls) st h P = z_T g d 147 307 (.ref a :: ls) (.ref a :: st) h P := zt_aloadn zi_147_306 rfl rfl
theorem ze_147_306_n : z_T g d 147 306 (.null :: ls) st h P = z_T g d 147 307 (.null :: ls) (.null :: st) h P := zt_aloadnN zi_147_306 rfl rfl
theorem zi_147_307 : z_ins 147 307 = some (.iload_n 3, 1) := by decide +kernel
theorem ze_147_307 : z_T g d 147 307 (v0 :: v1 :: v2 :: .int x :: ls) st h P = z_T g d 147 308 (v0 :: v1 :: v2 :: .int x :: ls) (.int x :: st) h P := zt_iloadn zi_147_307 rfl rfl
theorem zi_147_308 : z_ins 147 308 = some (.invokestatic 137, 3) := by decide +kernel
theorem ze_147_308 : z_T g d 147 308 ls (.int x1 :: .ref a0 :: st) h P = ((z_okS 8 st = true ∧ 0 < d) ∧ z_Ca g (d - 1) 150 [.ref a0, .int x1] h (fun r => z_k r (fun v h' => z_T g d 147 311 ls (z_push v st) h' P) P)) := zt_cS (as := [.ref a0, .int x1]) (kk := 1) zi_147_308 rfl (zt_call zj_147 zh_147) (z_opT ((congrArg (fun o => z_lookup z_cps (o, 137)) zo_147).trans zq_cps_LatinRectanglesLaw_137) ((congrArg (fun o => z_lookup z_prs (o, 137)) zo_147).trans zq_prs_LatinRectanglesLaw_137)) ((congrArg (fun o => z_clk o 137) zo_147).trans zk_LatinRectanglesLaw_137) rfl rfl rfl rfl rfl
theorem zi_147_311 : z_ins 147 311 = some (.iload 7, 2) := by decide +kernel
theorem ze_147_311 : z_T g d 147 311 (v0 :: v1 :: v2 :: v3 :: v4 :: v5 :: v6 :: .int x :: ls) st h P = z_T g d 147 313 (v0 :: v1 :: v2 :: v3 :: v4 :: v5 :: v6 :: .int x :: ls) (.int x :: st) h P := zt_iload zi_147_311 rfl
theorem zi_147_313 : z_ins 147 313 = some (.if_icmp .ne 7, 3) := by decide +kernel
theorem ze_147_313 : z_T g d 147 313 ls (.int y :: .int x :: st) h P = (if x = y then z_T g d 147 316 ls st h P else z_T g d 147 320 ls st h P) := zt_icmpne zi_147_313 (by decide)
theorem zi_147_316 : z_ins 147 316 = some (.iconst 1, 1) := by decide +kernel
theorem ze_147_316 : z_T g d 147 316 ls st h P = z_T g d 147 317 ls (.int (nI 1) :: st) h P := zt_iconst zi_147_316 rfl
theorem zi_147_317 : z_ins 147 317 = some (.goto 4, 3) := by decide +kernel
theorem ze_147_317 : z_T g d 147 317 ls st h P = z_T g d 147 321 ls st h P := zt_goto zi_147_317 (by decide)
theorem zi_147_320 : z_ins 147 320 = some (.iconst 0, 1) := by decide +kernel
theorem ze_147_320 : z_T g d 147 320 ls st h P = z_T g d 147 321 ls (.int (nI 0) :: st) h P := zt_iconst zi_147_320 rfl
theorem zi_147_321 : z_ins 147 321 = some (.ireturn, 1) := by decide +kernel
theorem ze_147_321 : z_T g d 147 321 ls [.int x] h P = ((x = nI 0 ∨ x = nI 1) ∧ P (.inr (some (.int x)), h)) := zt_zreturn zi_147_321 zr_147
theorem zi_147_322 : z_ins 147 322 = some (.aload_n 2, 1) := by decide +kernel
theorem ze_147_322 : z_T g d 147 322 (v0 :: v1 :: .ref a :: ls) st h P = z_T g d 147 323 (v0 :: v1 :: .ref a :: ls) (.ref a :: st) h P := zt_aloadn zi_147_322 rfl rfl
theorem ze_147_322_n : z_T g d 147 322 (v0 :: v1 :: .null :: ls) st h P = z_T g d 147 323 (v0 :: v1 :: .null :: ls) (.null :: st) h P := zt_aloadnN zi_147_322 rfl rfl
theorem zi_147_323 : z_ins 147 323 = some (.aload_n 1, 1) := by decide +kernel
theorem ze_147_323 : z_T g d 147 323 (v0 :: .ref a :: ls) st h P = z_T g d 147 324 (v0 :: .ref a :: ls) (.ref a :: st) h P := zt_aloadn zi_147_323 rfl rfl
theorem ze_147_323_n : z_T g d 147 323 (v0 :: .null :: ls) st h P = z_T g d 147 324 (v0 :: .null :: ls) (.null :: st) h P := zt_aloadnN zi_147_323 rfl rfl
theorem zi_147_324 : z_ins 147 324 = some (.getfield 48, 3) := by decide +kernel
theorem ze_147_324 : z_T g d 147 324 ls (.ref a :: st) h P = z_gI h.1 a 10 0 (fun x => z_T g d 147 327 ls (.int x :: st) h P) := zt_getI zi_147_324 ((congrArg (fun o => z_fl o 48) zo_147).trans zf_LatinRectanglesLaw_48)
theorem zi_147_327 : z_ins 147 327 = some (.invokestatic 32, 3) := by decide +kernel
theorem ze_147_327 : z_T g d 147 327 ls (.int x1 :: .ref a0 :: st) h P = ((z_okS 8 st = true ∧ 0 < d) ∧ z_Ca g (d - 1) 143 [.ref a0, .int x1] h (fun r => z_k r (fun v h' => z_T g d 147 330 ls (z_push v st) h' P) P)) := zt_cS (as := [.ref a0, .int x1]) (kk := 1) zi_147_327 rfl (zt_call zj_147 zh_147) (z_opT ((congrArg (fun o => z_lookup z_cps (o, 32)) zo_147).trans zq_cps_LatinRectanglesLaw_32) ((congrArg (fun o => z_lookup z_prs (o, 32)) zo_147).trans zq_prs_LatinRectanglesLaw_32)) ((congrArg (fun o => z_clk o 32) zo_147).trans zk_LatinRectanglesLaw_32) rfl rfl rfl rfl rfl
theorem zi_147_330 : z_ins 147 330 = some (.istore 6, 2) := by decide +kernel
theorem ze_147_330 : z_T g d 147 330 (v0 :: v1 :: v2 :: v3 :: v4 :: v5 :: v6 :: ls) (.int x :: st) h P = z_T g d 147 332 (v0 :: v1 :: v2 :: v3 :: v4 :: v5 :: .int x :: ls) st h P := zt_istore zi_147_330 (Nat.le_add_left 7 _)
theorem zi_147_332 : z_ins 147 332 = some (.iload 6, 2) := by decide +kernel
theorem ze_147_332 : z_T g d 147 332 (v0 :: v1 :: v2 :: v3 :: v4 :: v5 :: .int x :: ls) st h P = z_T g d 147 334 (v0 :: v1 :: v2 :: v3 :: v4 :: v5 :: .int x :: ls) (.int x :: st) h P := zt_iload zi_147_332 rfl
theorem zi_147_334 : z_ins 147 334 = some (.iload_n 3, 1) := by decide +kernel
theorem ze_147_334 : z_T g d 147 334 (v0 :: v1 :: v2 :: .int x :: ls) st h P = z_T g d 147 335 (v0 :: v1 :: v2 :: .int x :: ls) (.int x :: st) h P := zt_iloadn zi_147_334 rfl rfl
theorem zi_147_335 : z_ins 147 335 = some (.if_icmp .ne 5, 3) := by decide +kernel
theorem ze_147_335 : z_T g d 147 335 ls (.int y :: .int x :: st) h P = (if x = y then z_T g d 147 338 ls st h P else z_T g d 147 340 ls st h P) := zt_icmpne zi_147_335 (by decide)
theorem zi_147_338 : z_ins 147 338 = some (.iconst 1, 1) := by decide +kernel
theorem ze_147_338 : z_T g d 147 338 ls st h P = z_T g d 147 339 ls (.int (nI 1) :: st) h P := zt_iconst zi_147_338 rfl
theorem zi_147_339 : z_ins 147 339 = some (.ireturn, 1) := by decide +kernel
theorem ze_147_339 : z_T g d 147 339 ls [.int x] h P = ((x = nI 0 ∨ x = nI 1) ∧ P (.inr (some (.int x)), h)) := zt_zreturn zi_147_339 zr_147
theorem zi_147_340 : z_ins 147 340 = some (.aload_n 1, 1) := by decide +kernel
theorem ze_147_340 : z_T g d 147 340 (v0 :: .ref a :: ls) st h P = z_T g d 147 341 (v0 :: .ref a :: ls) (.ref a :: st) h P := zt_aloadn zi_147_340 rfl rfl
theorem ze_147_340_n : z_T g d 147 340 (v0 :: .null :: ls) st h P = z_T g d 147 341 (v0 :: .null :: ls) (.null :: st) h P := zt_aloadnN zi_147_340 rfl rfl
theorem zi_147_341 : z_ins 147 341 = some (.iload_n 3, 1) := by decide +kernel
theorem ze_147_341 : z_T g d 147 341 (v0 :: v1 :: v2 :: .int x :: ls) st h P = z_T g d 147 342 (v0 :: v1 :: v2 :: .int x :: ls) (.int x :: st) h P := zt_iloadn zi_147_341 rfl rfl
theorem zi_147_342 : z_ins 147 342 = some (.invokevirtual 141, 3) := by decide +kernel
theorem ze_147_342 : z_T g d 147 342 ls (.int x0 :: .ref a :: st) h P = ((z_okS 8 st = true ∧ z_gO h.1 a 10 ∧ 0 < d) ∧ z_Ca g (d - 1) 103 [.ref a, .int x0] h (fun r => z_k r (fun v h' => z_T g d 147 345 ls (z_push v st) h' P) P)) := zt_cV (as := [.int x0]) (kk := 0) zi_147_342 rfl (zt_call zj_147 zh_147) (z_opV ((congrArg (fun o => z_lookup z_cns (o, 141)) zo_147).trans zq_cns_LatinRectanglesLaw_141) ((congrArg (fun o => z_lookup z_prs (o, 141)) zo_147).trans zq_prs_LatinRectanglesLaw_141)) ((congrArg (fun o => z_clk o 141) zo_147).trans zk_LatinRectanglesLaw_141) rfl rfl rfl rfl (z_rcv0 zc_103)
theorem zi_147_345 : z_ins 147 345 = some (.ifCond .eq 16, 3) := by decide +kernel
theorem ze_147_345 : z_T g d 147 345 ls (.int x :: st) h P = (if x = nI 0 then z_T g d 147 361 ls st h P else z_T g d 147 348 ls st h P) := zt_ifeq zi_147_345 (by decide)
theorem zi_147_348 : z_ins 147 348 = some (.aload_n 1, 1) := by decide +kernel
theorem ze_147_348 : z_T g d 147 348 (v0 :: .ref a :: ls) st h P = z_T g d 147 349 (v0 :: .ref a :: ls) (.ref a :: st) h P := zt_aloadn zi_147_348 rfl rfl
theorem ze_147_348_n : z_T g d 147 348 (v0 :: .null :: ls) st h P = z_T g d 147 349 (v0 :: .null :: ls) (.null :: st) h P := zt_aloadnN zi_147_348 rfl rfl
theorem zi_147_349 : z_ins 147 349 = some (.iload 6, 2) := by decide +kernel
theorem ze_147_349 : z_T g d 147 349 (v0 :: v1 :: v2 :: v3 :: v4 :: v5 :: .int x :: ls) st h P = z_T g d 147 351 (v0 :: v1 :: v2 :: v3 :: v4 :: v5 :: .int x :: ls) (.int x :: st) h P := zt_iload zi_147_349 rfl
theorem zi_147_351 : z_ins 147 351 = some (.invokevirtual 141, 3) := by decide +kernel
theorem ze_147_351 : z_T g d 147 351 ls (.int x0 :: .ref a :: st) h P = ((z_okS 8 st = true ∧ z_gO h.1 a 10 ∧ 0 < d) ∧ z_Ca g (d - 1) 103 [.ref a, .int x0] h (fun r => z_k r (fun v h' => z_T g d 147 354 ls (z_push v st) h' P) P)) := zt_cV (as := [.int x0]) (kk := 0) zi_147_351 rfl (zt_call zj_147 zh_147) (z_opV ((congrArg (fun o => z_lookup z_cns (o, 141)) zo_147).trans zq_cns_LatinRectanglesLaw_141) ((congrArg (fun o => z_lookup z_prs (o, 141)) zo_147).trans zq_prs_LatinRectanglesLaw_141)) ((congrArg (fun o => z_clk o 141) zo_147).trans zk_LatinRectanglesLaw_141) rfl rfl rfl rfl (z_rcv0 zc_103)
theorem zi_147_354 : z_ins 147 354 = some (.ifCond .eq 7, 3) := by decide +kernel
theorem ze_147_354 : z_T g d 147 354 ls (.int x :: st) h P = (if x = nI 0 then z_T g d 147 361 ls st h P else z_T g d 147 357 ls st h P) := zt_ifeq zi_147_354 (by decide)
theorem zi_147_357 : z_ins 147 357 = some (.iconst 1, 1) := by decide +kernel
theorem ze_147_357 : z_T g d 147 357 ls st h P = z_T g d 147 358 ls (.int (nI 1) :: st) h P := zt_iconst zi_147_357 rfl
theorem zi_147_358 : z_ins 147 358 = some (.goto 4, 3) := by decide +kernel
theorem ze_147_358 : z_T g d 147 358 ls st h P = z_T g d 147 362 ls st h P := zt_goto zi_147_358 (by decide)
theorem zi_147_361 : z_ins 147 361 = some (.iconst 0, 1) := by decide +kernel
theorem ze_147_361 : z_T g d 147 361 ls st h P = z_T g d 147 362 ls (.int (nI 0) :: st) h P := zt_iconst zi_147_361 rfl
theorem zi_147_362 : z_ins 147 362 = some (.istore 7, 2) := by decide +kernel
theorem ze_147_362 : z_T g d 147 362 (v0 :: v1 :: v2 :: v3 :: v4 :: v5 :: v6 :: v7 :: ls) (.int x :: st) h P = z_T g d 147 364 (v0 :: v1 :: v2 :: v3 :: v4 :: v5 :: v6 :: .int x :: ls) st h P := zt_istore zi_147_362 (Nat.le_add_left 8 _)
theorem zi_147_364 : z_ins 147 364 = some (.iload 7, 2) := by decide +kernel
theorem ze_147_364 : z_T g d 147 364 (v0 :: v1 :: v2 :: v3 :: v4 :: v5 :: v6 :: .int x :: ls) st h P = z_T g d 147 366 (v0 :: v1 :: v2 :: v3 :: v4 :: v5 :: v6 :: .int x :: ls) (.int x :: st) h P := zt_iload zi_147_364 rfl
theorem zi_147_366 : z_ins 147 366 = some (.ifCond .eq 15, 3) := by decide +kernel
theorem ze_147_366 : z_T g d 147 366 ls (.int x :: st) h P = (if x = nI 0 then z_T g d 147 381 ls st h P else z_T g d 147 369 ls st h P) := zt_ifeq zi_147_366 (by decide)
theorem zi_147_369 : z_ins 147 369 = some (.aload_n 1, 1) := by decide +kernel
theorem ze_147_369 : z_T g d 147 369 (v0 :: .ref a :: ls) st h P = z_T g d 147 370 (v0 :: .ref a :: ls) (.ref a :: st) h P := zt_aloadn zi_147_369 rfl rfl
theorem ze_147_369_n : z_T g d 147 369 (v0 :: .null :: ls) st h P = z_T g d 147 370 (v0 :: .null :: ls) (.null :: st) h P := zt_aloadnN zi_147_369 rfl rfl
theorem zi_147_370 : z_ins 147 370 = some (.iload_n 3, 1) := by decide +kernel
theorem ze_147_370 : z_T g d 147 370 (v0 :: v1 :: v2 :: .int x :: ls) st h P = z_T g d 147 371 (v0 :: v1 :: v2 :: .int x :: ls) (.int x :: st) h P := zt_iloadn zi_147_370 rfl rfl
theorem zi_147_371 : z_ins 147 371 = some (.iload 6, 2) := by decide +kernel
theorem ze_147_371 : z_T g d 147 371 (v0 :: v1 :: v2 :: v3 :: v4 :: v5 :: .int x :: ls) st h P = z_T g d 147 373 (v0 :: v1 :: v2 :: v3 :: v4 :: v5 :: .int x :: ls) (.int x :: st) h P := zt_iload zi_147_371 rfl
theorem zi_147_373 : z_ins 147 373 = some (.iload 4, 2) := by decide +kernel
theorem ze_147_373 : z_T g d 147 373 (v0 :: v1 :: v2 :: v3 :: .int x :: ls) st h P = z_T g d 147 375 (v0 :: v1 :: v2 :: v3 :: .int x :: ls) (.int x :: st) h P := zt_iload zi_147_373 rfl
theorem zi_147_375 : z_ins 147 375 = some (.invokevirtual 145, 3) := by decide +kernel
theorem ze_147_375 : z_T g d 147 375 ls (.int x2 :: .int x1 :: .int x0 :: .ref a :: st) h P = ((z_okS 8 st = true ∧ z_gO h.1 a 10 ∧ 0 < d) ∧ z_Ca g (d - 1) 104 [.ref a, .int x0, .int x1, .int x2] h (fun r => z_k r (fun v h' => z_T g d 147 378 ls (z_push v st) h' P) P)) := zt_cV (as := [.int x0, .int x1, .int x2]) (kk := 0) zi_147_375 rfl (zt_call zj_147 zh_147) (z_opV ((congrArg (fun o => z_lookup z_cns (o, 145)) zo_147).trans zq_cns_LatinRectanglesLaw_145) ((congrArg (fun o => z_lookup z_prs (o, 145)) zo_147).trans zq_prs_LatinRectanglesLaw_145)) ((congrArg (fun o => z_clk o 145) zo_147).trans zk_LatinRectanglesLaw_145) rfl rfl rfl rfl (z_rcv0 zc_104)
theorem zi_147_378 : z_ins 147 378 = some (.goto 4, 3) := by decide +kernel
theorem ze_147_378 : z_T g d 147 378 ls st h P = z_T g d 147 382 ls st h P := zt_goto zi_147_378 (by decide)
theorem zi_147_381 : z_ins 147 381 = some (.aconst_null, 1) := by decide +kernel
theorem ze_147_381 : z_T g d 147 381 ls st h P = z_T g d 147 382 ls (.null :: st) h P := zt_null zi_147_381
theorem zi_147_382 : z_ins 147 382 = some (.astore 8, 2) := by decide +kernel
theorem ze_147_382 : z_T g d 147 382 (v0 :: v1 :: v2 :: v3 :: v4 :: v5 :: v6 :: v7 :: v8 :: ls) (.ref a :: st) h P = z_T g d 147 384 (v0 :: v1 :: v2 :: v3 :: v4 :: v5 :: v6 :: v7 :: .ref a :: ls) st h P := zt_astore rfl zi_147_382 (Nat.le_add_left 9 _)
theorem ze_147_382_n : z_T g d 147 382 (v0 :: v1 :: v2 :: v3 :: v4 :: v5 :: v6 :: v7 :: v8 :: ls) (.null :: st) h P = z_T g d 147 384 (v0 :: v1 :: v2 :: v3 :: v4 :: v5 :: v6 :: v7 :: .null :: ls) st h P := zt_astore rfl zi_147_382 (Nat.le_add_left 9 _)
theorem zi_147_384 : z_ins 147 384 = some (.iconst 0, 1) := by decide +kernel
theorem ze_147_384 : z_T g d 147 384 ls st h P = z_T g d 147 385 ls (.int (nI 0) :: st) h P := zt_iconst zi_147_384 rfl
theorem zi_147_385 : z_ins 147 385 = some (.istore 9, 2) := by decide +kernel
theorem ze_147_385 : z_T g d 147 385 (v0 :: v1 :: v2 :: v3 :: v4 :: v5 :: v6 :: v7 :: v8 :: v9 :: ls) (.int x :: st) h P = z_T g d 147 387 (v0 :: v1 :: v2 :: v3 :: v4 :: v5 :: v6 :: v7 :: v8 :: .int x :: ls) st h P := zt_istore zi_147_385 (Nat.le_add_left 10 _)
theorem zi_147_387 : z_ins 147 387 = some (.iload 9, 2) := by decide +kernel
theorem ze_147_387 : z_T g d 147 387 (v0 :: v1 :: v2 :: v3 :: v4 :: v5 :: v6 :: v7 :: v8 :: .int x :: ls) st h P = z_T g d 147 389 (v0 :: v1 :: v2 :: v3 :: v4 :: v5 :: v6 :: v7 :: v8 :: .int x :: ls) (.int x :: st) h P := zt_iload zi_147_387 rfl
theorem zi_147_389 : z_ins 147 389 = some (.aload_n 1, 1) := by decide +kernel
theorem ze_147_389 : z_T g d 147 389 (v0 :: .ref a :: ls) st h P = z_T g d 147 390 (v0 :: .ref a :: ls) (.ref a :: st) h P := zt_aloadn zi_147_389 rfl rfl
theorem ze_147_389_n : z_T g d 147 389 (v0 :: .null :: ls) st h P = z_T g d 147 390 (v0 :: .null :: ls) (.null :: st) h P := zt_aloadnN zi_147_389 rfl rfl
theorem zi_147_390 : z_ins 147 390 = some (.getfield 105, 3) := by decide +kernel
theorem ze_147_390 : z_T g d 147 390 ls (.ref a :: st) h P = z_gI h.1 a 10 1 (fun x => z_T g d 147 393 ls (.int x :: st) h P) := zt_getI zi_147_390 ((congrArg (fun o => z_fl o 105) zo_147).trans zf_LatinRectanglesLaw_105)
theorem zi_147_393 : z_ins 147 393 = some (.if_icmp .ge 96, 3) := by decide +kernel
theorem ze_147_393 : z_T g d 147 393 ls (.int y :: .int x :: st) h P = (if x < y then z_T g d 147 396 ls st h P else z_T g d 147 489 ls st h P) := zt_icmpge zi_147_393 (by decide)
theorem zi_147_396 : z_ins 147 396 = some (.iload 7, 2) := by decide +kernel
theorem ze_147_396 : z_T g d 147 396 (v0 :: v1 :: v2 :: v3 :: v4 :: v5 :: v6 :: .int x :: ls) st h P = z_T g d 147 398 (v0 :: v1 :: v2 :: v3 :: v4 :: v5 :: v6 :: .int x :: ls) (.int x :: st) h P := zt_iload zi_147_396 rfl
theorem zi_147_398 : z_ins 147 398 = some (.ifCond .eq 91, 3) := by decide +kernel
theorem ze_147_398 : z_T g d 147 398 ls (.int x :: st) h P = (if x = nI 0 then z_T g d 147 489 ls st h P else z_T g d 147 401 ls st h P) := zt_ifeq zi_147_398 (by decide)
theorem zi_147_401 : z_ins 147 401 = some (.aload 8, 2) := by decide +kernel
theorem ze_147_401 : z_T g d 147 401 (v0 :: v1 :: v2 :: v3 :: v4 :: v5 :: v6 :: v7 :: .ref a :: ls) st h P = z_T g d 147 403 (v0 :: v1 :: v2 :: v3 :: v4 :: v5 :: v6 :: v7 :: .ref a :: ls) (.ref a :: st) h P := zt_aload zi_147_401 rfl
theorem ze_147_401_n : z_T g d 147 401 (v0 :: v1 :: v2 :: v3 :: v4 :: v5 :: v6 :: v7 :: .null :: ls) st h P = z_T g d 147 403 (v0 :: v1 :: v2 :: v3 :: v4 :: v5 :: v6 :: v7 :: .null :: ls) (.null :: st) h P := zt_aloadN zi_147_401 rfl
theorem zi_147_403 : z_ins 147 403 = some (.iload 9, 2) := by decide +kernel
theorem ze_147_403 : z_T g d 147 403 (v0 :: v1 :: v2 :: v3 :: v4 :: v5 :: v6 :: v7 :: v8 :: .int x :: ls) st h P = z_T g d 147 405 (v0 :: v1 :: v2 :: v3 :: v4 :: v5 :: v6 :: v7 :: v8 :: .int x :: ls) (.int x :: st) h P := zt_iload zi_147_403 rfl
theorem zi_147_405 : z_ins 147 405 = some (.baload, 1) := by decide +kernel
theorem ze_147_405 : z_T g d 147 405 ls (.int x :: .ref a :: st) h P = z_aL h.1 a z_tB x (fun v => z_T g d 147 406 ls (.int v :: st) h P) := zt_baload zi_147_405
theorem zi_147_406 : z_ins 147 406 = some (.ifCond .eq 77, 3) := by decide +kernel
theorem ze_147_406 : z_T g d 147 406 ls (.int x :: st) h P = (if x = nI 0 then z_T g d 147 483 ls st h P else z_T g d 147 409 ls st h P) := zt_ifeq zi_147_406 (by decide)
theorem zi_147_409 : z_ins 147 409 = some (.aload_n 1, 1) := by decide +kernel
theorem ze_147_409 : z_T g d 147 409 (v0 :: .ref a :: ls) st h P = z_T g d 147 410 (v0 :: .ref a :: ls) (.ref a :: st) h P := zt_aloadn zi_147_409 rfl rfl
theorem ze_147_409_n : z_T g d 147 409 (v0 :: .null :: ls) st h P = z_T g d 147 410 (v0 :: .null :: ls) (.null :: st) h P := zt_aloadnN zi_147_409 rfl rfl
theorem zi_147_410 : z_ins 147 410 = some (.getfield 66, 3) := by decide +kernel
theorem ze_147_410 : z_T g d 147 410 ls (.ref a :: st) h P = z_gR h.1 a 10 5 (fun x => z_T g d 147 413 ls (x :: st) h P) := zt_getR zi_147_410 ((congrArg (fun o => z_fl o 66) zo_147).trans zf_LatinRectanglesLaw_66)
theorem zi_147_413 : z_ins 147 413 = some (.iload_n 3, 1) := by decide +kernel
theorem ze_147_413 : z_T g d 147 413 (v0 :: v1 :: v2 :: .int x :: ls) st h P = z_T g d 147 414 (v0 :: v1 :: v2 :: .int x :: ls) (.int x :: st) h P := zt_iloadn zi_147_413 rfl rfl
theorem zi_147_414 : z_ins 147 414 = some (.aaload, 1) := by decide +kernel
theorem ze_147_414 : z_T g d 147 414 ls (.int x :: .ref a :: st) h P = z_qL h.1 a x (fun v => z_T g d 147 415 ls (.ref v :: st) h P) := zt_aaload zi_147_414
theorem zi_147_415 : z_ins 147 415 = some (.iload 9, 2) := by decide +kernel
theorem ze_147_415 : z_T g d 147 415 (v0 :: v1 :: v2 :: v3 :: v4 :: v5 :: v6 :: v7 :: v8 :: .int x :: ls) st h P = z_T g d 147 417 (v0 :: v1 :: v2 :: v3 :: v4 :: v5 :: v6 :: v7 :: v8 :: .int x :: ls) (.int x :: st) h P := zt_iload zi_147_415 rfl
theorem zi_147_417 : z_ins 147 417 = some (.baload, 1) := by decide +kernel
theorem ze_147_417 : z_T g d 147 417 ls (.int x :: .ref a :: st) h P = z_aL h.1 a z_tB x (fun v => z_T g d 147 418 ls (.int v :: st) h P) := zt_baload zi_147_417
theorem zi_147_418 : z_ins 147 418 = some (.ifCond .ne 62, 3) := by decide +kernel
theorem ze_147_418 : z_T g d 147 418 ls (.int x :: st) h P = (if x = nI 0 then z_T g d 147 421 ls st h P else z_T g d 147 480 ls st h P) := zt_ifne zi_147_418 (by decide)
theorem zi_147_421 : z_ins 147 421 = some (.aload_n 1, 1) := by decide +kernel
theorem ze_147_421 : z_T g d 147 421 (v0 :: .ref a :: ls) st h P = z_T g d 147 422 (v0 :: .ref a :: ls) (.ref a :: st) h P := zt_aloadn zi_147_421 rfl rfl
theorem ze_147_421_n : z_T g d 147 421 (v0 :: .null :: ls) st h P = z_T g d 147 422 (v0 :: .null :: ls) (.null :: st) h P := zt_aloadnN zi_147_421 rfl rfl
theorem zi_147_422 : z_ins 147 422 = some (.getfield 66, 3) := by decide +kernel
theorem ze_147_422 : z_T g d 147 422 ls (.ref a :: st) h P = z_gR h.1 a 10 5 (fun x => z_T g d 147 425 ls (x :: st) h P) := zt_getR zi_147_422 ((congrArg (fun o => z_fl o 66) zo_147).trans zf_LatinRectanglesLaw_66)
theorem zi_147_425 : z_ins 147 425 = some (.iload 6, 2) := by decide +kernel
theorem ze_147_425 : z_T g d 147 425 (v0 :: v1 :: v2 :: v3 :: v4 :: v5 :: .int x :: ls) st h P = z_T g d 147 427 (v0 :: v1 :: v2 :: v3 :: v4 :: v5 :: .int x :: ls) (.int x :: st) h P := zt_iload zi_147_425 rfl
theorem zi_147_427 : z_ins 147 427 = some (.aaload, 1) := by decide +kernel
theorem ze_147_427 : z_T g d 147 427 ls (.int x :: .ref a :: st) h P = z_qL h.1 a x (fun v => z_T g d 147 428 ls (.ref v :: st) h P) := zt_aaload zi_147_427
theorem zi_147_428 : z_ins 147 428 = some (.iload 9, 2) := by decide +kernel
theorem ze_147_428 : z_T g d 147 428 (v0 :: v1 :: v2 :: v3 :: v4 :: v5 :: v6 :: v7 :: v8 :: .int x :: ls) st h P = z_T g d 147 430 (v0 :: v1 :: v2 :: v3 :: v4 :: v5 :: v6 :: v7 :: v8 :: .int x :: ls) (.int x :: st) h P := zt_iload zi_147_428 rfl
theorem zi_147_430 : z_ins 147 430 = some (.baload, 1) := by decide +kernel
theorem ze_147_430 : z_T g d 147 430 ls (.int x :: .ref a :: st) h P = z_aL h.1 a z_tB x (fun v => z_T g d 147 431 ls (.int v :: st) h P) := zt_baload zi_147_430
theorem zi_147_431 : z_ins 147 431 = some (.ifCond .ne 49, 3) := by decide +kernel
theorem ze_147_431 : z_T g d 147 431 ls (.int x :: st) h P = (if x = nI 0 then z_T g d 147 434 ls st h P else z_T g d 147 480 ls st h P) := zt_ifne zi_147_431 (by decide)
theorem zi_147_434 : z_ins 147 434 = some (.aload_n 1, 1) := by decide +kernel
theorem ze_147_434 : z_T g d 147 434 (v0 :: .ref a :: ls) st h P = z_T g d 147 435 (v0 :: .ref a :: ls) (.ref a :: st) h P := zt_aloadn zi_147_434 rfl rfl
theorem ze_147_434_n : z_T g d 147 434 (v0 :: .null :: ls) st h P = z_T g d 147 435 (v0 :: .null :: ls) (.null :: st) h P := zt_aloadnN zi_147_434 rfl rfl
theorem zi_147_435 : z_ins 147 435 = some (.getfield 75, 3) := by decide +kernel
theorem ze_147_435 : z_T g d 147 435 ls (.ref a :: st) h P = z_gR h.1 a 10 6 (fun x => z_T g d 147 438 ls (x :: st) h P) := zt_getR zi_147_435 ((congrArg (fun o => z_fl o 75) zo_147).trans zf_LatinRectanglesLaw_75)
theorem zi_147_438 : z_ins 147 438 = some (.iload_n 3, 1) := by decide +kernel
theorem ze_147_438 : z_T g d 147 438 (v0 :: v1 :: v2 :: .int x :: ls) st h P = z_T g d 147 439 (v0 :: v1 :: v2 :: .int x :: ls) (.int x :: st) h P := zt_iloadn zi_147_438 rfl rfl
theorem zi_147_439 : z_ins 147 439 = some (.aaload, 1) := by decide +kernel
theorem ze_147_439 : z_T g d 147 439 ls (.int x :: .ref a :: st) h P = z_qL h.1 a x (fun v => z_T g d 147 440 ls (.ref v :: st) h P) := zt_aaload zi_147_439
theorem zi_147_440 : z_ins 147 440 = some (.iload 9, 2) := by decide +kernel
theorem ze_147_440 : z_T g d 147 440 (v0 :: v1 :: v2 :: v3 :: v4 :: v5 :: v6 :: v7 :: v8 :: .int x :: ls) st h P = z_T g d 147 442 (v0 :: v1 :: v2 :: v3 :: v4 :: v5 :: v6 :: v7 :: v8 :: .int x :: ls) (.int x :: st) h P := zt_iload zi_147_440 rfl
theorem zi_147_442 : z_ins 147 442 = some (.aaload, 1) := by decide +kernel
theorem ze_147_442 : z_T g d 147 442 ls (.int x :: .ref a :: st) h P = z_qL h.1 a x (fun v => z_T g d 147 443 ls (.ref v :: st) h P) := zt_aaload zi_147_442
theorem zi_147_443 : z_ins 147 443 = some (.aload_n 1, 1) := by decide +kernel
theorem ze_147_443 : z_T g d 147 443 (v0 :: .ref a :: ls) st h P = z_T g d 147 444 (v0 :: .ref a :: ls) (.ref a :: st) h P := zt_aloadn zi_147_443 rfl rfl
theorem ze_147_443_n : z_T g d 147 443 (v0 :: .null :: ls) st h P = z_T g d 147 444 (v0 :: .null :: ls) (.null :: st) h P := zt_aloadnN zi_147_443 rfl rfl
theorem zi_147_444 : z_ins 147 444 = some (.getfield 62, 3) := by decide +kernel
theorem ze_147_444 : z_T g d 147 444 ls (.ref a :: st) h P = z_gR h.1 a 10 4 (fun x => z_T g d 147 447 ls (x :: st) h P) := zt_getR zi_147_444 ((congrArg (fun o => z_fl o 62) zo_147).trans zf_LatinRectanglesLaw_62)
theorem zi_147_447 : z_ins 147 447 = some (.iload 6, 2) := by decide +kernel
theorem ze_147_447 : z_T g d 147 447 (v0 :: v1 :: v2 :: v3 :: v4 :: v5 :: .int x :: ls) st h P = z_T g d 147 449 (v0 :: v1 :: v2 :: v3 :: v4 :: v5 :: .int x :: ls) (.int x :: st) h P := zt_iload zi_147_447 rfl
theorem zi_147_449 : z_ins 147 449 = some (.aaload, 1) := by decide +kernel
theorem ze_147_449 : z_T g d 147 449 ls (.int x :: .ref a :: st) h P = z_qL h.1 a x (fun v => z_T g d 147 450 ls (.ref v :: st) h P) := zt_aaload zi_147_449
theorem zi_147_450 : z_ins 147 450 = some (.iload 9, 2) := by decide +kernel
theorem ze_147_450 : z_T g d 147 450 (v0 :: v1 :: v2 :: v3 :: v4 :: v5 :: v6 :: v7 :: v8 :: .int x :: ls) st h P = z_T g d 147 452 (v0 :: v1 :: v2 :: v3 :: v4 :: v5 :: v6 :: v7 :: v8 :: .int x :: ls) (.int x :: st) h P := zt_iload zi_147_450 rfl
theorem zi_147_452 : z_ins 147 452 = some (.iaload, 1) := by decide +kernel
theorem ze_147_452 : z_T g d 147 452 ls (.int x :: .ref a :: st) h P = z_aL h.1 a z_tI x (fun v => z_T g d 147 453 ls (.int v :: st) h P) := zt_iaload zi_147_452
theorem zi_147_453 : z_ins 147 453 = some (.baload, 1) := by decide +kernel
theorem ze_147_453 : z_T g d 147 453 ls (.int x :: .ref a :: st) h P = z_aL h.1 a z_tB x (fun v => z_T g d 147 454 ls (.int v :: st) h P) := zt_baload zi_147_453
theorem zi_147_454 : z_ins 147 454 = some (.ifCond .ne 26, 3) := by decide +kernel
theorem ze_147_454 : z_T g d 147 454 ls (.int x :: st) h P = (if x = nI 0 then z_T g d 147 457 ls st h P else z_T g d 147 480 ls st h P) := zt_ifne zi_147_454 (by decide)
theorem zi_147_457 : z_ins 147 457 = some (.aload_n 1, 1) := by decide +kernel
theorem ze_147_457 : z_T g d 147 457 (v0 :: .ref a :: ls) st h P = z_T g d 147 458 (v0 :: .ref a :: ls) (.ref a :: st) h P := zt_aloadn zi_147_457 rfl rfl
theorem ze_147_457_n : z_T g d 147 457 (v0 :: .null :: ls) st h P = z_T g d 147 458 (v0 :: .null :: ls) (.null :: st) h P := zt_aloadnN zi_147_457 rfl rfl
theorem zi_147_458 : z_ins 147 458 = some (.getfield 75, 3) := by decide +kernel
theorem ze_147_458 : z_T g d 147 458 ls (.ref a :: st) h P = z_gR h.1 a 10 6 (fun x => z_T g d 147 461 ls (x :: st) h P) := zt_getR zi_147_458 ((congrArg (fun o => z_fl o 75) zo_147).trans zf_LatinRectanglesLaw_75)
theorem zi_147_461 : z_ins 147 461 = some (.iload 6, 2) := by decide +kernel
theorem ze_147_461 : z_T g d 147 461 (v0 :: v1 :: v2 :: v3 :: v4 :: v5 :: .int x :: ls) st h P = z_T g d 147 463 (v0 :: v1 :: v2 :: v3 :: v4 :: v5 :: .int x :: ls) (.int x :: st) h P := zt_iload zi_147_461 rfl
theorem zi_147_463 : z_ins 147 463 = some (.aaload, 1) := by decide +kernel
theorem ze_147_463 : z_T g d 147 463 ls (.int x :: .ref a :: st) h P = z_qL h.1 a x (fun v => z_T g d 147 464 ls (.ref v :: st) h P) := zt_aaload zi_147_463
theorem zi_147_464 : z_ins 147 464 = some (.iload 9, 2) := by decide +kernel
theorem ze_147_464 : z_T g d 147 464 (v0 :: v1 :: v2 :: v3 :: v4 :: v5 :: v6 :: v7 :: v8 :: .int x :: ls) st h P = z_T g d 147 466 (v0 :: v1 :: v2 :: v3 :: v4 :: v5 :: v6 :: v7 :: v8 :: .int x :: ls) (.int x :: st) h P := zt_iload zi_147_464 rfl
theorem zi_147_466 : z_ins 147 466 = some (.aaload, 1) := by decide +kernel
theorem ze_147_466 : z_T g d 147 466 ls (.int x :: .ref a :: st) h P = z_qL h.1 a x (fun v => z_T g d 147 467 ls (.ref v :: st) h P) := zt_aaload zi_147_466
theorem zi_147_467 : z_ins 147 467 = some (.aload_n 1, 1) := by decide +kernel
theorem ze_147_467 : z_T g d 147 467 (v0 :: .ref a :: ls) st h P = z_T g d 147 468 (v0 :: .ref a :: ls) (.ref a :: st) h P := zt_aloadn zi_147_467 rfl rfl
theorem ze_147_467_n : z_T g d 147 467 (v0 :: .null :: ls) st h P = z_T g d 147 468 (v0 :: .null :: ls) (.null :: st) h P := zt_aloadnN zi_147_467 rfl rfl
theorem zi_147_468 : z_ins 147 468 = some (.getfield 62, 3) := by decide +kernel
theorem ze_147_468 : z_T g d 147 468 ls (.ref a :: st) h P = z_gR h.1 a 10 4 (fun x => z_T g d 147 471 ls (x :: st) h P) := zt_getR zi_147_468 ((congrArg (fun o => z_fl o 62) zo_147).trans zf_LatinRectanglesLaw_62)
theorem zi_147_471 : z_ins 147 471 = some (.iload_n 3, 1) := by decide +kernel
theorem ze_147_471 : z_T g d 147 471 (v0 :: v1 :: v2 :: .int x :: ls) st h P = z_T g d 147 472 (v0 :: v1 :: v2 :: .int x :: ls) (.int x :: st) h P := zt_iloadn zi_147_471 rfl rfl
theorem zi_147_472 : z_ins 147 472 = some (.aaload, 1) := by decide +kernel
theorem ze_147_472 : z_T g d 147 472 ls (.int x :: .ref a :: st) h P = z_qL h.1 a x (fun v => z_T g d 147 473 ls (.ref v :: st) h P) := zt_aaload zi_147_472
theorem zi_147_473 : z_ins 147 473 = some (.iload 9, 2) := by decide +kernel
theorem ze_147_473 : z_T g d 147 473 (v0 :: v1 :: v2 :: v3 :: v4 :: v5 :: v6 :: v7 :: v8 :: .int x :: ls) st h P = z_T g d 147 475 (v0 :: v1 :: v2 :: v3 :: v4 :: v5 :: v6 :: v7 :: v8 :: .int x :: ls) (.int x :: st) h P := zt_iload zi_147_473 rfl
theorem zi_147_475 : z_ins 147 475 = some (.iaload, 1) := by decide +kernel
theorem ze_147_475 : z_T g d 147 475 ls (.int x :: .ref a :: st) h P = z_aL h.1 a z_tI x (fun v => z_T g d 147 476 ls (.int v :: st) h P) := zt_iaload zi_147_475
theorem zi_147_476 : z_ins 147 476 = some (.baload, 1) := by decide +kernel
theorem ze_147_476 : z_T g d 147 476 ls (.int x :: .ref a :: st) h P = z_aL h.1 a z_tB x (fun v => z_T g d 147 477 ls (.int v :: st) h P) := zt_baload zi_147_476
theorem zi_147_477 : z_ins 147 477 = some (.ifCond .eq 6, 3) := by decide +kernel
theorem ze_147_477 : z_T g d 147 477 ls (.int x :: st) h P = (if x = nI 0 then z_T g d 147 483 ls st h P else z_T g d 147 480 ls st h P) := zt_ifeq zi_147_477 (by decide)
theorem zi_147_480 : z_ins 147 480 = some (.iconst 0, 1) := by decide +kernel
theorem ze_147_480 : z_T g d 147 480 ls st h P = z_T g d 147 481 ls (.int (nI 0) :: st) h P := zt_iconst zi_147_480 rfl
theorem zi_147_481 : z_ins 147 481 = some (.istore 7, 2) := by decide +kernel
theorem ze_147_481 : z_T g d 147 481 (v0 :: v1 :: v2 :: v3 :: v4 :: v5 :: v6 :: v7 :: ls) (.int x :: st) h P = z_T g d 147 483 (v0 :: v1 :: v2 :: v3 :: v4 :: v5 :: v6 :: .int x :: ls) st h P := zt_istore zi_147_481 (Nat.le_add_left 8 _)
theorem zi_147_483 : z_ins 147 483 = some (.iinc 9 1, 3) := by decide +kernel
theorem ze_147_483 : z_T g d 147 483 (v0 :: v1 :: v2 :: v3 :: v4 :: v5 :: v6 :: v7 :: v8 :: .int x :: ls) st h P = z_T g d 147 486 (v0 :: v1 :: v2 :: v3 :: v4 :: v5 :: v6 :: v7 :: v8 :: .int (x + (nI 1)) :: ls) st h P := zt_iinc zi_147_483 rfl rfl
theorem zi_147_486 : z_ins 147 486 = some (.goto (-99), 3) := by decide +kernel
theorem ze_147_486 : z_T g d 147 486 ls st h P = z_T g d 147 387 ls st h P := zt_goto zi_147_486 (by decide)
theorem zi_147_489 : z_ins 147 489 = some (.iload 7, 2) := by decide +kernel
theorem ze_147_489 : z_T g d 147 489 (v0 :: v1 :: v2 :: v3 :: v4 :: v5 :: v6 :: .int x :: ls) st h P = z_T g d 147 491 (v0 :: v1 :: v2 :: v3 :: v4 :: v5 :: v6 :: .int x :: ls) (.int x :: st) h P := zt_iload zi_147_489 rfl
theorem zi_147_491 : z_ins 147 491 = some (.ifCond .eq 11, 3) := by decide +kernel
theorem ze_147_491 : z_T g d 147 491 ls (.int x :: st) h P = (if x = nI 0 then z_T g d 147 502 ls st h P else z_T g d 147 494 ls st h P) := zt_ifeq zi_147_491 (by decide)
theorem zi_147_494 : z_ins 147 494 = some (.aload 8, 2) := by decide +kernel
theorem ze_147_494 : z_T g d 147 494 (v0 :: v1 :: v2 :: v3 :: v4 :: v5 :: v6 :: v7 :: .ref a :: ls) st h P = z_T g d 147 496 (v0 :: v1 :: v2 :: v3 :: v4 :: v5 :: v6 :: v7 :: .ref a :: ls) (.ref a :: st) h P := zt_aload zi_147_494 rfl
theorem ze_147_494_n : z_T g d 147 494 (v0 :: v1 :: v2 :: v3 :: v4 :: v5 :: v6 :: v7 :: .null :: ls) st h P = z_T g d 147 496 (v0 :: v1 :: v2 :: v3 :: v4 :: v5 :: v6 :: v7 :: .null :: ls) (.null :: st) h P := zt_aloadN zi_147_494 rfl
theorem zi_147_496 : z_ins 147 496 = some (.invokestatic 149, 3) := by decide +kernel
theorem ze_147_496 : z_T g d 147 496 ls (.ref a0 :: st) h P = ((z_okS 8 st = true ∧ 0 < d) ∧ z_Ca g (d - 1) 144 [.ref a0] h (fun r => z_k r (fun v h' => z_T g d 147 499 ls (z_push v st) h' P) P)) := zt_cS (as := [.ref a0]) (kk := 1) zi_147_496 rfl (zt_call zj_147 zh_147) (z_opT ((congrArg (fun o => z_lookup z_cps (o, 149)) zo_147).trans zq_cps_LatinRectanglesLaw_149) ((congrArg (fun o => z_lookup z_prs (o, 149)) zo_147).trans zq_prs_LatinRectanglesLaw_149)) ((congrArg (fun o => z_clk o 149) zo_147).trans zk_LatinRectanglesLaw_149) rfl rfl rfl rfl rfl
theorem zi_147_499 : z_ins 147 499 = some (.goto 5, 3) := by decide +kernel
theorem ze_147_499 : z_T g d 147 499 ls st h P = z_T g d 147 504 ls st h P := zt_goto zi_147_499 (by decide)
theorem zi_147_502 : z_ins 147 502 = some (.bipush (-3), 2) := by decide +kernel
theorem ze_147_502 : z_T g d 147 502 ls st h P = z_T g d 147 504 ls (.int (-3) :: st) h P := zt_bipush zi_147_502 rfl
theorem zi_147_504 : z_ins 147 504 = some (.istore 9, 2) := by decide +kernel
theorem ze_147_504 : z_T g d 147 504 (v0 :: v1 :: v2 :: v3 :: v4 :: v5 :: v6 :: v7 :: v8 :: v9 :: ls) (.int x :: st) h P = z_T g d 147 506 (v0 :: v1 :: v2 :: v3 :: v4 :: v5 :: v6 :: v7 :: v8 :: .int x :: ls) st h P := zt_istore zi_147_504 (Nat.le_add_left 10 _)
theorem zi_147_506 : z_ins 147 506 = some (.iconst 0, 1) := by decide +kernel
theorem ze_147_506 : z_T g d 147 506 ls st h P = z_T g d 147 507 ls (.int (nI 0) :: st) h P := zt_iconst zi_147_506 rfl
theorem zi_147_507 : z_ins 147 507 = some (.istore 10, 2) := by decide +kernel
theorem ze_147_507 : z_T g d 147 507 (v0 :: v1 :: v2 :: v3 :: v4 :: v5 :: v6 :: v7 :: v8 :: v9 :: v10 :: ls) (.int x :: st) h P = z_T g d 147 509 (v0 :: v1 :: v2 :: v3 :: v4 :: v5 :: v6 :: v7 :: v8 :: v9 :: .int x :: ls) st h P := zt_istore zi_147_507 (Nat.le_add_left 11 _)
theorem zi_147_509 : z_ins 147 509 = some (.iload 10, 2) := by decide +kernel
theorem ze_147_509 : z_T g d 147 509 (v0 :: v1 :: v2 :: v3 :: v4 :: v5 :: v6 :: v7 :: v8 :: v9 :: .int x :: ls) st h P = z_T g d 147 511 (v0 :: v1 :: v2 :: v3 :: v4 :: v5 :: v6 :: v7 :: v8 :: v9 :: .int x :: ls) (.int x :: st) h P := zt_iload zi_147_509 rfl
theorem zi_147_511 : z_ins 147 511 = some (.aload_n 1, 1) := by decide +kernel
theorem ze_147_511 : z_T g d 147 511 (v0 :: .ref a :: ls) st h P = z_T g d 147 512 (v0 :: .ref a :: ls) (.ref a :: st) h P := zt_aloadn zi_147_511 rfl rfl
theorem ze_147_511_n : z_T g d 147 511 (v0 :: .null :: ls) st h P = z_T g d 147 512 (v0 :: .null :: ls) (.null :: st) h P := zt_aloadnN zi_147_511 rfl rfl
theorem zi_147_512 : z_ins 147 512 = some (.getfield 105, 3) := by decide +kernel
theorem ze_147_512 : z_T g d 147 512 ls (.ref a :: st) h P = z_gI h.1 a 10 1 (fun x => z_T g d 147 515 ls (.int x :: st) h P) := zt_getI zi_147_512 ((congrArg (fun o => z_fl o 105) zo_147).trans zf_LatinRectanglesLaw_105)
theorem zi_147_515 : z_ins 147 515 = some (.if_icmp .ge 67, 3) := by decide +kernel
theorem ze_147_515 : z_T g d 147 515 ls (.int y :: .int x :: st) h P = (if x < y then z_T g d 147 518 ls st h P else z_T g d 147 582 ls st h P) := zt_icmpge zi_147_515 (by decide)
theorem zi_147_518 : z_ins 147 518 = some (.iload 7, 2) := by decide +kernel
theorem ze_147_518 : z_T g d 147 518 (v0 :: v1 :: v2 :: v3 :: v4 :: v5 :: v6 :: .int x :: ls) st h P = z_T g d 147 520 (v0 :: v1 :: v2 :: v3 :: v4 :: v5 :: v6 :: .int x :: ls) (.int x :: st) h P := zt_iload zi_147_518 rfl
theorem zi_147_520 : z_ins 147 520 = some (.ifCond .eq 62, 3) := by decide +kernel
theorem ze_147_520 : z_T g d 147 520 ls (.int x :: st) h P = (if x = nI 0 then z_T g d 147 582 ls st h P else z_T g d 147 523 ls st h P) := zt_ifeq zi_147_520 (by decide)
theorem zi_147_523 : z_ins 147 523 = some (.aload 8, 2) := by decide +kernel
theorem ze_147_523 : z_T g d 147 523 (v0 :: v1 :: v2 :: v3 :: v4 :: v5 :: v6 :: v7 :: .ref a :: ls) st h P = z_T g d 147 525 (v0 :: v1 :: v2 :: v3 :: v4 :: v5 :: v6 :: v7 :: .ref a :: ls) (.ref a :: st) h P := zt_aload zi_147_523 rfl
theorem ze_147_523_n : z_T g d 147 523 (v0 :: v1 :: v2 :: v3 :: v4 :: v5 :: v6 :: v7 :: .null :: ls) st h P = z_T g d 147 525 (v0 :: v1 :: v2 :: v3 :: v4 :: v5 :: v6 :: v7 :: .null :: ls) (.null :: st) h P := zt_aloadN zi_147_523 rfl
theorem zi_147_525 : z_ins 147 525 = some (.iload 10, 2) := by decide +kernel
theorem ze_147_525 : z_T g d 147 525 (v0 :: v1 :: v2 :: v3 :: v4 :: v5 :: v6 :: v7 :: v8 :: v9 :: .int x :: ls) st h P = z_T g d 147 527 (v0 :: v1 :: v2 :: v3 :: v4 :: v5 :: v6 :: v7 :: v8 :: v9 :: .int x :: ls) (.int x :: st) h P := zt_iload zi_147_525 rfl
theorem zi_147_527 : z_ins 147 527 = some (.baload, 1) := by decide +kernel
theorem ze_147_527 : z_T g d 147 527 ls (.int x :: .ref a :: st) h P = z_aL h.1 a z_tB x (fun v => z_T g d 147 528 ls (.int v :: st) h P) := zt_baload zi_147_527
theorem zi_147_528 : z_ins 147 528 = some (.ifCond .ne 6, 3) := by decide +kernel
theorem ze_147_528 : z_T g d 147 528 ls (.int x :: st) h P = (if x = nI 0 then z_T g d 147 531 ls st h P else z_T g d 147 534 ls st h P) := zt_ifne zi_147_528 (by decide)
theorem zi_147_531 : z_ins 147 531 = some (.goto 45, 3) := by decide +kernel
theorem ze_147_531 : z_T g d 147 531 ls st h P = z_T g d 147 576 ls st h P := zt_goto zi_147_531 (by decide)
theorem zi_147_534 : z_ins 147 534 = some (.aload_n 1, 1) := by decide +kernel
theorem ze_147_534 : z_T g d 147 534 (v0 :: .ref a :: ls) st h P = z_T g d 147 535 (v0 :: .ref a :: ls) (.ref a :: st) h P := zt_aloadn zi_147_534 rfl rfl
theorem ze_147_534_n : z_T g d 147 534 (v0 :: .null :: ls) st h P = z_T g d 147 535 (v0 :: .null :: ls) (.null :: st) h P := zt_aloadnN zi_147_534 rfl rfl
theorem zi_147_535 : z_ins 147 535 = some (.getfield 62, 3) := by decide +kernel
theorem ze_147_535 : z_T g d 147 535 ls (.ref a :: st) h P = z_gR h.1 a 10 4 (fun x => z_T g d 147 538 ls (x :: st) h P) := zt_getR zi_147_535 ((congrArg (fun o => z_fl o 62) zo_147).trans zf_LatinRectanglesLaw_62)
theorem zi_147_538 : z_ins 147 538 = some (.iload_n 3, 1) := by decide +kernel
theorem ze_147_538 : z_T g d 147 538 (v0 :: v1 :: v2 :: .int x :: ls) st h P = z_T g d 147 539 (v0 :: v1 :: v2 :: .int x :: ls) (.int x :: st) h P := zt_iloadn zi_147_538 rfl rfl
theorem zi_147_539 : z_ins 147 539 = some (.aaload, 1) := by decide +kernel
theorem ze_147_539 : z_T g d 147 539 ls (.int x :: .ref a :: st) h P = z_qL h.1 a x (fun v => z_T g d 147 540 ls (.ref v :: st) h P) := zt_aaload zi_147_539
theorem zi_147_540 : z_ins 147 540 = some (.iload 10, 2) := by decide +kernel
theorem ze_147_540 : z_T g d 147 540 (v0 :: v1 :: v2 :: v3 :: v4 :: v5 :: v6 :: v7 :: v8 :: v9 :: .int x :: ls) st h P = z_T g d 147 542 (v0 :: v1 :: v2 :: v3 :: v4 :: v5 :: v6 :: v7 :: v8 :: v9 :: .int x :: ls) (.int x :: st) h P := zt_iload zi_147_540 rfl
theorem zi_147_542 : z_ins 147 542 = some (.iaload, 1) := by decide +kernel
theorem ze_147_542 : z_T g d 147 542 ls (.int x :: .ref a :: st) h P = z_aL h.1 a z_tI x (fun v => z_T g d 147 543 ls (.int v :: st) h P) := zt_iaload zi_147_542
theorem zi_147_543 : z_ins 147 543 = some (.istore 11, 2) := by decide +kernel
theorem ze_147_543 : z_T g d 147 543 (v0 :: v1 :: v2 :: v3 :: v4 :: v5 :: v6 :: v7 :: v8 :: v9 :: v10 :: v11 :: ls) (.int x :: st) h P = z_T g d 147 545 (v0 :: v1 :: v2 :: v3 :: v4 :: v5 :: v6 :: v7 :: v8 :: v9 :: v10 :: .int x :: ls) st h P := zt_istore zi_147_543 (Nat.le_add_left 12 _)
theorem zi_147_545 : z_ins 147 545 = some (.aload_n 1, 1) := by decide +kernel
theorem ze_147_545 : z_T g d 147 545 (v0 :: .ref a :: ls) st h P = z_T g d 147 546 (v0 :: .ref a :: ls) (.ref a :: st) h P := zt_aloadn zi_147_545 rfl rfl
theorem ze_147_545_n : z_T g d 147 545 (v0 :: .null :: ls) st h P = z_T g d 147 546 (v0 :: .null :: ls) (.null :: st) h P := zt_aloadnN zi_147_545 rfl rfl
theorem zi_147_546 : z_ins 147 546 = some (.getfield 62, 3) := by decide +kernel
theorem ze_147_546 : z_T g d 147 546 ls (.ref a :: st) h P = z_gR h.1 a 10 4 (fun x => z_T g d 147 549 ls (x :: st) h P) := zt_getR zi_147_546 ((congrArg (fun o => z_fl o 62) zo_147).trans zf_LatinRectanglesLaw_62)
theorem zi_147_549 : z_ins 147 549 = some (.iload_n 3, 1) := by decide +kernel
theorem ze_147_549 : z_T g d 147 549 (v0 :: v1 :: v2 :: .int x :: ls) st h P = z_T g d 147 550 (v0 :: v1 :: v2 :: .int x :: ls) (.int x :: st) h P := zt_iloadn zi_147_549 rfl rfl
theorem zi_147_550 : z_ins 147 550 = some (.aaload, 1) := by decide +kernel
theorem ze_147_550 : z_T g d 147 550 ls (.int x :: .ref a :: st) h P = z_qL h.1 a x (fun v => z_T g d 147 551 ls (.ref v :: st) h P) := zt_aaload zi_147_550
theorem zi_147_551 : z_ins 147 551 = some (.iload 10, 2) := by decide +kernel
theorem ze_147_551 : z_T g d 147 551 (v0 :: v1 :: v2 :: v3 :: v4 :: v5 :: v6 :: v7 :: v8 :: v9 :: .int x :: ls) st h P = z_T g d 147 553 (v0 :: v1 :: v2 :: v3 :: v4 :: v5 :: v6 :: v7 :: v8 :: v9 :: .int x :: ls) (.int x :: st) h P := zt_iload zi_147_551 rfl
theorem zi_147_553 : z_ins 147 553 = some (.aload_n 1, 1) := by decide +kernel
theorem ze_147_553 : z_T g d 147 553 (v0 :: .ref a :: ls) st h P = z_T g d 147 554 (v0 :: .ref a :: ls) (.ref a :: st) h P := zt_aloadn zi_147_553 rfl rfl
theorem ze_147_553_n : z_T g d 147 553 (v0 :: .null :: ls) st h P = z_T g d 147 554 (v0 :: .null :: ls) (.null :: st) h P := zt_aloadnN zi_147_553 rfl rfl
theorem zi_147_554 : z_ins 147 554 = some (.getfield 62, 3) := by decide +kernel
theorem ze_147_554 : z_T g d 147 554 ls (.ref a :: st) h P = z_gR h.1 a 10 4 (fun x => z_T g d 147 557 ls (x :: st) h P) := zt_getR zi_147_554 ((congrArg (fun o => z_fl o 62) zo_147).trans zf_LatinRectanglesLaw_62)
theorem zi_147_557 : z_ins 147 557 = some (.iload 6, 2) := by decide +kernel
theorem ze_147_557 : z_T g d 147 557 (v0 :: v1 :: v2 :: v3 :: v4 :: v5 :: .int x :: ls) st h P = z_T g d 147 559 (v0 :: v1 :: v2 :: v3 :: v4 :: v5 :: .int x :: ls) (.int x :: st) h P := zt_iload zi_147_557 rfl
theorem zi_147_559 : z_ins 147 559 = some (.aaload, 1) := by decide +kernel
theorem ze_147_559 : z_T g d 147 559 ls (.int x :: .ref a :: st) h P = z_qL h.1 a x (fun v => z_T g d 147 560 ls (.ref v :: st) h P) := zt_aaload zi_147_559
theorem zi_147_560 : z_ins 147 560 = some (.iload 10, 2) := by decide +kernel
theorem ze_147_560 : z_T g d 147 560 (v0 :: v1 :: v2 :: v3 :: v4 :: v5 :: v6 :: v7 :: v8 :: v9 :: .int x :: ls) st h P = z_T g d 147 562 (v0 :: v1 :: v2 :: v3 :: v4 :: v5 :: v6 :: v7 :: v8 :: v9 :: .int x :: ls) (.int x :: st) h P := zt_iload zi_147_560 rfl
theorem zi_147_562 : z_ins 147 562 = some (.iaload, 1) := by decide +kernel
theorem ze_147_562 : z_T g d 147 562 ls (.int x :: .ref a :: st) h P = z_aL h.1 a z_tI x (fun v => z_T g d 147 563 ls (.int v :: st) h P) := zt_iaload zi_147_562
theorem zi_147_563 : z_ins 147 563 = some (.iastore, 1) := by decide +kernel
theorem ze_147_563 : z_T g d 147 563 ls (.int y :: .int x :: .ref a :: st) h P = z_aS h.1 a z_tI x y (fun f => z_T g d 147 564 ls st (f, h.2) P) := zt_iastore zi_147_563
theorem zi_147_564 : z_ins 147 564 = some (.aload_n 1, 1) := by decide +kernel
theorem ze_147_564 : z_T g d 147 564 (v0 :: .ref a :: ls) st h P = z_T g d 147 565 (v0 :: .ref a :: ls) (.ref a :: st) h P := zt_aloadn zi_147_564 rfl rfl
theorem ze_147_564_n : z_T g d 147 564 (v0 :: .null :: ls) st h P = z_T g d 147 565 (v0 :: .null :: ls) (.null :: st) h P := zt_aloadnN zi_147_564 rfl rfl
theorem zi_147_565 : z_ins 147 565 = some (.getfield 62, 3) := by decide +kernel
theorem ze_147_565 : z_T g d 147 565 ls (.ref a :: st) h P = z_gR h.1 a 10 4 (fun x => z_T g d 147 568 ls (x :: st) h P) := zt_getR zi_147_565 ((congrArg (fun o => z_fl o 62) zo_147).trans zf_LatinRectanglesLaw_62)
theorem zi_147_568 : z_ins 147 568 = some (.iload 6, 2) := by decide +kernel
theorem ze_147_568 : z_T g d 147 568 (v0 :: v1 :: v2 :: v3 :: v4 :: v5 :: .int x :: ls) st h P = z_T g d 147 570 (v0 :: v1 :: v2 :: v3 :: v4 :: v5 :: .int x :: ls) (.int x :: st) h P := zt_iload zi_147_568 rfl
theorem zi_147_570 : z_ins 147 570 = some (.aaload, 1) := by decide +kernel
theorem ze_147_570 : z_T g d 147 570 ls (.int x :: .ref a :: st) h P = z_qL h.1 a x (fun v => z_T g d 147 571 ls (.ref v :: st) h P) := zt_aaload zi_147_570
theorem zi_147_571 : z_ins 147 571 = some (.iload 10, 2) := by decide +kernel
theorem ze_147_571 : z_T g d 147 571 (v0 :: v1 :: v2 :: v3 :: v4 :: v5 :: v6 :: v7 :: v8 :: v9 :: .int x :: ls) st h P = z_T g d 147 573 (v0 :: v1 :: v2 :: v3 :: v4 :: v5 :: v6 :: v7 :: v8 :: v9 :: .int x :: ls) (.int x :: st) h P := zt_iload zi_147_571 rfl
theorem zi_147_573 : z_ins 147 573 = some (.iload 11, 2) := by decide +kernel
theorem ze_147_573 : z_T g d 147 573 (v0 :: v1 :: v2 :: v3 :: v4 :: v5 :: v6 :: v7 :: v8 :: v9 :: v10 :: .int x :: ls) st h P = z_T g d 147 575 (v0 :: v1 :: v2 :: v3 :: v4 :: v5 :: v6 :: v7 :: v8 :: v9 :: v10 :: .int x :: ls) (.int x :: st) h P := zt_iload zi_147_573 rfl
theorem zi_147_575 : z_ins 147 575 = some (.iastore, 1) := by decide +kernel
theorem ze_147_575 : z_T g d 147 575 ls (.int y :: .int x :: .ref a :: st) h P = z_aS h.1 a z_tI x y (fun f => z_T g d 147 576 ls st (f, h.2) P) := zt_iastore zi_147_575
theorem zi_147_576 : z_ins 147 576 = some (.iinc 10 1, 3) := by decide +kernel
theorem ze_147_576 : z_T g d 147 576 (v0 :: v1 :: v2 :: v3 :: v4 :: v5 :: v6 :: v7 :: v8 :: v9 :: .int x :: ls) st h P = z_T g d 147 579 (v0 :: v1 :: v2 :: v3 :: v4 :: v5 :: v6 :: v7 :: v8 :: v9 :: .int (x + (nI 1)) :: ls) st h P := zt_iinc zi_147_576 rfl rfl
theorem zi_147_579 : z_ins 147 579 = some (.goto (-70), 3) := by decide +kernel
theorem ze_147_579 : z_T g d 147 579 ls st h P = z_T g d 147 509 ls st h P := zt_goto zi_147_579 (by decide)
theorem zi_147_582 : z_ins 147 582 = some (.aload_n 0, 1) := by decide +kernel
theorem ze_147_582 : z_T g d 147 582 (.ref a :: ls) st h P = z_T g d 147 583 (.ref a :: ls) (.ref a :: st) h P := zt_aloadn zi_147_582 rfl rfl
theorem ze_147_582_n : z_T g d 147 582 (.null :: ls) st h P = z_T g d 147 583 (.null :: ls) (.null :: st) h P := zt_aloadnN zi_147_582 rfl rfl
theorem zi_147_583 : z_ins 147 583 = some (.iload_n 3, 1) := by decide +kernel
theorem ze_147_583 : z_T g d 147 583 (v0 :: v1 :: v2 :: .int x :: ls) st h P = z_T g d 147 584 (v0 :: v1 :: v2 :: .int x :: ls) (.int x :: st) h P := zt_iloadn zi_147_583 rfl rfl
theorem zi_147_584 : z_ins 147 584 = some (.iload 6, 2) := by decide +kernel
theorem ze_147_584 : z_T g d 147 584 (v0 :: v1 :: v2 :: v3 :: v4 :: v5 :: .int x :: ls) st h P = z_T g d 147 586 (v0 :: v1 :: v2 :: v3 :: v4 :: v5 :: .int x :: ls) (.int x :: st) h P := zt_iload zi_147_584 rfl
theorem zi_147_586 : z_ins 147 586 = some (.iload 4, 2) := by decide +kernel
theorem ze_147_586 : z_T g d 147 586 (v0 :: v1 :: v2 :: v3 :: .int x :: ls) st h P = z_T g d 147 588 (v0 :: v1 :: v2 :: v3 :: .int x :: ls) (.int x :: st) h P := zt_iload zi_147_586 rfl
theorem zi_147_588 : z_ins 147 588 = some (.invokestatic 152, 3) := by decide +kernel
theorem ze_147_588 : z_T g d 147 588 ls (.int x3 :: .int x2 :: .int x1 :: .ref a0 :: st) h P = ((z_okS 8 st = true ∧ 0 < d) ∧ z_Ca g (d - 1) 151 [.ref a0, .int x1, .int x2, .int x3] h (fun r => z_k r (fun v h' => z_T g d 147 591 ls (z_push v st) h' P) P)) := zt_cS (as := [.ref a0, .int x1, .int x2, .int x3]) (kk := 1) zi_147_588 rfl (zt_call zj_147 zh_147) (z_opT ((congrArg (fun o => z_lookup z_cps (o, 152)) zo_147).trans zq_cps_LatinRectanglesLaw_152) ((congrArg (fun o => z_lookup z_prs (o, 152)) zo_147).trans zq_prs_LatinRectanglesLaw_152)) ((congrArg (fun o => z_clk o 152) zo_147).trans zk_LatinRectanglesLaw_152) rfl rfl rfl rfl rfl
theorem zi_147_591 : z_ins 147 591 = some (.iload 9, 2) := by decide +kernel
theorem ze_147_591 : z_T g d 147 591 (v0 :: v1 :: v2 :: v3 :: v4 :: v5 :: v6 :: v7 :: v8 :: .int x :: ls) st h P = z_T g d 147 593 (v0 :: v1 :: v2 :: v3 :: v4 :: v5 :: v6 :: v7 :: v8 :: .int x :: ls) (.int x :: st) h P := zt_iload zi_147_591 rfl
theorem zi_147_593 : z_ins 147 593 = some (.if_icmp .ne 7, 3) := by decide +kernel
theorem ze_147_593 : z_T g d 147 593 ls (.int y :: .int x :: st) h P = (if x = y then z_T g d 147 596 ls st h P else z_T g d 147 600 ls st h P) := zt_icmpne zi_147_593 (by decide)
theorem zi_147_596 : z_ins 147 596 = some (.iconst 1, 1) := by decide +kernel
theorem ze_147_596 : z_T g d 147 596 ls st h P = z_T g d 147 597 ls (.int (nI 1) :: st) h P := zt_iconst zi_147_596 rfl
theorem zi_147_597 : z_ins 147 597 = some (.goto 4, 3) := by decide +kernel
theorem ze_147_597 : z_T g d 147 597 ls st h P = z_T g d 147 601 ls st h P := zt_goto zi_147_597 (by decide)
theorem zi_147_600 : z_ins 147 600 = some (.iconst 0, 1) := by decide +kernel
theorem ze_147_600 : z_T g d 147 600 ls st h P = z_T g d 147 601 ls (.int (nI 0) :: st) h P := zt_iconst zi_147_600 rfl
theorem zi_147_601 : z_ins 147 601 = some (.ireturn, 1) := by decide +kernel
theorem ze_147_601 : z_T g d 147 601 ls [.int x] h P = ((x = nI 0 ∨ x = nI 1) ∧ P (.inr (some (.int x)), h)) := zt_zreturn zi_147_601 zr_147
theorem zi_147_602 : z_ins 147 602 = some (.aload_n 1, 1) := by decide +kernel
theorem ze_147_602 : z_T g d 147 602 (v0 :: .ref a :: ls) st h P = z_T g d 147 603 (v0 :: .ref a :: ls) (.ref a :: st) h P := zt_aloadn zi_147_602 rfl rfl
theorem ze_147_602_n : z_T g d 147 602 (v0 :: .null :: ls) st h P = z_T g d 147 603 (v0 :: .null :: ls) (.null :: st) h P := zt_aloadnN zi_147_602 rfl rfl
theorem zi_147_603 : z_ins 147 603 = some (.iload_n 3, 1) := by decide +kernel
theorem ze_147_603 : z_T g d 147 603 (v0 :: v1 :: v2 :: .int x :: ls) st h P = z_T g d 147 604 (v0 :: v1 :: v2 :: .int x :: ls) (.int x :: st) h P := zt_iloadn zi_147_603 rfl rfl
theorem zi_147_604 : z_ins 147 604 = some (.iload 4, 2) := by decide +kernel
theorem ze_147_604 : z_T g d 147 604 (v0 :: v1 :: v2 :: v3 :: .int x :: ls) st h P = z_T g d 147 606 (v0 :: v1 :: v2 :: v3 :: .int x :: ls) (.int x :: st) h P := zt_iload zi_147_604 rfl
theorem zi_147_606 : z_ins 147 606 = some (.iload 5, 2) := by decide +kernel
theorem ze_147_606 : z_T g d 147 606 (v0 :: v1 :: v2 :: v3 :: v4 :: .int x :: ls) st h P = z_T g d 147 608 (v0 :: v1 :: v2 :: v3 :: v4 :: .int x :: ls) (.int x :: st) h P := zt_iload zi_147_606 rfl
theorem zi_147_608 : z_ins 147 608 = some (.invokevirtual 58, 3) := by decide +kernel
theorem ze_147_608 : z_T g d 147 608 ls (.int x2 :: .int x1 :: .int x0 :: .ref a :: st) h P = ((z_okS 8 st = true ∧ z_gO h.1 a 10 ∧ 0 < d) ∧ z_Ca g (d - 1) 95 [.ref a, .int x0, .int x1, .int x2] h (fun r => z_k r (fun v h' => z_T g d 147 611 ls (z_push v st) h' P) P)) := zt_cV (as := [.int x0, .int x1, .int x2]) (kk := 0) zi_147_608 rfl (zt_call zj_147 zh_147) (z_opV ((congrArg (fun o => z_lookup z_cns (o, 58)) zo_147).trans zq_cns_LatinRectanglesLaw_58) ((congrArg (fun o => z_lookup z_prs (o, 58)) zo_147).trans zq_prs_LatinRectanglesLaw_58)) ((congrArg (fun o => z_clk o 58) zo_147).trans zk_LatinRectanglesLaw_58) rfl rfl rfl rfl (z_rcv0 zc_95)
theorem zi_147_611 : z_ins 147 611 = some (.istore 6, 2) := by decide +kernel
theorem ze_147_611 : z_T g d 147 611 (v0 :: v1 :: v2 :: v3 :: v4 :: v5 :: v6 :: ls) (.int x :: st) h P = z_T g d 147 613 (v0 :: v1 :: v2 :: v3 :: v4 :: v5 :: .int x :: ls) st h P := zt_istore zi_147_611 (Nat.le_add_left 7 _)
theorem zi_147_613 : z_ins 147 613 = some (.iload 6, 2) := by decide +kernel
theorem ze_147_613 : z_T g d 147 613 (v0 :: v1 :: v2 :: v3 :: v4 :: v5 :: .int x :: ls) st h P = z_T g d 147 615 (v0 :: v1 :: v2 :: v3 :: v4 :: v5 :: .int x :: ls) (.int x :: st) h P := zt_iload zi_147_613 rfl
theorem zi_147_615 : z_ins 147 615 = some (.ifCond .eq 14, 3) := by decide +kernel
theorem ze_147_615 : z_T g d 147 615 ls (.int x :: st) h P = (if x = nI 0 then z_T g d 147 629 ls st h P else z_T g d 147 618 ls st h P) := zt_ifeq zi_147_615 (by decide)
theorem zi_147_618 : z_ins 147 618 = some (.aload_n 1, 1) := by decide +kernel
theorem ze_147_618 : z_T g d 147 618 (v0 :: .ref a :: ls) st h P = z_T g d 147 619 (v0 :: .ref a :: ls) (.ref a :: st) h P := zt_aloadn zi_147_618 rfl rfl
theorem ze_147_618_n : z_T g d 147 618 (v0 :: .null :: ls) st h P = z_T g d 147 619 (v0 :: .null :: ls) (.null :: st) h P := zt_aloadnN zi_147_618 rfl rfl
theorem zi_147_619 : z_ins 147 619 = some (.getfield 62, 3) := by decide +kernel
theorem ze_147_619 : z_T g d 147 619 ls (.ref a :: st) h P = z_gR h.1 a 10 4 (fun x => z_T g d 147 622 ls (x :: st) h P) := zt_getR zi_147_619 ((congrArg (fun o => z_fl o 62) zo_147).trans zf_LatinRectanglesLaw_62)
theorem zi_147_622 : z_ins 147 622 = some (.iload_n 3, 1) := by decide +kernel
theorem ze_147_622 : z_T g d 147 622 (v0 :: v1 :: v2 :: .int x :: ls) st h P = z_T g d 147 623 (v0 :: v1 :: v2 :: .int x :: ls) (.int x :: st) h P := zt_iloadn zi_147_622 rfl rfl
theorem zi_147_623 : z_ins 147 623 = some (.aaload, 1) := by decide +kernel
theorem ze_147_623 : z_T g d 147 623 ls (.int x :: .ref a :: st) h P = z_qL h.1 a x (fun v => z_T g d 147 624 ls (.ref v :: st) h P) := zt_aaload zi_147_623
theorem zi_147_624 : z_ins 147 624 = some (.iload 4, 2) := by decide +kernel
theorem ze_147_624 : z_T g d 147 624 (v0 :: v1 :: v2 :: v3 :: .int x :: ls) st h P = z_T g d 147 626 (v0 :: v1 :: v2 :: v3 :: .int x :: ls) (.int x :: st) h P := zt_iload zi_147_624 rfl
theorem zi_147_626 : z_ins 147 626 = some (.iload 5, 2) := by decide +kernel
theorem ze_147_626 : z_T g d 147 626 (v0 :: v1 :: v2 :: v3 :: v4 :: .int x :: ls) st h P = z_T g d 147 628 (v0 :: v1 :: v2 :: v3 :: v4 :: .int x :: ls) (.int x :: st) h P := zt_iload zi_147_626 rfl
theorem zi_147_628 : z_ins 147 628 = some (.iastore, 1) := by decide +kernel
theorem ze_147_628 : z_T g d 147 628 ls (.int y :: .int x :: .ref a :: st) h P = z_aS h.1 a z_tI x y (fun f => z_T g d 147 629 ls st (f, h.2) P) := zt_iastore zi_147_628
theorem zi_147_629 : z_ins 147 629 = some (.aload_n 0, 1) := by decide +kernel
theorem ze_147_629 : z_T g d 147 629 (.ref a :: ls) st h P = z_T g d 147 630 (.ref a :: ls) (.ref a :: st) h P := zt_aloadn zi_147_629 rfl rfl
theorem ze_147_629_n : z_T g d 147 629 (.null :: ls) st h P = z_T g d 147 630 (.null :: ls) (.null :: st) h P := zt_aloadnN zi_147_629 rfl rfl
theorem zi_147_630 : z_ins 147 630 = some (.iload_n 3, 1) := by decide +kernel
theorem ze_147_630 : z_T g d 147 630 (v0 :: v1 :: v2 :: .int x :: ls) st h P = z_T g d 147 631 (v0 :: v1 :: v2 :: .int x :: ls) (.int x :: st) h P := zt_iloadn zi_147_630 rfl rfl
theorem zi_147_631 : z_ins 147 631 = some (.iload 4, 2) := by decide +kernel
theorem ze_147_631 : z_T g d 147 631 (v0 :: v1 :: v2 :: v3 :: .int x :: ls) st h P = z_T g d 147 633 (v0 :: v1 :: v2 :: v3 :: .int x :: ls) (.int x :: st) h P := zt_iload zi_147_631 rfl
theorem zi_147_633 : z_ins 147 633 = some (.iload 5, 2) := by decide +kernel
theorem ze_147_633 : z_T g d 147 633 (v0 :: v1 :: v2 :: v3 :: v4 :: .int x :: ls) st h P = z_T g d 147 635 (v0 :: v1 :: v2 :: v3 :: v4 :: .int x :: ls) (.int x :: st) h P := zt_iload zi_147_633 rfl
theorem zi_147_635 : z_ins 147 635 = some (.invokestatic 156, 3) := by decide +kernel
theorem ze_147_635 : z_T g d 147 635 ls (.int x3 :: .int x2 :: .int x1 :: .ref a0 :: st) h P = ((z_okS 8 st = true ∧ 0 < d) ∧ z_Ca g (d - 1) 148 [.ref a0, .int x1, .int x2, .int x3] h (fun r => z_k r (fun v h' => z_T g d 147 638 ls (z_push v st) h' P) P)) := zt_cS (as := [.ref a0, .int x1, .int x2, .int x3]) (kk := 1) zi_147_635 rfl (zt_call zj_147 zh_147) (z_opT ((congrArg (fun o => z_lookup z_cps (o, 156)) zo_147).trans zq_cps_LatinRectanglesLaw_156) ((congrArg (fun o => z_lookup z_prs (o, 156)) zo_147).trans zq_prs_LatinRectanglesLaw_156)) ((congrArg (fun o => z_clk o 156) zo_147).trans zk_LatinRectanglesLaw_156) rfl rfl rfl rfl rfl
theorem zi_147_638 : z_ins 147 638 = some (.iload 6, 2) := by decide +kernel
theorem ze_147_638 : z_T g d 147 638 (v0 :: v1 :: v2 :: v3 :: v4 :: v5 :: .int x :: ls) st h P = z_T g d 147 640 (v0 :: v1 :: v2 :: v3 :: v4 :: v5 :: .int x :: ls) (.int x :: st) h P := zt_iload zi_147_638 rfl
theorem zi_147_640 : z_ins 147 640 = some (.ifCond .eq 20, 3) := by decide +kernel
theorem ze_147_640 : z_T g d 147 640 ls (.int x :: st) h P = (if x = nI 0 then z_T g d 147 660 ls st h P else z_T g d 147 643 ls st h P) := zt_ifeq zi_147_640 (by decide)
theorem zi_147_643 : z_ins 147 643 = some (.aload_n 1, 1) := by decide +kernel
theorem ze_147_643 : z_T g d 147 643 (v0 :: .ref a :: ls) st h P = z_T g d 147 644 (v0 :: .ref a :: ls) (.ref a :: st) h P := zt_aloadn zi_147_643 rfl rfl
theorem ze_147_643_n : z_T g d 147 643 (v0 :: .null :: ls) st h P = z_T g d 147 644 (v0 :: .null :: ls) (.null :: st) h P := zt_aloadnN zi_147_643 rfl rfl
theorem zi_147_644 : z_ins 147 644 = some (.getfield 48, 3) := by decide +kernel
theorem ze_147_644 : z_T g d 147 644 ls (.ref a :: st) h P = z_gI h.1 a 10 0 (fun x => z_T g d 147 647 ls (.int x :: st) h P) := zt_getI zi_147_644 ((congrArg (fun o => z_fl o 48) zo_147).trans zf_LatinRectanglesLaw_48)
theorem zi_147_647 : z_ins 147 647 = some (.aload_n 1, 1) := by decide +kernel
theorem ze_147_647 : z_T g d 147 647 (v0 :: .ref a :: ls) st h P = z_T g d 147 648 (v0 :: .ref a :: ls) (.ref a :: st) h P := zt_aloadn zi_147_647 rfl rfl
theorem ze_147_647_n : z_T g d 147 647 (v0 :: .null :: ls) st h P = z_T g d 147 648 (v0 :: .null :: ls) (.null :: st) h P := zt_aloadnN zi_147_647 rfl rfl
theorem zi_147_648 : z_ins 147 648 = some (.getfield 105, 3) := by decide +kernel
theorem ze_147_648 : z_T g d 147 648 ls (.ref a :: st) h P = z_gI h.1 a 10 1 (fun x => z_T g d 147 651 ls (.int x :: st) h P) := zt_getI zi_147_648 ((congrArg (fun o => z_fl o 105) zo_147).trans zf_LatinRectanglesLaw_105)
theorem zi_147_651 : z_ins 147 651 = some (.imul, 1) := by decide +kernel
theorem ze_147_651 : z_T g d 147 651 ls (.int y :: .int x :: st) h P = z_T g d 147 652 ls (.int (x * y) :: st) h P := zt_bin (f := fun x y => x * y) zi_147_651 rfl (fun _ _ _ => rfl)
theorem zi_147_652 : z_ins 147 652 = some (.aload_n 1, 1) := by decide +kernel
theorem ze_147_652 : z_T g d 147 652 (v0 :: .ref a :: ls) st h P = z_T g d 147 653 (v0 :: .ref a :: ls) (.ref a :: st) h P := zt_aloadn zi_147_652 rfl rfl
theorem ze_147_652_n : z_T g d 147 652 (v0 :: .null :: ls) st h P = z_T g d 147 653 (v0 :: .null :: ls) (.null :: st) h P := zt_aloadnN zi_147_652 rfl rfl
theorem zi_147_653 : z_ins 147 653 = some (.invokevirtual 130, 3) := by decide +kernel
theorem ze_147_653 : z_T g d 147 653 ls (.ref a :: st) h P = ((z_okS 8 st = true ∧ z_gO h.1 a 10 ∧ 0 < d) ∧ z_Ca g (d - 1) 105 [.ref a] h (fun r => z_k r (fun v h' => z_T g d 147 656 ls (z_push v st) h' P) P)) := zt_cV (as := []) (kk := 0) zi_147_653 rfl (zt_call zj_147 zh_147) (z_opV ((congrArg (fun o => z_lookup z_cns (o, 130)) zo_147).trans zq_cns_LatinRectanglesLaw_130) ((congrArg (fun o => z_lookup z_prs (o, 130)) zo_147).trans zq_prs_LatinRectanglesLaw_130)) ((congrArg (fun o => z_clk o 130) zo_147).trans zk_LatinRectanglesLaw_130) rfl rfl rfl rfl (z_rcv0 zc_105)
theorem zi_147_656 : z_ins 147 656 = some (.isub, 1) := by decide +kernel
theorem ze_147_656 : z_T g d 147 656 ls (.int y :: .int x :: st) h P = z_T g d 147 657 ls (.int (x - y) :: st) h P := zt_bin (f := fun x y => x - y) zi_147_656 rfl (fun _ _ _ => rfl)
theorem zi_147_657 : z_ins 147 657 = some (.goto 5, 3) := by decide +kernel
theorem ze_147_657 : z_T g d 147 657 ls st h P = z_T g d 147 662 ls st h P := zt_goto zi_147_657 (by decide)
theorem zi_147_660 : z_ins 147 660 = some (.bipush (-3), 2) := by decide +kernel
theorem ze_147_660 : z_T g d 147 660 ls st h P = z_T g d 147 662 ls (.int (-3) :: st) h P := zt_bipush zi_147_660 rfl
theorem zi_147_662 : z_ins 147 662 = some (.if_icmp .ne 7, 3) := by decide +kernel
theorem ze_147_662 : z_T g d 147 662 ls (.int y :: .int x :: st) h P = (if x = y then z_T g d 147 665 ls st h P else z_T g d 147 669 ls st h P) := zt_icmpne zi_147_662 (by decide)
theorem zi_147_665 : z_ins 147 665 = some (.iconst 1, 1) := by decide +kernel
theorem ze_147_665 : z_T g d 147 665 ls st h P = z_T g d 147 666 ls (.int (nI 1) :: st) h P := zt_iconst zi_147_665 rfl
theorem zi_147_666 : z_ins 147 666 = some (.goto 4, 3) := by decide +kernel
theorem ze_147_666 : z_T g d 147 666 ls st h P = z_T g d 147 670 ls st h P := zt_goto zi_147_666 (by decide)
theorem zi_147_669 : z_ins 147 669 = some (.iconst 0, 1) := by decide +kernel
theorem ze_147_669 : z_T g d 147 669 ls st h P = z_T g d 147 670 ls (.int (nI 0) :: st) h P := zt_iconst zi_147_669 rfl
theorem zi_147_670 : z_ins 147 670 = some (.ireturn, 1) := by decide +kernel
theorem ze_147_670 : z_T g d 147 670 ls [.int x] h P = ((x = nI 0 ∨ x = nI 1) ∧ P (.inr (some (.int x)), h)) := zt_zreturn zi_147_670 zr_147
-- LatinRectanglesLaw.fills(LLatinRectangles;III)I
theorem zm_148 : z_maxL 148 = 5 := by decide +kernel
theorem zh_148 : z_hds 148 ≠ [] := by decide +kernel
theorem zj_148 : z_jdk 148 = false := by decide +kernel
theorem zr_148 : z_rt 148 = (some .int) := by decide +kernel
theorem zn_148 : z_Ca g d 148 [.ref a0, .int x1, .int x2, .int x3] h P = z_T g d 148 0 [.ref a0, .int x1, .int x2, .int x3, z_un] [] h P := z_Ca_ent zm_148 rfl rfl
theorem zi_148_0 : z_ins 148 0 = some (.aload_n 0, 1) := by decide +kernel
theorem ze_148_0 : z_T g d 148 0 (.ref a :: ls) st h P = z_T g d 148 1 (.ref a :: ls) (.ref a :: st) h P := zt_aloadn zi_148_0 rfl rfl
theorem ze_148_0_n : z_T g d 148 0 (.null :: ls) st h P = z_T g d 148 1 (.null :: ls) (.null :: st) h P := zt_aloadnN zi_148_0 rfl rfl
theorem zi_148_1 : z_ins 148 1 = some (.iload_n 1, 1) := by decide +kernel
theorem ze_148_1 : z_T g d 148 1 (v0 :: .int x :: ls) st h P = z_T g d 148 2 (v0 :: .int x :: ls) (.int x :: st) h P := zt_iloadn zi_148_1 rfl rfl
theorem zi_148_2 : z_ins 148 2 = some (.iload_n 2, 1) := by decide +kernel
theorem ze_148_2 : z_T g d 148 2 (v0 :: v1 :: .int x :: ls) st h P = z_T g d 148 3 (v0 :: v1 :: .int x :: ls) (.int x :: st) h P := zt_iloadn zi_148_2 rfl rfl
theorem zi_148_3 : z_ins 148 3 = some (.iload_n 3, 1) := by decide +kernel
theorem ze_148_3 : z_T g d 148 3 (v0 :: v1 :: v2 :: .int x :: ls) st h P = z_T g d 148 4 (v0 :: v1 :: v2 :: .int x :: ls) (.int x :: st) h P := zt_iloadn zi_148_3 rfl rfl
theorem zi_148_4 : z_ins 148 4 = some (.invokevirtual 159, 3) := by decide +kernel
theorem ze_148_4 : z_T g d 148 4 ls (.int x2 :: .int x1 :: .int x0 :: .ref a :: st) h P = ((z_okS 8 st = true ∧ z_gO h.1 a 9 ∧ 0 < d) ∧ z_Ca g (d - 1) 84 [.ref a, .int x0, .int x1, .int x2] h (fun r => z_kH 148 4 ls r (fun v h' => z_T g d 148 7 ls (z_push v st) h' P) (fun pc' ls' h' => z_T g d 148 pc' ls' [] h' P))) := zt_cV (as := [.int x0, .int x1, .int x2]) (kk := 0) zi_148_4 rfl (zt_callH zj_148 zh_148) (z_opV ((congrArg (fun o => z_lookup z_cns (o, 159)) zo_148).trans zq_cns_LatinRectanglesLaw_159) ((congrArg (fun o => z_lookup z_prs (o, 159)) zo_148).trans zq_prs_LatinRectanglesLaw_159)) ((congrArg (fun o => z_clk o 159) zo_148).trans zk_LatinRectanglesLaw_159) rfl rfl rfl rfl (z_rcv0 zc_84)
theorem zi_148_7 : z_ins 148 7 = some (.ireturn, 1) := by decide +kernel
theorem ze_148_7 : z_T g d 148 7 ls [.int x] h P = P (.inr (some (.int x)), h) := zt_ireturn zi_148_7 zr_148
theorem zi_148_8 : z_ins 148 8 = some (.astore 4, 2) := by decide +kernel
theorem ze_148_8 : z_T g d 148 8 (v0 :: v1 :: v2 :: v3 :: v4 :: ls) (.ref a :: st) h P = z_T g d 148 10 (v0 :: v1 :: v2 :: v3 :: .ref a :: ls) st h P := zt_astore rfl zi_148_8 (Nat.le_add_left 5 _)
theorem ze_148_8_n : z_T g d 148 8 (v0 :: v1 :: v2 :: v3 :: v4 :: ls) (.null :: st) h P = z_T g d 148 10 (v0 :: v1 :: v2 :: v3 :: .null :: ls) st h P := zt_astore rfl zi_148_8 (Nat.le_add_left 5 _)
theorem zi_148_10 : z_ins 148 10 = some (.bipush (-3), 2) := by decide +kernel
theorem ze_148_10 : z_T g d 148 10 ls st h P = z_T g d 148 12 ls (.int (-3) :: st) h P := zt_bipush zi_148_10 rfl
theorem zi_148_12 : z_ins 148 12 = some (.ireturn, 1) := by decide +kernel
theorem ze_148_12 : z_T g d 148 12 ls [.int x] h P = P (.inr (some (.int x)), h) := zt_ireturn zi_148_12 zr_148
-- LatinRectanglesLaw.empties(LLatinRectangles;II)I
theorem zm_149 : z_maxL 149 = 4 := by decide +kernel
theorem zh_149 : z_hds 149 ≠ [] := by decide +kernel
theorem zj_149 : z_jdk 149 = false := by decide +kernel
theorem zr_149 : z_rt 149 = (some .int) := by decide +kernel
theorem zn_149 : z_Ca g d 149 [.ref a0, .int x1, .int x2] h P = z_T g d 149 0 [.ref a0, .int x1, .int x2, z_un] [] h P := z_Ca_ent zm_149 rfl rfl
theorem zi_149_0 : z_ins 149 0 = some (.aload_n 0, 1) := by decide +kernel
theorem ze_149_0 : z_T g d 149 0 (.ref a :: ls) st h P = z_T g d 149 1 (.ref a :: ls) (.ref a :: st) h P := zt_aloadn zi_149_0 rfl rfl
theorem ze_149_0_n : z_T g d 149 0 (.null :: ls) st h P = z_T g d 149 1 (.null :: ls) (.null :: st) h P := zt_aloadnN zi_149_0 rfl rfl
theorem zi_149_1 : z_ins 149 1 = some (.iload_n 1, 1) := by decide +kernel
theorem ze_149_1 : z_T g d 149 1 (v0 :: .int x :: ls) st h P = z_T g d 149 2 (v0 :: .int x :: ls) (.int x :: st) h P := zt_iloadn zi_149_1 rfl rfl
theorem zi_149_2 : z_ins 149 2 = some (.iload_n 2, 1) := by decide +kernel
theorem ze_149_2 : z_T g d 149 2 (v0 :: v1 :: .int x :: ls) st h P = z_T g d 149 3 (v0 :: v1 :: .int x :: ls) (.int x :: st) h P := zt_iloadn zi_149_2 rfl rfl
theorem zi_149_3 : z_ins 149 3 = some (.invokevirtual 165, 3) := by decide +kernel
theorem ze_149_3 : z_T g d 149 3 ls (.int x1 :: .int x0 :: .ref a :: st) h P = ((z_okS 8 st = true ∧ z_gO h.1 a 9 ∧ 0 < d) ∧ z_Ca g (d - 1) 85 [.ref a, .int x0, .int x1] h (fun r => z_kH 149 3 ls r (fun v h' => z_T g d 149 6 ls (z_push v st) h' P) (fun pc' ls' h' => z_T g d 149 pc' ls' [] h' P))) := zt_cV (as := [.int x0, .int x1]) (kk := 0) zi_149_3 rfl (zt_callH zj_149 zh_149) (z_opV ((congrArg (fun o => z_lookup z_cns (o, 165)) zo_149).trans zq_cns_LatinRectanglesLaw_165) ((congrArg (fun o => z_lookup z_prs (o, 165)) zo_149).trans zq_prs_LatinRectanglesLaw_165)) ((congrArg (fun o => z_clk o 165) zo_149).trans zk_LatinRectanglesLaw_165) rfl rfl rfl rfl (z_rcv0 zc_85)
theorem zi_149_6 : z_ins 149 6 = some (.ireturn, 1) := by decide +kernel
theorem ze_149_6 : z_T g d 149 6 ls [.int x] h P = P (.inr (some (.int x)), h) := zt_ireturn zi_149_6 zr_149
theorem zi_149_7 : z_ins 149 7 = some (.astore_n 3, 1) := by decide +kernel
theorem ze_149_7 : z_T g d 149 7 (v0 :: v1 :: v2 :: v3 :: ls) (.ref a :: st) h P = z_T g d 149 8 (v0 :: v1 :: v2 :: .ref a :: ls) st h P := zt_astoren rfl zi_149_7 rfl (Nat.le_add_left 4 _)
theorem ze_149_7_n : z_T g d 149 7 (v0 :: v1 :: v2 :: v3 :: ls) (.null :: st) h P = z_T g d 149 8 (v0 :: v1 :: v2 :: .null :: ls) st h P := zt_astoren rfl zi_149_7 rfl (Nat.le_add_left 4 _)
theorem zi_149_8 : z_ins 149 8 = some (.bipush (-3), 2) := by decide +kernel
theorem ze_149_8 : z_T g d 149 8 ls st h P = z_T g d 149 10 ls (.int (-3) :: st) h P := zt_bipush zi_149_8 rfl
theorem zi_149_10 : z_ins 149 10 = some (.ireturn, 1) := by decide +kernel
theorem ze_149_10 : z_T g d 149 10 ls [.int x] h P = P (.inr (some (.int x)), h) := zt_ireturn zi_149_10 zr_149
-- LatinRectanglesLaw.fillsRow(LLatinRectangles;I)I
theorem zm_150 : z_maxL 150 = 3 := by decide +kernel
theorem zh_150 : z_hds 150 ≠ [] := by decide +kernel
theorem zj_150 : z_jdk 150 = false := by decide +kernel
theorem zr_150 : z_rt 150 = (some .int) := by decide +kernel
theorem zn_150 : z_Ca g d 150 [.ref a0, .int x1] h P = z_T g d 150 0 [.ref a0, .int x1, z_un] [] h P := z_Ca_ent zm_150 rfl rfl
theorem zi_150_0 : z_ins 150 0 = some (.aload_n 0, 1) := by decide +kernel
theorem ze_150_0 : z_T g d 150 0 (.ref a :: ls) st h P = z_T g d 150 1 (.ref a :: ls) (.ref a :: st) h P := zt_aloadn zi_150_0 rfl rfl
theorem ze_150_0_n : z_T g d 150 0 (.null :: ls) st h P = z_T g d 150 1 (.null :: ls) (.null :: st) h P := zt_aloadnN zi_150_0 rfl rfl
theorem zi_150_1 : z_ins 150 1 = some (.iload_n 1, 1) := by decide +kernel
theorem ze_150_1 : z_T g d 150 1 (v0 :: .int x :: ls) st h P = z_T g d 150 2 (v0 :: .int x :: ls) (.int x :: st) h P := zt_iloadn zi_150_1 rfl rfl
theorem zi_150_2 : z_ins 150 2 = some (.invokevirtual 169, 3) := by decide +kernel
theorem ze_150_2 : z_T g d 150 2 ls (.int x0 :: .ref a :: st) h P = ((z_okS 8 st = true ∧ z_gO h.1 a 9 ∧ 0 < d) ∧ z_Ca g (d - 1) 87 [.ref a, .int x0] h (fun r => z_kH 150 2 ls r (fun v h' => z_T g d 150 5 ls (z_push v st) h' P) (fun pc' ls' h' => z_T g d 150 pc' ls' [] h' P))) := zt_cV (as := [.int x0]) (kk := 0) zi_150_2 rfl (zt_callH zj_150 zh_150) (z_opV ((congrArg (fun o => z_lookup z_cns (o, 169)) zo_150).trans zq_cns_LatinRectanglesLaw_169) ((congrArg (fun o => z_lookup z_prs (o, 169)) zo_150).trans zq_prs_LatinRectanglesLaw_169)) ((congrArg (fun o => z_clk o 169) zo_150).trans zk_LatinRectanglesLaw_169) rfl rfl rfl rfl (z_rcv0 zc_87)
theorem zi_150_5 : z_ins 150 5 = some (.ireturn, 1) := by decide +kernel
theorem ze_150_5 : z_T g d 150 5 ls [.int x] h P = P (.inr (some (.int x)), h) := zt_ireturn zi_150_5 zr_150
theorem zi_150_6 : z_ins 150 6 = some (.astore_n 2, 1) := by decide +kernel
theorem ze_150_6 : z_T g d 150 6 (v0 :: v1 :: v2 :: ls) (.ref a :: st) h P = z_T g d 150 7 (v0 :: v1 :: .ref a :: ls) st h P := zt_astoren rfl zi_150_6 rfl (Nat.le_add_left 3 _)
theorem ze_150_6_n : z_T g d 150 6 (v0 :: v1 :: v2 :: ls) (.null :: st) h P = z_T g d 150 7 (v0 :: v1 :: .null :: ls) st h P := zt_astoren rfl zi_150_6 rfl (Nat.le_add_left 3 _)
theorem zi_150_7 : z_ins 150 7 = some (.bipush (-3), 2) := by decide +kernel
theorem ze_150_7 : z_T g d 150 7 ls st h P = z_T g d 150 9 ls (.int (-3) :: st) h P := zt_bipush zi_150_7 rfl
theorem zi_150_9 : z_ins 150 9 = some (.ireturn, 1) := by decide +kernel
theorem ze_150_9 : z_T g d 150 9 ls [.int x] h P = P (.inr (some (.int x)), h) := zt_ireturn zi_150_9 zr_150
-- LatinRectanglesLaw.switches(LLatinRectangles;III)I
theorem zm_151 : z_maxL 151 = 5 := by decide +kernel
theorem zh_151 : z_hds 151 ≠ [] := by decide +kernel
theorem zj_151 : z_jdk 151 = false := by decide +kernel
theorem zr_151 : z_rt 151 = (some .int) := by decide +kernel
theorem zn_151 : z_Ca g d 151 [.ref a0, .int x1, .int x2, .int x3] h P = z_T g d 151 0 [.ref a0, .int x1, .int x2, .int x3, z_un] [] h P := z_Ca_ent zm_151 rfl rfl
theorem zi_151_0 : z_ins 151 0 = some (.aload_n 0, 1) := by decide +kernel
theorem ze_151_0 : z_T g d 151 0 (.ref a :: ls) st h P = z_T g d 151 1 (.ref a :: ls) (.ref a :: st) h P := zt_aloadn zi_151_0 rfl rfl
theorem ze_151_0_n : z_T g d 151 0 (.null :: ls) st h P = z_T g d 151 1 (.null :: ls) (.null :: st) h P := zt_aloadnN zi_151_0 rfl rfl
theorem zi_151_1 : z_ins 151 1 = some (.iload_n 1, 1) := by decide +kernel
theorem ze_151_1 : z_T g d 151 1 (v0 :: .int x :: ls) st h P = z_T g d 151 2 (v0 :: .int x :: ls) (.int x :: st) h P := zt_iloadn zi_151_1 rfl rfl
theorem zi_151_2 : z_ins 151 2 = some (.iload_n 2, 1) := by decide +kernel
theorem ze_151_2 : z_T g d 151 2 (v0 :: v1 :: .int x :: ls) st h P = z_T g d 151 3 (v0 :: v1 :: .int x :: ls) (.int x :: st) h P := zt_iloadn zi_151_2 rfl rfl
theorem zi_151_3 : z_ins 151 3 = some (.iload_n 3, 1) := by decide +kernel
theorem ze_151_3 : z_T g d 151 3 (v0 :: v1 :: v2 :: .int x :: ls) st h P = z_T g d 151 4 (v0 :: v1 :: v2 :: .int x :: ls) (.int x :: st) h P := zt_iloadn zi_151_3 rfl rfl
theorem zi_151_4 : z_ins 151 4 = some (.invokevirtual 171, 3) := by decide +kernel
theorem ze_151_4 : z_T g d 151 4 ls (.int x2 :: .int x1 :: .int x0 :: .ref a :: st) h P = ((z_okS 8 st = true ∧ z_gO h.1 a 9 ∧ 0 < d) ∧ z_Ca g (d - 1) 88 [.ref a, .int x0, .int x1, .int x2] h (fun r => z_kH 151 4 ls r (fun v h' => z_T g d 151 7 ls (z_push v st) h' P) (fun pc' ls' h' => z_T g d 151 pc' ls' [] h' P))) := zt_cV (as := [.int x0, .int x1, .int x2]) (kk := 0) zi_151_4 rfl (zt_callH zj_151 zh_151) (z_opV ((congrArg (fun o => z_lookup z_cns (o, 171)) zo_151).trans zq_cns_LatinRectanglesLaw_171) ((congrArg (fun o => z_lookup z_prs (o, 171)) zo_151).trans zq_prs_LatinRectanglesLaw_171)) ((congrArg (fun o => z_clk o 171) zo_151).trans zk_LatinRectanglesLaw_171) rfl rfl rfl rfl (z_rcv0 zc_88)
theorem zi_151_7 : z_ins 151 7 = some (.ireturn, 1) := by decide +kernel
theorem ze_151_7 : z_T g d 151 7 ls [.int x] h P = P (.inr (some (.int x)), h) := zt_ireturn zi_151_7 zr_151
theorem zi_151_8 : z_ins 151 8 = some (.astore 4, 2) := by decide +kernel
theorem ze_151_8 : z_T g d 151 8 (v0 :: v1 :: v2 :: v3 :: v4 :: ls) (.ref a :: st) h P = z_T g d 151 10 (v0 :: v1 :: v2 :: v3 :: .ref a :: ls) st h P := zt_astore rfl zi_151_8 (Nat.le_add_left 5 _)
theorem ze_151_8_n : z_T g d 151 8 (v0 :: v1 :: v2 :: v3 :: v4 :: ls) (.null :: st) h P = z_T g d 151 10 (v0 :: v1 :: v2 :: v3 :: .null :: ls) st h P := zt_astore rfl zi_151_8 (Nat.le_add_left 5 _)
theorem zi_151_10 : z_ins 151 10 = some (.bipush (-3), 2) := by decide +kernel
theorem ze_151_10 : z_T g d 151 10 ls st h P = z_T g d 151 12 ls (.int (-3) :: st) h P := zt_bipush zi_151_10 rfl
theorem zi_151_12 : z_ins 151 12 = some (.ireturn, 1) := by decide +kernel
theorem ze_151_12 : z_T g d 151 12 ls [.int x] h P = P (.inr (some (.int x)), h) := zt_ireturn zi_151_12 zr_151
-- LatinRectanglesLaw.cells(LLatinRectangles;LLatinRectanglesLaw$Grid;)Z
theorem zm_152 : z_maxL 152 = 10 := by decide +kernel
theorem zh_152 : z_hds 152 = [] := by decide +kernel
theorem zj_152 : z_jdk 152 = false := by decide +kernel
theorem zr_152 : z_rt 152 = (some .boolean) := by decide +kernel
theorem zn_152 : z_Ca g d 152 [.ref a0, .ref a1] h P = z_T g d 152 0 [.ref a0, .ref a1, z_un, z_un, z_un, z_un, z_un, z_un, z_un, z_un] [] h P := z_Ca_ent zm_152 rfl rfl
theorem zi_152_0 : z_ins 152 0 = some (.iconst 0, 1) := by decide +kernel
theorem ze_152_0 : z_T g d 152 0 ls st h P = z_T g d 152 1 ls (.int (nI 0) :: st) h P := zt_iconst zi_152_0 rfl
theorem zi_152_1 : z_ins 152 1 = some (.istore_n 2, 1) := by decide +kernel
theorem ze_152_1 : z_T g d 152 1 (v0 :: v1 :: v2 :: ls) (.int x :: st) h P = z_T g d 152 2 (v0 :: v1 :: .int x :: ls) st h P := zt_istoren zi_152_1 rfl (Nat.le_add_left 3 _)
theorem zi_152_2 : z_ins 152 2 = some (.iconst 0, 1) := by decide +kernel
theorem ze_152_2 : z_T g d 152 2 ls st h P = z_T g d 152 3 ls (.int (nI 0) :: st) h P := zt_iconst zi_152_2 rfl
theorem zi_152_3 : z_ins 152 3 = some (.istore_n 3, 1) := by decide +kernel
theorem ze_152_3 : z_T g d 152 3 (v0 :: v1 :: v2 :: v3 :: ls) (.int x :: st) h P = z_T g d 152 4 (v0 :: v1 :: v2 :: .int x :: ls) st h P := zt_istoren zi_152_3 rfl (Nat.le_add_left 4 _)
theorem zi_152_4 : z_ins 152 4 = some (.iconst 0, 1) := by decide +kernel
theorem ze_152_4 : z_T g d 152 4 ls st h P = z_T g d 152 5 ls (.int (nI 0) :: st) h P := zt_iconst zi_152_4 rfl
theorem zi_152_5 : z_ins 152 5 = some (.istore 4, 2) := by decide +kernel
theorem ze_152_5 : z_T g d 152 5 (v0 :: v1 :: v2 :: v3 :: v4 :: ls) (.int x :: st) h P = z_T g d 152 7 (v0 :: v1 :: v2 :: v3 :: .int x :: ls) st h P := zt_istore zi_152_5 (Nat.le_add_left 5 _)
theorem zi_152_7 : z_ins 152 7 = some (.iconst 0, 1) := by decide +kernel
theorem ze_152_7 : z_T g d 152 7 ls st h P = z_T g d 152 8 ls (.int (nI 0) :: st) h P := zt_iconst zi_152_7 rfl
theorem zi_152_8 : z_ins 152 8 = some (.istore 5, 2) := by decide +kernel
theorem ze_152_8 : z_T g d 152 8 (v0 :: v1 :: v2 :: v3 :: v4 :: v5 :: ls) (.int x :: st) h P = z_T g d 152 10 (v0 :: v1 :: v2 :: v3 :: v4 :: .int x :: ls) st h P := zt_istore zi_152_8 (Nat.le_add_left 6 _)
theorem zi_152_10 : z_ins 152 10 = some (.iconst 0, 1) := by decide +kernel
theorem ze_152_10 : z_T g d 152 10 ls st h P = z_T g d 152 11 ls (.int (nI 0) :: st) h P := zt_iconst zi_152_10 rfl
theorem zi_152_11 : z_ins 152 11 = some (.istore 6, 2) := by decide +kernel
theorem ze_152_11 : z_T g d 152 11 (v0 :: v1 :: v2 :: v3 :: v4 :: v5 :: v6 :: ls) (.int x :: st) h P = z_T g d 152 13 (v0 :: v1 :: v2 :: v3 :: v4 :: v5 :: .int x :: ls) st h P := zt_istore zi_152_11 (Nat.le_add_left 7 _)
theorem zi_152_13 : z_ins 152 13 = some (.iload 6, 2) := by decide +kernel
theorem ze_152_13 : z_T g d 152 13 (v0 :: v1 :: v2 :: v3 :: v4 :: v5 :: .int x :: ls) st h P = z_T g d 152 15 (v0 :: v1 :: v2 :: v3 :: v4 :: v5 :: .int x :: ls) (.int x :: st) h P := zt_iload zi_152_13 rfl
theorem zi_152_15 : z_ins 152 15 = some (.aload_n 1, 1) := by decide +kernel
theorem ze_152_15 : z_T g d 152 15 (v0 :: .ref a :: ls) st h P = z_T g d 152 16 (v0 :: .ref a :: ls) (.ref a :: st) h P := zt_aloadn zi_152_15 rfl rfl
theorem ze_152_15_n : z_T g d 152 15 (v0 :: .null :: ls) st h P = z_T g d 152 16 (v0 :: .null :: ls) (.null :: st) h P := zt_aloadnN zi_152_15 rfl rfl
theorem zi_152_16 : z_ins 152 16 = some (.getfield 48, 3) := by decide +kernel
theorem ze_152_16 : z_T g d 152 16 ls (.ref a :: st) h P = z_gI h.1 a 10 0 (fun x => z_T g d 152 19 ls (.int x :: st) h P) := zt_getI zi_152_16 ((congrArg (fun o => z_fl o 48) zo_152).trans zf_LatinRectanglesLaw_48)
theorem zi_152_19 : z_ins 152 19 = some (.if_icmp .ge 208, 3) := by decide +kernel
theorem ze_152_19 : z_T g d 152 19 ls (.int y :: .int x :: st) h P = (if x < y then z_T g d 152 22 ls st h P else z_T g d 152 227 ls st h P) := zt_icmpge zi_152_19 (by decide)
theorem zi_152_22 : z_ins 152 22 = some (.aload_n 1, 1) := by decide +kernel
theorem ze_152_22 : z_T g d 152 22 (v0 :: .ref a :: ls) st h P = z_T g d 152 23 (v0 :: .ref a :: ls) (.ref a :: st) h P := zt_aloadn zi_152_22 rfl rfl
theorem ze_152_22_n : z_T g d 152 22 (v0 :: .null :: ls) st h P = z_T g d 152 23 (v0 :: .null :: ls) (.null :: st) h P := zt_aloadnN zi_152_22 rfl rfl
theorem zi_152_23 : z_ins 152 23 = some (.iload 6, 2) := by decide +kernel
theorem ze_152_23 : z_T g d 152 23 (v0 :: v1 :: v2 :: v3 :: v4 :: v5 :: .int x :: ls) st h P = z_T g d 152 25 (v0 :: v1 :: v2 :: v3 :: v4 :: v5 :: .int x :: ls) (.int x :: st) h P := zt_iload zi_152_23 rfl
theorem zi_152_25 : z_ins 152 25 = some (.invokevirtual 141, 3) := by decide +kernel
theorem ze_152_25 : z_T g d 152 25 ls (.int x0 :: .ref a :: st) h P = ((z_okS 8 st = true ∧ z_gO h.1 a 10 ∧ 0 < d) ∧ z_Ca g (d - 1) 103 [.ref a, .int x0] h (fun r => z_k r (fun v h' => z_T g d 152 28 ls (z_push v st) h' P) P)) := zt_cV (as := [.int x0]) (kk := 0) zi_152_25 rfl (zt_call zj_152 zh_152) (z_opV ((congrArg (fun o => z_lookup z_cns (o, 141)) zo_152).trans zq_cns_LatinRectanglesLaw_141) ((congrArg (fun o => z_lookup z_prs (o, 141)) zo_152).trans zq_prs_LatinRectanglesLaw_141)) ((congrArg (fun o => z_clk o 141) zo_152).trans zk_LatinRectanglesLaw_141) rfl rfl rfl rfl (z_rcv0 zc_103)
theorem zi_152_28 : z_ins 152 28 = some (.ifCond .eq 6, 3) := by decide +kernel
theorem ze_152_28 : z_T g d 152 28 ls (.int x :: st) h P = (if x = nI 0 then z_T g d 152 34 ls st h P else z_T g d 152 31 ls st h P) := zt_ifeq zi_152_28 (by decide)
theorem zi_152_31 : z_ins 152 31 = some (.iinc 4 1, 3) := by decide +kernel
theorem ze_152_31 : z_T g d 152 31 (v0 :: v1 :: v2 :: v3 :: .int x :: ls) st h P = z_T g d 152 34 (v0 :: v1 :: v2 :: v3 :: .int (x + (nI 1)) :: ls) st h P := zt_iinc zi_152_31 rfl rfl
theorem zi_152_34 : z_ins 152 34 = some (.iconst 0, 1) := by decide +kernel
theorem ze_152_34 : z_T g d 152 34 ls st h P = z_T g d 152 35 ls (.int (nI 0) :: st) h P := zt_iconst zi_152_34 rfl
theorem zi_152_35 : z_ins 152 35 = some (.istore 7, 2) := by decide +kernel
theorem ze_152_35 : z_T g d 152 35 (v0 :: v1 :: v2 :: v3 :: v4 :: v5 :: v6 :: v7 :: ls) (.int x :: st) h P = z_T g d 152 37 (v0 :: v1 :: v2 :: v3 :: v4 :: v5 :: v6 :: .int x :: ls) st h P := zt_istore zi_152_35 (Nat.le_add_left 8 _)
theorem zi_152_37 : z_ins 152 37 = some (.iload 7, 2) := by decide +kernel
theorem ze_152_37 : z_T g d 152 37 (v0 :: v1 :: v2 :: v3 :: v4 :: v5 :: v6 :: .int x :: ls) st h P = z_T g d 152 39 (v0 :: v1 :: v2 :: v3 :: v4 :: v5 :: v6 :: .int x :: ls) (.int x :: st) h P := zt_iload zi_152_37 rfl
theorem zi_152_39 : z_ins 152 39 = some (.aload_n 1, 1) := by decide +kernel
theorem ze_152_39 : z_T g d 152 39 (v0 :: .ref a :: ls) st h P = z_T g d 152 40 (v0 :: .ref a :: ls) (.ref a :: st) h P := zt_aloadn zi_152_39 rfl rfl
theorem ze_152_39_n : z_T g d 152 39 (v0 :: .null :: ls) st h P = z_T g d 152 40 (v0 :: .null :: ls) (.null :: st) h P := zt_aloadnN zi_152_39 rfl rfl
theorem zi_152_40 : z_ins 152 40 = some (.getfield 105, 3) := by decide +kernel
theorem ze_152_40 : z_T g d 152 40 ls (.ref a :: st) h P = z_gI h.1 a 10 1 (fun x => z_T g d 152 43 ls (.int x :: st) h P) := zt_getI zi_152_40 ((congrArg (fun o => z_fl o 105) zo_152).trans zf_LatinRectanglesLaw_105)
theorem zi_152_43 : z_ins 152 43 = some (.if_icmp .ge 178, 3) := by decide +kernel
theorem ze_152_43 : z_T g d 152 43 ls (.int y :: .int x :: st) h P = (if x < y then z_T g d 152 46 ls st h P else z_T g d 152 221 ls st h P) := zt_icmpge zi_152_43 (by decide)
theorem zi_152_46 : z_ins 152 46 = some (.aload_n 1, 1) := by decide +kernel
theorem ze_152_46 : z_T g d 152 46 (v0 :: .ref a :: ls) st h P = z_T g d 152 47 (v0 :: .ref a :: ls) (.ref a :: st) h P := zt_aloadn zi_152_46 rfl rfl
theorem ze_152_46_n : z_T g d 152 46 (v0 :: .null :: ls) st h P = z_T g d 152 47 (v0 :: .null :: ls) (.null :: st) h P := zt_aloadnN zi_152_46 rfl rfl
theorem zi_152_47 : z_ins 152 47 = some (.iload 6, 2) := by decide +kernel
theorem ze_152_47 : z_T g d 152 47 (v0 :: v1 :: v2 :: v3 :: v4 :: v5 :: .int x :: ls) st h P = z_T g d 152 49 (v0 :: v1 :: v2 :: v3 :: v4 :: v5 :: .int x :: ls) (.int x :: st) h P := zt_iload zi_152_47 rfl
theorem zi_152_49 : z_ins 152 49 = some (.iload 7, 2) := by decide +kernel
theorem ze_152_49 : z_T g d 152 49 (v0 :: v1 :: v2 :: v3 :: v4 :: v5 :: v6 :: .int x :: ls) st h P = z_T g d 152 51 (v0 :: v1 :: v2 :: v3 :: v4 :: v5 :: v6 :: .int x :: ls) (.int x :: st) h P := zt_iload zi_152_49 rfl
theorem zi_152_51 : z_ins 152 51 = some (.invokevirtual 174, 3) := by decide +kernel
theorem ze_152_51 : z_T g d 152 51 ls (.int x1 :: .int x0 :: .ref a :: st) h P = ((z_okS 8 st = true ∧ z_gO h.1 a 10 ∧ 0 < d) ∧ z_Ca g (d - 1) 96 [.ref a, .int x0, .int x1] h (fun r => z_k r (fun v h' => z_T g d 152 54 ls (z_push v st) h' P) P)) := zt_cV (as := [.int x0, .int x1]) (kk := 0) zi_152_51 rfl (zt_call zj_152 zh_152) (z_opV ((congrArg (fun o => z_lookup z_cns (o, 174)) zo_152).trans zq_cns_LatinRectanglesLaw_174) ((congrArg (fun o => z_lookup z_prs (o, 174)) zo_152).trans zq_prs_LatinRectanglesLaw_174)) ((congrArg (fun o => z_clk o 174) zo_152).trans zk_LatinRectanglesLaw_174) rfl rfl rfl rfl (z_rcv0 zc_96)
theorem zi_152_54 : z_ins 152 54 = some (.istore 8, 2) := by decide +kernel
theorem ze_152_54 : z_T g d 152 54 (v0 :: v1 :: v2 :: v3 :: v4 :: v5 :: v6 :: v7 :: v8 :: ls) (.int x :: st) h P = z_T g d 152 56 (v0 :: v1 :: v2 :: v3 :: v4 :: v5 :: v6 :: v7 :: .int x :: ls) st h P := zt_istore zi_152_54 (Nat.le_add_left 9 _)
theorem zi_152_56 : z_ins 152 56 = some (.aload_n 0, 1) := by decide +kernel
theorem ze_152_56 : z_T g d 152 56 (.ref a :: ls) st h P = z_T g d 152 57 (.ref a :: ls) (.ref a :: st) h P := zt_aloadn zi_152_56 rfl rfl
theorem ze_152_56_n : z_T g d 152 56 (.null :: ls) st h P = z_T g d 152 57 (.null :: ls) (.null :: st) h P := zt_aloadnN zi_152_56 rfl rfl
theorem zi_152_57 : z_ins 152 57 = some (.iload 6, 2) := by decide +kernel
theorem ze_152_57 : z_T g d 152 57 (v0 :: v1 :: v2 :: v3 :: v4 :: v5 :: .int x :: ls) st h P = z_T g d 152 59 (v0 :: v1 :: v2 :: v3 :: v4 :: v5 :: .int x :: ls) (.int x :: st) h P := zt_iload zi_152_57 rfl
theorem zi_152_59 : z_ins 152 59 = some (.iload 7, 2) := by decide +kernel
theorem ze_152_59 : z_T g d 152 59 (v0 :: v1 :: v2 :: v3 :: v4 :: v5 :: v6 :: .int x :: ls) st h P = z_T g d 152 61 (v0 :: v1 :: v2 :: v3 :: v4 :: v5 :: v6 :: .int x :: ls) (.int x :: st) h P := zt_iload zi_152_59 rfl
theorem zi_152_61 : z_ins 152 61 = some (.invokevirtual 177, 3) := by decide +kernel
theorem ze_152_61 : z_T g d 152 61 ls (.int x1 :: .int x0 :: .ref a :: st) h P = ((z_okS 8 st = true ∧ z_gO h.1 a 9 ∧ 0 < d) ∧ z_Ca g (d - 1) 71 [.ref a, .int x0, .int x1] h (fun r => z_k r (fun v h' => z_T g d 152 64 ls (z_push v st) h' P) P)) := zt_cV (as := [.int x0, .int x1]) (kk := 0) zi_152_61 rfl (zt_call zj_152 zh_152) (z_opV ((congrArg (fun o => z_lookup z_cns (o, 177)) zo_152).trans zq_cns_LatinRectanglesLaw_177) ((congrArg (fun o => z_lookup z_prs (o, 177)) zo_152).trans zq_prs_LatinRectanglesLaw_177)) ((congrArg (fun o => z_clk o 177) zo_152).trans zk_LatinRectanglesLaw_177) rfl rfl rfl rfl (z_rcv0 zc_71)
theorem zi_152_64 : z_ins 152 64 = some (.aload_n 1, 1) := by decide +kernel
theorem ze_152_64 : z_T g d 152 64 (v0 :: .ref a :: ls) st h P = z_T g d 152 65 (v0 :: .ref a :: ls) (.ref a :: st) h P := zt_aloadn zi_152_64 rfl rfl
theorem ze_152_64_n : z_T g d 152 64 (v0 :: .null :: ls) st h P = z_T g d 152 65 (v0 :: .null :: ls) (.null :: st) h P := zt_aloadnN zi_152_64 rfl rfl
theorem zi_152_65 : z_ins 152 65 = some (.getfield 62, 3) := by decide +kernel
theorem ze_152_65 : z_T g d 152 65 ls (.ref a :: st) h P = z_gR h.1 a 10 4 (fun x => z_T g d 152 68 ls (x :: st) h P) := zt_getR zi_152_65 ((congrArg (fun o => z_fl o 62) zo_152).trans zf_LatinRectanglesLaw_62)
theorem zi_152_68 : z_ins 152 68 = some (.iload 6, 2) := by decide +kernel
theorem ze_152_68 : z_T g d 152 68 (v0 :: v1 :: v2 :: v3 :: v4 :: v5 :: .int x :: ls) st h P = z_T g d 152 70 (v0 :: v1 :: v2 :: v3 :: v4 :: v5 :: .int x :: ls) (.int x :: st) h P := zt_iload zi_152_68 rfl
theorem zi_152_70 : z_ins 152 70 = some (.aaload, 1) := by decide +kernel
theorem ze_152_70 : z_T g d 152 70 ls (.int x :: .ref a :: st) h P = z_qL h.1 a x (fun v => z_T g d 152 71 ls (.ref v :: st) h P) := zt_aaload zi_152_70
theorem zi_152_71 : z_ins 152 71 = some (.iload 7, 2) := by decide +kernel
theorem ze_152_71 : z_T g d 152 71 (v0 :: v1 :: v2 :: v3 :: v4 :: v5 :: v6 :: .int x :: ls) st h P = z_T g d 152 73 (v0 :: v1 :: v2 :: v3 :: v4 :: v5 :: v6 :: .int x :: ls) (.int x :: st) h P := zt_iload zi_152_71 rfl
theorem zi_152_73 : z_ins 152 73 = some (.iaload, 1) := by decide +kernel
theorem ze_152_73 : z_T g d 152 73 ls (.int x :: .ref a :: st) h P = z_aL h.1 a z_tI x (fun v => z_T g d 152 74 ls (.int v :: st) h P) := zt_iaload zi_152_73
theorem zi_152_74 : z_ins 152 74 = some (.if_icmp .ne 37, 3) := by decide +kernel
theorem ze_152_74 : z_T g d 152 74 ls (.int y :: .int x :: st) h P = (if x = y then z_T g d 152 77 ls st h P else z_T g d 152 111 ls st h P) := zt_icmpne zi_152_74 (by decide)
theorem zi_152_77 : z_ins 152 77 = some (.aload_n 0, 1) := by decide +kernel
theorem ze_152_77 : z_T g d 152 77 (.ref a :: ls) st h P = z_T g d 152 78 (.ref a :: ls) (.ref a :: st) h P := zt_aloadn zi_152_77 rfl rfl
theorem ze_152_77_n : z_T g d 152 77 (.null :: ls) st h P = z_T g d 152 78 (.null :: ls) (.null :: st) h P := zt_aloadnN zi_152_77 rfl rfl
theorem zi_152_78 : z_ins 152 78 = some (.iload 6, 2) := by decide +kernel
theorem ze_152_78 : z_T g d 152 78 (v0 :: v1 :: v2 :: v3 :: v4 :: v5 :: .int x :: ls) st h P = z_T g d 152 80 (v0 :: v1 :: v2 :: v3 :: v4 :: v5 :: .int x :: ls) (.int x :: st) h P := zt_iload zi_152_78 rfl
theorem zi_152_80 : z_ins 152 80 = some (.iload 7, 2) := by decide +kernel
theorem ze_152_80 : z_T g d 152 80 (v0 :: v1 :: v2 :: v3 :: v4 :: v5 :: v6 :: .int x :: ls) st h P = z_T g d 152 82 (v0 :: v1 :: v2 :: v3 :: v4 :: v5 :: v6 :: .int x :: ls) (.int x :: st) h P := zt_iload zi_152_80 rfl
theorem zi_152_82 : z_ins 152 82 = some (.invokevirtual 180, 3) := by decide +kernel
theorem ze_152_82 : z_T g d 152 82 ls (.int x1 :: .int x0 :: .ref a :: st) h P = ((z_okS 8 st = true ∧ z_gO h.1 a 9 ∧ 0 < d) ∧ z_Ca g (d - 1) 72 [.ref a, .int x0, .int x1] h (fun r => z_k r (fun v h' => z_T g d 152 85 ls (z_push v st) h' P) P)) := zt_cV (as := [.int x0, .int x1]) (kk := 0) zi_152_82 rfl (zt_call zj_152 zh_152) (z_opV ((congrArg (fun o => z_lookup z_cns (o, 180)) zo_152).trans zq_cns_LatinRectanglesLaw_180) ((congrArg (fun o => z_lookup z_prs (o, 180)) zo_152).trans zq_prs_LatinRectanglesLaw_180)) ((congrArg (fun o => z_clk o 180) zo_152).trans zk_LatinRectanglesLaw_180) rfl rfl rfl rfl (z_rcv0 zc_72)
theorem zi_152_85 : z_ins 152 85 = some (.aload_n 1, 1) := by decide +kernel
theorem ze_152_85 : z_T g d 152 85 (v0 :: .ref a :: ls) st h P = z_T g d 152 86 (v0 :: .ref a :: ls) (.ref a :: st) h P := zt_aloadn zi_152_85 rfl rfl
theorem ze_152_85_n : z_T g d 152 85 (v0 :: .null :: ls) st h P = z_T g d 152 86 (v0 :: .null :: ls) (.null :: st) h P := zt_aloadnN zi_152_85 rfl rfl
theorem zi_152_86 : z_ins 152 86 = some (.getfield 66, 3) := by decide +kernel
theorem ze_152_86 : z_T g d 152 86 ls (.ref a :: st) h P = z_gR h.1 a 10 5 (fun x => z_T g d 152 89 ls (x :: st) h P) := zt_getR zi_152_86 ((congrArg (fun o => z_fl o 66) zo_152).trans zf_LatinRectanglesLaw_66)
theorem zi_152_89 : z_ins 152 89 = some (.iload 6, 2) := by decide +kernel
theorem ze_152_89 : z_T g d 152 89 (v0 :: v1 :: v2 :: v3 :: v4 :: v5 :: .int x :: ls) st h P = z_T g d 152 91 (v0 :: v1 :: v2 :: v3 :: v4 :: v5 :: .int x :: ls) (.int x :: st) h P := zt_iload zi_152_89 rfl
theorem zi_152_91 : z_ins 152 91 = some (.aaload, 1) := by decide +kernel
theorem ze_152_91 : z_T g d 152 91 ls (.int x :: .ref a :: st) h P = z_qL h.1 a x (fun v => z_T g d 152 92 ls (.ref v :: st) h P) := zt_aaload zi_152_91
theorem zi_152_92 : z_ins 152 92 = some (.iload 7, 2) := by decide +kernel
theorem ze_152_92 : z_T g d 152 92 (v0 :: v1 :: v2 :: v3 :: v4 :: v5 :: v6 :: .int x :: ls) st h P = z_T g d 152 94 (v0 :: v1 :: v2 :: v3 :: v4 :: v5 :: v6 :: .int x :: ls) (.int x :: st) h P := zt_iload zi_152_92 rfl
theorem zi_152_94 : z_ins 152 94 = some (.baload, 1) := by decide +kernel
theorem ze_152_94 : z_T g d 152 94 ls (.int x :: .ref a :: st) h P = z_aL h.1 a z_tB x (fun v => z_T g d 152 95 ls (.int v :: st) h P) := zt_baload zi_152_94
theorem zi_152_95 : z_ins 152 95 = some (.if_icmp .ne 16, 3) := by decide +kernel
theorem ze_152_95 : z_T g d 152 95 ls (.int y :: .int x :: st) h P = (if x = y then z_T g d 152 98 ls st h P else z_T g d 152 111 ls st h P) := zt_icmpne zi_152_95 (by decide)
theorem zi_152_98 : z_ins 152 98 = some (.aload_n 0, 1) := by decide +kernel
theorem ze_152_98 : z_T g d 152 98 (.ref a :: ls) st h P = z_T g d 152 99 (.ref a :: ls) (.ref a :: st) h P := zt_aloadn zi_152_98 rfl rfl
theorem ze_152_98_n : z_T g d 152 98 (.null :: ls) st h P = z_T g d 152 99 (.null :: ls) (.null :: st) h P := zt_aloadnN zi_152_98 rfl rfl
theorem zi_152_99 : z_ins 152 99 = some (.iload 6, 2) := by decide +kernel
theorem ze_152_99 : z_T g d 152 99 (v0 :: v1 :: v2 :: v3 :: v4 :: v5 :: .int x :: ls) st h P = z_T g d 152 101 (v0 :: v1 :: v2 :: v3 :: v4 :: v5 :: .int x :: ls) (.int x :: st) h P := zt_iload zi_152_99 rfl
theorem zi_152_101 : z_ins 152 101 = some (.iload 7, 2) := by decide +kernel
theorem ze_152_101 : z_T g d 152 101 (v0 :: v1 :: v2 :: v3 :: v4 :: v5 :: v6 :: .int x :: ls) st h P = z_T g d 152 103 (v0 :: v1 :: v2 :: v3 :: v4 :: v5 :: v6 :: .int x :: ls) (.int x :: st) h P := zt_iload zi_152_101 rfl
theorem zi_152_103 : z_ins 152 103 = some (.invokevirtual 183, 3) := by decide +kernel
theorem ze_152_103 : z_T g d 152 103 ls (.int x1 :: .int x0 :: .ref a :: st) h P = ((z_okS 8 st = true ∧ z_gO h.1 a 9 ∧ 0 < d) ∧ z_Ca g (d - 1) 73 [.ref a, .int x0, .int x1] h (fun r => z_k r (fun v h' => z_T g d 152 106 ls (z_push v st) h' P) P)) := zt_cV (as := [.int x0, .int x1]) (kk := 0) zi_152_103 rfl (zt_call zj_152 zh_152) (z_opV ((congrArg (fun o => z_lookup z_cns (o, 183)) zo_152).trans zq_cns_LatinRectanglesLaw_183) ((congrArg (fun o => z_lookup z_prs (o, 183)) zo_152).trans zq_prs_LatinRectanglesLaw_183)) ((congrArg (fun o => z_clk o 183) zo_152).trans zk_LatinRectanglesLaw_183) rfl rfl rfl rfl (z_rcv0 zc_73)
theorem zi_152_106 : z_ins 152 106 = some (.iload 8, 2) := by decide +kernel
theorem ze_152_106 : z_T g d 152 106 (v0 :: v1 :: v2 :: v3 :: v4 :: v5 :: v6 :: v7 :: .int x :: ls) st h P = z_T g d 152 108 (v0 :: v1 :: v2 :: v3 :: v4 :: v5 :: v6 :: v7 :: .int x :: ls) (.int x :: st) h P := zt_iload zi_152_106 rfl
theorem zi_152_108 : z_ins 152 108 = some (.if_icmp .eq 5, 3) := by decide +kernel
theorem ze_152_108 : z_T g d 152 108 ls (.int y :: .int x :: st) h P = (if x = y then z_T g d 152 113 ls st h P else z_T g d 152 111 ls st h P) := zt_icmpeq zi_152_108 (by decide)
theorem zi_152_111 : z_ins 152 111 = some (.iconst 0, 1) := by decide +kernel
theorem ze_152_111 : z_T g d 152 111 ls st h P = z_T g d 152 112 ls (.int (nI 0) :: st) h P := zt_iconst zi_152_111 rfl
theorem zi_152_112 : z_ins 152 112 = some (.ireturn, 1) := by decide +kernel
theorem ze_152_112 : z_T g d 152 112 ls [.int x] h P = ((x = nI 0 ∨ x = nI 1) ∧ P (.inr (some (.int x)), h)) := zt_zreturn zi_152_112 zr_152
theorem zi_152_113 : z_ins 152 113 = some (.aload_n 1, 1) := by decide +kernel
theorem ze_152_113 : z_T g d 152 113 (v0 :: .ref a :: ls) st h P = z_T g d 152 114 (v0 :: .ref a :: ls) (.ref a :: st) h P := zt_aloadn zi_152_113 rfl rfl
theorem ze_152_113_n : z_T g d 152 113 (v0 :: .null :: ls) st h P = z_T g d 152 114 (v0 :: .null :: ls) (.null :: st) h P := zt_aloadnN zi_152_113 rfl rfl
theorem zi_152_114 : z_ins 152 114 = some (.getfield 62, 3) := by decide +kernel
theorem ze_152_114 : z_T g d 152 114 ls (.ref a :: st) h P = z_gR h.1 a 10 4 (fun x => z_T g d 152 117 ls (x :: st) h P) := zt_getR zi_152_114 ((congrArg (fun o => z_fl o 62) zo_152).trans zf_LatinRectanglesLaw_62)
theorem zi_152_117 : z_ins 152 117 = some (.iload 6, 2) := by decide +kernel
theorem ze_152_117 : z_T g d 152 117 (v0 :: v1 :: v2 :: v3 :: v4 :: v5 :: .int x :: ls) st h P = z_T g d 152 119 (v0 :: v1 :: v2 :: v3 :: v4 :: v5 :: .int x :: ls) (.int x :: st) h P := zt_iload zi_152_117 rfl
theorem zi_152_119 : z_ins 152 119 = some (.aaload, 1) := by decide +kernel
theorem ze_152_119 : z_T g d 152 119 ls (.int x :: .ref a :: st) h P = z_qL h.1 a x (fun v => z_T g d 152 120 ls (.ref v :: st) h P) := zt_aaload zi_152_119
theorem zi_152_120 : z_ins 152 120 = some (.iload 7, 2) := by decide +kernel
theorem ze_152_120 : z_T g d 152 120 (v0 :: v1 :: v2 :: v3 :: v4 :: v5 :: v6 :: .int x :: ls) st h P = z_T g d 152 122 (v0 :: v1 :: v2 :: v3 :: v4 :: v5 :: v6 :: .int x :: ls) (.int x :: st) h P := zt_iload zi_152_120 rfl
theorem zi_152_122 : z_ins 152 122 = some (.iaload, 1) := by decide +kernel
theorem ze_152_122 : z_T g d 152 122 ls (.int x :: .ref a :: st) h P = z_aL h.1 a z_tI x (fun v => z_T g d 152 123 ls (.int v :: st) h P) := zt_iaload zi_152_122
theorem zi_152_123 : z_ins 152 123 = some (.ifCond .lt 9, 3) := by decide +kernel
theorem ze_152_123 : z_T g d 152 123 ls (.int x :: st) h P = (if x < nI 0 then z_T g d 152 132 ls st h P else z_T g d 152 126 ls st h P) := zt_iflt zi_152_123 (by decide)
theorem zi_152_126 : z_ins 152 126 = some (.iinc 2 1, 3) := by decide +kernel
theorem ze_152_126 : z_T g d 152 126 (v0 :: v1 :: .int x :: ls) st h P = z_T g d 152 129 (v0 :: v1 :: .int (x + (nI 1)) :: ls) st h P := zt_iinc zi_152_126 rfl rfl
theorem zi_152_129 : z_ins 152 129 = some (.goto 11, 3) := by decide +kernel
theorem ze_152_129 : z_T g d 152 129 ls st h P = z_T g d 152 140 ls st h P := zt_goto zi_152_129 (by decide)
theorem zi_152_132 : z_ins 152 132 = some (.iload 8, 2) := by decide +kernel
theorem ze_152_132 : z_T g d 152 132 (v0 :: v1 :: v2 :: v3 :: v4 :: v5 :: v6 :: v7 :: .int x :: ls) st h P = z_T g d 152 134 (v0 :: v1 :: v2 :: v3 :: v4 :: v5 :: v6 :: v7 :: .int x :: ls) (.int x :: st) h P := zt_iload zi_152_132 rfl
theorem zi_152_134 : z_ins 152 134 = some (.ifCond .ne 6, 3) := by decide +kernel
theorem ze_152_134 : z_T g d 152 134 ls (.int x :: st) h P = (if x = nI 0 then z_T g d 152 137 ls st h P else z_T g d 152 140 ls st h P) := zt_ifne zi_152_134 (by decide)
theorem zi_152_137 : z_ins 152 137 = some (.iinc 3 1, 3) := by decide +kernel
theorem ze_152_137 : z_T g d 152 137 (v0 :: v1 :: v2 :: .int x :: ls) st h P = z_T g d 152 140 (v0 :: v1 :: v2 :: .int (x + (nI 1)) :: ls) st h P := zt_iinc zi_152_137 rfl rfl
theorem zi_152_140 : z_ins 152 140 = some (.aload_n 1, 1) := by decide +kernel
theorem ze_152_140 : z_T g d 152 140 (v0 :: .ref a :: ls) st h P = z_T g d 152 141 (v0 :: .ref a :: ls) (.ref a :: st) h P := zt_aloadn zi_152_140 rfl rfl
theorem ze_152_140_n : z_T g d 152 140 (v0 :: .null :: ls) st h P = z_T g d 152 141 (v0 :: .null :: ls) (.null :: st) h P := zt_aloadnN zi_152_140 rfl rfl
theorem zi_152_141 : z_ins 152 141 = some (.iload 6, 2) := by decide +kernel
theorem ze_152_141 : z_T g d 152 141 (v0 :: v1 :: v2 :: v3 :: v4 :: v5 :: .int x :: ls) st h P = z_T g d 152 143 (v0 :: v1 :: v2 :: v3 :: v4 :: v5 :: .int x :: ls) (.int x :: st) h P := zt_iload zi_152_141 rfl
theorem zi_152_143 : z_ins 152 143 = some (.iload 7, 2) := by decide +kernel
theorem ze_152_143 : z_T g d 152 143 (v0 :: v1 :: v2 :: v3 :: v4 :: v5 :: v6 :: .int x :: ls) st h P = z_T g d 152 145 (v0 :: v1 :: v2 :: v3 :: v4 :: v5 :: v6 :: .int x :: ls) (.int x :: st) h P := zt_iload zi_152_143 rfl
theorem zi_152_145 : z_ins 152 145 = some (.invokevirtual 123, 3) := by decide +kernel
theorem ze_152_145 : z_T g d 152 145 ls (.int x1 :: .int x0 :: .ref a :: st) h P = ((z_okS 8 st = true ∧ z_gO h.1 a 10 ∧ 0 < d) ∧ z_Ca g (d - 1) 97 [.ref a, .int x0, .int x1] h (fun r => z_k r (fun v h' => z_T g d 152 148 ls (z_push v st) h' P) P)) := zt_cV (as := [.int x0, .int x1]) (kk := 0) zi_152_145 rfl (zt_call zj_152 zh_152) (z_opV ((congrArg (fun o => z_lookup z_cns (o, 123)) zo_152).trans zq_cns_LatinRectanglesLaw_123) ((congrArg (fun o => z_lookup z_prs (o, 123)) zo_152).trans zq_prs_LatinRectanglesLaw_123)) ((congrArg (fun o => z_clk o 123) zo_152).trans zk_LatinRectanglesLaw_123) rfl rfl rfl rfl (z_rcv0 zc_97)
theorem zi_152_148 : z_ins 152 148 = some (.astore 9, 2) := by decide +kernel
theorem ze_152_148 : z_T g d 152 148 (v0 :: v1 :: v2 :: v3 :: v4 :: v5 :: v6 :: v7 :: v8 :: v9 :: ls) (.ref a :: st) h P = z_T g d 152 150 (v0 :: v1 :: v2 :: v3 :: v4 :: v5 :: v6 :: v7 :: v8 :: .ref a :: ls) st h P := zt_astore rfl zi_152_148 (Nat.le_add_left 10 _)
theorem ze_152_148_n : z_T g d 152 148 (v0 :: v1 :: v2 :: v3 :: v4 :: v5 :: v6 :: v7 :: v8 :: v9 :: ls) (.null :: st) h P = z_T g d 152 150 (v0 :: v1 :: v2 :: v3 :: v4 :: v5 :: v6 :: v7 :: v8 :: .null :: ls) st h P := zt_astore rfl zi_152_148 (Nat.le_add_left 10 _)
theorem zi_152_150 : z_ins 152 150 = some (.aload 9, 2) := by decide +kernel
theorem ze_152_150 : z_T g d 152 150 (v0 :: v1 :: v2 :: v3 :: v4 :: v5 :: v6 :: v7 :: v8 :: .ref a :: ls) st h P = z_T g d 152 152 (v0 :: v1 :: v2 :: v3 :: v4 :: v5 :: v6 :: v7 :: v8 :: .ref a :: ls) (.ref a :: st) h P := zt_aload zi_152_150 rfl
theorem ze_152_150_n : z_T g d 152 150 (v0 :: v1 :: v2 :: v3 :: v4 :: v5 :: v6 :: v7 :: v8 :: .null :: ls) st h P = z_T g d 152 152 (v0 :: v1 :: v2 :: v3 :: v4 :: v5 :: v6 :: v7 :: v8 :: .null :: ls) (.null :: st) h P := zt_aloadN zi_152_150 rfl
theorem zi_152_152 : z_ins 152 152 = some (.ifnonnull 6, 3) := by decide +kernel
theorem ze_152_152 : z_T g d 152 152 ls (.ref a :: st) h P = z_T g d 152 158 ls st h P := zt_nnulR zi_152_152 (by decide)
theorem ze_152_152_n : z_T g d 152 152 ls (.null :: st) h P = z_T g d 152 155 ls st h P := zt_nnulN zi_152_152
theorem ze_152_152_s : z_T g d 152 152 ls (.retAddr b :: st) h P = z_T g d 152 158 ls st h P := zt_nnulS zi_152_152 (by decide)
theorem zi_152_155 : z_ins 152 155 = some (.goto 60, 3) := by decide +kernel
theorem ze_152_155 : z_T g d 152 155 ls st h P = z_T g d 152 215 ls st h P := zt_goto zi_152_155 (by decide)
theorem zi_152_158 : z_ins 152 158 = some (.aload_n 0, 1) := by decide +kernel
theorem ze_152_158 : z_T g d 152 158 (.ref a :: ls) st h P = z_T g d 152 159 (.ref a :: ls) (.ref a :: st) h P := zt_aloadn zi_152_158 rfl rfl
theorem ze_152_158_n : z_T g d 152 158 (.null :: ls) st h P = z_T g d 152 159 (.null :: ls) (.null :: st) h P := zt_aloadnN zi_152_158 rfl rfl
theorem zi_152_159 : z_ins 152 159 = some (.iload 5, 2) := by decide +kernel
theorem ze_152_159 : z_T g d 152 159 (v0 :: v1 :: v2 :: v3 :: v4 :: .int x :: ls) st h P = z_T g d 152 161 (v0 :: v1 :: v2 :: v3 :: v4 :: .int x :: ls) (.int x :: st) h P := zt_iload zi_152_159 rfl
theorem zi_152_161 : z_ins 152 161 = some (.iconst 0, 1) := by decide +kernel
theorem ze_152_161 : z_T g d 152 161 ls st h P = z_T g d 152 162 ls (.int (nI 0) :: st) h P := zt_iconst zi_152_161 rfl
theorem zi_152_162 : z_ins 152 162 = some (.invokevirtual 184, 3) := by decide +kernel
theorem ze_152_162 : z_T g d 152 162 ls (.int x1 :: .int x0 :: .ref a :: st) h P = ((z_okS 8 st = true ∧ z_gO h.1 a 9 ∧ 0 < d) ∧ z_Ca g (d - 1) 75 [.ref a, .int x0, .int x1] h (fun r => z_k r (fun v h' => z_T g d 152 165 ls (z_push v st) h' P) P)) := zt_cV (as := [.int x0, .int x1]) (kk := 0) zi_152_162 rfl (zt_call zj_152 zh_152) (z_opV ((congrArg (fun o => z_lookup z_cns (o, 184)) zo_152).trans zq_cns_LatinRectanglesLaw_184) ((congrArg (fun o => z_lookup z_prs (o, 184)) zo_152).trans zq_prs_LatinRectanglesLaw_184)) ((congrArg (fun o => z_clk o 184) zo_152).trans zk_LatinRectanglesLaw_184) rfl rfl rfl rfl (z_rcv0 zc_75)
theorem zi_152_165 : z_ins 152 165 = some (.iload 6, 2) := by decide +kernel
theorem ze_152_165 : z_T g d 152 165 (v0 :: v1 :: v2 :: v3 :: v4 :: v5 :: .int x :: ls) st h P = z_T g d 152 167 (v0 :: v1 :: v2 :: v3 :: v4 :: v5 :: .int x :: ls) (.int x :: st) h P := zt_iload zi_152_165 rfl
theorem zi_152_167 : z_ins 152 167 = some (.if_icmp .ne 43, 3) := by decide +kernel
theorem ze_152_167 : z_T g d 152 167 ls (.int y :: .int x :: st) h P = (if x = y then z_T g d 152 170 ls st h P else z_T g d 152 210 ls st h P) := zt_icmpne zi_152_167 (by decide)
theorem zi_152_170 : z_ins 152 170 = some (.aload_n 0, 1) := by decide +kernel
theorem ze_152_170 : z_T g d 152 170 (.ref a :: ls) st h P = z_T g d 152 171 (.ref a :: ls) (.ref a :: st) h P := zt_aloadn zi_152_170 rfl rfl
theorem ze_152_170_n : z_T g d 152 170 (.null :: ls) st h P = z_T g d 152 171 (.null :: ls) (.null :: st) h P := zt_aloadnN zi_152_170 rfl rfl
theorem zi_152_171 : z_ins 152 171 = some (.iload 5, 2) := by decide +kernel
theorem ze_152_171 : z_T g d 152 171 (v0 :: v1 :: v2 :: v3 :: v4 :: .int x :: ls) st h P = z_T g d 152 173 (v0 :: v1 :: v2 :: v3 :: v4 :: .int x :: ls) (.int x :: st) h P := zt_iload zi_152_171 rfl
theorem zi_152_173 : z_ins 152 173 = some (.iconst 1, 1) := by decide +kernel
theorem ze_152_173 : z_T g d 152 173 ls st h P = z_T g d 152 174 ls (.int (nI 1) :: st) h P := zt_iconst zi_152_173 rfl
theorem zi_152_174 : z_ins 152 174 = some (.invokevirtual 184, 3) := by decide +kernel
theorem ze_152_174 : z_T g d 152 174 ls (.int x1 :: .int x0 :: .ref a :: st) h P = ((z_okS 8 st = true ∧ z_gO h.1 a 9 ∧ 0 < d) ∧ z_Ca g (d - 1) 75 [.ref a, .int x0, .int x1] h (fun r => z_k r (fun v h' => z_T g d 152 177 ls (z_push v st) h' P) P)) := zt_cV (as := [.int x0, .int x1]) (kk := 0) zi_152_174 rfl (zt_call zj_152 zh_152) (z_opV ((congrArg (fun o => z_lookup z_cns (o, 184)) zo_152).trans zq_cns_LatinRectanglesLaw_184) ((congrArg (fun o => z_lookup z_prs (o, 184)) zo_152).trans zq_prs_LatinRectanglesLaw_184)) ((congrArg (fun o => z_clk o 184) zo_152).trans zk_LatinRectanglesLaw_184) rfl rfl rfl rfl (z_rcv0 zc_75)
theorem zi_152_177 : z_ins 152 177 = some (.iload 7, 2) := by decide +kernel
theorem ze_152_177 : z_T g d 152 177 (v0 :: v1 :: v2 :: v3 :: v4 :: v5 :: v6 :: .int x :: ls) st h P = z_T g d 152 179 (v0 :: v1 :: v2 :: v3 :: v4 :: v5 :: v6 :: .int x :: ls) (.int x :: st) h P := zt_iload zi_152_177 rfl
theorem zi_152_179 : z_ins 152 179 = some (.if_icmp .ne 31, 3) := by decide +kernel
theorem ze_152_179 : z_T g d 152 179 ls (.int y :: .int x :: st) h P = (if x = y then z_T g d 152 182 ls st h P else z_T g d 152 210 ls st h P) := zt_icmpne zi_152_179 (by decide)
theorem zi_152_182 : z_ins 152 182 = some (.aload_n 0, 1) := by decide +kernel
theorem ze_152_182 : z_T g d 152 182 (.ref a :: ls) st h P = z_T g d 152 183 (.ref a :: ls) (.ref a :: st) h P := zt_aloadn zi_152_182 rfl rfl
theorem ze_152_182_n : z_T g d 152 182 (.null :: ls) st h P = z_T g d 152 183 (.null :: ls) (.null :: st) h P := zt_aloadnN zi_152_182 rfl rfl
theorem zi_152_183 : z_ins 152 183 = some (.iload 5, 2) := by decide +kernel
theorem ze_152_183 : z_T g d 152 183 (v0 :: v1 :: v2 :: v3 :: v4 :: .int x :: ls) st h P = z_T g d 152 185 (v0 :: v1 :: v2 :: v3 :: v4 :: .int x :: ls) (.int x :: st) h P := zt_iload zi_152_183 rfl
theorem zi_152_185 : z_ins 152 185 = some (.iconst 2, 1) := by decide +kernel
theorem ze_152_185 : z_T g d 152 185 ls st h P = z_T g d 152 186 ls (.int (nI 2) :: st) h P := zt_iconst zi_152_185 rfl
theorem zi_152_186 : z_ins 152 186 = some (.invokevirtual 184, 3) := by decide +kernel
theorem ze_152_186 : z_T g d 152 186 ls (.int x1 :: .int x0 :: .ref a :: st) h P = ((z_okS 8 st = true ∧ z_gO h.1 a 9 ∧ 0 < d) ∧ z_Ca g (d - 1) 75 [.ref a, .int x0, .int x1] h (fun r => z_k r (fun v h' => z_T g d 152 189 ls (z_push v st) h' P) P)) := zt_cV (as := [.int x0, .int x1]) (kk := 0) zi_152_186 rfl (zt_call zj_152 zh_152) (z_opV ((congrArg (fun o => z_lookup z_cns (o, 184)) zo_152).trans zq_cns_LatinRectanglesLaw_184) ((congrArg (fun o => z_lookup z_prs (o, 184)) zo_152).trans zq_prs_LatinRectanglesLaw_184)) ((congrArg (fun o => z_clk o 184) zo_152).trans zk_LatinRectanglesLaw_184) rfl rfl rfl rfl (z_rcv0 zc_75)
theorem zi_152_189 : z_ins 152 189 = some (.aload 9, 2) := by decide +kernel
theorem ze_152_189 : z_T g d 152 189 (v0 :: v1 :: v2 :: v3 :: v4 :: v5 :: v6 :: v7 :: v8 :: .ref a :: ls) st h P = z_T g d 152 191 (v0 :: v1 :: v2 :: v3 :: v4 :: v5 :: v6 :: v7 :: v8 :: .ref a :: ls) (.ref a :: st) h P := zt_aload zi_152_189 rfl
theorem ze_152_189_n : z_T g d 152 189 (v0 :: v1 :: v2 :: v3 :: v4 :: v5 :: v6 :: v7 :: v8 :: .null :: ls) st h P = z_T g d 152 191 (v0 :: v1 :: v2 :: v3 :: v4 :: v5 :: v6 :: v7 :: v8 :: .null :: ls) (.null :: st) h P := zt_aloadN zi_152_189 rfl
theorem zi_152_191 : z_ins 152 191 = some (.iconst 0, 1) := by decide +kernel
theorem ze_152_191 : z_T g d 152 191 ls st h P = z_T g d 152 192 ls (.int (nI 0) :: st) h P := zt_iconst zi_152_191 rfl
theorem zi_152_192 : z_ins 152 192 = some (.iaload, 1) := by decide +kernel
theorem ze_152_192 : z_T g d 152 192 ls (.int x :: .ref a :: st) h P = z_aL h.1 a z_tI x (fun v => z_T g d 152 193 ls (.int v :: st) h P) := zt_iaload zi_152_192
theorem zi_152_193 : z_ins 152 193 = some (.if_icmp .ne 17, 3) := by decide +kernel
theorem ze_152_193 : z_T g d 152 193 ls (.int y :: .int x :: st) h P = (if x = y then z_T g d 152 196 ls st h P else z_T g d 152 210 ls st h P) := zt_icmpne zi_152_193 (by decide)
theorem zi_152_196 : z_ins 152 196 = some (.aload_n 0, 1) := by decide +kernel
theorem ze_152_196 : z_T g d 152 196 (.ref a :: ls) st h P = z_T g d 152 197 (.ref a :: ls) (.ref a :: st) h P := zt_aloadn zi_152_196 rfl rfl
theorem ze_152_196_n : z_T g d 152 196 (.null :: ls) st h P = z_T g d 152 197 (.null :: ls) (.null :: st) h P := zt_aloadnN zi_152_196 rfl rfl
theorem zi_152_197 : z_ins 152 197 = some (.iload 5, 2) := by decide +kernel
theorem ze_152_197 : z_T g d 152 197 (v0 :: v1 :: v2 :: v3 :: v4 :: .int x :: ls) st h P = z_T g d 152 199 (v0 :: v1 :: v2 :: v3 :: v4 :: .int x :: ls) (.int x :: st) h P := zt_iload zi_152_197 rfl
theorem zi_152_199 : z_ins 152 199 = some (.iconst 3, 1) := by decide +kernel
theorem ze_152_199 : z_T g d 152 199 ls st h P = z_T g d 152 200 ls (.int (nI 3) :: st) h P := zt_iconst zi_152_199 rfl
theorem zi_152_200 : z_ins 152 200 = some (.invokevirtual 184, 3) := by decide +kernel
theorem ze_152_200 : z_T g d 152 200 ls (.int x1 :: .int x0 :: .ref a :: st) h P = ((z_okS 8 st = true ∧ z_gO h.1 a 9 ∧ 0 < d) ∧ z_Ca g (d - 1) 75 [.ref a, .int x0, .int x1] h (fun r => z_k r (fun v h' => z_T g d 152 203 ls (z_push v st) h' P) P)) := zt_cV (as := [.int x0, .int x1]) (kk := 0) zi_152_200 rfl (zt_call zj_152 zh_152) (z_opV ((congrArg (fun o => z_lookup z_cns (o, 184)) zo_152).trans zq_cns_LatinRectanglesLaw_184) ((congrArg (fun o => z_lookup z_prs (o, 184)) zo_152).trans zq_prs_LatinRectanglesLaw_184)) ((congrArg (fun o => z_clk o 184) zo_152).trans zk_LatinRectanglesLaw_184) rfl rfl rfl rfl (z_rcv0 zc_75)
theorem zi_152_203 : z_ins 152 203 = some (.aload 9, 2) := by decide +kernel
theorem ze_152_203 : z_T g d 152 203 (v0 :: v1 :: v2 :: v3 :: v4 :: v5 :: v6 :: v7 :: v8 :: .ref a :: ls) st h P = z_T g d 152 205 (v0 :: v1 :: v2 :: v3 :: v4 :: v5 :: v6 :: v7 :: v8 :: .ref a :: ls) (.ref a :: st) h P := zt_aload zi_152_203 rfl
theorem ze_152_203_n : z_T g d 152 203 (v0 :: v1 :: v2 :: v3 :: v4 :: v5 :: v6 :: v7 :: v8 :: .null :: ls) st h P = z_T g d 152 205 (v0 :: v1 :: v2 :: v3 :: v4 :: v5 :: v6 :: v7 :: v8 :: .null :: ls) (.null :: st) h P := zt_aloadN zi_152_203 rfl
theorem zi_152_205 : z_ins 152 205 = some (.iconst 1, 1) := by decide +kernel
theorem ze_152_205 : z_T g d 152 205 ls st h P = z_T g d 152 206 ls (.int (nI 1) :: st) h P := zt_iconst zi_152_205 rfl
theorem zi_152_206 : z_ins 152 206 = some (.iaload, 1) := by decide +kernel
theorem ze_152_206 : z_T g d 152 206 ls (.int x :: .ref a :: st) h P = z_aL h.1 a z_tI x (fun v => z_T g d 152 207 ls (.int v :: st) h P) := zt_iaload zi_152_206
theorem zi_152_207 : z_ins 152 207 = some (.if_icmp .eq 5, 3) := by decide +kernel
theorem ze_152_207 : z_T g d 152 207 ls (.int y :: .int x :: st) h P = (if x = y then z_T g d 152 212 ls st h P else z_T g d 152 210 ls st h P) := zt_icmpeq zi_152_207 (by decide)
theorem zi_152_210 : z_ins 152 210 = some (.iconst 0, 1) := by decide +kernel
theorem ze_152_210 : z_T g d 152 210 ls st h P = z_T g d 152 211 ls (.int (nI 0) :: st) h P := zt_iconst zi_152_210 rfl
theorem zi_152_211 : z_ins 152 211 = some (.ireturn, 1) := by decide +kernel
theorem ze_152_211 : z_T g d 152 211 ls [.int x] h P = ((x = nI 0 ∨ x = nI 1) ∧ P (.inr (some (.int x)), h)) := zt_zreturn zi_152_211 zr_152
theorem zi_152_212 : z_ins 152 212 = some (.iinc 5 1, 3) := by decide +kernel
theorem ze_152_212 : z_T g d 152 212 (v0 :: v1 :: v2 :: v3 :: v4 :: .int x :: ls) st h P = z_T g d 152 215 (v0 :: v1 :: v2 :: v3 :: v4 :: .int (x + (nI 1)) :: ls) st h P := zt_iinc zi_152_212 rfl rfl
theorem zi_152_215 : z_ins 152 215 = some (.iinc 7 1, 3) := by decide +kernel
theorem ze_152_215 : z_T g d 152 215 (v0 :: v1 :: v2 :: v3 :: v4 :: v5 :: v6 :: .int x :: ls) st h P = z_T g d 152 218 (v0 :: v1 :: v2 :: v3 :: v4 :: v5 :: v6 :: .int (x + (nI 1)) :: ls) st h P := zt_iinc zi_152_215 rfl rfl
theorem zi_152_218 : z_ins 152 218 = some (.goto (-181), 3) := by decide +kernel
theorem ze_152_218 : z_T g d 152 218 ls st h P = z_T g d 152 37 ls st h P := zt_goto zi_152_218 (by decide)
theorem zi_152_221 : z_ins 152 221 = some (.iinc 6 1, 3) := by decide +kernel
theorem ze_152_221 : z_T g d 152 221 (v0 :: v1 :: v2 :: v3 :: v4 :: v5 :: .int x :: ls) st h P = z_T g d 152 224 (v0 :: v1 :: v2 :: v3 :: v4 :: v5 :: .int (x + (nI 1)) :: ls) st h P := zt_iinc zi_152_221 rfl rfl
theorem zi_152_224 : z_ins 152 224 = some (.goto (-211), 3) := by decide +kernel
theorem ze_152_224 : z_T g d 152 224 ls st h P = z_T g d 152 13 ls st h P := zt_goto zi_152_224 (by decide)
theorem zi_152_227 : z_ins 152 227 = some (.aload_n 0, 1) := by decide +kernel
theorem ze_152_227 : z_T g d 152 227 (.ref a :: ls) st h P = z_T g d 152 228 (.ref a :: ls) (.ref a :: st) h P := zt_aloadn zi_152_227 rfl rfl
theorem ze_152_227_n : z_T g d 152 227 (.null :: ls) st h P = z_T g d 152 228 (.null :: ls) (.null :: st) h P := zt_aloadnN zi_152_227 rfl rfl
theorem zi_152_228 : z_ins 152 228 = some (.iconst 2, 1) := by decide +kernel
theorem ze_152_228 : z_T g d 152 228 ls st h P = z_T g d 152 229 ls (.int (nI 2) :: st) h P := zt_iconst zi_152_228 rfl
theorem zi_152_229 : z_ins 152 229 = some (.invokevirtual 102, 3) := by decide +kernel
theorem ze_152_229 : z_T g d 152 229 ls (.int x0 :: .ref a :: st) h P = ((z_okS 8 st = true ∧ z_gO h.1 a 9 ∧ 0 < d) ∧ z_Ca g (d - 1) 70 [.ref a, .int x0] h (fun r => z_k r (fun v h' => z_T g d 152 232 ls (z_push v st) h' P) P)) := zt_cV (as := [.int x0]) (kk := 0) zi_152_229 rfl (zt_call zj_152 zh_152) (z_opV ((congrArg (fun o => z_lookup z_cns (o, 102)) zo_152).trans zq_cns_LatinRectanglesLaw_102) ((congrArg (fun o => z_lookup z_prs (o, 102)) zo_152).trans zq_prs_LatinRectanglesLaw_102)) ((congrArg (fun o => z_clk o 102) zo_152).trans zk_LatinRectanglesLaw_102) rfl rfl rfl rfl (z_rcv0 zc_70)
theorem zi_152_232 : z_ins 152 232 = some (.iload_n 2, 1) := by decide +kernel
theorem ze_152_232 : z_T g d 152 232 (v0 :: v1 :: .int x :: ls) st h P = z_T g d 152 233 (v0 :: v1 :: .int x :: ls) (.int x :: st) h P := zt_iloadn zi_152_232 rfl rfl
theorem zi_152_233 : z_ins 152 233 = some (.if_icmp .ne 47, 3) := by decide +kernel
theorem ze_152_233 : z_T g d 152 233 ls (.int y :: .int x :: st) h P = (if x = y then z_T g d 152 236 ls st h P else z_T g d 152 280 ls st h P) := zt_icmpne zi_152_233 (by decide)
theorem zi_152_236 : z_ins 152 236 = some (.aload_n 0, 1) := by decide +kernel
theorem ze_152_236 : z_T g d 152 236 (.ref a :: ls) st h P = z_T g d 152 237 (.ref a :: ls) (.ref a :: st) h P := zt_aloadn zi_152_236 rfl rfl
theorem ze_152_236_n : z_T g d 152 236 (.null :: ls) st h P = z_T g d 152 237 (.null :: ls) (.null :: st) h P := zt_aloadnN zi_152_236 rfl rfl
theorem zi_152_237 : z_ins 152 237 = some (.iconst 5, 1) := by decide +kernel
theorem ze_152_237 : z_T g d 152 237 ls st h P = z_T g d 152 238 ls (.int (nI 5) :: st) h P := zt_iconst zi_152_237 rfl
theorem zi_152_238 : z_ins 152 238 = some (.invokevirtual 102, 3) := by decide +kernel
theorem ze_152_238 : z_T g d 152 238 ls (.int x0 :: .ref a :: st) h P = ((z_okS 8 st = true ∧ z_gO h.1 a 9 ∧ 0 < d) ∧ z_Ca g (d - 1) 70 [.ref a, .int x0] h (fun r => z_k r (fun v h' => z_T g d 152 241 ls (z_push v st) h' P) P)) := zt_cV (as := [.int x0]) (kk := 0) zi_152_238 rfl (zt_call zj_152 zh_152) (z_opV ((congrArg (fun o => z_lookup z_cns (o, 102)) zo_152).trans zq_cns_LatinRectanglesLaw_102) ((congrArg (fun o => z_lookup z_prs (o, 102)) zo_152).trans zq_prs_LatinRectanglesLaw_102)) ((congrArg (fun o => z_clk o 102) zo_152).trans zk_LatinRectanglesLaw_102) rfl rfl rfl rfl (z_rcv0 zc_70)
theorem zi_152_241 : z_ins 152 241 = some (.iload_n 3, 1) := by decide +kernel
theorem ze_152_241 : z_T g d 152 241 (v0 :: v1 :: v2 :: .int x :: ls) st h P = z_T g d 152 242 (v0 :: v1 :: v2 :: .int x :: ls) (.int x :: st) h P := zt_iloadn zi_152_241 rfl rfl
theorem zi_152_242 : z_ins 152 242 = some (.if_icmp .ne 38, 3) := by decide +kernel
theorem ze_152_242 : z_T g d 152 242 ls (.int y :: .int x :: st) h P = (if x = y then z_T g d 152 245 ls st h P else z_T g d 152 280 ls st h P) := zt_icmpne zi_152_242 (by decide)
theorem zi_152_245 : z_ins 152 245 = some (.aload_n 0, 1) := by decide +kernel
theorem ze_152_245 : z_T g d 152 245 (.ref a :: ls) st h P = z_T g d 152 246 (.ref a :: ls) (.ref a :: st) h P := zt_aloadn zi_152_245 rfl rfl
theorem ze_152_245_n : z_T g d 152 245 (.null :: ls) st h P = z_T g d 152 246 (.null :: ls) (.null :: st) h P := zt_aloadnN zi_152_245 rfl rfl
theorem zi_152_246 : z_ins 152 246 = some (.bipush 6, 2) := by decide +kernel
theorem ze_152_246 : z_T g d 152 246 ls st h P = z_T g d 152 248 ls (.int (nI 6) :: st) h P := zt_bipush zi_152_246 rfl
theorem zi_152_248 : z_ins 152 248 = some (.invokevirtual 102, 3) := by decide +kernel
theorem ze_152_248 : z_T g d 152 248 ls (.int x0 :: .ref a :: st) h P = ((z_okS 8 st = true ∧ z_gO h.1 a 9 ∧ 0 < d) ∧ z_Ca g (d - 1) 70 [.ref a, .int x0] h (fun r => z_k r (fun v h' => z_T g d 152 251 ls (z_push v st) h' P) P)) := zt_cV (as := [.int x0]) (kk := 0) zi_152_248 rfl (zt_call zj_152 zh_152) (z_opV ((congrArg (fun o => z_lookup z_cns (o, 102)) zo_152).trans zq_cns_LatinRectanglesLaw_102) ((congrArg (fun o => z_lookup z_prs (o, 102)) zo_152).trans zq_prs_LatinRectanglesLaw_102)) ((congrArg (fun o => z_clk o 102) zo_152).trans zk_LatinRectanglesLaw_102) rfl rfl rfl rfl (z_rcv0 zc_70)
theorem zi_152_251 : z_ins 152 251 = some (.iload 4, 2) := by decide +kernel
theorem ze_152_251 : z_T g d 152 251 (v0 :: v1 :: v2 :: v3 :: .int x :: ls) st h P = z_T g d 152 253 (v0 :: v1 :: v2 :: v3 :: .int x :: ls) (.int x :: st) h P := zt_iload zi_152_251 rfl
theorem zi_152_253 : z_ins 152 253 = some (.if_icmp .ne 27, 3) := by decide +kernel
theorem ze_152_253 : z_T g d 152 253 ls (.int y :: .int x :: st) h P = (if x = y then z_T g d 152 256 ls st h P else z_T g d 152 280 ls st h P) := zt_icmpne zi_152_253 (by decide)
theorem zi_152_256 : z_ins 152 256 = some (.aload_n 0, 1) := by decide +kernel
theorem ze_152_256 : z_T g d 152 256 (.ref a :: ls) st h P = z_T g d 152 257 (.ref a :: ls) (.ref a :: st) h P := zt_aloadn zi_152_256 rfl rfl
theorem ze_152_256_n : z_T g d 152 256 (.null :: ls) st h P = z_T g d 152 257 (.null :: ls) (.null :: st) h P := zt_aloadnN zi_152_256 rfl rfl
theorem zi_152_257 : z_ins 152 257 = some (.invokevirtual 186, 3) := by decide +kernel
theorem ze_152_257 : z_T g d 152 257 ls (.ref a :: st) h P = ((z_okS 8 st = true ∧ z_gO h.1 a 9 ∧ 0 < d) ∧ z_Ca g (d - 1) 74 [.ref a] h (fun r => z_k r (fun v h' => z_T g d 152 260 ls (z_push v st) h' P) P)) := zt_cV (as := []) (kk := 0) zi_152_257 rfl (zt_call zj_152 zh_152) (z_opV ((congrArg (fun o => z_lookup z_cns (o, 186)) zo_152).trans zq_cns_LatinRectanglesLaw_186) ((congrArg (fun o => z_lookup z_prs (o, 186)) zo_152).trans zq_prs_LatinRectanglesLaw_186)) ((congrArg (fun o => z_clk o 186) zo_152).trans zk_LatinRectanglesLaw_186) rfl rfl rfl rfl (z_rcv0 zc_74)
theorem zi_152_260 : z_ins 152 260 = some (.iload 5, 2) := by decide +kernel
theorem ze_152_260 : z_T g d 152 260 (v0 :: v1 :: v2 :: v3 :: v4 :: .int x :: ls) st h P = z_T g d 152 262 (v0 :: v1 :: v2 :: v3 :: v4 :: .int x :: ls) (.int x :: st) h P := zt_iload zi_152_260 rfl
theorem zi_152_262 : z_ins 152 262 = some (.if_icmp .ne 18, 3) := by decide +kernel
theorem ze_152_262 : z_T g d 152 262 ls (.int y :: .int x :: st) h P = (if x = y then z_T g d 152 265 ls st h P else z_T g d 152 280 ls st h P) := zt_icmpne zi_152_262 (by decide)
theorem zi_152_265 : z_ins 152 265 = some (.aload_n 0, 1) := by decide +kernel
theorem ze_152_265 : z_T g d 152 265 (.ref a :: ls) st h P = z_T g d 152 266 (.ref a :: ls) (.ref a :: st) h P := zt_aloadn zi_152_265 rfl rfl
theorem ze_152_265_n : z_T g d 152 265 (.null :: ls) st h P = z_T g d 152 266 (.null :: ls) (.null :: st) h P := zt_aloadnN zi_152_265 rfl rfl
theorem zi_152_266 : z_ins 152 266 = some (.iload 5, 2) := by decide +kernel
theorem ze_152_266 : z_T g d 152 266 (v0 :: v1 :: v2 :: v3 :: v4 :: .int x :: ls) st h P = z_T g d 152 268 (v0 :: v1 :: v2 :: v3 :: v4 :: .int x :: ls) (.int x :: st) h P := zt_iload zi_152_266 rfl
theorem zi_152_268 : z_ins 152 268 = some (.iconst 0, 1) := by decide +kernel
theorem ze_152_268 : z_T g d 152 268 ls st h P = z_T g d 152 269 ls (.int (nI 0) :: st) h P := zt_iconst zi_152_268 rfl
theorem zi_152_269 : z_ins 152 269 = some (.invokevirtual 184, 3) := by decide +kernel
theorem ze_152_269 : z_T g d 152 269 ls (.int x1 :: .int x0 :: .ref a :: st) h P = ((z_okS 8 st = true ∧ z_gO h.1 a 9 ∧ 0 < d) ∧ z_Ca g (d - 1) 75 [.ref a, .int x0, .int x1] h (fun r => z_k r (fun v h' => z_T g d 152 272 ls (z_push v st) h' P) P)) := zt_cV (as := [.int x0, .int x1]) (kk := 0) zi_152_269 rfl (zt_call zj_152 zh_152) (z_opV ((congrArg (fun o => z_lookup z_cns (o, 184)) zo_152).trans zq_cns_LatinRectanglesLaw_184) ((congrArg (fun o => z_lookup z_prs (o, 184)) zo_152).trans zq_prs_LatinRectanglesLaw_184)) ((congrArg (fun o => z_clk o 184) zo_152).trans zk_LatinRectanglesLaw_184) rfl rfl rfl rfl (z_rcv0 zc_75)
theorem zi_152_272 : z_ins 152 272 = some (.iconst (-1), 1) := by decide +kernel
theorem ze_152_272 : z_T g d 152 272 ls st h P = z_T g d 152 273 ls (.int (-1) :: st) h P := zt_iconst zi_152_272 rfl
theorem zi_152_273 : z_ins 152 273 = some (.if_icmp .ne 7, 3) := by decide +kernel
theorem ze_152_273 : z_T g d 152 273 ls (.int y :: .int x :: st) h P = (if x = y then z_T g d 152 276 ls st h P else z_T g d 152 280 ls st h P) := zt_icmpne zi_152_273 (by decide)
theorem zi_152_276 : z_ins 152 276 = some (.iconst 1, 1) := by decide +kernel
theorem ze_152_276 : z_T g d 152 276 ls st h P = z_T g d 152 277 ls (.int (nI 1) :: st) h P := zt_iconst zi_152_276 rfl
theorem zi_152_277 : z_ins 152 277 = some (.goto 4, 3) := by decide +kernel
theorem ze_152_277 : z_T g d 152 277 ls st h P = z_T g d 152 281 ls st h P := zt_goto zi_152_277 (by decide)
theorem zi_152_280 : z_ins 152 280 = some (.iconst 0, 1) := by decide +kernel
theorem ze_152_280 : z_T g d 152 280 ls st h P = z_T g d 152 281 ls (.int (nI 0) :: st) h P := zt_iconst zi_152_280 rfl
theorem zi_152_281 : z_ins 152 281 = some (.ireturn, 1) := by decide +kernel
theorem ze_152_281 : z_T g d 152 281 ls [.int x] h P = ((x = nI 0 ∨ x = nI 1) ∧ P (.inr (some (.int x)), h)) := zt_zreturn zi_152_281 zr_152
-- LatinRectanglesLaw.wholes(LLatinRectangles;LLatinRectanglesLaw$Grid;[I)Z
theorem zm_153 : z_maxL 153 = 11 := by decide +kernel
theorem zh_153 : z_hds 153 = [] := by decide +kernel
theorem zj_153 : z_jdk 153 = false := by decide +kernel
theorem zr_153 : z_rt 153 = (some .boolean) := by decide +kernel
theorem zn_153 : z_Ca g d 153 [.ref a0, .ref a1, .ref a2] h P = z_T g d 153 0 [.ref a0, .ref a1, .ref a2, z_un, z_un, z_un, z_un, z_un, z_un, z_un, z_un] [] h P := z_Ca_ent zm_153 rfl rfl
theorem zi_153_0 : z_ins 153 0 = some (.aload_n 2, 1) := by decide +kernel
theorem ze_153_0 : z_T g d 153 0 (v0 :: v1 :: .ref a :: ls) st h P = z_T g d 153 1 (v0 :: v1 :: .ref a :: ls) (.ref a :: st) h P := zt_aloadn zi_153_0 rfl rfl
theorem ze_153_0_n : z_T g d 153 0 (v0 :: v1 :: .null :: ls) st h P = z_T g d 153 1 (v0 :: v1 :: .null :: ls) (.null :: st) h P := zt_aloadnN zi_153_0 rfl rfl
theorem zi_153_1 : z_ins 153 1 = some (.aload_n 1, 1) := by decide +kernel
theorem ze_153_1 : z_T g d 153 1 (v0 :: .ref a :: ls) st h P = z_T g d 153 2 (v0 :: .ref a :: ls) (.ref a :: st) h P := zt_aloadn zi_153_1 rfl rfl
theorem ze_153_1_n : z_T g d 153 1 (v0 :: .null :: ls) st h P = z_T g d 153 2 (v0 :: .null :: ls) (.null :: st) h P := zt_aloadnN zi_153_1 rfl rfl
theorem zi_153_2 : z_ins 153 2 = some (.getfield 48, 3) := by decide +kernel
theorem ze_153_2 : z_T g d 153 2 ls (.ref a :: st) h P = z_gI h.1 a 10 0 (fun x => z_T g d 153 5 ls (.int x :: st) h P) := zt_getI zi_153_2 ((congrArg (fun o => z_fl o 48) zo_153).trans zf_LatinRectanglesLaw_48)
theorem zi_153_5 : z_ins 153 5 = some (.invokestatic 32, 3) := by decide +kernel
theorem ze_153_5 : z_T g d 153 5 ls (.int x1 :: .ref a0 :: st) h P = ((z_okS 8 st = true ∧ 0 < d) ∧ z_Ca g (d - 1) 143 [.ref a0, .int x1] h (fun r => z_k r (fun v h' => z_T g d 153 8 ls (z_push v st) h' P) P)) := zt_cS (as := [.ref a0, .int x1]) (kk := 1) zi_153_5 rfl (zt_call zj_153 zh_153) (z_opT ((congrArg (fun o => z_lookup z_cps (o, 32)) zo_153).trans zq_cps_LatinRectanglesLaw_32) ((congrArg (fun o => z_lookup z_prs (o, 32)) zo_153).trans zq_prs_LatinRectanglesLaw_32)) ((congrArg (fun o => z_clk o 32) zo_153).trans zk_LatinRectanglesLaw_32) rfl rfl rfl rfl rfl
theorem zi_153_8 : z_ins 153 8 = some (.istore_n 3, 1) := by decide +kernel
theorem ze_153_8 : z_T g d 153 8 (v0 :: v1 :: v2 :: v3 :: ls) (.int x :: st) h P = z_T g d 153 9 (v0 :: v1 :: v2 :: .int x :: ls) st h P := zt_istoren zi_153_8 rfl (Nat.le_add_left 4 _)
theorem zi_153_9 : z_ins 153 9 = some (.aload_n 2, 1) := by decide +kernel
theorem ze_153_9 : z_T g d 153 9 (v0 :: v1 :: .ref a :: ls) st h P = z_T g d 153 10 (v0 :: v1 :: .ref a :: ls) (.ref a :: st) h P := zt_aloadn zi_153_9 rfl rfl
theorem ze_153_9_n : z_T g d 153 9 (v0 :: v1 :: .null :: ls) st h P = z_T g d 153 10 (v0 :: v1 :: .null :: ls) (.null :: st) h P := zt_aloadnN zi_153_9 rfl rfl
theorem zi_153_10 : z_ins 153 10 = some (.aload_n 1, 1) := by decide +kernel
theorem ze_153_10 : z_T g d 153 10 (v0 :: .ref a :: ls) st h P = z_T g d 153 11 (v0 :: .ref a :: ls) (.ref a :: st) h P := zt_aloadn zi_153_10 rfl rfl
theorem ze_153_10_n : z_T g d 153 10 (v0 :: .null :: ls) st h P = z_T g d 153 11 (v0 :: .null :: ls) (.null :: st) h P := zt_aloadnN zi_153_10 rfl rfl
theorem zi_153_11 : z_ins 153 11 = some (.getfield 105, 3) := by decide +kernel
theorem ze_153_11 : z_T g d 153 11 ls (.ref a :: st) h P = z_gI h.1 a 10 1 (fun x => z_T g d 153 14 ls (.int x :: st) h P) := zt_getI zi_153_11 ((congrArg (fun o => z_fl o 105) zo_153).trans zf_LatinRectanglesLaw_105)
theorem zi_153_14 : z_ins 153 14 = some (.invokestatic 32, 3) := by decide +kernel
theorem ze_153_14 : z_T g d 153 14 ls (.int x1 :: .ref a0 :: st) h P = ((z_okS 8 st = true ∧ 0 < d) ∧ z_Ca g (d - 1) 143 [.ref a0, .int x1] h (fun r => z_k r (fun v h' => z_T g d 153 17 ls (z_push v st) h' P) P)) := zt_cS (as := [.ref a0, .int x1]) (kk := 1) zi_153_14 rfl (zt_call zj_153 zh_153) (z_opT ((congrArg (fun o => z_lookup z_cps (o, 32)) zo_153).trans zq_cps_LatinRectanglesLaw_32) ((congrArg (fun o => z_lookup z_prs (o, 32)) zo_153).trans zq_prs_LatinRectanglesLaw_32)) ((congrArg (fun o => z_clk o 32) zo_153).trans zk_LatinRectanglesLaw_32) rfl rfl rfl rfl rfl
theorem zi_153_17 : z_ins 153 17 = some (.istore 4, 2) := by decide +kernel
theorem ze_153_17 : z_T g d 153 17 (v0 :: v1 :: v2 :: v3 :: v4 :: ls) (.int x :: st) h P = z_T g d 153 19 (v0 :: v1 :: v2 :: v3 :: .int x :: ls) st h P := zt_istore zi_153_17 (Nat.le_add_left 5 _)
theorem zi_153_19 : z_ins 153 19 = some (.iconst 1, 1) := by decide +kernel
theorem ze_153_19 : z_T g d 153 19 ls st h P = z_T g d 153 20 ls (.int (nI 1) :: st) h P := zt_iconst zi_153_19 rfl
theorem zi_153_20 : z_ins 153 20 = some (.aload_n 2, 1) := by decide +kernel
theorem ze_153_20 : z_T g d 153 20 (v0 :: v1 :: .ref a :: ls) st h P = z_T g d 153 21 (v0 :: v1 :: .ref a :: ls) (.ref a :: st) h P := zt_aloadn zi_153_20 rfl rfl
theorem ze_153_20_n : z_T g d 153 20 (v0 :: v1 :: .null :: ls) st h P = z_T g d 153 21 (v0 :: v1 :: .null :: ls) (.null :: st) h P := zt_aloadnN zi_153_20 rfl rfl
theorem zi_153_21 : z_ins 153 21 = some (.bipush 30, 2) := by decide +kernel
theorem ze_153_21 : z_T g d 153 21 ls st h P = z_T g d 153 23 ls (.int (nI 30) :: st) h P := zt_bipush zi_153_21 rfl
theorem zi_153_23 : z_ins 153 23 = some (.invokestatic 32, 3) := by decide +kernel
theorem ze_153_23 : z_T g d 153 23 ls (.int x1 :: .ref a0 :: st) h P = ((z_okS 8 st = true ∧ 0 < d) ∧ z_Ca g (d - 1) 143 [.ref a0, .int x1] h (fun r => z_k r (fun v h' => z_T g d 153 26 ls (z_push v st) h' P) P)) := zt_cS (as := [.ref a0, .int x1]) (kk := 1) zi_153_23 rfl (zt_call zj_153 zh_153) (z_opT ((congrArg (fun o => z_lookup z_cps (o, 32)) zo_153).trans zq_cps_LatinRectanglesLaw_32) ((congrArg (fun o => z_lookup z_prs (o, 32)) zo_153).trans zq_prs_LatinRectanglesLaw_32)) ((congrArg (fun o => z_clk o 32) zo_153).trans zk_LatinRectanglesLaw_32) rfl rfl rfl rfl rfl
theorem zi_153_26 : z_ins 153 26 = some (.iadd, 1) := by decide +kernel
theorem ze_153_26 : z_T g d 153 26 ls (.int y :: .int x :: st) h P = z_T g d 153 27 ls (.int (x + y) :: st) h P := zt_bin (f := fun x y => x + y) zi_153_26 rfl (fun _ _ _ => rfl)
theorem zi_153_27 : z_ins 153 27 = some (.istore 5, 2) := by decide +kernel
theorem ze_153_27 : z_T g d 153 27 (v0 :: v1 :: v2 :: v3 :: v4 :: v5 :: ls) (.int x :: st) h P = z_T g d 153 29 (v0 :: v1 :: v2 :: v3 :: v4 :: .int x :: ls) st h P := zt_istore zi_153_27 (Nat.le_add_left 6 _)
theorem zi_153_29 : z_ins 153 29 = some (.aload_n 1, 1) := by decide +kernel
theorem ze_153_29 : z_T g d 153 29 (v0 :: .ref a :: ls) st h P = z_T g d 153 30 (v0 :: .ref a :: ls) (.ref a :: st) h P := zt_aloadn zi_153_29 rfl rfl
theorem ze_153_29_n : z_T g d 153 29 (v0 :: .null :: ls) st h P = z_T g d 153 30 (v0 :: .null :: ls) (.null :: st) h P := zt_aloadnN zi_153_29 rfl rfl
theorem zi_153_30 : z_ins 153 30 = some (.iload 5, 2) := by decide +kernel
theorem ze_153_30 : z_T g d 153 30 (v0 :: v1 :: v2 :: v3 :: v4 :: .int x :: ls) st h P = z_T g d 153 32 (v0 :: v1 :: v2 :: v3 :: v4 :: .int x :: ls) (.int x :: st) h P := zt_iload zi_153_30 rfl
theorem zi_153_32 : z_ins 153 32 = some (.invokevirtual 189, 3) := by decide +kernel
theorem ze_153_32 : z_T g d 153 32 ls (.int x0 :: .ref a :: st) h P = ((z_okS 8 st = true ∧ z_gO h.1 a 10 ∧ 0 < d) ∧ z_Ca g (d - 1) 98 [.ref a, .int x0] h (fun r => z_k r (fun v h' => z_T g d 153 35 ls (z_push v st) h' P) P)) := zt_cV (as := [.int x0]) (kk := 0) zi_153_32 rfl (zt_call zj_153 zh_153) (z_opV ((congrArg (fun o => z_lookup z_cns (o, 189)) zo_153).trans zq_cns_LatinRectanglesLaw_189) ((congrArg (fun o => z_lookup z_prs (o, 189)) zo_153).trans zq_prs_LatinRectanglesLaw_189)) ((congrArg (fun o => z_clk o 189) zo_153).trans zk_LatinRectanglesLaw_189) rfl rfl rfl rfl (z_rcv0 zc_98)
theorem zi_153_35 : z_ins 153 35 = some (.aload_n 0, 1) := by decide +kernel
theorem ze_153_35 : z_T g d 153 35 (.ref a :: ls) st h P = z_T g d 153 36 (.ref a :: ls) (.ref a :: st) h P := zt_aloadn zi_153_35 rfl rfl
theorem ze_153_35_n : z_T g d 153 35 (.null :: ls) st h P = z_T g d 153 36 (.null :: ls) (.null :: st) h P := zt_aloadnN zi_153_35 rfl rfl
theorem zi_153_36 : z_ins 153 36 = some (.iload 5, 2) := by decide +kernel
theorem ze_153_36 : z_T g d 153 36 (v0 :: v1 :: v2 :: v3 :: v4 :: .int x :: ls) st h P = z_T g d 153 38 (v0 :: v1 :: v2 :: v3 :: v4 :: .int x :: ls) (.int x :: st) h P := zt_iload zi_153_36 rfl
theorem zi_153_38 : z_ins 153 38 = some (.invokevirtual 193, 3) := by decide +kernel
theorem ze_153_38 : z_T g d 153 38 ls (.int x0 :: .ref a :: st) h P = ((z_okS 8 st = true ∧ z_gO h.1 a 9 ∧ 0 < d) ∧ z_Ca g (d - 1) 76 [.ref a, .int x0] h (fun r => z_k r (fun v h' => z_T g d 153 41 ls (z_push v st) h' P) P)) := zt_cV (as := [.int x0]) (kk := 0) zi_153_38 rfl (zt_call zj_153 zh_153) (z_opV ((congrArg (fun o => z_lookup z_cns (o, 193)) zo_153).trans zq_cns_LatinRectanglesLaw_193) ((congrArg (fun o => z_lookup z_prs (o, 193)) zo_153).trans zq_prs_LatinRectanglesLaw_193)) ((congrArg (fun o => z_clk o 193) zo_153).trans zk_LatinRectanglesLaw_193) rfl rfl rfl rfl (z_rcv0 zc_76)
theorem zi_153_41 : z_ins 153 41 = some (.aload_n 1, 1) := by decide +kernel
theorem ze_153_41 : z_T g d 153 41 (v0 :: .ref a :: ls) st h P = z_T g d 153 42 (v0 :: .ref a :: ls) (.ref a :: st) h P := zt_aloadn zi_153_41 rfl rfl
theorem ze_153_41_n : z_T g d 153 41 (v0 :: .null :: ls) st h P = z_T g d 153 42 (v0 :: .null :: ls) (.null :: st) h P := zt_aloadnN zi_153_41 rfl rfl
theorem zi_153_42 : z_ins 153 42 = some (.getfield 196, 3) := by decide +kernel
theorem ze_153_42 : z_T g d 153 42 ls (.ref a :: st) h P = z_gI h.1 a 10 7 (fun x => z_T g d 153 45 ls (.int x :: st) h P) := zt_getI zi_153_42 ((congrArg (fun o => z_fl o 196) zo_153).trans zf_LatinRectanglesLaw_196)
theorem zi_153_45 : z_ins 153 45 = some (.if_icmp .ne 33, 3) := by decide +kernel
theorem ze_153_45 : z_T g d 153 45 ls (.int y :: .int x :: st) h P = (if x = y then z_T g d 153 48 ls st h P else z_T g d 153 78 ls st h P) := zt_icmpne zi_153_45 (by decide)
theorem zi_153_48 : z_ins 153 48 = some (.aload_n 0, 1) := by decide +kernel
theorem ze_153_48 : z_T g d 153 48 (.ref a :: ls) st h P = z_T g d 153 49 (.ref a :: ls) (.ref a :: st) h P := zt_aloadn zi_153_48 rfl rfl
theorem ze_153_48_n : z_T g d 153 48 (.null :: ls) st h P = z_T g d 153 49 (.null :: ls) (.null :: st) h P := zt_aloadnN zi_153_48 rfl rfl
theorem zi_153_49 : z_ins 153 49 = some (.iload_n 3, 1) := by decide +kernel
theorem ze_153_49 : z_T g d 153 49 (v0 :: v1 :: v2 :: .int x :: ls) st h P = z_T g d 153 50 (v0 :: v1 :: v2 :: .int x :: ls) (.int x :: st) h P := zt_iloadn zi_153_49 rfl rfl
theorem zi_153_50 : z_ins 153 50 = some (.iload 4, 2) := by decide +kernel
theorem ze_153_50 : z_T g d 153 50 (v0 :: v1 :: v2 :: v3 :: .int x :: ls) st h P = z_T g d 153 52 (v0 :: v1 :: v2 :: v3 :: .int x :: ls) (.int x :: st) h P := zt_iload zi_153_50 rfl
theorem zi_153_52 : z_ins 153 52 = some (.invokevirtual 199, 3) := by decide +kernel
theorem ze_153_52 : z_T g d 153 52 ls (.int x1 :: .int x0 :: .ref a :: st) h P = ((z_okS 8 st = true ∧ z_gO h.1 a 9 ∧ 0 < d) ∧ z_Ca g (d - 1) 77 [.ref a, .int x0, .int x1] h (fun r => z_k r (fun v h' => z_T g d 153 55 ls (z_push v st) h' P) P)) := zt_cV (as := [.int x0, .int x1]) (kk := 0) zi_153_52 rfl (zt_call zj_153 zh_153) (z_opV ((congrArg (fun o => z_lookup z_cns (o, 199)) zo_153).trans zq_cns_LatinRectanglesLaw_199) ((congrArg (fun o => z_lookup z_prs (o, 199)) zo_153).trans zq_prs_LatinRectanglesLaw_199)) ((congrArg (fun o => z_clk o 199) zo_153).trans zk_LatinRectanglesLaw_199) rfl rfl rfl rfl (z_rcv0 zc_77)
theorem zi_153_55 : z_ins 153 55 = some (.aload_n 1, 1) := by decide +kernel
theorem ze_153_55 : z_T g d 153 55 (v0 :: .ref a :: ls) st h P = z_T g d 153 56 (v0 :: .ref a :: ls) (.ref a :: st) h P := zt_aloadn zi_153_55 rfl rfl
theorem ze_153_55_n : z_T g d 153 55 (v0 :: .null :: ls) st h P = z_T g d 153 56 (v0 :: .null :: ls) (.null :: st) h P := zt_aloadnN zi_153_55 rfl rfl
theorem zi_153_56 : z_ins 153 56 = some (.getfield 196, 3) := by decide +kernel
theorem ze_153_56 : z_T g d 153 56 ls (.ref a :: st) h P = z_gI h.1 a 10 7 (fun x => z_T g d 153 59 ls (.int x :: st) h P) := zt_getI zi_153_56 ((congrArg (fun o => z_fl o 196) zo_153).trans zf_LatinRectanglesLaw_196)
theorem zi_153_59 : z_ins 153 59 = some (.ifCond .ne 7, 3) := by decide +kernel
theorem ze_153_59 : z_T g d 153 59 ls (.int x :: st) h P = (if x = nI 0 then z_T g d 153 62 ls st h P else z_T g d 153 66 ls st h P) := zt_ifne zi_153_59 (by decide)
theorem zi_153_62 : z_ins 153 62 = some (.iconst (-1), 1) := by decide +kernel
theorem ze_153_62 : z_T g d 153 62 ls st h P = z_T g d 153 63 ls (.int (-1) :: st) h P := zt_iconst zi_153_62 rfl
theorem zi_153_63 : z_ins 153 63 = some (.goto 12, 3) := by decide +kernel
theorem ze_153_63 : z_T g d 153 63 ls st h P = z_T g d 153 75 ls st h P := zt_goto zi_153_63 (by decide)
theorem zi_153_66 : z_ins 153 66 = some (.aload_n 1, 1) := by decide +kernel
theorem ze_153_66 : z_T g d 153 66 (v0 :: .ref a :: ls) st h P = z_T g d 153 67 (v0 :: .ref a :: ls) (.ref a :: st) h P := zt_aloadn zi_153_66 rfl rfl
theorem ze_153_66_n : z_T g d 153 66 (v0 :: .null :: ls) st h P = z_T g d 153 67 (v0 :: .null :: ls) (.null :: st) h P := zt_aloadnN zi_153_66 rfl rfl
theorem zi_153_67 : z_ins 153 67 = some (.getfield 202, 3) := by decide +kernel
theorem ze_153_67 : z_T g d 153 67 ls (.ref a :: st) h P = z_gR h.1 a 10 8 (fun x => z_T g d 153 70 ls (x :: st) h P) := zt_getR zi_153_67 ((congrArg (fun o => z_fl o 202) zo_153).trans zf_LatinRectanglesLaw_202)
theorem zi_153_70 : z_ins 153 70 = some (.iload_n 3, 1) := by decide +kernel
theorem ze_153_70 : z_T g d 153 70 (v0 :: v1 :: v2 :: .int x :: ls) st h P = z_T g d 153 71 (v0 :: v1 :: v2 :: .int x :: ls) (.int x :: st) h P := zt_iloadn zi_153_70 rfl rfl
theorem zi_153_71 : z_ins 153 71 = some (.aaload, 1) := by decide +kernel
theorem ze_153_71 : z_T g d 153 71 ls (.int x :: .ref a :: st) h P = z_qL h.1 a x (fun v => z_T g d 153 72 ls (.ref v :: st) h P) := zt_aaload zi_153_71
theorem zi_153_72 : z_ins 153 72 = some (.iload 4, 2) := by decide +kernel
theorem ze_153_72 : z_T g d 153 72 (v0 :: v1 :: v2 :: v3 :: .int x :: ls) st h P = z_T g d 153 74 (v0 :: v1 :: v2 :: v3 :: .int x :: ls) (.int x :: st) h P := zt_iload zi_153_72 rfl
theorem zi_153_74 : z_ins 153 74 = some (.iaload, 1) := by decide +kernel
theorem ze_153_74 : z_T g d 153 74 ls (.int x :: .ref a :: st) h P = z_aL h.1 a z_tI x (fun v => z_T g d 153 75 ls (.int v :: st) h P) := zt_iaload zi_153_74
theorem zi_153_75 : z_ins 153 75 = some (.if_icmp .eq 5, 3) := by decide +kernel
theorem ze_153_75 : z_T g d 153 75 ls (.int y :: .int x :: st) h P = (if x = y then z_T g d 153 80 ls st h P else z_T g d 153 78 ls st h P) := zt_icmpeq zi_153_75 (by decide)
theorem zi_153_78 : z_ins 153 78 = some (.iconst 0, 1) := by decide +kernel
theorem ze_153_78 : z_T g d 153 78 ls st h P = z_T g d 153 79 ls (.int (nI 0) :: st) h P := zt_iconst zi_153_78 rfl
theorem zi_153_79 : z_ins 153 79 = some (.ireturn, 1) := by decide +kernel
theorem ze_153_79 : z_T g d 153 79 ls [.int x] h P = ((x = nI 0 ∨ x = nI 1) ∧ P (.inr (some (.int x)), h)) := zt_zreturn zi_153_79 zr_153
theorem zi_153_80 : z_ins 153 80 = some (.aload_n 1, 1) := by decide +kernel
theorem ze_153_80 : z_T g d 153 80 (v0 :: .ref a :: ls) st h P = z_T g d 153 81 (v0 :: .ref a :: ls) (.ref a :: st) h P := zt_aloadn zi_153_80 rfl rfl
theorem ze_153_80_n : z_T g d 153 80 (v0 :: .null :: ls) st h P = z_T g d 153 81 (v0 :: .null :: ls) (.null :: st) h P := zt_aloadnN zi_153_80 rfl rfl
theorem zi_153_81 : z_ins 153 81 = some (.sipush 400, 3) := by decide +kernel
theorem ze_153_81 : z_T g d 153 81 ls st h P = z_T g d 153 84 ls (.int (nI 400) :: st) h P := zt_sipush zi_153_81 rfl
theorem zi_153_84 : z_ins 153 84 = some (.invokevirtual 189, 3) := by decide +kernel
theorem ze_153_84 : z_T g d 153 84 ls (.int x0 :: .ref a :: st) h P = ((z_okS 8 st = true ∧ z_gO h.1 a 10 ∧ 0 < d) ∧ z_Ca g (d - 1) 98 [.ref a, .int x0] h (fun r => z_k r (fun v h' => z_T g d 153 87 ls (z_push v st) h' P) P)) := zt_cV (as := [.int x0]) (kk := 0) zi_153_84 rfl (zt_call zj_153 zh_153) (z_opV ((congrArg (fun o => z_lookup z_cns (o, 189)) zo_153).trans zq_cns_LatinRectanglesLaw_189) ((congrArg (fun o => z_lookup z_prs (o, 189)) zo_153).trans zq_prs_LatinRectanglesLaw_189)) ((congrArg (fun o => z_clk o 189) zo_153).trans zk_LatinRectanglesLaw_189) rfl rfl rfl rfl (z_rcv0 zc_98)
theorem zi_153_87 : z_ins 153 87 = some (.aload_n 1, 1) := by decide +kernel
theorem ze_153_87 : z_T g d 153 87 (v0 :: .ref a :: ls) st h P = z_T g d 153 88 (v0 :: .ref a :: ls) (.ref a :: st) h P := zt_aloadn zi_153_87 rfl rfl
theorem ze_153_87_n : z_T g d 153 87 (v0 :: .null :: ls) st h P = z_T g d 153 88 (v0 :: .null :: ls) (.null :: st) h P := zt_aloadnN zi_153_87 rfl rfl
theorem zi_153_88 : z_ins 153 88 = some (.getfield 196, 3) := by decide +kernel
theorem ze_153_88 : z_T g d 153 88 ls (.ref a :: st) h P = z_gI h.1 a 10 7 (fun x => z_T g d 153 91 ls (.int x :: st) h P) := zt_getI zi_153_88 ((congrArg (fun o => z_fl o 196) zo_153).trans zf_LatinRectanglesLaw_196)
theorem zi_153_91 : z_ins 153 91 = some (.sipush 400, 3) := by decide +kernel
theorem ze_153_91 : z_T g d 153 91 ls st h P = z_T g d 153 94 ls (.int (nI 400) :: st) h P := zt_sipush zi_153_91 rfl
theorem zi_153_94 : z_ins 153 94 = some (.if_icmp .ge 24, 3) := by decide +kernel
theorem ze_153_94 : z_T g d 153 94 ls (.int y :: .int x :: st) h P = (if x < y then z_T g d 153 97 ls st h P else z_T g d 153 118 ls st h P) := zt_icmpge zi_153_94 (by decide)
theorem zi_153_97 : z_ins 153 97 = some (.aload_n 0, 1) := by decide +kernel
theorem ze_153_97 : z_T g d 153 97 (.ref a :: ls) st h P = z_T g d 153 98 (.ref a :: ls) (.ref a :: st) h P := zt_aloadn zi_153_97 rfl rfl
theorem ze_153_97_n : z_T g d 153 97 (.null :: ls) st h P = z_T g d 153 98 (.null :: ls) (.null :: st) h P := zt_aloadnN zi_153_97 rfl rfl
theorem zi_153_98 : z_ins 153 98 = some (.iload_n 3, 1) := by decide +kernel
theorem ze_153_98 : z_T g d 153 98 (v0 :: v1 :: v2 :: .int x :: ls) st h P = z_T g d 153 99 (v0 :: v1 :: v2 :: .int x :: ls) (.int x :: st) h P := zt_iloadn zi_153_98 rfl rfl
theorem zi_153_99 : z_ins 153 99 = some (.iload 4, 2) := by decide +kernel
theorem ze_153_99 : z_T g d 153 99 (v0 :: v1 :: v2 :: v3 :: .int x :: ls) st h P = z_T g d 153 101 (v0 :: v1 :: v2 :: v3 :: .int x :: ls) (.int x :: st) h P := zt_iload zi_153_99 rfl
theorem zi_153_101 : z_ins 153 101 = some (.invokevirtual 205, 3) := by decide +kernel
theorem ze_153_101 : z_T g d 153 101 ls (.int x1 :: .int x0 :: .ref a :: st) h P = ((z_okS 8 st = true ∧ z_gO h.1 a 9 ∧ 0 < d) ∧ z_Ca g (d - 1) 78 [.ref a, .int x0, .int x1] h (fun r => z_k r (fun v h' => z_T g d 153 104 ls (z_push v st) h' P) P)) := zt_cV (as := [.int x0, .int x1]) (kk := 0) zi_153_101 rfl (zt_call zj_153 zh_153) (z_opV ((congrArg (fun o => z_lookup z_cns (o, 205)) zo_153).trans zq_cns_LatinRectanglesLaw_205) ((congrArg (fun o => z_lookup z_prs (o, 205)) zo_153).trans zq_prs_LatinRectanglesLaw_205)) ((congrArg (fun o => z_clk o 205) zo_153).trans zk_LatinRectanglesLaw_205) rfl rfl rfl rfl (z_rcv0 zc_78)
theorem zi_153_104 : z_ins 153 104 = some (.aload_n 1, 1) := by decide +kernel
theorem ze_153_104 : z_T g d 153 104 (v0 :: .ref a :: ls) st h P = z_T g d 153 105 (v0 :: .ref a :: ls) (.ref a :: st) h P := zt_aloadn zi_153_104 rfl rfl
theorem ze_153_104_n : z_T g d 153 104 (v0 :: .null :: ls) st h P = z_T g d 153 105 (v0 :: .null :: ls) (.null :: st) h P := zt_aloadnN zi_153_104 rfl rfl
theorem zi_153_105 : z_ins 153 105 = some (.getfield 208, 3) := by decide +kernel
theorem ze_153_105 : z_T g d 153 105 ls (.ref a :: st) h P = z_gR h.1 a 10 9 (fun x => z_T g d 153 108 ls (x :: st) h P) := zt_getR zi_153_105 ((congrArg (fun o => z_fl o 208) zo_153).trans zf_LatinRectanglesLaw_208)
theorem zi_153_108 : z_ins 153 108 = some (.iload_n 3, 1) := by decide +kernel
theorem ze_153_108 : z_T g d 153 108 (v0 :: v1 :: v2 :: .int x :: ls) st h P = z_T g d 153 109 (v0 :: v1 :: v2 :: .int x :: ls) (.int x :: st) h P := zt_iloadn zi_153_108 rfl rfl
theorem zi_153_109 : z_ins 153 109 = some (.aaload, 1) := by decide +kernel
theorem ze_153_109 : z_T g d 153 109 ls (.int x :: .ref a :: st) h P = z_qL h.1 a x (fun v => z_T g d 153 110 ls (.ref v :: st) h P) := zt_aaload zi_153_109
theorem zi_153_110 : z_ins 153 110 = some (.iload 4, 2) := by decide +kernel
theorem ze_153_110 : z_T g d 153 110 (v0 :: v1 :: v2 :: v3 :: .int x :: ls) st h P = z_T g d 153 112 (v0 :: v1 :: v2 :: v3 :: .int x :: ls) (.int x :: st) h P := zt_iload zi_153_110 rfl
theorem zi_153_112 : z_ins 153 112 = some (.iaload, 1) := by decide +kernel
theorem ze_153_112 : z_T g d 153 112 ls (.int x :: .ref a :: st) h P = z_aL h.1 a z_tI x (fun v => z_T g d 153 113 ls (.int v :: st) h P) := zt_iaload zi_153_112
theorem zi_153_113 : z_ins 153 113 = some (.if_icmp .eq 5, 3) := by decide +kernel
theorem ze_153_113 : z_T g d 153 113 ls (.int y :: .int x :: st) h P = (if x = y then z_T g d 153 118 ls st h P else z_T g d 153 116 ls st h P) := zt_icmpeq zi_153_113 (by decide)
theorem zi_153_116 : z_ins 153 116 = some (.iconst 0, 1) := by decide +kernel
theorem ze_153_116 : z_T g d 153 116 ls st h P = z_T g d 153 117 ls (.int (nI 0) :: st) h P := zt_iconst zi_153_116 rfl
theorem zi_153_117 : z_ins 153 117 = some (.ireturn, 1) := by decide +kernel
theorem ze_153_117 : z_T g d 153 117 ls [.int x] h P = ((x = nI 0 ∨ x = nI 1) ∧ P (.inr (some (.int x)), h)) := zt_zreturn zi_153_117 zr_153
theorem zi_153_118 : z_ins 153 118 = some (.aload_n 0, 1) := by decide +kernel
theorem ze_153_118 : z_T g d 153 118 (.ref a :: ls) st h P = z_T g d 153 119 (.ref a :: ls) (.ref a :: st) h P := zt_aloadn zi_153_118 rfl rfl
theorem ze_153_118_n : z_T g d 153 118 (.null :: ls) st h P = z_T g d 153 119 (.null :: ls) (.null :: st) h P := zt_aloadnN zi_153_118 rfl rfl
theorem zi_153_119 : z_ins 153 119 = some (.invokevirtual 211, 3) := by decide +kernel
theorem ze_153_119 : z_T g d 153 119 ls (.ref a :: st) h P = ((z_okS 8 st = true ∧ z_gO h.1 a 9 ∧ 0 < d) ∧ z_Ca g (d - 1) 79 [.ref a] h (fun r => z_k r (fun v h' => z_T g d 153 122 ls (z_push v st) h' P) P)) := zt_cV (as := []) (kk := 0) zi_153_119 rfl (zt_call zj_153 zh_153) (z_opV ((congrArg (fun o => z_lookup z_cns (o, 211)) zo_153).trans zq_cns_LatinRectanglesLaw_211) ((congrArg (fun o => z_lookup z_prs (o, 211)) zo_153).trans zq_prs_LatinRectanglesLaw_211)) ((congrArg (fun o => z_clk o 211) zo_153).trans zk_LatinRectanglesLaw_211) rfl rfl rfl rfl (z_rcv0 zc_79)
theorem zi_153_122 : z_ins 153 122 = some (.aload_n 1, 1) := by decide +kernel
theorem ze_153_122 : z_T g d 153 122 (v0 :: .ref a :: ls) st h P = z_T g d 153 123 (v0 :: .ref a :: ls) (.ref a :: st) h P := zt_aloadn zi_153_122 rfl rfl
theorem ze_153_122_n : z_T g d 153 122 (v0 :: .null :: ls) st h P = z_T g d 153 123 (v0 :: .null :: ls) (.null :: st) h P := zt_aloadnN zi_153_122 rfl rfl
theorem zi_153_123 : z_ins 153 123 = some (.invokevirtual 214, 3) := by decide +kernel
theorem ze_153_123 : z_T g d 153 123 ls (.ref a :: st) h P = ((z_okS 8 st = true ∧ z_gO h.1 a 10 ∧ 0 < d) ∧ z_Ca g (d - 1) 101 [.ref a] h (fun r => z_k r (fun v h' => z_T g d 153 126 ls (z_push v st) h' P) P)) := zt_cV (as := []) (kk := 0) zi_153_123 rfl (zt_call zj_153 zh_153) (z_opV ((congrArg (fun o => z_lookup z_cns (o, 214)) zo_153).trans zq_cns_LatinRectanglesLaw_214) ((congrArg (fun o => z_lookup z_prs (o, 214)) zo_153).trans zq_prs_LatinRectanglesLaw_214)) ((congrArg (fun o => z_clk o 214) zo_153).trans zk_LatinRectanglesLaw_214) rfl rfl rfl rfl (z_rcv0 zc_101)
theorem zi_153_126 : z_ins 153 126 = some (.if_icmp .ne 47, 3) := by decide +kernel
theorem ze_153_126 : z_T g d 153 126 ls (.int y :: .int x :: st) h P = (if x = y then z_T g d 153 129 ls st h P else z_T g d 153 173 ls st h P) := zt_icmpne zi_153_126 (by decide)
theorem zi_153_129 : z_ins 153 129 = some (.aload_n 0, 1) := by decide +kernel
theorem ze_153_129 : z_T g d 153 129 (.ref a :: ls) st h P = z_T g d 153 130 (.ref a :: ls) (.ref a :: st) h P := zt_aloadn zi_153_129 rfl rfl
theorem ze_153_129_n : z_T g d 153 129 (.null :: ls) st h P = z_T g d 153 130 (.null :: ls) (.null :: st) h P := zt_aloadnN zi_153_129 rfl rfl
theorem zi_153_130 : z_ins 153 130 = some (.iload_n 3, 1) := by decide +kernel
theorem ze_153_130 : z_T g d 153 130 (v0 :: v1 :: v2 :: .int x :: ls) st h P = z_T g d 153 131 (v0 :: v1 :: v2 :: .int x :: ls) (.int x :: st) h P := zt_iloadn zi_153_130 rfl rfl
theorem zi_153_131 : z_ins 153 131 = some (.iload 4, 2) := by decide +kernel
theorem ze_153_131 : z_T g d 153 131 (v0 :: v1 :: v2 :: v3 :: .int x :: ls) st h P = z_T g d 153 133 (v0 :: v1 :: v2 :: v3 :: .int x :: ls) (.int x :: st) h P := zt_iload zi_153_131 rfl
theorem zi_153_133 : z_ins 153 133 = some (.invokevirtual 215, 3) := by decide +kernel
theorem ze_153_133 : z_T g d 153 133 ls (.int x1 :: .int x0 :: .ref a :: st) h P = ((z_okS 8 st = true ∧ z_gO h.1 a 9 ∧ 0 < d) ∧ z_Ca g (d - 1) 80 [.ref a, .int x0, .int x1] h (fun r => z_k r (fun v h' => z_T g d 153 136 ls (z_push v st) h' P) P)) := zt_cV (as := [.int x0, .int x1]) (kk := 0) zi_153_133 rfl (zt_call zj_153 zh_153) (z_opV ((congrArg (fun o => z_lookup z_cns (o, 215)) zo_153).trans zq_cns_LatinRectanglesLaw_215) ((congrArg (fun o => z_lookup z_prs (o, 215)) zo_153).trans zq_prs_LatinRectanglesLaw_215)) ((congrArg (fun o => z_clk o 215) zo_153).trans zk_LatinRectanglesLaw_215) rfl rfl rfl rfl (z_rcv0 zc_80)
theorem zi_153_136 : z_ins 153 136 = some (.aload_n 1, 1) := by decide +kernel
theorem ze_153_136 : z_T g d 153 136 (v0 :: .ref a :: ls) st h P = z_T g d 153 137 (v0 :: .ref a :: ls) (.ref a :: st) h P := zt_aloadn zi_153_136 rfl rfl
theorem ze_153_136_n : z_T g d 153 136 (v0 :: .null :: ls) st h P = z_T g d 153 137 (v0 :: .null :: ls) (.null :: st) h P := zt_aloadnN zi_153_136 rfl rfl
theorem zi_153_137 : z_ins 153 137 = some (.getfield 218, 3) := by decide +kernel
theorem ze_153_137 : z_T g d 153 137 ls (.ref a :: st) h P = z_gR h.1 a 10 11 (fun x => z_T g d 153 140 ls (x :: st) h P) := zt_getR zi_153_137 ((congrArg (fun o => z_fl o 218) zo_153).trans zf_LatinRectanglesLaw_218)
theorem zi_153_140 : z_ins 153 140 = some (.iload_n 3, 1) := by decide +kernel
theorem ze_153_140 : z_T g d 153 140 (v0 :: v1 :: v2 :: .int x :: ls) st h P = z_T g d 153 141 (v0 :: v1 :: v2 :: .int x :: ls) (.int x :: st) h P := zt_iloadn zi_153_140 rfl rfl
theorem zi_153_141 : z_ins 153 141 = some (.aaload, 1) := by decide +kernel
theorem ze_153_141 : z_T g d 153 141 ls (.int x :: .ref a :: st) h P = z_qL h.1 a x (fun v => z_T g d 153 142 ls (.ref v :: st) h P) := zt_aaload zi_153_141
theorem zi_153_142 : z_ins 153 142 = some (.iload 4, 2) := by decide +kernel
theorem ze_153_142 : z_T g d 153 142 (v0 :: v1 :: v2 :: v3 :: .int x :: ls) st h P = z_T g d 153 144 (v0 :: v1 :: v2 :: v3 :: .int x :: ls) (.int x :: st) h P := zt_iload zi_153_142 rfl
theorem zi_153_144 : z_ins 153 144 = some (.iaload, 1) := by decide +kernel
theorem ze_153_144 : z_T g d 153 144 ls (.int x :: .ref a :: st) h P = z_aL h.1 a z_tI x (fun v => z_T g d 153 145 ls (.int v :: st) h P) := zt_iaload zi_153_144
theorem zi_153_145 : z_ins 153 145 = some (.if_icmp .ne 28, 3) := by decide +kernel
theorem ze_153_145 : z_T g d 153 145 ls (.int y :: .int x :: st) h P = (if x = y then z_T g d 153 148 ls st h P else z_T g d 153 173 ls st h P) := zt_icmpne zi_153_145 (by decide)
theorem zi_153_148 : z_ins 153 148 = some (.aload_n 0, 1) := by decide +kernel
theorem ze_153_148 : z_T g d 153 148 (.ref a :: ls) st h P = z_T g d 153 149 (.ref a :: ls) (.ref a :: st) h P := zt_aloadn zi_153_148 rfl rfl
theorem ze_153_148_n : z_T g d 153 148 (.null :: ls) st h P = z_T g d 153 149 (.null :: ls) (.null :: st) h P := zt_aloadnN zi_153_148 rfl rfl
theorem zi_153_149 : z_ins 153 149 = some (.iload_n 3, 1) := by decide +kernel
theorem ze_153_149 : z_T g d 153 149 (v0 :: v1 :: v2 :: .int x :: ls) st h P = z_T g d 153 150 (v0 :: v1 :: v2 :: .int x :: ls) (.int x :: st) h P := zt_iloadn zi_153_149 rfl rfl
theorem zi_153_150 : z_ins 153 150 = some (.invokevirtual 221, 3) := by decide +kernel
theorem ze_153_150 : z_T g d 153 150 ls (.int x0 :: .ref a :: st) h P = ((z_okS 8 st = true ∧ z_gO h.1 a 9 ∧ 0 < d) ∧ z_Ca g (d - 1) 81 [.ref a, .int x0] h (fun r => z_k r (fun v h' => z_T g d 153 153 ls (z_push v st) h' P) P)) := zt_cV (as := [.int x0]) (kk := 0) zi_153_150 rfl (zt_call zj_153 zh_153) (z_opV ((congrArg (fun o => z_lookup z_cns (o, 221)) zo_153).trans zq_cns_LatinRectanglesLaw_221) ((congrArg (fun o => z_lookup z_prs (o, 221)) zo_153).trans zq_prs_LatinRectanglesLaw_221)) ((congrArg (fun o => z_clk o 221) zo_153).trans zk_LatinRectanglesLaw_221) rfl rfl rfl rfl (z_rcv0 zc_81)
theorem zi_153_153 : z_ins 153 153 = some (.aload_n 1, 1) := by decide +kernel
theorem ze_153_153 : z_T g d 153 153 (v0 :: .ref a :: ls) st h P = z_T g d 153 154 (v0 :: .ref a :: ls) (.ref a :: st) h P := zt_aloadn zi_153_153 rfl rfl
theorem ze_153_153_n : z_T g d 153 153 (v0 :: .null :: ls) st h P = z_T g d 153 154 (v0 :: .null :: ls) (.null :: st) h P := zt_aloadnN zi_153_153 rfl rfl
theorem zi_153_154 : z_ins 153 154 = some (.getfield 224, 3) := by decide +kernel
theorem ze_153_154 : z_T g d 153 154 ls (.ref a :: st) h P = z_gR h.1 a 10 10 (fun x => z_T g d 153 157 ls (x :: st) h P) := zt_getR zi_153_154 ((congrArg (fun o => z_fl o 224) zo_153).trans zf_LatinRectanglesLaw_224)
theorem zi_153_157 : z_ins 153 157 = some (.ifnonnull 7, 3) := by decide +kernel
theorem ze_153_157 : z_T g d 153 157 ls (.ref a :: st) h P = z_T g d 153 164 ls st h P := zt_nnulR zi_153_157 (by decide)
theorem ze_153_157_n : z_T g d 153 157 ls (.null :: st) h P = z_T g d 153 160 ls st h P := zt_nnulN zi_153_157
theorem ze_153_157_s : z_T g d 153 157 ls (.retAddr b :: st) h P = z_T g d 153 164 ls st h P := zt_nnulS zi_153_157 (by decide)
theorem zi_153_160 : z_ins 153 160 = some (.iconst (-1), 1) := by decide +kernel
theorem ze_153_160 : z_T g d 153 160 ls st h P = z_T g d 153 161 ls (.int (-1) :: st) h P := zt_iconst zi_153_160 rfl
theorem zi_153_161 : z_ins 153 161 = some (.goto 9, 3) := by decide +kernel
theorem ze_153_161 : z_T g d 153 161 ls st h P = z_T g d 153 170 ls st h P := zt_goto zi_153_161 (by decide)
theorem zi_153_164 : z_ins 153 164 = some (.aload_n 1, 1) := by decide +kernel
theorem ze_153_164 : z_T g d 153 164 (v0 :: .ref a :: ls) st h P = z_T g d 153 165 (v0 :: .ref a :: ls) (.ref a :: st) h P := zt_aloadn zi_153_164 rfl rfl
theorem ze_153_164_n : z_T g d 153 164 (v0 :: .null :: ls) st h P = z_T g d 153 165 (v0 :: .null :: ls) (.null :: st) h P := zt_aloadnN zi_153_164 rfl rfl
theorem zi_153_165 : z_ins 153 165 = some (.getfield 224, 3) := by decide +kernel
theorem ze_153_165 : z_T g d 153 165 ls (.ref a :: st) h P = z_gR h.1 a 10 10 (fun x => z_T g d 153 168 ls (x :: st) h P) := zt_getR zi_153_165 ((congrArg (fun o => z_fl o 224) zo_153).trans zf_LatinRectanglesLaw_224)
theorem zi_153_168 : z_ins 153 168 = some (.iload_n 3, 1) := by decide +kernel
theorem ze_153_168 : z_T g d 153 168 (v0 :: v1 :: v2 :: .int x :: ls) st h P = z_T g d 153 169 (v0 :: v1 :: v2 :: .int x :: ls) (.int x :: st) h P := zt_iloadn zi_153_168 rfl rfl
theorem zi_153_169 : z_ins 153 169 = some (.iaload, 1) := by decide +kernel
theorem ze_153_169 : z_T g d 153 169 ls (.int x :: .ref a :: st) h P = z_aL h.1 a z_tI x (fun v => z_T g d 153 170 ls (.int v :: st) h P) := zt_iaload zi_153_169
theorem zi_153_170 : z_ins 153 170 = some (.if_icmp .eq 5, 3) := by decide +kernel
theorem ze_153_170 : z_T g d 153 170 ls (.int y :: .int x :: st) h P = (if x = y then z_T g d 153 175 ls st h P else z_T g d 153 173 ls st h P) := zt_icmpeq zi_153_170 (by decide)
theorem zi_153_173 : z_ins 153 173 = some (.iconst 0, 1) := by decide +kernel
theorem ze_153_173 : z_T g d 153 173 ls st h P = z_T g d 153 174 ls (.int (nI 0) :: st) h P := zt_iconst zi_153_173 rfl
theorem zi_153_174 : z_ins 153 174 = some (.ireturn, 1) := by decide +kernel
theorem ze_153_174 : z_T g d 153 174 ls [.int x] h P = ((x = nI 0 ∨ x = nI 1) ∧ P (.inr (some (.int x)), h)) := zt_zreturn zi_153_174 zr_153
theorem zi_153_175 : z_ins 153 175 = some (.iconst 0, 1) := by decide +kernel
theorem ze_153_175 : z_T g d 153 175 ls st h P = z_T g d 153 176 ls (.int (nI 0) :: st) h P := zt_iconst zi_153_175 rfl
theorem zi_153_176 : z_ins 153 176 = some (.istore 6, 2) := by decide +kernel
theorem ze_153_176 : z_T g d 153 176 (v0 :: v1 :: v2 :: v3 :: v4 :: v5 :: v6 :: ls) (.int x :: st) h P = z_T g d 153 178 (v0 :: v1 :: v2 :: v3 :: v4 :: v5 :: .int x :: ls) st h P := zt_istore zi_153_176 (Nat.le_add_left 7 _)
theorem zi_153_178 : z_ins 153 178 = some (.iconst 0, 1) := by decide +kernel
theorem ze_153_178 : z_T g d 153 178 ls st h P = z_T g d 153 179 ls (.int (nI 0) :: st) h P := zt_iconst zi_153_178 rfl
theorem zi_153_179 : z_ins 153 179 = some (.istore 7, 2) := by decide +kernel
theorem ze_153_179 : z_T g d 153 179 (v0 :: v1 :: v2 :: v3 :: v4 :: v5 :: v6 :: v7 :: ls) (.int x :: st) h P = z_T g d 153 181 (v0 :: v1 :: v2 :: v3 :: v4 :: v5 :: v6 :: .int x :: ls) st h P := zt_istore zi_153_179 (Nat.le_add_left 8 _)
theorem zi_153_181 : z_ins 153 181 = some (.iload 7, 2) := by decide +kernel
theorem ze_153_181 : z_T g d 153 181 (v0 :: v1 :: v2 :: v3 :: v4 :: v5 :: v6 :: .int x :: ls) st h P = z_T g d 153 183 (v0 :: v1 :: v2 :: v3 :: v4 :: v5 :: v6 :: .int x :: ls) (.int x :: st) h P := zt_iload zi_153_181 rfl
theorem zi_153_183 : z_ins 153 183 = some (.aload_n 1, 1) := by decide +kernel
theorem ze_153_183 : z_T g d 153 183 (v0 :: .ref a :: ls) st h P = z_T g d 153 184 (v0 :: .ref a :: ls) (.ref a :: st) h P := zt_aloadn zi_153_183 rfl rfl
theorem ze_153_183_n : z_T g d 153 183 (v0 :: .null :: ls) st h P = z_T g d 153 184 (v0 :: .null :: ls) (.null :: st) h P := zt_aloadnN zi_153_183 rfl rfl
theorem zi_153_184 : z_ins 153 184 = some (.getfield 48, 3) := by decide +kernel
theorem ze_153_184 : z_T g d 153 184 ls (.ref a :: st) h P = z_gI h.1 a 10 0 (fun x => z_T g d 153 187 ls (.int x :: st) h P) := zt_getI zi_153_184 ((congrArg (fun o => z_fl o 48) zo_153).trans zf_LatinRectanglesLaw_48)
theorem zi_153_187 : z_ins 153 187 = some (.if_icmp .ge 190, 3) := by decide +kernel
theorem ze_153_187 : z_T g d 153 187 ls (.int y :: .int x :: st) h P = (if x < y then z_T g d 153 190 ls st h P else z_T g d 153 377 ls st h P) := zt_icmpge zi_153_187 (by decide)
theorem zi_153_190 : z_ins 153 190 = some (.iload 7, 2) := by decide +kernel
theorem ze_153_190 : z_T g d 153 190 (v0 :: v1 :: v2 :: v3 :: v4 :: v5 :: v6 :: .int x :: ls) st h P = z_T g d 153 192 (v0 :: v1 :: v2 :: v3 :: v4 :: v5 :: v6 :: .int x :: ls) (.int x :: st) h P := zt_iload zi_153_190 rfl
theorem zi_153_192 : z_ins 153 192 = some (.iconst 1, 1) := by decide +kernel
theorem ze_153_192 : z_T g d 153 192 ls st h P = z_T g d 153 193 ls (.int (nI 1) :: st) h P := zt_iconst zi_153_192 rfl
theorem zi_153_193 : z_ins 153 193 = some (.iadd, 1) := by decide +kernel
theorem ze_153_193 : z_T g d 153 193 ls (.int y :: .int x :: st) h P = z_T g d 153 194 ls (.int (x + y) :: st) h P := zt_bin (f := fun x y => x + y) zi_153_193 rfl (fun _ _ _ => rfl)
theorem zi_153_194 : z_ins 153 194 = some (.istore 8, 2) := by decide +kernel
theorem ze_153_194 : z_T g d 153 194 (v0 :: v1 :: v2 :: v3 :: v4 :: v5 :: v6 :: v7 :: v8 :: ls) (.int x :: st) h P = z_T g d 153 196 (v0 :: v1 :: v2 :: v3 :: v4 :: v5 :: v6 :: v7 :: .int x :: ls) st h P := zt_istore zi_153_194 (Nat.le_add_left 9 _)
theorem zi_153_196 : z_ins 153 196 = some (.iload 8, 2) := by decide +kernel
theorem ze_153_196 : z_T g d 153 196 (v0 :: v1 :: v2 :: v3 :: v4 :: v5 :: v6 :: v7 :: .int x :: ls) st h P = z_T g d 153 198 (v0 :: v1 :: v2 :: v3 :: v4 :: v5 :: v6 :: v7 :: .int x :: ls) (.int x :: st) h P := zt_iload zi_153_196 rfl
theorem zi_153_198 : z_ins 153 198 = some (.aload_n 1, 1) := by decide +kernel
theorem ze_153_198 : z_T g d 153 198 (v0 :: .ref a :: ls) st h P = z_T g d 153 199 (v0 :: .ref a :: ls) (.ref a :: st) h P := zt_aloadn zi_153_198 rfl rfl
theorem ze_153_198_n : z_T g d 153 198 (v0 :: .null :: ls) st h P = z_T g d 153 199 (v0 :: .null :: ls) (.null :: st) h P := zt_aloadnN zi_153_198 rfl rfl
theorem zi_153_199 : z_ins 153 199 = some (.getfield 48, 3) := by decide +kernel
theorem ze_153_199 : z_T g d 153 199 ls (.ref a :: st) h P = z_gI h.1 a 10 0 (fun x => z_T g d 153 202 ls (.int x :: st) h P) := zt_getI zi_153_199 ((congrArg (fun o => z_fl o 48) zo_153).trans zf_LatinRectanglesLaw_48)
theorem zi_153_202 : z_ins 153 202 = some (.if_icmp .ge 169, 3) := by decide +kernel
theorem ze_153_202 : z_T g d 153 202 ls (.int y :: .int x :: st) h P = (if x < y then z_T g d 153 205 ls st h P else z_T g d 153 371 ls st h P) := zt_icmpge zi_153_202 (by decide)
theorem zi_153_205 : z_ins 153 205 = some (.iconst 0, 1) := by decide +kernel
theorem ze_153_205 : z_T g d 153 205 ls st h P = z_T g d 153 206 ls (.int (nI 0) :: st) h P := zt_iconst zi_153_205 rfl
theorem zi_153_206 : z_ins 153 206 = some (.istore 9, 2) := by decide +kernel
theorem ze_153_206 : z_T g d 153 206 (v0 :: v1 :: v2 :: v3 :: v4 :: v5 :: v6 :: v7 :: v8 :: v9 :: ls) (.int x :: st) h P = z_T g d 153 208 (v0 :: v1 :: v2 :: v3 :: v4 :: v5 :: v6 :: v7 :: v8 :: .int x :: ls) st h P := zt_istore zi_153_206 (Nat.le_add_left 10 _)
theorem zi_153_208 : z_ins 153 208 = some (.iload 9, 2) := by decide +kernel
theorem ze_153_208 : z_T g d 153 208 (v0 :: v1 :: v2 :: v3 :: v4 :: v5 :: v6 :: v7 :: v8 :: .int x :: ls) st h P = z_T g d 153 210 (v0 :: v1 :: v2 :: v3 :: v4 :: v5 :: v6 :: v7 :: v8 :: .int x :: ls) (.int x :: st) h P := zt_iload zi_153_208 rfl
theorem zi_153_210 : z_ins 153 210 = some (.aload_n 1, 1) := by decide +kernel
theorem ze_153_210 : z_T g d 153 210 (v0 :: .ref a :: ls) st h P = z_T g d 153 211 (v0 :: .ref a :: ls) (.ref a :: st) h P := zt_aloadn zi_153_210 rfl rfl
theorem ze_153_210_n : z_T g d 153 210 (v0 :: .null :: ls) st h P = z_T g d 153 211 (v0 :: .null :: ls) (.null :: st) h P := zt_aloadnN zi_153_210 rfl rfl
theorem zi_153_211 : z_ins 153 211 = some (.getfield 105, 3) := by decide +kernel
theorem ze_153_211 : z_T g d 153 211 ls (.ref a :: st) h P = z_gI h.1 a 10 1 (fun x => z_T g d 153 214 ls (.int x :: st) h P) := zt_getI zi_153_211 ((congrArg (fun o => z_fl o 105) zo_153).trans zf_LatinRectanglesLaw_105)
theorem zi_153_214 : z_ins 153 214 = some (.if_icmp .ge 105, 3) := by decide +kernel
theorem ze_153_214 : z_T g d 153 214 ls (.int y :: .int x :: st) h P = (if x < y then z_T g d 153 217 ls st h P else z_T g d 153 319 ls st h P) := zt_icmpge zi_153_214 (by decide)
theorem zi_153_217 : z_ins 153 217 = some (.iload 9, 2) := by decide +kernel
theorem ze_153_217 : z_T g d 153 217 (v0 :: v1 :: v2 :: v3 :: v4 :: v5 :: v6 :: v7 :: v8 :: .int x :: ls) st h P = z_T g d 153 219 (v0 :: v1 :: v2 :: v3 :: v4 :: v5 :: v6 :: v7 :: v8 :: .int x :: ls) (.int x :: st) h P := zt_iload zi_153_217 rfl
theorem zi_153_219 : z_ins 153 219 = some (.iconst 1, 1) := by decide +kernel
theorem ze_153_219 : z_T g d 153 219 ls st h P = z_T g d 153 220 ls (.int (nI 1) :: st) h P := zt_iconst zi_153_219 rfl
theorem zi_153_220 : z_ins 153 220 = some (.iadd, 1) := by decide +kernel
theorem ze_153_220 : z_T g d 153 220 ls (.int y :: .int x :: st) h P = z_T g d 153 221 ls (.int (x + y) :: st) h P := zt_bin (f := fun x y => x + y) zi_153_220 rfl (fun _ _ _ => rfl)
theorem zi_153_221 : z_ins 153 221 = some (.istore 10, 2) := by decide +kernel
theorem ze_153_221 : z_T g d 153 221 (v0 :: v1 :: v2 :: v3 :: v4 :: v5 :: v6 :: v7 :: v8 :: v9 :: v10 :: ls) (.int x :: st) h P = z_T g d 153 223 (v0 :: v1 :: v2 :: v3 :: v4 :: v5 :: v6 :: v7 :: v8 :: v9 :: .int x :: ls) st h P := zt_istore zi_153_221 (Nat.le_add_left 11 _)
theorem zi_153_223 : z_ins 153 223 = some (.iload 10, 2) := by decide +kernel
theorem ze_153_223 : z_T g d 153 223 (v0 :: v1 :: v2 :: v3 :: v4 :: v5 :: v6 :: v7 :: v8 :: v9 :: .int x :: ls) st h P = z_T g d 153 225 (v0 :: v1 :: v2 :: v3 :: v4 :: v5 :: v6 :: v7 :: v8 :: v9 :: .int x :: ls) (.int x :: st) h P := zt_iload zi_153_223 rfl
theorem zi_153_225 : z_ins 153 225 = some (.aload_n 1, 1) := by decide +kernel
theorem ze_153_225 : z_T g d 153 225 (v0 :: .ref a :: ls) st h P = z_T g d 153 226 (v0 :: .ref a :: ls) (.ref a :: st) h P := zt_aloadn zi_153_225 rfl rfl
theorem ze_153_225_n : z_T g d 153 225 (v0 :: .null :: ls) st h P = z_T g d 153 226 (v0 :: .null :: ls) (.null :: st) h P := zt_aloadnN zi_153_225 rfl rfl
theorem zi_153_226 : z_ins 153 226 = some (.getfield 105, 3) := by decide +kernel
theorem ze_153_226 : z_T g d 153 226 ls (.ref a :: st) h P = z_gI h.1 a 10 1 (fun x => z_T g d 153 229 ls (.int x :: st) h P) := zt_getI zi_153_226 ((congrArg (fun o => z_fl o 105) zo_153).trans zf_LatinRectanglesLaw_105)
theorem zi_153_229 : z_ins 153 229 = some (.if_icmp .ge 84, 3) := by decide +kernel
theorem ze_153_229 : z_T g d 153 229 ls (.int y :: .int x :: st) h P = (if x < y then z_T g d 153 232 ls st h P else z_T g d 153 313 ls st h P) := zt_icmpge zi_153_229 (by decide)
theorem zi_153_232 : z_ins 153 232 = some (.aload_n 1, 1) := by decide +kernel
theorem ze_153_232 : z_T g d 153 232 (v0 :: .ref a :: ls) st h P = z_T g d 153 233 (v0 :: .ref a :: ls) (.ref a :: st) h P := zt_aloadn zi_153_232 rfl rfl
theorem ze_153_232_n : z_T g d 153 232 (v0 :: .null :: ls) st h P = z_T g d 153 233 (v0 :: .null :: ls) (.null :: st) h P := zt_aloadnN zi_153_232 rfl rfl
theorem zi_153_233 : z_ins 153 233 = some (.getfield 62, 3) := by decide +kernel
theorem ze_153_233 : z_T g d 153 233 ls (.ref a :: st) h P = z_gR h.1 a 10 4 (fun x => z_T g d 153 236 ls (x :: st) h P) := zt_getR zi_153_233 ((congrArg (fun o => z_fl o 62) zo_153).trans zf_LatinRectanglesLaw_62)
theorem zi_153_236 : z_ins 153 236 = some (.iload 7, 2) := by decide +kernel
theorem ze_153_236 : z_T g d 153 236 (v0 :: v1 :: v2 :: v3 :: v4 :: v5 :: v6 :: .int x :: ls) st h P = z_T g d 153 238 (v0 :: v1 :: v2 :: v3 :: v4 :: v5 :: v6 :: .int x :: ls) (.int x :: st) h P := zt_iload zi_153_236 rfl
theorem zi_153_238 : z_ins 153 238 = some (.aaload, 1) := by decide +kernel
theorem ze_153_238 : z_T g d 153 238 ls (.int x :: .ref a :: st) h P = z_qL h.1 a x (fun v => z_T g d 153 239 ls (.ref v :: st) h P) := zt_aaload zi_153_238
theorem zi_153_239 : z_ins 153 239 = some (.iload 9, 2) := by decide +kernel
theorem ze_153_239 : z_T g d 153 239 (v0 :: v1 :: v2 :: v3 :: v4 :: v5 :: v6 :: v7 :: v8 :: .int x :: ls) st h P = z_T g d 153 241 (v0 :: v1 :: v2 :: v3 :: v4 :: v5 :: v6 :: v7 :: v8 :: .int x :: ls) (.int x :: st) h P := zt_iload zi_153_239 rfl
theorem zi_153_241 : z_ins 153 241 = some (.iaload, 1) := by decide +kernel
theorem ze_153_241 : z_T g d 153 241 ls (.int x :: .ref a :: st) h P = z_aL h.1 a z_tI x (fun v => z_T g d 153 242 ls (.int v :: st) h P) := zt_iaload zi_153_241
theorem zi_153_242 : z_ins 153 242 = some (.ifCond .lt 65, 3) := by decide +kernel
theorem ze_153_242 : z_T g d 153 242 ls (.int x :: st) h P = (if x < nI 0 then z_T g d 153 307 ls st h P else z_T g d 153 245 ls st h P) := zt_iflt zi_153_242 (by decide)
theorem zi_153_245 : z_ins 153 245 = some (.aload_n 1, 1) := by decide +kernel
theorem ze_153_245 : z_T g d 153 245 (v0 :: .ref a :: ls) st h P = z_T g d 153 246 (v0 :: .ref a :: ls) (.ref a :: st) h P := zt_aloadn zi_153_245 rfl rfl
theorem ze_153_245_n : z_T g d 153 245 (v0 :: .null :: ls) st h P = z_T g d 153 246 (v0 :: .null :: ls) (.null :: st) h P := zt_aloadnN zi_153_245 rfl rfl
theorem zi_153_246 : z_ins 153 246 = some (.getfield 62, 3) := by decide +kernel
theorem ze_153_246 : z_T g d 153 246 ls (.ref a :: st) h P = z_gR h.1 a 10 4 (fun x => z_T g d 153 249 ls (x :: st) h P) := zt_getR zi_153_246 ((congrArg (fun o => z_fl o 62) zo_153).trans zf_LatinRectanglesLaw_62)
theorem zi_153_249 : z_ins 153 249 = some (.iload 7, 2) := by decide +kernel
theorem ze_153_249 : z_T g d 153 249 (v0 :: v1 :: v2 :: v3 :: v4 :: v5 :: v6 :: .int x :: ls) st h P = z_T g d 153 251 (v0 :: v1 :: v2 :: v3 :: v4 :: v5 :: v6 :: .int x :: ls) (.int x :: st) h P := zt_iload zi_153_249 rfl
theorem zi_153_251 : z_ins 153 251 = some (.aaload, 1) := by decide +kernel
theorem ze_153_251 : z_T g d 153 251 ls (.int x :: .ref a :: st) h P = z_qL h.1 a x (fun v => z_T g d 153 252 ls (.ref v :: st) h P) := zt_aaload zi_153_251
theorem zi_153_252 : z_ins 153 252 = some (.iload 10, 2) := by decide +kernel
theorem ze_153_252 : z_T g d 153 252 (v0 :: v1 :: v2 :: v3 :: v4 :: v5 :: v6 :: v7 :: v8 :: v9 :: .int x :: ls) st h P = z_T g d 153 254 (v0 :: v1 :: v2 :: v3 :: v4 :: v5 :: v6 :: v7 :: v8 :: v9 :: .int x :: ls) (.int x :: st) h P := zt_iload zi_153_252 rfl
theorem zi_153_254 : z_ins 153 254 = some (.iaload, 1) := by decide +kernel
theorem ze_153_254 : z_T g d 153 254 ls (.int x :: .ref a :: st) h P = z_aL h.1 a z_tI x (fun v => z_T g d 153 255 ls (.int v :: st) h P) := zt_iaload zi_153_254
theorem zi_153_255 : z_ins 153 255 = some (.ifCond .lt 52, 3) := by decide +kernel
theorem ze_153_255 : z_T g d 153 255 ls (.int x :: st) h P = (if x < nI 0 then z_T g d 153 307 ls st h P else z_T g d 153 258 ls st h P) := zt_iflt zi_153_255 (by decide)
theorem zi_153_258 : z_ins 153 258 = some (.aload_n 1, 1) := by decide +kernel
theorem ze_153_258 : z_T g d 153 258 (v0 :: .ref a :: ls) st h P = z_T g d 153 259 (v0 :: .ref a :: ls) (.ref a :: st) h P := zt_aloadn zi_153_258 rfl rfl
theorem ze_153_258_n : z_T g d 153 258 (v0 :: .null :: ls) st h P = z_T g d 153 259 (v0 :: .null :: ls) (.null :: st) h P := zt_aloadnN zi_153_258 rfl rfl
theorem zi_153_259 : z_ins 153 259 = some (.getfield 62, 3) := by decide +kernel
theorem ze_153_259 : z_T g d 153 259 ls (.ref a :: st) h P = z_gR h.1 a 10 4 (fun x => z_T g d 153 262 ls (x :: st) h P) := zt_getR zi_153_259 ((congrArg (fun o => z_fl o 62) zo_153).trans zf_LatinRectanglesLaw_62)
theorem zi_153_262 : z_ins 153 262 = some (.iload 7, 2) := by decide +kernel
theorem ze_153_262 : z_T g d 153 262 (v0 :: v1 :: v2 :: v3 :: v4 :: v5 :: v6 :: .int x :: ls) st h P = z_T g d 153 264 (v0 :: v1 :: v2 :: v3 :: v4 :: v5 :: v6 :: .int x :: ls) (.int x :: st) h P := zt_iload zi_153_262 rfl
theorem zi_153_264 : z_ins 153 264 = some (.aaload, 1) := by decide +kernel
theorem ze_153_264 : z_T g d 153 264 ls (.int x :: .ref a :: st) h P = z_qL h.1 a x (fun v => z_T g d 153 265 ls (.ref v :: st) h P) := zt_aaload zi_153_264
theorem zi_153_265 : z_ins 153 265 = some (.iload 9, 2) := by decide +kernel
theorem ze_153_265 : z_T g d 153 265 (v0 :: v1 :: v2 :: v3 :: v4 :: v5 :: v6 :: v7 :: v8 :: .int x :: ls) st h P = z_T g d 153 267 (v0 :: v1 :: v2 :: v3 :: v4 :: v5 :: v6 :: v7 :: v8 :: .int x :: ls) (.int x :: st) h P := zt_iload zi_153_265 rfl
theorem zi_153_267 : z_ins 153 267 = some (.iaload, 1) := by decide +kernel
theorem ze_153_267 : z_T g d 153 267 ls (.int x :: .ref a :: st) h P = z_aL h.1 a z_tI x (fun v => z_T g d 153 268 ls (.int v :: st) h P) := zt_iaload zi_153_267
theorem zi_153_268 : z_ins 153 268 = some (.aload_n 1, 1) := by decide +kernel
theorem ze_153_268 : z_T g d 153 268 (v0 :: .ref a :: ls) st h P = z_T g d 153 269 (v0 :: .ref a :: ls) (.ref a :: st) h P := zt_aloadn zi_153_268 rfl rfl
theorem ze_153_268_n : z_T g d 153 268 (v0 :: .null :: ls) st h P = z_T g d 153 269 (v0 :: .null :: ls) (.null :: st) h P := zt_aloadnN zi_153_268 rfl rfl
theorem zi_153_269 : z_ins 153 269 = some (.getfield 62, 3) := by decide +kernel
theorem ze_153_269 : z_T g d 153 269 ls (.ref a :: st) h P = z_gR h.1 a 10 4 (fun x => z_T g d 153 272 ls (x :: st) h P) := zt_getR zi_153_269 ((congrArg (fun o => z_fl o 62) zo_153).trans zf_LatinRectanglesLaw_62)
theorem zi_153_272 : z_ins 153 272 = some (.iload 8, 2) := by decide +kernel
theorem ze_153_272 : z_T g d 153 272 (v0 :: v1 :: v2 :: v3 :: v4 :: v5 :: v6 :: v7 :: .int x :: ls) st h P = z_T g d 153 274 (v0 :: v1 :: v2 :: v3 :: v4 :: v5 :: v6 :: v7 :: .int x :: ls) (.int x :: st) h P := zt_iload zi_153_272 rfl
theorem zi_153_274 : z_ins 153 274 = some (.aaload, 1) := by decide +kernel
theorem ze_153_274 : z_T g d 153 274 ls (.int x :: .ref a :: st) h P = z_qL h.1 a x (fun v => z_T g d 153 275 ls (.ref v :: st) h P) := zt_aaload zi_153_274
theorem zi_153_275 : z_ins 153 275 = some (.iload 10, 2) := by decide +kernel
theorem ze_153_275 : z_T g d 153 275 (v0 :: v1 :: v2 :: v3 :: v4 :: v5 :: v6 :: v7 :: v8 :: v9 :: .int x :: ls) st h P = z_T g d 153 277 (v0 :: v1 :: v2 :: v3 :: v4 :: v5 :: v6 :: v7 :: v8 :: v9 :: .int x :: ls) (.int x :: st) h P := zt_iload zi_153_275 rfl
theorem zi_153_277 : z_ins 153 277 = some (.iaload, 1) := by decide +kernel
theorem ze_153_277 : z_T g d 153 277 ls (.int x :: .ref a :: st) h P = z_aL h.1 a z_tI x (fun v => z_T g d 153 278 ls (.int v :: st) h P) := zt_iaload zi_153_277
theorem zi_153_278 : z_ins 153 278 = some (.if_icmp .ne 29, 3) := by decide +kernel
theorem ze_153_278 : z_T g d 153 278 ls (.int y :: .int x :: st) h P = (if x = y then z_T g d 153 281 ls st h P else z_T g d 153 307 ls st h P) := zt_icmpne zi_153_278 (by decide)
theorem zi_153_281 : z_ins 153 281 = some (.aload_n 1, 1) := by decide +kernel
theorem ze_153_281 : z_T g d 153 281 (v0 :: .ref a :: ls) st h P = z_T g d 153 282 (v0 :: .ref a :: ls) (.ref a :: st) h P := zt_aloadn zi_153_281 rfl rfl
theorem ze_153_281_n : z_T g d 153 281 (v0 :: .null :: ls) st h P = z_T g d 153 282 (v0 :: .null :: ls) (.null :: st) h P := zt_aloadnN zi_153_281 rfl rfl
theorem zi_153_282 : z_ins 153 282 = some (.getfield 62, 3) := by decide +kernel
theorem ze_153_282 : z_T g d 153 282 ls (.ref a :: st) h P = z_gR h.1 a 10 4 (fun x => z_T g d 153 285 ls (x :: st) h P) := zt_getR zi_153_282 ((congrArg (fun o => z_fl o 62) zo_153).trans zf_LatinRectanglesLaw_62)
theorem zi_153_285 : z_ins 153 285 = some (.iload 7, 2) := by decide +kernel
theorem ze_153_285 : z_T g d 153 285 (v0 :: v1 :: v2 :: v3 :: v4 :: v5 :: v6 :: .int x :: ls) st h P = z_T g d 153 287 (v0 :: v1 :: v2 :: v3 :: v4 :: v5 :: v6 :: .int x :: ls) (.int x :: st) h P := zt_iload zi_153_285 rfl
theorem zi_153_287 : z_ins 153 287 = some (.aaload, 1) := by decide +kernel
theorem ze_153_287 : z_T g d 153 287 ls (.int x :: .ref a :: st) h P = z_qL h.1 a x (fun v => z_T g d 153 288 ls (.ref v :: st) h P) := zt_aaload zi_153_287
theorem zi_153_288 : z_ins 153 288 = some (.iload 10, 2) := by decide +kernel
theorem ze_153_288 : z_T g d 153 288 (v0 :: v1 :: v2 :: v3 :: v4 :: v5 :: v6 :: v7 :: v8 :: v9 :: .int x :: ls) st h P = z_T g d 153 290 (v0 :: v1 :: v2 :: v3 :: v4 :: v5 :: v6 :: v7 :: v8 :: v9 :: .int x :: ls) (.int x :: st) h P := zt_iload zi_153_288 rfl
theorem zi_153_290 : z_ins 153 290 = some (.iaload, 1) := by decide +kernel
theorem ze_153_290 : z_T g d 153 290 ls (.int x :: .ref a :: st) h P = z_aL h.1 a z_tI x (fun v => z_T g d 153 291 ls (.int v :: st) h P) := zt_iaload zi_153_290
theorem zi_153_291 : z_ins 153 291 = some (.aload_n 1, 1) := by decide +kernel
theorem ze_153_291 : z_T g d 153 291 (v0 :: .ref a :: ls) st h P = z_T g d 153 292 (v0 :: .ref a :: ls) (.ref a :: st) h P := zt_aloadn zi_153_291 rfl rfl
theorem ze_153_291_n : z_T g d 153 291 (v0 :: .null :: ls) st h P = z_T g d 153 292 (v0 :: .null :: ls) (.null :: st) h P := zt_aloadnN zi_153_291 rfl rfl
theorem zi_153_292 : z_ins 153 292 = some (.getfield 62, 3) := by decide +kernel
theorem ze_153_292 : z_T g d 153 292 ls (.ref a :: st) h P = z_gR h.1 a 10 4 (fun x => z_T g d 153 295 ls (x :: st) h P) := zt_getR zi_153_292 ((congrArg (fun o => z_fl o 62) zo_153).trans zf_LatinRectanglesLaw_62)
theorem zi_153_295 : z_ins 153 295 = some (.iload 8, 2) := by decide +kernel
theorem ze_153_295 : z_T g d 153 295 (v0 :: v1 :: v2 :: v3 :: v4 :: v5 :: v6 :: v7 :: .int x :: ls) st h P = z_T g d 153 297 (v0 :: v1 :: v2 :: v3 :: v4 :: v5 :: v6 :: v7 :: .int x :: ls) (.int x :: st) h P := zt_iload zi_153_295 rfl
theorem zi_153_297 : z_ins 153 297 = some (.aaload, 1) := by decide +kernel
theorem ze_153_297 : z_T g d 153 297 ls (.int x :: .ref a :: st) h P = z_qL h.1 a x (fun v => z_T g d 153 298 ls (.ref v :: st) h P) := zt_aaload zi_153_297
theorem zi_153_298 : z_ins 153 298 = some (.iload 9, 2) := by decide +kernel
theorem ze_153_298 : z_T g d 153 298 (v0 :: v1 :: v2 :: v3 :: v4 :: v5 :: v6 :: v7 :: v8 :: .int x :: ls) st h P = z_T g d 153 300 (v0 :: v1 :: v2 :: v3 :: v4 :: v5 :: v6 :: v7 :: v8 :: .int x :: ls) (.int x :: st) h P := zt_iload zi_153_298 rfl
theorem zi_153_300 : z_ins 153 300 = some (.iaload, 1) := by decide +kernel
theorem ze_153_300 : z_T g d 153 300 ls (.int x :: .ref a :: st) h P = z_aL h.1 a z_tI x (fun v => z_T g d 153 301 ls (.int v :: st) h P) := zt_iaload zi_153_300
theorem zi_153_301 : z_ins 153 301 = some (.if_icmp .ne 6, 3) := by decide +kernel
theorem ze_153_301 : z_T g d 153 301 ls (.int y :: .int x :: st) h P = (if x = y then z_T g d 153 304 ls st h P else z_T g d 153 307 ls st h P) := zt_icmpne zi_153_301 (by decide)
theorem zi_153_304 : z_ins 153 304 = some (.iinc 6 1, 3) := by decide +kernel
theorem ze_153_304 : z_T g d 153 304 (v0 :: v1 :: v2 :: v3 :: v4 :: v5 :: .int x :: ls) st h P = z_T g d 153 307 (v0 :: v1 :: v2 :: v3 :: v4 :: v5 :: .int (x + (nI 1)) :: ls) st h P := zt_iinc zi_153_304 rfl rfl
theorem zi_153_307 : z_ins 153 307 = some (.iinc 10 1, 3) := by decide +kernel
theorem ze_153_307 : z_T g d 153 307 (v0 :: v1 :: v2 :: v3 :: v4 :: v5 :: v6 :: v7 :: v8 :: v9 :: .int x :: ls) st h P = z_T g d 153 310 (v0 :: v1 :: v2 :: v3 :: v4 :: v5 :: v6 :: v7 :: v8 :: v9 :: .int (x + (nI 1)) :: ls) st h P := zt_iinc zi_153_307 rfl rfl
theorem zi_153_310 : z_ins 153 310 = some (.goto (-87), 3) := by decide +kernel
theorem ze_153_310 : z_T g d 153 310 ls st h P = z_T g d 153 223 ls st h P := zt_goto zi_153_310 (by decide)
theorem zi_153_313 : z_ins 153 313 = some (.iinc 9 1, 3) := by decide +kernel
theorem ze_153_313 : z_T g d 153 313 (v0 :: v1 :: v2 :: v3 :: v4 :: v5 :: v6 :: v7 :: v8 :: .int x :: ls) st h P = z_T g d 153 316 (v0 :: v1 :: v2 :: v3 :: v4 :: v5 :: v6 :: v7 :: v8 :: .int (x + (nI 1)) :: ls) st h P := zt_iinc zi_153_313 rfl rfl
theorem zi_153_316 : z_ins 153 316 = some (.goto (-108), 3) := by decide +kernel
theorem ze_153_316 : z_T g d 153 316 ls st h P = z_T g d 153 208 ls st h P := zt_goto zi_153_316 (by decide)
theorem zi_153_319 : z_ins 153 319 = some (.aload_n 1, 1) := by decide +kernel
theorem ze_153_319 : z_T g d 153 319 (v0 :: .ref a :: ls) st h P = z_T g d 153 320 (v0 :: .ref a :: ls) (.ref a :: st) h P := zt_aloadn zi_153_319 rfl rfl
theorem ze_153_319_n : z_T g d 153 319 (v0 :: .null :: ls) st h P = z_T g d 153 320 (v0 :: .null :: ls) (.null :: st) h P := zt_aloadnN zi_153_319 rfl rfl
theorem zi_153_320 : z_ins 153 320 = some (.iload 7, 2) := by decide +kernel
theorem ze_153_320 : z_T g d 153 320 (v0 :: v1 :: v2 :: v3 :: v4 :: v5 :: v6 :: .int x :: ls) st h P = z_T g d 153 322 (v0 :: v1 :: v2 :: v3 :: v4 :: v5 :: v6 :: .int x :: ls) (.int x :: st) h P := zt_iload zi_153_320 rfl
theorem zi_153_322 : z_ins 153 322 = some (.invokevirtual 141, 3) := by decide +kernel
theorem ze_153_322 : z_T g d 153 322 ls (.int x0 :: .ref a :: st) h P = ((z_okS 8 st = true ∧ z_gO h.1 a 10 ∧ 0 < d) ∧ z_Ca g (d - 1) 103 [.ref a, .int x0] h (fun r => z_k r (fun v h' => z_T g d 153 325 ls (z_push v st) h' P) P)) := zt_cV (as := [.int x0]) (kk := 0) zi_153_322 rfl (zt_call zj_153 zh_153) (z_opV ((congrArg (fun o => z_lookup z_cns (o, 141)) zo_153).trans zq_cns_LatinRectanglesLaw_141) ((congrArg (fun o => z_lookup z_prs (o, 141)) zo_153).trans zq_prs_LatinRectanglesLaw_141)) ((congrArg (fun o => z_clk o 141) zo_153).trans zk_LatinRectanglesLaw_141) rfl rfl rfl rfl (z_rcv0 zc_103)
theorem zi_153_325 : z_ins 153 325 = some (.ifCond .eq 40, 3) := by decide +kernel
theorem ze_153_325 : z_T g d 153 325 ls (.int x :: st) h P = (if x = nI 0 then z_T g d 153 365 ls st h P else z_T g d 153 328 ls st h P) := zt_ifeq zi_153_325 (by decide)
theorem zi_153_328 : z_ins 153 328 = some (.aload_n 1, 1) := by decide +kernel
theorem ze_153_328 : z_T g d 153 328 (v0 :: .ref a :: ls) st h P = z_T g d 153 329 (v0 :: .ref a :: ls) (.ref a :: st) h P := zt_aloadn zi_153_328 rfl rfl
theorem ze_153_328_n : z_T g d 153 328 (v0 :: .null :: ls) st h P = z_T g d 153 329 (v0 :: .null :: ls) (.null :: st) h P := zt_aloadnN zi_153_328 rfl rfl
theorem zi_153_329 : z_ins 153 329 = some (.iload 8, 2) := by decide +kernel
theorem ze_153_329 : z_T g d 153 329 (v0 :: v1 :: v2 :: v3 :: v4 :: v5 :: v6 :: v7 :: .int x :: ls) st h P = z_T g d 153 331 (v0 :: v1 :: v2 :: v3 :: v4 :: v5 :: v6 :: v7 :: .int x :: ls) (.int x :: st) h P := zt_iload zi_153_329 rfl
theorem zi_153_331 : z_ins 153 331 = some (.invokevirtual 141, 3) := by decide +kernel
theorem ze_153_331 : z_T g d 153 331 ls (.int x0 :: .ref a :: st) h P = ((z_okS 8 st = true ∧ z_gO h.1 a 10 ∧ 0 < d) ∧ z_Ca g (d - 1) 103 [.ref a, .int x0] h (fun r => z_k r (fun v h' => z_T g d 153 334 ls (z_push v st) h' P) P)) := zt_cV (as := [.int x0]) (kk := 0) zi_153_331 rfl (zt_call zj_153 zh_153) (z_opV ((congrArg (fun o => z_lookup z_cns (o, 141)) zo_153).trans zq_cns_LatinRectanglesLaw_141) ((congrArg (fun o => z_lookup z_prs (o, 141)) zo_153).trans zq_prs_LatinRectanglesLaw_141)) ((congrArg (fun o => z_clk o 141) zo_153).trans zk_LatinRectanglesLaw_141) rfl rfl rfl rfl (z_rcv0 zc_103)
theorem zi_153_334 : z_ins 153 334 = some (.ifCond .eq 31, 3) := by decide +kernel
theorem ze_153_334 : z_T g d 153 334 ls (.int x :: st) h P = (if x = nI 0 then z_T g d 153 365 ls st h P else z_T g d 153 337 ls st h P) := zt_ifeq zi_153_334 (by decide)
theorem zi_153_337 : z_ins 153 337 = some (.aload_n 0, 1) := by decide +kernel
theorem ze_153_337 : z_T g d 153 337 (.ref a :: ls) st h P = z_T g d 153 338 (.ref a :: ls) (.ref a :: st) h P := zt_aloadn zi_153_337 rfl rfl
theorem ze_153_337_n : z_T g d 153 337 (.null :: ls) st h P = z_T g d 153 338 (.null :: ls) (.null :: st) h P := zt_aloadnN zi_153_337 rfl rfl
theorem zi_153_338 : z_ins 153 338 = some (.iload 7, 2) := by decide +kernel
theorem ze_153_338 : z_T g d 153 338 (v0 :: v1 :: v2 :: v3 :: v4 :: v5 :: v6 :: .int x :: ls) st h P = z_T g d 153 340 (v0 :: v1 :: v2 :: v3 :: v4 :: v5 :: v6 :: .int x :: ls) (.int x :: st) h P := zt_iload zi_153_338 rfl
theorem zi_153_340 : z_ins 153 340 = some (.iload 8, 2) := by decide +kernel
theorem ze_153_340 : z_T g d 153 340 (v0 :: v1 :: v2 :: v3 :: v4 :: v5 :: v6 :: v7 :: .int x :: ls) st h P = z_T g d 153 342 (v0 :: v1 :: v2 :: v3 :: v4 :: v5 :: v6 :: v7 :: .int x :: ls) (.int x :: st) h P := zt_iload zi_153_340 rfl
theorem zi_153_342 : z_ins 153 342 = some (.iload 4, 2) := by decide +kernel
theorem ze_153_342 : z_T g d 153 342 (v0 :: v1 :: v2 :: v3 :: .int x :: ls) st h P = z_T g d 153 344 (v0 :: v1 :: v2 :: v3 :: .int x :: ls) (.int x :: st) h P := zt_iload zi_153_342 rfl
theorem zi_153_344 : z_ins 153 344 = some (.invokevirtual 228, 3) := by decide +kernel
theorem ze_153_344 : z_T g d 153 344 ls (.int x2 :: .int x1 :: .int x0 :: .ref a :: st) h P = ((z_okS 8 st = true ∧ z_gO h.1 a 9 ∧ 0 < d) ∧ z_Ca g (d - 1) 82 [.ref a, .int x0, .int x1, .int x2] h (fun r => z_k r (fun v h' => z_T g d 153 347 ls (z_push v st) h' P) P)) := zt_cV (as := [.int x0, .int x1, .int x2]) (kk := 0) zi_153_344 rfl (zt_call zj_153 zh_153) (z_opV ((congrArg (fun o => z_lookup z_cns (o, 228)) zo_153).trans zq_cns_LatinRectanglesLaw_228) ((congrArg (fun o => z_lookup z_prs (o, 228)) zo_153).trans zq_prs_LatinRectanglesLaw_228)) ((congrArg (fun o => z_clk o 228) zo_153).trans zk_LatinRectanglesLaw_228) rfl rfl rfl rfl (z_rcv0 zc_82)
theorem zi_153_347 : z_ins 153 347 = some (.aload_n 1, 1) := by decide +kernel
theorem ze_153_347 : z_T g d 153 347 (v0 :: .ref a :: ls) st h P = z_T g d 153 348 (v0 :: .ref a :: ls) (.ref a :: st) h P := zt_aloadn zi_153_347 rfl rfl
theorem ze_153_347_n : z_T g d 153 347 (v0 :: .null :: ls) st h P = z_T g d 153 348 (v0 :: .null :: ls) (.null :: st) h P := zt_aloadnN zi_153_347 rfl rfl
theorem zi_153_348 : z_ins 153 348 = some (.iload 7, 2) := by decide +kernel
theorem ze_153_348 : z_T g d 153 348 (v0 :: v1 :: v2 :: v3 :: v4 :: v5 :: v6 :: .int x :: ls) st h P = z_T g d 153 350 (v0 :: v1 :: v2 :: v3 :: v4 :: v5 :: v6 :: .int x :: ls) (.int x :: st) h P := zt_iload zi_153_348 rfl
theorem zi_153_350 : z_ins 153 350 = some (.iload 8, 2) := by decide +kernel
theorem ze_153_350 : z_T g d 153 350 (v0 :: v1 :: v2 :: v3 :: v4 :: v5 :: v6 :: v7 :: .int x :: ls) st h P = z_T g d 153 352 (v0 :: v1 :: v2 :: v3 :: v4 :: v5 :: v6 :: v7 :: .int x :: ls) (.int x :: st) h P := zt_iload zi_153_350 rfl
theorem zi_153_352 : z_ins 153 352 = some (.iload 4, 2) := by decide +kernel
theorem ze_153_352 : z_T g d 153 352 (v0 :: v1 :: v2 :: v3 :: .int x :: ls) st h P = z_T g d 153 354 (v0 :: v1 :: v2 :: v3 :: .int x :: ls) (.int x :: st) h P := zt_iload zi_153_352 rfl
theorem zi_153_354 : z_ins 153 354 = some (.invokevirtual 145, 3) := by decide +kernel
theorem ze_153_354 : z_T g d 153 354 ls (.int x2 :: .int x1 :: .int x0 :: .ref a :: st) h P = ((z_okS 8 st = true ∧ z_gO h.1 a 10 ∧ 0 < d) ∧ z_Ca g (d - 1) 104 [.ref a, .int x0, .int x1, .int x2] h (fun r => z_k r (fun v h' => z_T g d 153 357 ls (z_push v st) h' P) P)) := zt_cV (as := [.int x0, .int x1, .int x2]) (kk := 0) zi_153_354 rfl (zt_call zj_153 zh_153) (z_opV ((congrArg (fun o => z_lookup z_cns (o, 145)) zo_153).trans zq_cns_LatinRectanglesLaw_145) ((congrArg (fun o => z_lookup z_prs (o, 145)) zo_153).trans zq_prs_LatinRectanglesLaw_145)) ((congrArg (fun o => z_clk o 145) zo_153).trans zk_LatinRectanglesLaw_145) rfl rfl rfl rfl (z_rcv0 zc_104)
theorem zi_153_357 : z_ins 153 357 = some (.invokestatic 149, 3) := by decide +kernel
theorem ze_153_357 : z_T g d 153 357 ls (.ref a0 :: st) h P = ((z_okS 8 st = true ∧ 0 < d) ∧ z_Ca g (d - 1) 144 [.ref a0] h (fun r => z_k r (fun v h' => z_T g d 153 360 ls (z_push v st) h' P) P)) := zt_cS (as := [.ref a0]) (kk := 1) zi_153_357 rfl (zt_call zj_153 zh_153) (z_opT ((congrArg (fun o => z_lookup z_cps (o, 149)) zo_153).trans zq_cps_LatinRectanglesLaw_149) ((congrArg (fun o => z_lookup z_prs (o, 149)) zo_153).trans zq_prs_LatinRectanglesLaw_149)) ((congrArg (fun o => z_clk o 149) zo_153).trans zk_LatinRectanglesLaw_149) rfl rfl rfl rfl rfl
theorem zi_153_360 : z_ins 153 360 = some (.if_icmp .eq 5, 3) := by decide +kernel
theorem ze_153_360 : z_T g d 153 360 ls (.int y :: .int x :: st) h P = (if x = y then z_T g d 153 365 ls st h P else z_T g d 153 363 ls st h P) := zt_icmpeq zi_153_360 (by decide)
theorem zi_153_363 : z_ins 153 363 = some (.iconst 0, 1) := by decide +kernel
theorem ze_153_363 : z_T g d 153 363 ls st h P = z_T g d 153 364 ls (.int (nI 0) :: st) h P := zt_iconst zi_153_363 rfl
theorem zi_153_364 : z_ins 153 364 = some (.ireturn, 1) := by decide +kernel
theorem ze_153_364 : z_T g d 153 364 ls [.int x] h P = ((x = nI 0 ∨ x = nI 1) ∧ P (.inr (some (.int x)), h)) := zt_zreturn zi_153_364 zr_153
theorem zi_153_365 : z_ins 153 365 = some (.iinc 8 1, 3) := by decide +kernel
theorem ze_153_365 : z_T g d 153 365 (v0 :: v1 :: v2 :: v3 :: v4 :: v5 :: v6 :: v7 :: .int x :: ls) st h P = z_T g d 153 368 (v0 :: v1 :: v2 :: v3 :: v4 :: v5 :: v6 :: v7 :: .int (x + (nI 1)) :: ls) st h P := zt_iinc zi_153_365 rfl rfl
theorem zi_153_368 : z_ins 153 368 = some (.goto (-172), 3) := by decide +kernel
theorem ze_153_368 : z_T g d 153 368 ls st h P = z_T g d 153 196 ls st h P := zt_goto zi_153_368 (by decide)
theorem zi_153_371 : z_ins 153 371 = some (.iinc 7 1, 3) := by decide +kernel
theorem ze_153_371 : z_T g d 153 371 (v0 :: v1 :: v2 :: v3 :: v4 :: v5 :: v6 :: .int x :: ls) st h P = z_T g d 153 374 (v0 :: v1 :: v2 :: v3 :: v4 :: v5 :: v6 :: .int (x + (nI 1)) :: ls) st h P := zt_iinc zi_153_371 rfl rfl
theorem zi_153_374 : z_ins 153 374 = some (.goto (-193), 3) := by decide +kernel
theorem ze_153_374 : z_T g d 153 374 ls st h P = z_T g d 153 181 ls st h P := zt_goto zi_153_374 (by decide)
theorem zi_153_377 : z_ins 153 377 = some (.aload_n 0, 1) := by decide +kernel
theorem ze_153_377 : z_T g d 153 377 (.ref a :: ls) st h P = z_T g d 153 378 (.ref a :: ls) (.ref a :: st) h P := zt_aloadn zi_153_377 rfl rfl
theorem ze_153_377_n : z_T g d 153 377 (.null :: ls) st h P = z_T g d 153 378 (.null :: ls) (.null :: st) h P := zt_aloadnN zi_153_377 rfl rfl
theorem zi_153_378 : z_ins 153 378 = some (.invokevirtual 230, 3) := by decide +kernel
theorem ze_153_378 : z_T g d 153 378 ls (.ref a :: st) h P = ((z_okS 8 st = true ∧ z_gO h.1 a 9 ∧ 0 < d) ∧ z_Ca g (d - 1) 83 [.ref a] h (fun r => z_k r (fun v h' => z_T g d 153 381 ls (z_push v st) h' P) P)) := zt_cV (as := []) (kk := 0) zi_153_378 rfl (zt_call zj_153 zh_153) (z_opV ((congrArg (fun o => z_lookup z_cns (o, 230)) zo_153).trans zq_cns_LatinRectanglesLaw_230) ((congrArg (fun o => z_lookup z_prs (o, 230)) zo_153).trans zq_prs_LatinRectanglesLaw_230)) ((congrArg (fun o => z_clk o 230) zo_153).trans zk_LatinRectanglesLaw_230) rfl rfl rfl rfl (z_rcv0 zc_83)
theorem zi_153_381 : z_ins 153 381 = some (.iload 6, 2) := by decide +kernel
theorem ze_153_381 : z_T g d 153 381 (v0 :: v1 :: v2 :: v3 :: v4 :: v5 :: .int x :: ls) st h P = z_T g d 153 383 (v0 :: v1 :: v2 :: v3 :: v4 :: v5 :: .int x :: ls) (.int x :: st) h P := zt_iload zi_153_381 rfl
theorem zi_153_383 : z_ins 153 383 = some (.if_icmp .ne 7, 3) := by decide +kernel
theorem ze_153_383 : z_T g d 153 383 ls (.int y :: .int x :: st) h P = (if x = y then z_T g d 153 386 ls st h P else z_T g d 153 390 ls st h P) := zt_icmpne zi_153_383 (by decide)
theorem zi_153_386 : z_ins 153 386 = some (.iconst 1, 1) := by decide +kernel
theorem ze_153_386 : z_T g d 153 386 ls st h P = z_T g d 153 387 ls (.int (nI 1) :: st) h P := zt_iconst zi_153_386 rfl
theorem zi_153_387 : z_ins 153 387 = some (.goto 4, 3) := by decide +kernel
theorem ze_153_387 : z_T g d 153 387 ls st h P = z_T g d 153 391 ls st h P := zt_goto zi_153_387 (by decide)
theorem zi_153_390 : z_ins 153 390 = some (.iconst 0, 1) := by decide +kernel
theorem ze_153_390 : z_T g d 153 390 ls st h P = z_T g d 153 391 ls (.int (nI 0) :: st) h P := zt_iconst zi_153_390 rfl
theorem zi_153_391 : z_ins 153 391 = some (.ireturn, 1) := by decide +kernel
theorem ze_153_391 : z_T g d 153 391 ls [.int x] h P = ((x = nI 0 ∨ x = nI 1) ∧ P (.inr (some (.int x)), h)) := zt_zreturn zi_153_391 zr_153
-- LatinRectanglesLaw.law([I)Z
theorem zm_154 : z_maxL 154 = 4 := by decide +kernel
theorem zh_154 : z_hds 154 = [] := by decide +kernel
theorem zj_154 : z_jdk 154 = false := by decide +kernel
theorem zr_154 : z_rt 154 = (some .boolean) := by decide +kernel
theorem zn_154 : z_Ca g d 154 [.retAddr k0] h P = z_T g d 154 0 [.retAddr k0, z_un, z_un, z_un] [] h P := z_Ca_ent zm_154 rfl rfl
theorem zi_154_0 : z_ins 154 0 = some (.new 18, 3) := by decide +kernel
theorem ze_154_0 : z_T g d 154 0 ls st h P = z_nO h 9 11 [.null, .null, .null, .null, .null, .null, .null, .null, .null, .null, .int 0] (fun q h' => z_T g d 154 3 ls (.ref q :: st) h' P) := zt_new zi_154_0 (by decide +kernel)
theorem zi_154_3 : z_ins 154 3 = some (.dup, 1) := by decide +kernel
theorem ze_154_3 : z_T g d 154 3 ls (.ref a :: st) h P = z_T g d 154 4 ls (.ref a :: .ref a :: st) h P := zt_dup rfl zi_154_3
theorem ze_154_3_i : z_T g d 154 3 ls (.int x :: st) h P = z_T g d 154 4 ls (.int x :: .int x :: st) h P := zt_dup rfl zi_154_3
theorem zi_154_4 : z_ins 154 4 = some (.invokespecial 25, 3) := by decide +kernel
theorem ze_154_4 : z_T g d 154 4 ls (.ref a :: st) h P = ((z_okS 8 st = true ∧ 0 < d) ∧ z_Ca g (d - 1) 67 [.ref a] h (fun r => z_k r (fun v h' => z_T g d 154 7 ls (z_push v st) h' P) P)) := zt_cS (as := [.ref a]) (kk := 2) zi_154_4 rfl (zt_call zj_154 zh_154) (z_opI ((congrArg (fun o => z_lookup z_ois (o, 25)) zo_154).trans zq_ois_LatinRectanglesLaw_25)) ((congrArg (fun o => z_clk o 25) zo_154).trans zk_LatinRectanglesLaw_25) rfl rfl rfl rfl rfl
theorem zi_154_7 : z_ins 154 7 = some (.astore_n 1, 1) := by decide +kernel
theorem ze_154_7 : z_T g d 154 7 (v0 :: v1 :: ls) (.ref a :: st) h P = z_T g d 154 8 (v0 :: .ref a :: ls) st h P := zt_astoren rfl zi_154_7 rfl (Nat.le_add_left 2 _)
theorem ze_154_7_n : z_T g d 154 7 (v0 :: v1 :: ls) (.null :: st) h P = z_T g d 154 8 (v0 :: .null :: ls) st h P := zt_astoren rfl zi_154_7 rfl (Nat.le_add_left 2 _)
theorem zi_154_8 : z_ins 154 8 = some (.aload_n 0, 1) := by decide +kernel
theorem ze_154_8 : z_T g d 154 8 (.retAddr b :: ls) st h P = z_T g d 154 9 (.retAddr b :: ls) (.retAddr b :: st) h P := zt_aloadnS zi_154_8 rfl rfl
theorem zi_154_9 : z_ins 154 9 = some (.arraylength, 1) := by decide +kernel
theorem ze_154_9 : z_T g d 154 9 ls (.retAddr 99 :: st) h P = z_T g d 154 10 ls (.int (nI g.1) :: st) h P := zt_slen zi_154_9
theorem zi_154_10 : z_ins 154 10 = some (.istore_n 2, 1) := by decide +kernel
theorem ze_154_10 : z_T g d 154 10 (v0 :: v1 :: v2 :: ls) (.int x :: st) h P = z_T g d 154 11 (v0 :: v1 :: .int x :: ls) st h P := zt_istoren zi_154_10 rfl (Nat.le_add_left 3 _)
theorem zi_154_11 : z_ins 154 11 = some (.iconst 0, 1) := by decide +kernel
theorem ze_154_11 : z_T g d 154 11 ls st h P = z_T g d 154 12 ls (.int (nI 0) :: st) h P := zt_iconst zi_154_11 rfl
theorem zi_154_12 : z_ins 154 12 = some (.istore_n 3, 1) := by decide +kernel
theorem ze_154_12 : z_T g d 154 12 (v0 :: v1 :: v2 :: v3 :: ls) (.int x :: st) h P = z_T g d 154 13 (v0 :: v1 :: v2 :: .int x :: ls) st h P := zt_istoren zi_154_12 rfl (Nat.le_add_left 4 _)
theorem zi_154_13 : z_ins 154 13 = some (.iload_n 3, 1) := by decide +kernel
theorem ze_154_13 : z_T g d 154 13 (v0 :: v1 :: v2 :: .int x :: ls) st h P = z_T g d 154 14 (v0 :: v1 :: v2 :: .int x :: ls) (.int x :: st) h P := zt_iloadn zi_154_13 rfl rfl
theorem zi_154_14 : z_ins 154 14 = some (.iload_n 2, 1) := by decide +kernel
theorem ze_154_14 : z_T g d 154 14 (v0 :: v1 :: .int x :: ls) st h P = z_T g d 154 15 (v0 :: v1 :: .int x :: ls) (.int x :: st) h P := zt_iloadn zi_154_14 rfl rfl
theorem zi_154_15 : z_ins 154 15 = some (.if_icmp .ge 32, 3) := by decide +kernel
theorem ze_154_15 : z_T g d 154 15 ls (.int y :: .int x :: st) h P = (if x < y then z_T g d 154 18 ls st h P else z_T g d 154 47 ls st h P) := zt_icmpge zi_154_15 (by decide)
theorem zi_154_18 : z_ins 154 18 = some (.iload_n 3, 1) := by decide +kernel
theorem ze_154_18 : z_T g d 154 18 (v0 :: v1 :: v2 :: .int x :: ls) st h P = z_T g d 154 19 (v0 :: v1 :: v2 :: .int x :: ls) (.int x :: st) h P := zt_iloadn zi_154_18 rfl rfl
theorem zi_154_19 : z_ins 154 19 = some (.iconst 5, 1) := by decide +kernel
theorem ze_154_19 : z_T g d 154 19 ls st h P = z_T g d 154 20 ls (.int (nI 5) :: st) h P := zt_iconst zi_154_19 rfl
theorem zi_154_20 : z_ins 154 20 = some (.if_icmp .ge 27, 3) := by decide +kernel
theorem ze_154_20 : z_T g d 154 20 ls (.int y :: .int x :: st) h P = (if x < y then z_T g d 154 23 ls st h P else z_T g d 154 47 ls st h P) := zt_icmpge zi_154_20 (by decide)
theorem zi_154_23 : z_ins 154 23 = some (.aload_n 1, 1) := by decide +kernel
theorem ze_154_23 : z_T g d 154 23 (v0 :: .retAddr b :: ls) st h P = z_T g d 154 24 (v0 :: .retAddr b :: ls) (.retAddr b :: st) h P := zt_aloadnS zi_154_23 rfl rfl
theorem zi_154_24 : z_ins 154 24 = some (.iconst 1, 1) := by decide +kernel
theorem ze_154_24 : z_T g d 154 24 ls st h P = z_T g d 154 25 ls (.int (nI 1) :: st) h P := zt_iconst zi_154_24 rfl
theorem zi_154_25 : z_ins 154 25 = some (.newarray .int, 2) := by decide +kernel
theorem ze_154_25 : z_T g d 154 25 ls (.int x :: st) h P = z_nA h .int x (fun q h' => z_T g d 154 27 ls (.ref q :: st) h' P) := zt_newarray zi_154_25
theorem zi_154_27 : z_ins 154 27 = some (.dup, 1) := by decide +kernel
theorem ze_154_27 : z_T g d 154 27 ls (.ref a :: st) h P = z_T g d 154 28 ls (.ref a :: .ref a :: st) h P := zt_dup rfl zi_154_27
theorem ze_154_27_i : z_T g d 154 27 ls (.int x :: st) h P = z_T g d 154 28 ls (.int x :: .int x :: st) h P := zt_dup rfl zi_154_27
theorem zi_154_28 : z_ins 154 28 = some (.iconst 0, 1) := by decide +kernel
theorem ze_154_28 : z_T g d 154 28 ls st h P = z_T g d 154 29 ls (.int (nI 0) :: st) h P := zt_iconst zi_154_28 rfl
theorem zi_154_29 : z_ins 154 29 = some (.aload_n 0, 1) := by decide +kernel
theorem ze_154_29 : z_T g d 154 29 (.retAddr b :: ls) st h P = z_T g d 154 30 (.retAddr b :: ls) (.retAddr b :: st) h P := zt_aloadnS zi_154_29 rfl rfl
theorem zi_154_30 : z_ins 154 30 = some (.iload_n 3, 1) := by decide +kernel
theorem ze_154_30 : z_T g d 154 30 (v0 :: v1 :: v2 :: .int x :: ls) st h P = z_T g d 154 31 (v0 :: v1 :: v2 :: .int x :: ls) (.int x :: st) h P := zt_iloadn zi_154_30 rfl rfl
theorem zi_154_31 : z_ins 154 31 = some (.iaload, 1) := by decide +kernel
theorem ze_154_31 (hx : z_idx x g.1 = true) : z_T g d 154 31 ls (.int x :: .retAddr 99 :: st) h P = z_T g d 154 32 ls (.int (g.2 x.toNatClampNeg) :: st) h P := zt_script zi_154_31 hx
theorem zi_154_32 : z_ins 154 32 = some (.iastore, 1) := by decide +kernel
theorem ze_154_32 : z_T g d 154 32 ls (.int y :: .int x :: .ref a :: st) h P = z_aS h.1 a z_tI x y (fun f => z_T g d 154 33 ls st (f, h.2) P) := zt_iastore zi_154_32
theorem zi_154_33 : z_ins 154 33 = some (.invokestatic 26, 3) := by decide +kernel
theorem ze_154_33 : z_T g d 154 33 ls (.ref a1 :: .ref a0 :: st) h P = ((z_okS 8 st = true ∧ 0 < d) ∧ z_Ca g (d - 1) 146 [.ref a0, .ref a1] h (fun r => z_k r (fun v h' => z_T g d 154 36 ls (z_push v st) h' P) P)) := zt_cS (as := [.ref a0, .ref a1]) (kk := 1) zi_154_33 rfl (zt_call zj_154 zh_154) (z_opT ((congrArg (fun o => z_lookup z_cps (o, 26)) zo_154).trans zq_cps_LatinRectanglesLaw_26) ((congrArg (fun o => z_lookup z_prs (o, 26)) zo_154).trans zq_prs_LatinRectanglesLaw_26)) ((congrArg (fun o => z_clk o 26) zo_154).trans zk_LatinRectanglesLaw_26) rfl rfl rfl rfl rfl
theorem zi_154_36 : z_ins 154 36 = some (.ifCond .ne 5, 3) := by decide +kernel
theorem ze_154_36 : z_T g d 154 36 ls (.int x :: st) h P = (if x = nI 0 then z_T g d 154 39 ls st h P else z_T g d 154 41 ls st h P) := zt_ifne zi_154_36 (by decide)
theorem zi_154_39 : z_ins 154 39 = some (.iconst 0, 1) := by decide +kernel
theorem ze_154_39 : z_T g d 154 39 ls st h P = z_T g d 154 40 ls (.int (nI 0) :: st) h P := zt_iconst zi_154_39 rfl
theorem zi_154_40 : z_ins 154 40 = some (.ireturn, 1) := by decide +kernel
theorem ze_154_40 : z_T g d 154 40 ls [.int x] h P = ((x = nI 0 ∨ x = nI 1) ∧ P (.inr (some (.int x)), h)) := zt_zreturn zi_154_40 zr_154
theorem zi_154_41 : z_ins 154 41 = some (.iinc 3 1, 3) := by decide +kernel
theorem ze_154_41 : z_T g d 154 41 (v0 :: v1 :: v2 :: .int x :: ls) st h P = z_T g d 154 44 (v0 :: v1 :: v2 :: .int (x + (nI 1)) :: ls) st h P := zt_iinc zi_154_41 rfl rfl
theorem zi_154_44 : z_ins 154 44 = some (.goto (-31), 3) := by decide +kernel
theorem ze_154_44 : z_T g d 154 44 ls st h P = z_T g d 154 13 ls st h P := zt_goto zi_154_44 (by decide)
theorem zi_154_47 : z_ins 154 47 = some (.iconst 1, 1) := by decide +kernel
theorem ze_154_47 : z_T g d 154 47 ls st h P = z_T g d 154 48 ls (.int (nI 1) :: st) h P := zt_iconst zi_154_47 rfl
theorem zi_154_48 : z_ins 154 48 = some (.ireturn, 1) := by decide +kernel
theorem ze_154_48 : z_T g d 154 48 ls [.int x] h P = ((x = nI 0 ∨ x = nI 1) ∧ P (.inr (some (.int x)), h)) := zt_zreturn zi_154_48 zr_154
end
