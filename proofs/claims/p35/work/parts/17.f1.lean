section
variable {g : z_G} {d : Nat} {h : z_H} {P : z_Res → Prop} {ls st : List Value} {v0 v1 v2 v3 v4 v5 v6 v7 v8 v9 v10 v11 vw : Value} {x y x0 x1 x2 x3 x4 x5 x6 : Int32} {a b a0 a1 a2 a3 a4 a5 k0 k1 k2 : Nat}
-- LatinRectanglesLaw$Grid.<init>(II)V
theorem zm_94 : z_maxL 94 = 5 := by decide +kernel
theorem zh_94 : z_hds 94 = [] := by decide +kernel
theorem zj_94 : z_jdk 94 = false := by decide +kernel
theorem zr_94 : z_rt 94 = none := by decide +kernel
theorem zn_94 : z_Ca g d 94 [.ref a0, .int x1, .int x2] h P = z_T g d 94 0 [.ref a0, .int x1, .int x2, z_un, z_un] [] h P := z_Ca_ent zm_94 rfl rfl
theorem zi_94_0 : z_ins 94 0 = some (.aload_n 0, 1) := by decide +kernel
theorem ze_94_0 : z_T g d 94 0 (.ref a :: ls) st h P = z_T g d 94 1 (.ref a :: ls) (.ref a :: st) h P := zt_aloadn zi_94_0 rfl rfl
theorem ze_94_0_n : z_T g d 94 0 (.null :: ls) st h P = z_T g d 94 1 (.null :: ls) (.null :: st) h P := zt_aloadnN zi_94_0 rfl rfl
theorem zi_94_1 : z_ins 94 1 = some (.invokespecial 1, 3) := by decide +kernel
theorem ze_94_1 : z_T g d 94 1 ls (.ref a :: st) h P = (z_okS 8 st = true ∧ z_T g d 94 4 ls st h P) := zt_objInit zi_94_1 ((congrArg (fun o => z_lookup z_ois (o, 1)) zo_94).trans zq_ois_LatinRectanglesLaw_Grid_1)
theorem zi_94_4 : z_ins 94 4 = some (.aload_n 0, 1) := by decide +kernel
theorem ze_94_4 : z_T g d 94 4 (.ref a :: ls) st h P = z_T g d 94 5 (.ref a :: ls) (.ref a :: st) h P := zt_aloadn zi_94_4 rfl rfl
theorem ze_94_4_n : z_T g d 94 4 (.null :: ls) st h P = z_T g d 94 5 (.null :: ls) (.null :: st) h P := zt_aloadnN zi_94_4 rfl rfl
theorem zi_94_5 : z_ins 94 5 = some (.iload_n 1, 1) := by decide +kernel
theorem ze_94_5 : z_T g d 94 5 (v0 :: .int x :: ls) st h P = z_T g d 94 6 (v0 :: .int x :: ls) (.int x :: st) h P := zt_iloadn zi_94_5 rfl rfl
theorem zi_94_6 : z_ins 94 6 = some (.putfield 7, 3) := by decide +kernel
theorem ze_94_6 : z_T g d 94 6 ls (.int x :: .ref a :: st) h P = z_pF h.1 a 10 0 (.int x) (fun f => z_T g d 94 9 ls st (f, h.2) P) := zt_put zi_94_6 ((congrArg (fun o => z_fl o 7) zo_94).trans zf_LatinRectanglesLaw_Grid_7) (by decide +kernel) rfl rfl
theorem zi_94_9 : z_ins 94 9 = some (.aload_n 0, 1) := by decide +kernel
theorem ze_94_9 : z_T g d 94 9 (.ref a :: ls) st h P = z_T g d 94 10 (.ref a :: ls) (.ref a :: st) h P := zt_aloadn zi_94_9 rfl rfl
theorem ze_94_9_n : z_T g d 94 9 (.null :: ls) st h P = z_T g d 94 10 (.null :: ls) (.null :: st) h P := zt_aloadnN zi_94_9 rfl rfl
theorem zi_94_10 : z_ins 94 10 = some (.iload_n 2, 1) := by decide +kernel
theorem ze_94_10 : z_T g d 94 10 (v0 :: v1 :: .int x :: ls) st h P = z_T g d 94 11 (v0 :: v1 :: .int x :: ls) (.int x :: st) h P := zt_iloadn zi_94_10 rfl rfl
theorem zi_94_11 : z_ins 94 11 = some (.putfield 13, 3) := by decide +kernel
theorem ze_94_11 : z_T g d 94 11 ls (.int x :: .ref a :: st) h P = z_pF h.1 a 10 1 (.int x) (fun f => z_T g d 94 14 ls st (f, h.2) P) := zt_put zi_94_11 ((congrArg (fun o => z_fl o 13) zo_94).trans zf_LatinRectanglesLaw_Grid_13) (by decide +kernel) rfl rfl
theorem zi_94_14 : z_ins 94 14 = some (.aload_n 0, 1) := by decide +kernel
theorem ze_94_14 : z_T g d 94 14 (.ref a :: ls) st h P = z_T g d 94 15 (.ref a :: ls) (.ref a :: st) h P := zt_aloadn zi_94_14 rfl rfl
theorem ze_94_14_n : z_T g d 94 14 (.null :: ls) st h P = z_T g d 94 15 (.null :: ls) (.null :: st) h P := zt_aloadnN zi_94_14 rfl rfl
theorem zi_94_15 : z_ins 94 15 = some (.iload_n 1, 1) := by decide +kernel
theorem ze_94_15 : z_T g d 94 15 (v0 :: .int x :: ls) st h P = z_T g d 94 16 (v0 :: .int x :: ls) (.int x :: st) h P := zt_iloadn zi_94_15 rfl rfl
theorem zi_94_16 : z_ins 94 16 = some (.iload_n 2, 1) := by decide +kernel
theorem ze_94_16 : z_T g d 94 16 (v0 :: v1 :: .int x :: ls) st h P = z_T g d 94 17 (v0 :: v1 :: .int x :: ls) (.int x :: st) h P := zt_iloadn zi_94_16 rfl rfl
theorem zi_94_17 : z_ins 94 17 = some (.multianewarray 16 2, 4) := by decide +kernel
theorem ze_94_17 : z_T g d 94 17 ls (.int y :: .int x :: st) h P = z_nM .int h x y (fun q h' => z_T g d 94 21 ls (.ref q :: st) h' P) := zt_multi zi_94_17 ((congrArg (fun o => z_lookup z_mas (o, 16)) zo_94).trans zq_mas_LatinRectanglesLaw_Grid_16) (by simp)
theorem zi_94_21 : z_ins 94 21 = some (.putfield 18, 3) := by decide +kernel
theorem ze_94_21 : z_T g d 94 21 ls (.ref b :: .ref a :: st) h P = z_pF h.1 a 10 4 (.ref b) (fun f => z_T g d 94 24 ls st (f, h.2) P) := zt_put zi_94_21 ((congrArg (fun o => z_fl o 18) zo_94).trans zf_LatinRectanglesLaw_Grid_18) (by decide +kernel) rfl rfl
theorem ze_94_21_n : z_T g d 94 21 ls (.null :: .ref a :: st) h P = z_pF h.1 a 10 4 (.null) (fun f => z_T g d 94 24 ls st (f, h.2) P) := zt_put zi_94_21 ((congrArg (fun o => z_fl o 18) zo_94).trans zf_LatinRectanglesLaw_Grid_18) (by decide +kernel) rfl rfl
theorem zi_94_24 : z_ins 94 24 = some (.aload_n 0, 1) := by decide +kernel
theorem ze_94_24 : z_T g d 94 24 (.ref a :: ls) st h P = z_T g d 94 25 (.ref a :: ls) (.ref a :: st) h P := zt_aloadn zi_94_24 rfl rfl
theorem ze_94_24_n : z_T g d 94 24 (.null :: ls) st h P = z_T g d 94 25 (.null :: ls) (.null :: st) h P := zt_aloadnN zi_94_24 rfl rfl
theorem zi_94_25 : z_ins 94 25 = some (.iload_n 1, 1) := by decide +kernel
theorem ze_94_25 : z_T g d 94 25 (v0 :: .int x :: ls) st h P = z_T g d 94 26 (v0 :: .int x :: ls) (.int x :: st) h P := zt_iloadn zi_94_25 rfl rfl
theorem zi_94_26 : z_ins 94 26 = some (.iload_n 2, 1) := by decide +kernel
theorem ze_94_26 : z_T g d 94 26 (v0 :: v1 :: .int x :: ls) st h P = z_T g d 94 27 (v0 :: v1 :: .int x :: ls) (.int x :: st) h P := zt_iloadn zi_94_26 rfl rfl
theorem zi_94_27 : z_ins 94 27 = some (.multianewarray 21 2, 4) := by decide +kernel
theorem ze_94_27 : z_T g d 94 27 ls (.int y :: .int x :: st) h P = z_nM .boolean h x y (fun q h' => z_T g d 94 31 ls (.ref q :: st) h' P) := zt_multi zi_94_27 ((congrArg (fun o => z_lookup z_mas (o, 21)) zo_94).trans zq_mas_LatinRectanglesLaw_Grid_21) (by simp)
theorem zi_94_31 : z_ins 94 31 = some (.putfield 23, 3) := by decide +kernel
theorem ze_94_31 : z_T g d 94 31 ls (.ref b :: .ref a :: st) h P = z_pF h.1 a 10 5 (.ref b) (fun f => z_T g d 94 34 ls st (f, h.2) P) := zt_put zi_94_31 ((congrArg (fun o => z_fl o 23) zo_94).trans zf_LatinRectanglesLaw_Grid_23) (by decide +kernel) rfl rfl
theorem ze_94_31_n : z_T g d 94 31 ls (.null :: .ref a :: st) h P = z_pF h.1 a 10 5 (.null) (fun f => z_T g d 94 34 ls st (f, h.2) P) := zt_put zi_94_31 ((congrArg (fun o => z_fl o 23) zo_94).trans zf_LatinRectanglesLaw_Grid_23) (by decide +kernel) rfl rfl
theorem zi_94_34 : z_ins 94 34 = some (.aload_n 0, 1) := by decide +kernel
theorem ze_94_34 : z_T g d 94 34 (.ref a :: ls) st h P = z_T g d 94 35 (.ref a :: ls) (.ref a :: st) h P := zt_aloadn zi_94_34 rfl rfl
theorem ze_94_34_n : z_T g d 94 34 (.null :: ls) st h P = z_T g d 94 35 (.null :: ls) (.null :: st) h P := zt_aloadnN zi_94_34 rfl rfl
theorem zi_94_35 : z_ins 94 35 = some (.iload_n 1, 1) := by decide +kernel
theorem ze_94_35 : z_T g d 94 35 (v0 :: .int x :: ls) st h P = z_T g d 94 36 (v0 :: .int x :: ls) (.int x :: st) h P := zt_iloadn zi_94_35 rfl rfl
theorem zi_94_36 : z_ins 94 36 = some (.iload_n 2, 1) := by decide +kernel
theorem ze_94_36 : z_T g d 94 36 (v0 :: v1 :: .int x :: ls) st h P = z_T g d 94 37 (v0 :: v1 :: .int x :: ls) (.int x :: st) h P := zt_iloadn zi_94_36 rfl rfl
theorem zi_94_37 : z_ins 94 37 = some (.iload_n 2, 1) := by decide +kernel
theorem ze_94_37 : z_T g d 94 37 (v0 :: v1 :: .int x :: ls) st h P = z_T g d 94 38 (v0 :: v1 :: .int x :: ls) (.int x :: st) h P := zt_iloadn zi_94_37 rfl rfl
theorem zi_94_38 : z_ins 94 38 = some (.multianewarray 26 3, 4) := by decide +kernel
theorem ze_94_38 : z_T g d 94 38 ls (.int y :: .int x :: .int x0 :: st) h P = z_nM3 h x0 x y (fun q h' => z_T g d 94 42 ls (.ref q :: st) h' P) := zt_multi3 zi_94_38 ((congrArg (fun o => z_lookup z_mas (o, 26)) zo_94).trans zq_mas_LatinRectanglesLaw_Grid_26)
theorem zi_94_42 : z_ins 94 42 = some (.putfield 28, 3) := by decide +kernel
theorem ze_94_42 : z_T g d 94 42 ls (.ref b :: .ref a :: st) h P = z_pF h.1 a 10 6 (.ref b) (fun f => z_T g d 94 45 ls st (f, h.2) P) := zt_put zi_94_42 ((congrArg (fun o => z_fl o 28) zo_94).trans zf_LatinRectanglesLaw_Grid_28) (by decide +kernel) rfl rfl
theorem ze_94_42_n : z_T g d 94 42 ls (.null :: .ref a :: st) h P = z_pF h.1 a 10 6 (.null) (fun f => z_T g d 94 45 ls st (f, h.2) P) := zt_put zi_94_42 ((congrArg (fun o => z_fl o 28) zo_94).trans zf_LatinRectanglesLaw_Grid_28) (by decide +kernel) rfl rfl
theorem zi_94_45 : z_ins 94 45 = some (.iconst 0, 1) := by decide +kernel
theorem ze_94_45 : z_T g d 94 45 ls st h P = z_T g d 94 46 ls (.int (nI 0) :: st) h P := zt_iconst zi_94_45 rfl
theorem zi_94_46 : z_ins 94 46 = some (.istore_n 3, 1) := by decide +kernel
theorem ze_94_46 : z_T g d 94 46 (v0 :: v1 :: v2 :: v3 :: ls) (.int x :: st) h P = z_T g d 94 47 (v0 :: v1 :: v2 :: .int x :: ls) st h P := zt_istoren zi_94_46 rfl (Nat.le_add_left 4 _)
theorem zi_94_47 : z_ins 94 47 = some (.iload_n 3, 1) := by decide +kernel
theorem ze_94_47 : z_T g d 94 47 (v0 :: v1 :: v2 :: .int x :: ls) st h P = z_T g d 94 48 (v0 :: v1 :: v2 :: .int x :: ls) (.int x :: st) h P := zt_iloadn zi_94_47 rfl rfl
theorem zi_94_48 : z_ins 94 48 = some (.iload_n 1, 1) := by decide +kernel
theorem ze_94_48 : z_T g d 94 48 (v0 :: .int x :: ls) st h P = z_T g d 94 49 (v0 :: .int x :: ls) (.int x :: st) h P := zt_iloadn zi_94_48 rfl rfl
theorem zi_94_49 : z_ins 94 49 = some (.if_icmp .ge 34, 3) := by decide +kernel
theorem ze_94_49 : z_T g d 94 49 ls (.int y :: .int x :: st) h P = (if x < y then z_T g d 94 52 ls st h P else z_T g d 94 83 ls st h P) := zt_icmpge zi_94_49 (by decide)
theorem zi_94_52 : z_ins 94 52 = some (.iconst 0, 1) := by decide +kernel
theorem ze_94_52 : z_T g d 94 52 ls st h P = z_T g d 94 53 ls (.int (nI 0) :: st) h P := zt_iconst zi_94_52 rfl
theorem zi_94_53 : z_ins 94 53 = some (.istore 4, 2) := by decide +kernel
theorem ze_94_53 : z_T g d 94 53 (v0 :: v1 :: v2 :: v3 :: v4 :: ls) (.int x :: st) h P = z_T g d 94 55 (v0 :: v1 :: v2 :: v3 :: .int x :: ls) st h P := zt_istore zi_94_53 (Nat.le_add_left 5 _)
theorem zi_94_55 : z_ins 94 55 = some (.iload 4, 2) := by decide +kernel
theorem ze_94_55 : z_T g d 94 55 (v0 :: v1 :: v2 :: v3 :: .int x :: ls) st h P = z_T g d 94 57 (v0 :: v1 :: v2 :: v3 :: .int x :: ls) (.int x :: st) h P := zt_iload zi_94_55 rfl
theorem zi_94_57 : z_ins 94 57 = some (.iload_n 2, 1) := by decide +kernel
theorem ze_94_57 : z_T g d 94 57 (v0 :: v1 :: .int x :: ls) st h P = z_T g d 94 58 (v0 :: v1 :: .int x :: ls) (.int x :: st) h P := zt_iloadn zi_94_57 rfl rfl
theorem zi_94_58 : z_ins 94 58 = some (.if_icmp .ge 19, 3) := by decide +kernel
theorem ze_94_58 : z_T g d 94 58 ls (.int y :: .int x :: st) h P = (if x < y then z_T g d 94 61 ls st h P else z_T g d 94 77 ls st h P) := zt_icmpge zi_94_58 (by decide)
theorem zi_94_61 : z_ins 94 61 = some (.aload_n 0, 1) := by decide +kernel
theorem ze_94_61 : z_T g d 94 61 (.ref a :: ls) st h P = z_T g d 94 62 (.ref a :: ls) (.ref a :: st) h P := zt_aloadn zi_94_61 rfl rfl
theorem ze_94_61_n : z_T g d 94 61 (.null :: ls) st h P = z_T g d 94 62 (.null :: ls) (.null :: st) h P := zt_aloadnN zi_94_61 rfl rfl
theorem zi_94_62 : z_ins 94 62 = some (.getfield 18, 3) := by decide +kernel
theorem ze_94_62 : z_T g d 94 62 ls (.ref a :: st) h P = z_gR h.1 a 10 4 (fun x => z_T g d 94 65 ls (x :: st) h P) := zt_getR zi_94_62 ((congrArg (fun o => z_fl o 18) zo_94).trans zf_LatinRectanglesLaw_Grid_18)
theorem zi_94_65 : z_ins 94 65 = some (.iload_n 3, 1) := by decide +kernel
theorem ze_94_65 : z_T g d 94 65 (v0 :: v1 :: v2 :: .int x :: ls) st h P = z_T g d 94 66 (v0 :: v1 :: v2 :: .int x :: ls) (.int x :: st) h P := zt_iloadn zi_94_65 rfl rfl
theorem zi_94_66 : z_ins 94 66 = some (.aaload, 1) := by decide +kernel
theorem ze_94_66 : z_T g d 94 66 ls (.int x :: .ref a :: st) h P = z_qL h.1 a x (fun v => z_T g d 94 67 ls (.ref v :: st) h P) := zt_aaload zi_94_66
theorem zi_94_67 : z_ins 94 67 = some (.iload 4, 2) := by decide +kernel
theorem ze_94_67 : z_T g d 94 67 (v0 :: v1 :: v2 :: v3 :: .int x :: ls) st h P = z_T g d 94 69 (v0 :: v1 :: v2 :: v3 :: .int x :: ls) (.int x :: st) h P := zt_iload zi_94_67 rfl
theorem zi_94_69 : z_ins 94 69 = some (.iconst (-1), 1) := by decide +kernel
theorem ze_94_69 : z_T g d 94 69 ls st h P = z_T g d 94 70 ls (.int (-1) :: st) h P := zt_iconst zi_94_69 rfl
theorem zi_94_70 : z_ins 94 70 = some (.iastore, 1) := by decide +kernel
theorem ze_94_70 : z_T g d 94 70 ls (.int y :: .int x :: .ref a :: st) h P = z_aS h.1 a z_tI x y (fun f => z_T g d 94 71 ls st (f, h.2) P) := zt_iastore zi_94_70
theorem zi_94_71 : z_ins 94 71 = some (.iinc 4 1, 3) := by decide +kernel
theorem ze_94_71 : z_T g d 94 71 (v0 :: v1 :: v2 :: v3 :: .int x :: ls) st h P = z_T g d 94 74 (v0 :: v1 :: v2 :: v3 :: .int (x + (nI 1)) :: ls) st h P := zt_iinc zi_94_71 rfl rfl
theorem zi_94_74 : z_ins 94 74 = some (.goto (-19), 3) := by decide +kernel
theorem ze_94_74 : z_T g d 94 74 ls st h P = z_T g d 94 55 ls st h P := zt_goto zi_94_74 (by decide)
theorem zi_94_77 : z_ins 94 77 = some (.iinc 3 1, 3) := by decide +kernel
theorem ze_94_77 : z_T g d 94 77 (v0 :: v1 :: v2 :: .int x :: ls) st h P = z_T g d 94 80 (v0 :: v1 :: v2 :: .int (x + (nI 1)) :: ls) st h P := zt_iinc zi_94_77 rfl rfl
theorem zi_94_80 : z_ins 94 80 = some (.goto (-33), 3) := by decide +kernel
theorem ze_94_80 : z_T g d 94 80 ls st h P = z_T g d 94 47 ls st h P := zt_goto zi_94_80 (by decide)
theorem zi_94_83 : z_ins 94 83 = some (.return_, 1) := by decide +kernel
theorem ze_94_83 : z_T g d 94 83 ls [] h P = P (.inr none, h) := zt_return zi_94_83 zr_94
-- LatinRectanglesLaw$Grid.can(III)Z
theorem zm_95 : z_maxL 95 = 5 := by decide +kernel
theorem zh_95 : z_hds 95 = [] := by decide +kernel
theorem zj_95 : z_jdk 95 = false := by decide +kernel
theorem zr_95 : z_rt 95 = (some .boolean) := by decide +kernel
theorem zn_95 : z_Ca g d 95 [.ref a0, .int x1, .int x2, .int x3] h P = z_T g d 95 0 [.ref a0, .int x1, .int x2, .int x3, z_un] [] h P := z_Ca_ent zm_95 rfl rfl
theorem zi_95_0 : z_ins 95 0 = some (.aload_n 0, 1) := by decide +kernel
theorem ze_95_0 : z_T g d 95 0 (.ref a :: ls) st h P = z_T g d 95 1 (.ref a :: ls) (.ref a :: st) h P := zt_aloadn zi_95_0 rfl rfl
theorem ze_95_0_n : z_T g d 95 0 (.null :: ls) st h P = z_T g d 95 1 (.null :: ls) (.null :: st) h P := zt_aloadnN zi_95_0 rfl rfl
theorem zi_95_1 : z_ins 95 1 = some (.getfield 18, 3) := by decide +kernel
theorem ze_95_1 : z_T g d 95 1 ls (.ref a :: st) h P = z_gR h.1 a 10 4 (fun x => z_T g d 95 4 ls (x :: st) h P) := zt_getR zi_95_1 ((congrArg (fun o => z_fl o 18) zo_95).trans zf_LatinRectanglesLaw_Grid_18)
theorem zi_95_4 : z_ins 95 4 = some (.iload_n 1, 1) := by decide +kernel
theorem ze_95_4 : z_T g d 95 4 (v0 :: .int x :: ls) st h P = z_T g d 95 5 (v0 :: .int x :: ls) (.int x :: st) h P := zt_iloadn zi_95_4 rfl rfl
theorem zi_95_5 : z_ins 95 5 = some (.aaload, 1) := by decide +kernel
theorem ze_95_5 : z_T g d 95 5 ls (.int x :: .ref a :: st) h P = z_qL h.1 a x (fun v => z_T g d 95 6 ls (.ref v :: st) h P) := zt_aaload zi_95_5
theorem zi_95_6 : z_ins 95 6 = some (.iload_n 2, 1) := by decide +kernel
theorem ze_95_6 : z_T g d 95 6 (v0 :: v1 :: .int x :: ls) st h P = z_T g d 95 7 (v0 :: v1 :: .int x :: ls) (.int x :: st) h P := zt_iloadn zi_95_6 rfl rfl
theorem zi_95_7 : z_ins 95 7 = some (.iaload, 1) := by decide +kernel
theorem ze_95_7 : z_T g d 95 7 ls (.int x :: .ref a :: st) h P = z_aL h.1 a z_tI x (fun v => z_T g d 95 8 ls (.int v :: st) h P) := zt_iaload zi_95_7
theorem zi_95_8 : z_ins 95 8 = some (.ifCond .ge 16, 3) := by decide +kernel
theorem ze_95_8 : z_T g d 95 8 ls (.int x :: st) h P = (if x < nI 0 then z_T g d 95 11 ls st h P else z_T g d 95 24 ls st h P) := zt_ifge zi_95_8 (by decide)
theorem zi_95_11 : z_ins 95 11 = some (.aload_n 0, 1) := by decide +kernel
theorem ze_95_11 : z_T g d 95 11 (.ref a :: ls) st h P = z_T g d 95 12 (.ref a :: ls) (.ref a :: st) h P := zt_aloadn zi_95_11 rfl rfl
theorem ze_95_11_n : z_T g d 95 11 (.null :: ls) st h P = z_T g d 95 12 (.null :: ls) (.null :: st) h P := zt_aloadnN zi_95_11 rfl rfl
theorem zi_95_12 : z_ins 95 12 = some (.getfield 28, 3) := by decide +kernel
theorem ze_95_12 : z_T g d 95 12 ls (.ref a :: st) h P = z_gR h.1 a 10 6 (fun x => z_T g d 95 15 ls (x :: st) h P) := zt_getR zi_95_12 ((congrArg (fun o => z_fl o 28) zo_95).trans zf_LatinRectanglesLaw_Grid_28)
theorem zi_95_15 : z_ins 95 15 = some (.iload_n 1, 1) := by decide +kernel
theorem ze_95_15 : z_T g d 95 15 (v0 :: .int x :: ls) st h P = z_T g d 95 16 (v0 :: .int x :: ls) (.int x :: st) h P := zt_iloadn zi_95_15 rfl rfl
theorem zi_95_16 : z_ins 95 16 = some (.aaload, 1) := by decide +kernel
theorem ze_95_16 : z_T g d 95 16 ls (.int x :: .ref a :: st) h P = z_qL h.1 a x (fun v => z_T g d 95 17 ls (.ref v :: st) h P) := zt_aaload zi_95_16
theorem zi_95_17 : z_ins 95 17 = some (.iload_n 2, 1) := by decide +kernel
theorem ze_95_17 : z_T g d 95 17 (v0 :: v1 :: .int x :: ls) st h P = z_T g d 95 18 (v0 :: v1 :: .int x :: ls) (.int x :: st) h P := zt_iloadn zi_95_17 rfl rfl
theorem zi_95_18 : z_ins 95 18 = some (.aaload, 1) := by decide +kernel
theorem ze_95_18 : z_T g d 95 18 ls (.int x :: .ref a :: st) h P = z_qL h.1 a x (fun v => z_T g d 95 19 ls (.ref v :: st) h P) := zt_aaload zi_95_18
theorem zi_95_19 : z_ins 95 19 = some (.iload_n 3, 1) := by decide +kernel
theorem ze_95_19 : z_T g d 95 19 (v0 :: v1 :: v2 :: .int x :: ls) st h P = z_T g d 95 20 (v0 :: v1 :: v2 :: .int x :: ls) (.int x :: st) h P := zt_iloadn zi_95_19 rfl rfl
theorem zi_95_20 : z_ins 95 20 = some (.baload, 1) := by decide +kernel
theorem ze_95_20 : z_T g d 95 20 ls (.int x :: .ref a :: st) h P = z_aL h.1 a z_tB x (fun v => z_T g d 95 21 ls (.int v :: st) h P) := zt_baload zi_95_20
theorem zi_95_21 : z_ins 95 21 = some (.ifCond .eq 5, 3) := by decide +kernel
theorem ze_95_21 : z_T g d 95 21 ls (.int x :: st) h P = (if x = nI 0 then z_T g d 95 26 ls st h P else z_T g d 95 24 ls st h P) := zt_ifeq zi_95_21 (by decide)
theorem zi_95_24 : z_ins 95 24 = some (.iconst 0, 1) := by decide +kernel
theorem ze_95_24 : z_T g d 95 24 ls st h P = z_T g d 95 25 ls (.int (nI 0) :: st) h P := zt_iconst zi_95_24 rfl
theorem zi_95_25 : z_ins 95 25 = some (.ireturn, 1) := by decide +kernel
theorem ze_95_25 : z_T g d 95 25 ls [.int x] h P = ((x = nI 0 ∨ x = nI 1) ∧ P (.inr (some (.int x)), h)) := zt_zreturn zi_95_25 zr_95
theorem zi_95_26 : z_ins 95 26 = some (.iconst 0, 1) := by decide +kernel
theorem ze_95_26 : z_T g d 95 26 ls st h P = z_T g d 95 27 ls (.int (nI 0) :: st) h P := zt_iconst zi_95_26 rfl
theorem zi_95_27 : z_ins 95 27 = some (.istore 4, 2) := by decide +kernel
theorem ze_95_27 : z_T g d 95 27 (v0 :: v1 :: v2 :: v3 :: v4 :: ls) (.int x :: st) h P = z_T g d 95 29 (v0 :: v1 :: v2 :: v3 :: .int x :: ls) st h P := zt_istore zi_95_27 (Nat.le_add_left 5 _)
theorem zi_95_29 : z_ins 95 29 = some (.iload 4, 2) := by decide +kernel
theorem ze_95_29 : z_T g d 95 29 (v0 :: v1 :: v2 :: v3 :: .int x :: ls) st h P = z_T g d 95 31 (v0 :: v1 :: v2 :: v3 :: .int x :: ls) (.int x :: st) h P := zt_iload zi_95_29 rfl
theorem zi_95_31 : z_ins 95 31 = some (.aload_n 0, 1) := by decide +kernel
theorem ze_95_31 : z_T g d 95 31 (.ref a :: ls) st h P = z_T g d 95 32 (.ref a :: ls) (.ref a :: st) h P := zt_aloadn zi_95_31 rfl rfl
theorem ze_95_31_n : z_T g d 95 31 (.null :: ls) st h P = z_T g d 95 32 (.null :: ls) (.null :: st) h P := zt_aloadnN zi_95_31 rfl rfl
theorem zi_95_32 : z_ins 95 32 = some (.getfield 13, 3) := by decide +kernel
theorem ze_95_32 : z_T g d 95 32 ls (.ref a :: st) h P = z_gI h.1 a 10 1 (fun x => z_T g d 95 35 ls (.int x :: st) h P) := zt_getI zi_95_32 ((congrArg (fun o => z_fl o 13) zo_95).trans zf_LatinRectanglesLaw_Grid_13)
theorem zi_95_35 : z_ins 95 35 = some (.if_icmp .ge 24, 3) := by decide +kernel
theorem ze_95_35 : z_T g d 95 35 ls (.int y :: .int x :: st) h P = (if x < y then z_T g d 95 38 ls st h P else z_T g d 95 59 ls st h P) := zt_icmpge zi_95_35 (by decide)
theorem zi_95_38 : z_ins 95 38 = some (.aload_n 0, 1) := by decide +kernel
theorem ze_95_38 : z_T g d 95 38 (.ref a :: ls) st h P = z_T g d 95 39 (.ref a :: ls) (.ref a :: st) h P := zt_aloadn zi_95_38 rfl rfl
theorem ze_95_38_n : z_T g d 95 38 (.null :: ls) st h P = z_T g d 95 39 (.null :: ls) (.null :: st) h P := zt_aloadnN zi_95_38 rfl rfl
theorem zi_95_39 : z_ins 95 39 = some (.getfield 18, 3) := by decide +kernel
theorem ze_95_39 : z_T g d 95 39 ls (.ref a :: st) h P = z_gR h.1 a 10 4 (fun x => z_T g d 95 42 ls (x :: st) h P) := zt_getR zi_95_39 ((congrArg (fun o => z_fl o 18) zo_95).trans zf_LatinRectanglesLaw_Grid_18)
theorem zi_95_42 : z_ins 95 42 = some (.iload_n 1, 1) := by decide +kernel
theorem ze_95_42 : z_T g d 95 42 (v0 :: .int x :: ls) st h P = z_T g d 95 43 (v0 :: .int x :: ls) (.int x :: st) h P := zt_iloadn zi_95_42 rfl rfl
theorem zi_95_43 : z_ins 95 43 = some (.aaload, 1) := by decide +kernel
theorem ze_95_43 : z_T g d 95 43 ls (.int x :: .ref a :: st) h P = z_qL h.1 a x (fun v => z_T g d 95 44 ls (.ref v :: st) h P) := zt_aaload zi_95_43
theorem zi_95_44 : z_ins 95 44 = some (.iload 4, 2) := by decide +kernel
theorem ze_95_44 : z_T g d 95 44 (v0 :: v1 :: v2 :: v3 :: .int x :: ls) st h P = z_T g d 95 46 (v0 :: v1 :: v2 :: v3 :: .int x :: ls) (.int x :: st) h P := zt_iload zi_95_44 rfl
theorem zi_95_46 : z_ins 95 46 = some (.iaload, 1) := by decide +kernel
theorem ze_95_46 : z_T g d 95 46 ls (.int x :: .ref a :: st) h P = z_aL h.1 a z_tI x (fun v => z_T g d 95 47 ls (.int v :: st) h P) := zt_iaload zi_95_46
theorem zi_95_47 : z_ins 95 47 = some (.iload_n 3, 1) := by decide +kernel
theorem ze_95_47 : z_T g d 95 47 (v0 :: v1 :: v2 :: .int x :: ls) st h P = z_T g d 95 48 (v0 :: v1 :: v2 :: .int x :: ls) (.int x :: st) h P := zt_iloadn zi_95_47 rfl rfl
theorem zi_95_48 : z_ins 95 48 = some (.if_icmp .ne 5, 3) := by decide +kernel
theorem ze_95_48 : z_T g d 95 48 ls (.int y :: .int x :: st) h P = (if x = y then z_T g d 95 51 ls st h P else z_T g d 95 53 ls st h P) := zt_icmpne zi_95_48 (by decide)
theorem zi_95_51 : z_ins 95 51 = some (.iconst 0, 1) := by decide +kernel
theorem ze_95_51 : z_T g d 95 51 ls st h P = z_T g d 95 52 ls (.int (nI 0) :: st) h P := zt_iconst zi_95_51 rfl
theorem zi_95_52 : z_ins 95 52 = some (.ireturn, 1) := by decide +kernel
theorem ze_95_52 : z_T g d 95 52 ls [.int x] h P = ((x = nI 0 ∨ x = nI 1) ∧ P (.inr (some (.int x)), h)) := zt_zreturn zi_95_52 zr_95
theorem zi_95_53 : z_ins 95 53 = some (.iinc 4 1, 3) := by decide +kernel
theorem ze_95_53 : z_T g d 95 53 (v0 :: v1 :: v2 :: v3 :: .int x :: ls) st h P = z_T g d 95 56 (v0 :: v1 :: v2 :: v3 :: .int (x + (nI 1)) :: ls) st h P := zt_iinc zi_95_53 rfl rfl
theorem zi_95_56 : z_ins 95 56 = some (.goto (-27), 3) := by decide +kernel
theorem ze_95_56 : z_T g d 95 56 ls st h P = z_T g d 95 29 ls st h P := zt_goto zi_95_56 (by decide)
theorem zi_95_59 : z_ins 95 59 = some (.iconst 0, 1) := by decide +kernel
theorem ze_95_59 : z_T g d 95 59 ls st h P = z_T g d 95 60 ls (.int (nI 0) :: st) h P := zt_iconst zi_95_59 rfl
theorem zi_95_60 : z_ins 95 60 = some (.istore 4, 2) := by decide +kernel
theorem ze_95_60 : z_T g d 95 60 (v0 :: v1 :: v2 :: v3 :: v4 :: ls) (.int x :: st) h P = z_T g d 95 62 (v0 :: v1 :: v2 :: v3 :: .int x :: ls) st h P := zt_istore zi_95_60 (Nat.le_add_left 5 _)
theorem zi_95_62 : z_ins 95 62 = some (.iload 4, 2) := by decide +kernel
theorem ze_95_62 : z_T g d 95 62 (v0 :: v1 :: v2 :: v3 :: .int x :: ls) st h P = z_T g d 95 64 (v0 :: v1 :: v2 :: v3 :: .int x :: ls) (.int x :: st) h P := zt_iload zi_95_62 rfl
theorem zi_95_64 : z_ins 95 64 = some (.aload_n 0, 1) := by decide +kernel
theorem ze_95_64 : z_T g d 95 64 (.ref a :: ls) st h P = z_T g d 95 65 (.ref a :: ls) (.ref a :: st) h P := zt_aloadn zi_95_64 rfl rfl
theorem ze_95_64_n : z_T g d 95 64 (.null :: ls) st h P = z_T g d 95 65 (.null :: ls) (.null :: st) h P := zt_aloadnN zi_95_64 rfl rfl
theorem zi_95_65 : z_ins 95 65 = some (.getfield 7, 3) := by decide +kernel
theorem ze_95_65 : z_T g d 95 65 ls (.ref a :: st) h P = z_gI h.1 a 10 0 (fun x => z_T g d 95 68 ls (.int x :: st) h P) := zt_getI zi_95_65 ((congrArg (fun o => z_fl o 7) zo_95).trans zf_LatinRectanglesLaw_Grid_7)
theorem zi_95_68 : z_ins 95 68 = some (.if_icmp .ge 24, 3) := by decide +kernel
theorem ze_95_68 : z_T g d 95 68 ls (.int y :: .int x :: st) h P = (if x < y then z_T g d 95 71 ls st h P else z_T g d 95 92 ls st h P) := zt_icmpge zi_95_68 (by decide)
theorem zi_95_71 : z_ins 95 71 = some (.aload_n 0, 1) := by decide +kernel
theorem ze_95_71 : z_T g d 95 71 (.ref a :: ls) st h P = z_T g d 95 72 (.ref a :: ls) (.ref a :: st) h P := zt_aloadn zi_95_71 rfl rfl
theorem ze_95_71_n : z_T g d 95 71 (.null :: ls) st h P = z_T g d 95 72 (.null :: ls) (.null :: st) h P := zt_aloadnN zi_95_71 rfl rfl
theorem zi_95_72 : z_ins 95 72 = some (.getfield 18, 3) := by decide +kernel
theorem ze_95_72 : z_T g d 95 72 ls (.ref a :: st) h P = z_gR h.1 a 10 4 (fun x => z_T g d 95 75 ls (x :: st) h P) := zt_getR zi_95_72 ((congrArg (fun o => z_fl o 18) zo_95).trans zf_LatinRectanglesLaw_Grid_18)
theorem zi_95_75 : z_ins 95 75 = some (.iload 4, 2) := by decide +kernel
theorem ze_95_75 : z_T g d 95 75 (v0 :: v1 :: v2 :: v3 :: .int x :: ls) st h P = z_T g d 95 77 (v0 :: v1 :: v2 :: v3 :: .int x :: ls) (.int x :: st) h P := zt_iload zi_95_75 rfl
theorem zi_95_77 : z_ins 95 77 = some (.aaload, 1) := by decide +kernel
theorem ze_95_77 : z_T g d 95 77 ls (.int x :: .ref a :: st) h P = z_qL h.1 a x (fun v => z_T g d 95 78 ls (.ref v :: st) h P) := zt_aaload zi_95_77
theorem zi_95_78 : z_ins 95 78 = some (.iload_n 2, 1) := by decide +kernel
theorem ze_95_78 : z_T g d 95 78 (v0 :: v1 :: .int x :: ls) st h P = z_T g d 95 79 (v0 :: v1 :: .int x :: ls) (.int x :: st) h P := zt_iloadn zi_95_78 rfl rfl
theorem zi_95_79 : z_ins 95 79 = some (.iaload, 1) := by decide +kernel
theorem ze_95_79 : z_T g d 95 79 ls (.int x :: .ref a :: st) h P = z_aL h.1 a z_tI x (fun v => z_T g d 95 80 ls (.int v :: st) h P) := zt_iaload zi_95_79
theorem zi_95_80 : z_ins 95 80 = some (.iload_n 3, 1) := by decide +kernel
theorem ze_95_80 : z_T g d 95 80 (v0 :: v1 :: v2 :: .int x :: ls) st h P = z_T g d 95 81 (v0 :: v1 :: v2 :: .int x :: ls) (.int x :: st) h P := zt_iloadn zi_95_80 rfl rfl
theorem zi_95_81 : z_ins 95 81 = some (.if_icmp .ne 5, 3) := by decide +kernel
theorem ze_95_81 : z_T g d 95 81 ls (.int y :: .int x :: st) h P = (if x = y then z_T g d 95 84 ls st h P else z_T g d 95 86 ls st h P) := zt_icmpne zi_95_81 (by decide)
theorem zi_95_84 : z_ins 95 84 = some (.iconst 0, 1) := by decide +kernel
theorem ze_95_84 : z_T g d 95 84 ls st h P = z_T g d 95 85 ls (.int (nI 0) :: st) h P := zt_iconst zi_95_84 rfl
theorem zi_95_85 : z_ins 95 85 = some (.ireturn, 1) := by decide +kernel
theorem ze_95_85 : z_T g d 95 85 ls [.int x] h P = ((x = nI 0 ∨ x = nI 1) ∧ P (.inr (some (.int x)), h)) := zt_zreturn zi_95_85 zr_95
theorem zi_95_86 : z_ins 95 86 = some (.iinc 4 1, 3) := by decide +kernel
theorem ze_95_86 : z_T g d 95 86 (v0 :: v1 :: v2 :: v3 :: .int x :: ls) st h P = z_T g d 95 89 (v0 :: v1 :: v2 :: v3 :: .int (x + (nI 1)) :: ls) st h P := zt_iinc zi_95_86 rfl rfl
theorem zi_95_89 : z_ins 95 89 = some (.goto (-27), 3) := by decide +kernel
theorem ze_95_89 : z_T g d 95 89 ls st h P = z_T g d 95 62 ls st h P := zt_goto zi_95_89 (by decide)
theorem zi_95_92 : z_ins 95 92 = some (.iconst 1, 1) := by decide +kernel
theorem ze_95_92 : z_T g d 95 92 ls st h P = z_T g d 95 93 ls (.int (nI 1) :: st) h P := zt_iconst zi_95_92 rfl
theorem zi_95_93 : z_ins 95 93 = some (.ireturn, 1) := by decide +kernel
theorem ze_95_93 : z_T g d 95 93 ls [.int x] h P = ((x = nI 0 ∨ x = nI 1) ∧ P (.inr (some (.int x)), h)) := zt_zreturn zi_95_93 zr_95
-- LatinRectanglesLaw$Grid.candidates(II)I
theorem zm_96 : z_maxL 96 = 5 := by decide +kernel
theorem zh_96 : z_hds 96 = [] := by decide +kernel
theorem zj_96 : z_jdk 96 = false := by decide +kernel
theorem zr_96 : z_rt 96 = (some .int) := by decide +kernel
theorem zn_96 : z_Ca g d 96 [.ref a0, .int x1, .int x2] h P = z_T g d 96 0 [.ref a0, .int x1, .int x2, z_un, z_un] [] h P := z_Ca_ent zm_96 rfl rfl
theorem zi_96_0 : z_ins 96 0 = some (.iconst 0, 1) := by decide +kernel
theorem ze_96_0 : z_T g d 96 0 ls st h P = z_T g d 96 1 ls (.int (nI 0) :: st) h P := zt_iconst zi_96_0 rfl
theorem zi_96_1 : z_ins 96 1 = some (.istore_n 3, 1) := by decide +kernel
theorem ze_96_1 : z_T g d 96 1 (v0 :: v1 :: v2 :: v3 :: ls) (.int x :: st) h P = z_T g d 96 2 (v0 :: v1 :: v2 :: .int x :: ls) st h P := zt_istoren zi_96_1 rfl (Nat.le_add_left 4 _)
theorem zi_96_2 : z_ins 96 2 = some (.iconst 0, 1) := by decide +kernel
theorem ze_96_2 : z_T g d 96 2 ls st h P = z_T g d 96 3 ls (.int (nI 0) :: st) h P := zt_iconst zi_96_2 rfl
theorem zi_96_3 : z_ins 96 3 = some (.istore 4, 2) := by decide +kernel
theorem ze_96_3 : z_T g d 96 3 (v0 :: v1 :: v2 :: v3 :: v4 :: ls) (.int x :: st) h P = z_T g d 96 5 (v0 :: v1 :: v2 :: v3 :: .int x :: ls) st h P := zt_istore zi_96_3 (Nat.le_add_left 5 _)
theorem zi_96_5 : z_ins 96 5 = some (.iload 4, 2) := by decide +kernel
theorem ze_96_5 : z_T g d 96 5 (v0 :: v1 :: v2 :: v3 :: .int x :: ls) st h P = z_T g d 96 7 (v0 :: v1 :: v2 :: v3 :: .int x :: ls) (.int x :: st) h P := zt_iload zi_96_5 rfl
theorem zi_96_7 : z_ins 96 7 = some (.aload_n 0, 1) := by decide +kernel
theorem ze_96_7 : z_T g d 96 7 (.ref a :: ls) st h P = z_T g d 96 8 (.ref a :: ls) (.ref a :: st) h P := zt_aloadn zi_96_7 rfl rfl
theorem ze_96_7_n : z_T g d 96 7 (.null :: ls) st h P = z_T g d 96 8 (.null :: ls) (.null :: st) h P := zt_aloadnN zi_96_7 rfl rfl
theorem zi_96_8 : z_ins 96 8 = some (.getfield 13, 3) := by decide +kernel
theorem ze_96_8 : z_T g d 96 8 ls (.ref a :: st) h P = z_gI h.1 a 10 1 (fun x => z_T g d 96 11 ls (.int x :: st) h P) := zt_getI zi_96_8 ((congrArg (fun o => z_fl o 13) zo_96).trans zf_LatinRectanglesLaw_Grid_13)
theorem zi_96_11 : z_ins 96 11 = some (.if_icmp .ge 27, 3) := by decide +kernel
theorem ze_96_11 : z_T g d 96 11 ls (.int y :: .int x :: st) h P = (if x < y then z_T g d 96 14 ls st h P else z_T g d 96 38 ls st h P) := zt_icmpge zi_96_11 (by decide)
theorem zi_96_14 : z_ins 96 14 = some (.aload_n 0, 1) := by decide +kernel
theorem ze_96_14 : z_T g d 96 14 (.ref a :: ls) st h P = z_T g d 96 15 (.ref a :: ls) (.ref a :: st) h P := zt_aloadn zi_96_14 rfl rfl
theorem ze_96_14_n : z_T g d 96 14 (.null :: ls) st h P = z_T g d 96 15 (.null :: ls) (.null :: st) h P := zt_aloadnN zi_96_14 rfl rfl
theorem zi_96_15 : z_ins 96 15 = some (.iload_n 1, 1) := by decide +kernel
theorem ze_96_15 : z_T g d 96 15 (v0 :: .int x :: ls) st h P = z_T g d 96 16 (v0 :: .int x :: ls) (.int x :: st) h P := zt_iloadn zi_96_15 rfl rfl
theorem zi_96_16 : z_ins 96 16 = some (.iload_n 2, 1) := by decide +kernel
theorem ze_96_16 : z_T g d 96 16 (v0 :: v1 :: .int x :: ls) st h P = z_T g d 96 17 (v0 :: v1 :: .int x :: ls) (.int x :: st) h P := zt_iloadn zi_96_16 rfl rfl
theorem zi_96_17 : z_ins 96 17 = some (.iload 4, 2) := by decide +kernel
theorem ze_96_17 : z_T g d 96 17 (v0 :: v1 :: v2 :: v3 :: .int x :: ls) st h P = z_T g d 96 19 (v0 :: v1 :: v2 :: v3 :: .int x :: ls) (.int x :: st) h P := zt_iload zi_96_17 rfl
theorem zi_96_19 : z_ins 96 19 = some (.invokevirtual 31, 3) := by decide +kernel
theorem ze_96_19 : z_T g d 96 19 ls (.int x2 :: .int x1 :: .int x0 :: .ref a :: st) h P = ((z_okS 8 st = true ∧ z_gO h.1 a 10 ∧ 0 < d) ∧ z_Ca g (d - 1) 95 [.ref a, .int x0, .int x1, .int x2] h (fun r => z_k r (fun v h' => z_T g d 96 22 ls (z_push v st) h' P) P)) := zt_cV (as := [.int x0, .int x1, .int x2]) (kk := 0) zi_96_19 rfl (zt_call zj_96 zh_96) (z_opV ((congrArg (fun o => z_lookup z_cns (o, 31)) zo_96).trans zq_cns_LatinRectanglesLaw_Grid_31) ((congrArg (fun o => z_lookup z_prs (o, 31)) zo_96).trans zq_prs_LatinRectanglesLaw_Grid_31)) ((congrArg (fun o => z_clk o 31) zo_96).trans zk_LatinRectanglesLaw_Grid_31) rfl rfl rfl rfl (z_rcv0 zc_95)
theorem zi_96_22 : z_ins 96 22 = some (.ifCond .eq 10, 3) := by decide +kernel
theorem ze_96_22 : z_T g d 96 22 ls (.int x :: st) h P = (if x = nI 0 then z_T g d 96 32 ls st h P else z_T g d 96 25 ls st h P) := zt_ifeq zi_96_22 (by decide)
theorem zi_96_25 : z_ins 96 25 = some (.iload_n 3, 1) := by decide +kernel
theorem ze_96_25 : z_T g d 96 25 (v0 :: v1 :: v2 :: .int x :: ls) st h P = z_T g d 96 26 (v0 :: v1 :: v2 :: .int x :: ls) (.int x :: st) h P := zt_iloadn zi_96_25 rfl rfl
theorem zi_96_26 : z_ins 96 26 = some (.iconst 1, 1) := by decide +kernel
theorem ze_96_26 : z_T g d 96 26 ls st h P = z_T g d 96 27 ls (.int (nI 1) :: st) h P := zt_iconst zi_96_26 rfl
theorem zi_96_27 : z_ins 96 27 = some (.iload 4, 2) := by decide +kernel
theorem ze_96_27 : z_T g d 96 27 (v0 :: v1 :: v2 :: v3 :: .int x :: ls) st h P = z_T g d 96 29 (v0 :: v1 :: v2 :: v3 :: .int x :: ls) (.int x :: st) h P := zt_iload zi_96_27 rfl
theorem zi_96_29 : z_ins 96 29 = some (.ishl, 1) := by decide +kernel
theorem ze_96_29 : z_T g d 96 29 ls (.int y :: .int x :: st) h P = z_T g d 96 30 ls (.int (x <<< (y &&& 31)) :: st) h P := zt_bin (f := fun x y => x <<< (y &&& 31)) zi_96_29 rfl (fun _ _ _ => rfl)
theorem zi_96_30 : z_ins 96 30 = some (.ior, 1) := by decide +kernel
theorem ze_96_30 : z_T g d 96 30 ls (.int y :: .int x :: st) h P = z_T g d 96 31 ls (.int (x ||| y) :: st) h P := zt_bin (f := fun x y => x ||| y) zi_96_30 rfl (fun _ _ _ => rfl)
theorem zi_96_31 : z_ins 96 31 = some (.istore_n 3, 1) := by decide +kernel
theorem ze_96_31 : z_T g d 96 31 (v0 :: v1 :: v2 :: v3 :: ls) (.int x :: st) h P = z_T g d 96 32 (v0 :: v1 :: v2 :: .int x :: ls) st h P := zt_istoren zi_96_31 rfl (Nat.le_add_left 4 _)
theorem zi_96_32 : z_ins 96 32 = some (.iinc 4 1, 3) := by decide +kernel
theorem ze_96_32 : z_T g d 96 32 (v0 :: v1 :: v2 :: v3 :: .int x :: ls) st h P = z_T g d 96 35 (v0 :: v1 :: v2 :: v3 :: .int (x + (nI 1)) :: ls) st h P := zt_iinc zi_96_32 rfl rfl
theorem zi_96_35 : z_ins 96 35 = some (.goto (-30), 3) := by decide +kernel
theorem ze_96_35 : z_T g d 96 35 ls st h P = z_T g d 96 5 ls st h P := zt_goto zi_96_35 (by decide)
theorem zi_96_38 : z_ins 96 38 = some (.iload_n 3, 1) := by decide +kernel
theorem ze_96_38 : z_T g d 96 38 (v0 :: v1 :: v2 :: .int x :: ls) st h P = z_T g d 96 39 (v0 :: v1 :: v2 :: .int x :: ls) (.int x :: st) h P := zt_iloadn zi_96_38 rfl rfl
theorem zi_96_39 : z_ins 96 39 = some (.ireturn, 1) := by decide +kernel
theorem ze_96_39 : z_T g d 96 39 ls [.int x] h P = P (.inr (some (.int x)), h) := zt_ireturn zi_96_39 zr_96
-- LatinRectanglesLaw$Grid.forced(II)[I
theorem zm_97 : z_maxL 97 = 7 := by decide +kernel
theorem zh_97 : z_hds 97 = [] := by decide +kernel
theorem zj_97 : z_jdk 97 = false := by decide +kernel
theorem zr_97 : z_rt 97 = (some (.array .int)) := by decide +kernel
theorem zn_97 : z_Ca g d 97 [.ref a0, .int x1, .int x2] h P = z_T g d 97 0 [.ref a0, .int x1, .int x2, z_un, z_un, z_un, z_un] [] h P := z_Ca_ent zm_97 rfl rfl
theorem zi_97_0 : z_ins 97 0 = some (.aload_n 0, 1) := by decide +kernel
theorem ze_97_0 : z_T g d 97 0 (.ref a :: ls) st h P = z_T g d 97 1 (.ref a :: ls) (.ref a :: st) h P := zt_aloadn zi_97_0 rfl rfl
theorem ze_97_0_n : z_T g d 97 0 (.null :: ls) st h P = z_T g d 97 1 (.null :: ls) (.null :: st) h P := zt_aloadnN zi_97_0 rfl rfl
theorem zi_97_1 : z_ins 97 1 = some (.iload_n 1, 1) := by decide +kernel
theorem ze_97_1 : z_T g d 97 1 (v0 :: .int x :: ls) st h P = z_T g d 97 2 (v0 :: .int x :: ls) (.int x :: st) h P := zt_iloadn zi_97_1 rfl rfl
theorem zi_97_2 : z_ins 97 2 = some (.iload_n 2, 1) := by decide +kernel
theorem ze_97_2 : z_T g d 97 2 (v0 :: v1 :: .int x :: ls) st h P = z_T g d 97 3 (v0 :: v1 :: .int x :: ls) (.int x :: st) h P := zt_iloadn zi_97_2 rfl rfl
theorem zi_97_3 : z_ins 97 3 = some (.invokevirtual 35, 3) := by decide +kernel
theorem ze_97_3 : z_T g d 97 3 ls (.int x1 :: .int x0 :: .ref a :: st) h P = ((z_okS 8 st = true ∧ z_gO h.1 a 10 ∧ 0 < d) ∧ z_Ca g (d - 1) 96 [.ref a, .int x0, .int x1] h (fun r => z_k r (fun v h' => z_T g d 97 6 ls (z_push v st) h' P) P)) := zt_cV (as := [.int x0, .int x1]) (kk := 0) zi_97_3 rfl (zt_call zj_97 zh_97) (z_opV ((congrArg (fun o => z_lookup z_cns (o, 35)) zo_97).trans zq_cns_LatinRectanglesLaw_Grid_35) ((congrArg (fun o => z_lookup z_prs (o, 35)) zo_97).trans zq_prs_LatinRectanglesLaw_Grid_35)) ((congrArg (fun o => z_clk o 35) zo_97).trans zk_LatinRectanglesLaw_Grid_35) rfl rfl rfl rfl (z_rcv0 zc_96)
theorem zi_97_6 : z_ins 97 6 = some (.istore_n 3, 1) := by decide +kernel
theorem ze_97_6 : z_T g d 97 6 (v0 :: v1 :: v2 :: v3 :: ls) (.int x :: st) h P = z_T g d 97 7 (v0 :: v1 :: v2 :: .int x :: ls) st h P := zt_istoren zi_97_6 rfl (Nat.le_add_left 4 _)
theorem zi_97_7 : z_ins 97 7 = some (.iload_n 3, 1) := by decide +kernel
theorem ze_97_7 : z_T g d 97 7 (v0 :: v1 :: v2 :: .int x :: ls) st h P = z_T g d 97 8 (v0 :: v1 :: v2 :: .int x :: ls) (.int x :: st) h P := zt_iloadn zi_97_7 rfl rfl
theorem zi_97_8 : z_ins 97 8 = some (.ifCond .ne 5, 3) := by decide +kernel
theorem ze_97_8 : z_T g d 97 8 ls (.int x :: st) h P = (if x = nI 0 then z_T g d 97 11 ls st h P else z_T g d 97 13 ls st h P) := zt_ifne zi_97_8 (by decide)
theorem zi_97_11 : z_ins 97 11 = some (.aconst_null, 1) := by decide +kernel
theorem ze_97_11 : z_T g d 97 11 ls st h P = z_T g d 97 12 ls (.null :: st) h P := zt_null zi_97_11
theorem zi_97_12 : z_ins 97 12 = some (.areturn, 1) := by decide +kernel
theorem ze_97_12 : z_T g d 97 12 ls [.ref a] h P = P (.inr (some (.ref a)), h) := zt_areturn rfl zi_97_12 zr_97 rfl
theorem ze_97_12_n : z_T g d 97 12 ls [.null] h P = P (.inr (some (.null)), h) := zt_areturn rfl zi_97_12 zr_97 rfl
theorem zi_97_13 : z_ins 97 13 = some (.iload_n 3, 1) := by decide +kernel
theorem ze_97_13 : z_T g d 97 13 (v0 :: v1 :: v2 :: .int x :: ls) st h P = z_T g d 97 14 (v0 :: v1 :: v2 :: .int x :: ls) (.int x :: st) h P := zt_iloadn zi_97_13 rfl rfl
theorem zi_97_14 : z_ins 97 14 = some (.invokestatic 39, 3) := by decide +kernel
theorem ze_97_14 : z_T g d 97 14 ls (.int x0 :: st) h P = ((z_okS 8 st = true ∧ 0 < d) ∧ z_Ca g (d - 1) 121 [.int x0] h (fun r => z_k r (fun v h' => z_T g d 97 17 ls (z_push v st) h' P) P)) := zt_cS (as := [.int x0]) (kk := 1) zi_97_14 rfl (zt_call zj_97 zh_97) (z_opT ((congrArg (fun o => z_lookup z_cps (o, 39)) zo_97).trans zq_cps_LatinRectanglesLaw_Grid_39) ((congrArg (fun o => z_lookup z_prs (o, 39)) zo_97).trans zq_prs_LatinRectanglesLaw_Grid_39)) ((congrArg (fun o => z_clk o 39) zo_97).trans zk_LatinRectanglesLaw_Grid_39) rfl rfl rfl rfl rfl
theorem zi_97_17 : z_ins 97 17 = some (.iconst 1, 1) := by decide +kernel
theorem ze_97_17 : z_T g d 97 17 ls st h P = z_T g d 97 18 ls (.int (nI 1) :: st) h P := zt_iconst zi_97_17 rfl
theorem zi_97_18 : z_ins 97 18 = some (.if_icmp .ne 18, 3) := by decide +kernel
theorem ze_97_18 : z_T g d 97 18 ls (.int y :: .int x :: st) h P = (if x = y then z_T g d 97 21 ls st h P else z_T g d 97 36 ls st h P) := zt_icmpne zi_97_18 (by decide)
theorem zi_97_21 : z_ins 97 21 = some (.iconst 2, 1) := by decide +kernel
theorem ze_97_21 : z_T g d 97 21 ls st h P = z_T g d 97 22 ls (.int (nI 2) :: st) h P := zt_iconst zi_97_21 rfl
theorem zi_97_22 : z_ins 97 22 = some (.newarray .int, 2) := by decide +kernel
theorem ze_97_22 : z_T g d 97 22 ls (.int x :: st) h P = z_nA h .int x (fun q h' => z_T g d 97 24 ls (.ref q :: st) h' P) := zt_newarray zi_97_22
theorem zi_97_24 : z_ins 97 24 = some (.dup, 1) := by decide +kernel
theorem ze_97_24 : z_T g d 97 24 ls (.ref a :: st) h P = z_T g d 97 25 ls (.ref a :: .ref a :: st) h P := zt_dup rfl zi_97_24
theorem ze_97_24_i : z_T g d 97 24 ls (.int x :: st) h P = z_T g d 97 25 ls (.int x :: .int x :: st) h P := zt_dup rfl zi_97_24
theorem zi_97_25 : z_ins 97 25 = some (.iconst 0, 1) := by decide +kernel
theorem ze_97_25 : z_T g d 97 25 ls st h P = z_T g d 97 26 ls (.int (nI 0) :: st) h P := zt_iconst zi_97_25 rfl
theorem zi_97_26 : z_ins 97 26 = some (.iload_n 3, 1) := by decide +kernel
theorem ze_97_26 : z_T g d 97 26 (v0 :: v1 :: v2 :: .int x :: ls) st h P = z_T g d 97 27 (v0 :: v1 :: v2 :: .int x :: ls) (.int x :: st) h P := zt_iloadn zi_97_26 rfl rfl
theorem zi_97_27 : z_ins 97 27 = some (.invokestatic 45, 3) := by decide +kernel
theorem ze_97_27 : z_T g d 97 27 ls (.int x0 :: st) h P = ((z_okS 8 st = true ∧ 0 < d) ∧ z_Ca g (d - 1) 120 [.int x0] h (fun r => z_k r (fun v h' => z_T g d 97 30 ls (z_push v st) h' P) P)) := zt_cS (as := [.int x0]) (kk := 1) zi_97_27 rfl (zt_call zj_97 zh_97) (z_opT ((congrArg (fun o => z_lookup z_cps (o, 45)) zo_97).trans zq_cps_LatinRectanglesLaw_Grid_45) ((congrArg (fun o => z_lookup z_prs (o, 45)) zo_97).trans zq_prs_LatinRectanglesLaw_Grid_45)) ((congrArg (fun o => z_clk o 45) zo_97).trans zk_LatinRectanglesLaw_Grid_45) rfl rfl rfl rfl rfl
theorem zi_97_30 : z_ins 97 30 = some (.iastore, 1) := by decide +kernel
theorem ze_97_30 : z_T g d 97 30 ls (.int y :: .int x :: .ref a :: st) h P = z_aS h.1 a z_tI x y (fun f => z_T g d 97 31 ls st (f, h.2) P) := zt_iastore zi_97_30
theorem zi_97_31 : z_ins 97 31 = some (.dup, 1) := by decide +kernel
theorem ze_97_31 : z_T g d 97 31 ls (.ref a :: st) h P = z_T g d 97 32 ls (.ref a :: .ref a :: st) h P := zt_dup rfl zi_97_31
theorem ze_97_31_i : z_T g d 97 31 ls (.int x :: st) h P = z_T g d 97 32 ls (.int x :: .int x :: st) h P := zt_dup rfl zi_97_31
theorem zi_97_32 : z_ins 97 32 = some (.iconst 1, 1) := by decide +kernel
theorem ze_97_32 : z_T g d 97 32 ls st h P = z_T g d 97 33 ls (.int (nI 1) :: st) h P := zt_iconst zi_97_32 rfl
theorem zi_97_33 : z_ins 97 33 = some (.iconst 1, 1) := by decide +kernel
theorem ze_97_33 : z_T g d 97 33 ls st h P = z_T g d 97 34 ls (.int (nI 1) :: st) h P := zt_iconst zi_97_33 rfl
theorem zi_97_34 : z_ins 97 34 = some (.iastore, 1) := by decide +kernel
theorem ze_97_34 : z_T g d 97 34 ls (.int y :: .int x :: .ref a :: st) h P = z_aS h.1 a z_tI x y (fun f => z_T g d 97 35 ls st (f, h.2) P) := zt_iastore zi_97_34
theorem zi_97_35 : z_ins 97 35 = some (.areturn, 1) := by decide +kernel
theorem ze_97_35 : z_T g d 97 35 ls [.ref a] h P = P (.inr (some (.ref a)), h) := zt_areturn rfl zi_97_35 zr_97 rfl
theorem ze_97_35_n : z_T g d 97 35 ls [.null] h P = P (.inr (some (.null)), h) := zt_areturn rfl zi_97_35 zr_97 rfl
theorem zi_97_36 : z_ins 97 36 = some (.iconst 0, 1) := by decide +kernel
theorem ze_97_36 : z_T g d 97 36 ls st h P = z_T g d 97 37 ls (.int (nI 0) :: st) h P := zt_iconst zi_97_36 rfl
theorem zi_97_37 : z_ins 97 37 = some (.istore 4, 2) := by decide +kernel
theorem ze_97_37 : z_T g d 97 37 (v0 :: v1 :: v2 :: v3 :: v4 :: ls) (.int x :: st) h P = z_T g d 97 39 (v0 :: v1 :: v2 :: v3 :: .int x :: ls) st h P := zt_istore zi_97_37 (Nat.le_add_left 5 _)
theorem zi_97_39 : z_ins 97 39 = some (.iload 4, 2) := by decide +kernel
theorem ze_97_39 : z_T g d 97 39 (v0 :: v1 :: v2 :: v3 :: .int x :: ls) st h P = z_T g d 97 41 (v0 :: v1 :: v2 :: v3 :: .int x :: ls) (.int x :: st) h P := zt_iload zi_97_39 rfl
theorem zi_97_41 : z_ins 97 41 = some (.aload_n 0, 1) := by decide +kernel
theorem ze_97_41 : z_T g d 97 41 (.ref a :: ls) st h P = z_T g d 97 42 (.ref a :: ls) (.ref a :: st) h P := zt_aloadn zi_97_41 rfl rfl
theorem ze_97_41_n : z_T g d 97 41 (.null :: ls) st h P = z_T g d 97 42 (.null :: ls) (.null :: st) h P := zt_aloadnN zi_97_41 rfl rfl
theorem zi_97_42 : z_ins 97 42 = some (.getfield 13, 3) := by decide +kernel
theorem ze_97_42 : z_T g d 97 42 ls (.ref a :: st) h P = z_gI h.1 a 10 1 (fun x => z_T g d 97 45 ls (.int x :: st) h P) := zt_getI zi_97_42 ((congrArg (fun o => z_fl o 13) zo_97).trans zf_LatinRectanglesLaw_Grid_13)
theorem zi_97_45 : z_ins 97 45 = some (.if_icmp .ge 83, 3) := by decide +kernel
theorem ze_97_45 : z_T g d 97 45 ls (.int y :: .int x :: st) h P = (if x < y then z_T g d 97 48 ls st h P else z_T g d 97 128 ls st h P) := zt_icmpge zi_97_45 (by decide)
theorem zi_97_48 : z_ins 97 48 = some (.aload_n 0, 1) := by decide +kernel
theorem ze_97_48 : z_T g d 97 48 (.ref a :: ls) st h P = z_T g d 97 49 (.ref a :: ls) (.ref a :: st) h P := zt_aloadn zi_97_48 rfl rfl
theorem ze_97_48_n : z_T g d 97 48 (.null :: ls) st h P = z_T g d 97 49 (.null :: ls) (.null :: st) h P := zt_aloadnN zi_97_48 rfl rfl
theorem zi_97_49 : z_ins 97 49 = some (.iload_n 1, 1) := by decide +kernel
theorem ze_97_49 : z_T g d 97 49 (v0 :: .int x :: ls) st h P = z_T g d 97 50 (v0 :: .int x :: ls) (.int x :: st) h P := zt_iloadn zi_97_49 rfl rfl
theorem zi_97_50 : z_ins 97 50 = some (.iload_n 2, 1) := by decide +kernel
theorem ze_97_50 : z_T g d 97 50 (v0 :: v1 :: .int x :: ls) st h P = z_T g d 97 51 (v0 :: v1 :: .int x :: ls) (.int x :: st) h P := zt_iloadn zi_97_50 rfl rfl
theorem zi_97_51 : z_ins 97 51 = some (.iload 4, 2) := by decide +kernel
theorem ze_97_51 : z_T g d 97 51 (v0 :: v1 :: v2 :: v3 :: .int x :: ls) st h P = z_T g d 97 53 (v0 :: v1 :: v2 :: v3 :: .int x :: ls) (.int x :: st) h P := zt_iload zi_97_51 rfl
theorem zi_97_53 : z_ins 97 53 = some (.invokevirtual 31, 3) := by decide +kernel
theorem ze_97_53 : z_T g d 97 53 ls (.int x2 :: .int x1 :: .int x0 :: .ref a :: st) h P = ((z_okS 8 st = true ∧ z_gO h.1 a 10 ∧ 0 < d) ∧ z_Ca g (d - 1) 95 [.ref a, .int x0, .int x1, .int x2] h (fun r => z_k r (fun v h' => z_T g d 97 56 ls (z_push v st) h' P) P)) := zt_cV (as := [.int x0, .int x1, .int x2]) (kk := 0) zi_97_53 rfl (zt_call zj_97 zh_97) (z_opV ((congrArg (fun o => z_lookup z_cns (o, 31)) zo_97).trans zq_cns_LatinRectanglesLaw_Grid_31) ((congrArg (fun o => z_lookup z_prs (o, 31)) zo_97).trans zq_prs_LatinRectanglesLaw_Grid_31)) ((congrArg (fun o => z_clk o 31) zo_97).trans zk_LatinRectanglesLaw_Grid_31) rfl rfl rfl rfl (z_rcv0 zc_95)
theorem zi_97_56 : z_ins 97 56 = some (.ifCond .ne 6, 3) := by decide +kernel
theorem ze_97_56 : z_T g d 97 56 ls (.int x :: st) h P = (if x = nI 0 then z_T g d 97 59 ls st h P else z_T g d 97 62 ls st h P) := zt_ifne zi_97_56 (by decide)
theorem zi_97_59 : z_ins 97 59 = some (.goto 63, 3) := by decide +kernel
theorem ze_97_59 : z_T g d 97 59 ls st h P = z_T g d 97 122 ls st h P := zt_goto zi_97_59 (by decide)
theorem zi_97_62 : z_ins 97 62 = some (.iconst 1, 1) := by decide +kernel
theorem ze_97_62 : z_T g d 97 62 ls st h P = z_T g d 97 63 ls (.int (nI 1) :: st) h P := zt_iconst zi_97_62 rfl
theorem zi_97_63 : z_ins 97 63 = some (.istore 5, 2) := by decide +kernel
theorem ze_97_63 : z_T g d 97 63 (v0 :: v1 :: v2 :: v3 :: v4 :: v5 :: ls) (.int x :: st) h P = z_T g d 97 65 (v0 :: v1 :: v2 :: v3 :: v4 :: .int x :: ls) st h P := zt_istore zi_97_63 (Nat.le_add_left 6 _)
theorem zi_97_65 : z_ins 97 65 = some (.iconst 0, 1) := by decide +kernel
theorem ze_97_65 : z_T g d 97 65 ls st h P = z_T g d 97 66 ls (.int (nI 0) :: st) h P := zt_iconst zi_97_65 rfl
theorem zi_97_66 : z_ins 97 66 = some (.istore 6, 2) := by decide +kernel
theorem ze_97_66 : z_T g d 97 66 (v0 :: v1 :: v2 :: v3 :: v4 :: v5 :: v6 :: ls) (.int x :: st) h P = z_T g d 97 68 (v0 :: v1 :: v2 :: v3 :: v4 :: v5 :: .int x :: ls) st h P := zt_istore zi_97_66 (Nat.le_add_left 7 _)
theorem zi_97_68 : z_ins 97 68 = some (.iload 6, 2) := by decide +kernel
theorem ze_97_68 : z_T g d 97 68 (v0 :: v1 :: v2 :: v3 :: v4 :: v5 :: .int x :: ls) st h P = z_T g d 97 70 (v0 :: v1 :: v2 :: v3 :: v4 :: v5 :: .int x :: ls) (.int x :: st) h P := zt_iload zi_97_68 rfl
theorem zi_97_70 : z_ins 97 70 = some (.aload_n 0, 1) := by decide +kernel
theorem ze_97_70 : z_T g d 97 70 (.ref a :: ls) st h P = z_T g d 97 71 (.ref a :: ls) (.ref a :: st) h P := zt_aloadn zi_97_70 rfl rfl
theorem ze_97_70_n : z_T g d 97 70 (.null :: ls) st h P = z_T g d 97 71 (.null :: ls) (.null :: st) h P := zt_aloadnN zi_97_70 rfl rfl
theorem zi_97_71 : z_ins 97 71 = some (.getfield 13, 3) := by decide +kernel
theorem ze_97_71 : z_T g d 97 71 ls (.ref a :: st) h P = z_gI h.1 a 10 1 (fun x => z_T g d 97 74 ls (.int x :: st) h P) := zt_getI zi_97_71 ((congrArg (fun o => z_fl o 13) zo_97).trans zf_LatinRectanglesLaw_Grid_13)
theorem zi_97_74 : z_ins 97 74 = some (.if_icmp .ge 30, 3) := by decide +kernel
theorem ze_97_74 : z_T g d 97 74 ls (.int y :: .int x :: st) h P = (if x < y then z_T g d 97 77 ls st h P else z_T g d 97 104 ls st h P) := zt_icmpge zi_97_74 (by decide)
theorem zi_97_77 : z_ins 97 77 = some (.iload 6, 2) := by decide +kernel
theorem ze_97_77 : z_T g d 97 77 (v0 :: v1 :: v2 :: v3 :: v4 :: v5 :: .int x :: ls) st h P = z_T g d 97 79 (v0 :: v1 :: v2 :: v3 :: v4 :: v5 :: .int x :: ls) (.int x :: st) h P := zt_iload zi_97_77 rfl
theorem zi_97_79 : z_ins 97 79 = some (.iload_n 2, 1) := by decide +kernel
theorem ze_97_79 : z_T g d 97 79 (v0 :: v1 :: .int x :: ls) st h P = z_T g d 97 80 (v0 :: v1 :: .int x :: ls) (.int x :: st) h P := zt_iloadn zi_97_79 rfl rfl
theorem zi_97_80 : z_ins 97 80 = some (.if_icmp .eq 18, 3) := by decide +kernel
theorem ze_97_80 : z_T g d 97 80 ls (.int y :: .int x :: st) h P = (if x = y then z_T g d 97 98 ls st h P else z_T g d 97 83 ls st h P) := zt_icmpeq zi_97_80 (by decide)
theorem zi_97_83 : z_ins 97 83 = some (.aload_n 0, 1) := by decide +kernel
theorem ze_97_83 : z_T g d 97 83 (.ref a :: ls) st h P = z_T g d 97 84 (.ref a :: ls) (.ref a :: st) h P := zt_aloadn zi_97_83 rfl rfl
theorem ze_97_83_n : z_T g d 97 83 (.null :: ls) st h P = z_T g d 97 84 (.null :: ls) (.null :: st) h P := zt_aloadnN zi_97_83 rfl rfl
theorem zi_97_84 : z_ins 97 84 = some (.iload_n 1, 1) := by decide +kernel
theorem ze_97_84 : z_T g d 97 84 (v0 :: .int x :: ls) st h P = z_T g d 97 85 (v0 :: .int x :: ls) (.int x :: st) h P := zt_iloadn zi_97_84 rfl rfl
theorem zi_97_85 : z_ins 97 85 = some (.iload 6, 2) := by decide +kernel
theorem ze_97_85 : z_T g d 97 85 (v0 :: v1 :: v2 :: v3 :: v4 :: v5 :: .int x :: ls) st h P = z_T g d 97 87 (v0 :: v1 :: v2 :: v3 :: v4 :: v5 :: .int x :: ls) (.int x :: st) h P := zt_iload zi_97_85 rfl
theorem zi_97_87 : z_ins 97 87 = some (.iload 4, 2) := by decide +kernel
theorem ze_97_87 : z_T g d 97 87 (v0 :: v1 :: v2 :: v3 :: .int x :: ls) st h P = z_T g d 97 89 (v0 :: v1 :: v2 :: v3 :: .int x :: ls) (.int x :: st) h P := zt_iload zi_97_87 rfl
theorem zi_97_89 : z_ins 97 89 = some (.invokevirtual 31, 3) := by decide +kernel
theorem ze_97_89 : z_T g d 97 89 ls (.int x2 :: .int x1 :: .int x0 :: .ref a :: st) h P = ((z_okS 8 st = true ∧ z_gO h.1 a 10 ∧ 0 < d) ∧ z_Ca g (d - 1) 95 [.ref a, .int x0, .int x1, .int x2] h (fun r => z_k r (fun v h' => z_T g d 97 92 ls (z_push v st) h' P) P)) := zt_cV (as := [.int x0, .int x1, .int x2]) (kk := 0) zi_97_89 rfl (zt_call zj_97 zh_97) (z_opV ((congrArg (fun o => z_lookup z_cns (o, 31)) zo_97).trans zq_cns_LatinRectanglesLaw_Grid_31) ((congrArg (fun o => z_lookup z_prs (o, 31)) zo_97).trans zq_prs_LatinRectanglesLaw_Grid_31)) ((congrArg (fun o => z_clk o 31) zo_97).trans zk_LatinRectanglesLaw_Grid_31) rfl rfl rfl rfl (z_rcv0 zc_95)
theorem zi_97_92 : z_ins 97 92 = some (.ifCond .eq 6, 3) := by decide +kernel
theorem ze_97_92 : z_T g d 97 92 ls (.int x :: st) h P = (if x = nI 0 then z_T g d 97 98 ls st h P else z_T g d 97 95 ls st h P) := zt_ifeq zi_97_92 (by decide)
theorem zi_97_95 : z_ins 97 95 = some (.iconst 0, 1) := by decide +kernel
theorem ze_97_95 : z_T g d 97 95 ls st h P = z_T g d 97 96 ls (.int (nI 0) :: st) h P := zt_iconst zi_97_95 rfl
theorem zi_97_96 : z_ins 97 96 = some (.istore 5, 2) := by decide +kernel
theorem ze_97_96 : z_T g d 97 96 (v0 :: v1 :: v2 :: v3 :: v4 :: v5 :: ls) (.int x :: st) h P = z_T g d 97 98 (v0 :: v1 :: v2 :: v3 :: v4 :: .int x :: ls) st h P := zt_istore zi_97_96 (Nat.le_add_left 6 _)
theorem zi_97_98 : z_ins 97 98 = some (.iinc 6 1, 3) := by decide +kernel
theorem ze_97_98 : z_T g d 97 98 (v0 :: v1 :: v2 :: v3 :: v4 :: v5 :: .int x :: ls) st h P = z_T g d 97 101 (v0 :: v1 :: v2 :: v3 :: v4 :: v5 :: .int (x + (nI 1)) :: ls) st h P := zt_iinc zi_97_98 rfl rfl
theorem zi_97_101 : z_ins 97 101 = some (.goto (-33), 3) := by decide +kernel
theorem ze_97_101 : z_T g d 97 101 ls st h P = z_T g d 97 68 ls st h P := zt_goto zi_97_101 (by decide)
theorem zi_97_104 : z_ins 97 104 = some (.iload 5, 2) := by decide +kernel
theorem ze_97_104 : z_T g d 97 104 (v0 :: v1 :: v2 :: v3 :: v4 :: .int x :: ls) st h P = z_T g d 97 106 (v0 :: v1 :: v2 :: v3 :: v4 :: .int x :: ls) (.int x :: st) h P := zt_iload zi_97_104 rfl
theorem zi_97_106 : z_ins 97 106 = some (.ifCond .eq 16, 3) := by decide +kernel
theorem ze_97_106 : z_T g d 97 106 ls (.int x :: st) h P = (if x = nI 0 then z_T g d 97 122 ls st h P else z_T g d 97 109 ls st h P) := zt_ifeq zi_97_106 (by decide)
theorem zi_97_109 : z_ins 97 109 = some (.iconst 2, 1) := by decide +kernel
theorem ze_97_109 : z_T g d 97 109 ls st h P = z_T g d 97 110 ls (.int (nI 2) :: st) h P := zt_iconst zi_97_109 rfl
theorem zi_97_110 : z_ins 97 110 = some (.newarray .int, 2) := by decide +kernel
theorem ze_97_110 : z_T g d 97 110 ls (.int x :: st) h P = z_nA h .int x (fun q h' => z_T g d 97 112 ls (.ref q :: st) h' P) := zt_newarray zi_97_110
theorem zi_97_112 : z_ins 97 112 = some (.dup, 1) := by decide +kernel
theorem ze_97_112 : z_T g d 97 112 ls (.ref a :: st) h P = z_T g d 97 113 ls (.ref a :: .ref a :: st) h P := zt_dup rfl zi_97_112
theorem ze_97_112_i : z_T g d 97 112 ls (.int x :: st) h P = z_T g d 97 113 ls (.int x :: .int x :: st) h P := zt_dup rfl zi_97_112
theorem zi_97_113 : z_ins 97 113 = some (.iconst 0, 1) := by decide +kernel
theorem ze_97_113 : z_T g d 97 113 ls st h P = z_T g d 97 114 ls (.int (nI 0) :: st) h P := zt_iconst zi_97_113 rfl
theorem zi_97_114 : z_ins 97 114 = some (.iload 4, 2) := by decide +kernel
theorem ze_97_114 : z_T g d 97 114 (v0 :: v1 :: v2 :: v3 :: .int x :: ls) st h P = z_T g d 97 116 (v0 :: v1 :: v2 :: v3 :: .int x :: ls) (.int x :: st) h P := zt_iload zi_97_114 rfl
theorem zi_97_116 : z_ins 97 116 = some (.iastore, 1) := by decide +kernel
theorem ze_97_116 : z_T g d 97 116 ls (.int y :: .int x :: .ref a :: st) h P = z_aS h.1 a z_tI x y (fun f => z_T g d 97 117 ls st (f, h.2) P) := zt_iastore zi_97_116
theorem zi_97_117 : z_ins 97 117 = some (.dup, 1) := by decide +kernel
theorem ze_97_117 : z_T g d 97 117 ls (.ref a :: st) h P = z_T g d 97 118 ls (.ref a :: .ref a :: st) h P := zt_dup rfl zi_97_117
theorem ze_97_117_i : z_T g d 97 117 ls (.int x :: st) h P = z_T g d 97 118 ls (.int x :: .int x :: st) h P := zt_dup rfl zi_97_117
theorem zi_97_118 : z_ins 97 118 = some (.iconst 1, 1) := by decide +kernel
theorem ze_97_118 : z_T g d 97 118 ls st h P = z_T g d 97 119 ls (.int (nI 1) :: st) h P := zt_iconst zi_97_118 rfl
theorem zi_97_119 : z_ins 97 119 = some (.iconst 2, 1) := by decide +kernel
theorem ze_97_119 : z_T g d 97 119 ls st h P = z_T g d 97 120 ls (.int (nI 2) :: st) h P := zt_iconst zi_97_119 rfl
theorem zi_97_120 : z_ins 97 120 = some (.iastore, 1) := by decide +kernel
theorem ze_97_120 : z_T g d 97 120 ls (.int y :: .int x :: .ref a :: st) h P = z_aS h.1 a z_tI x y (fun f => z_T g d 97 121 ls st (f, h.2) P) := zt_iastore zi_97_120
theorem zi_97_121 : z_ins 97 121 = some (.areturn, 1) := by decide +kernel
theorem ze_97_121 : z_T g d 97 121 ls [.ref a] h P = P (.inr (some (.ref a)), h) := zt_areturn rfl zi_97_121 zr_97 rfl
theorem ze_97_121_n : z_T g d 97 121 ls [.null] h P = P (.inr (some (.null)), h) := zt_areturn rfl zi_97_121 zr_97 rfl
theorem zi_97_122 : z_ins 97 122 = some (.iinc 4 1, 3) := by decide +kernel
theorem ze_97_122 : z_T g d 97 122 (v0 :: v1 :: v2 :: v3 :: .int x :: ls) st h P = z_T g d 97 125 (v0 :: v1 :: v2 :: v3 :: .int (x + (nI 1)) :: ls) st h P := zt_iinc zi_97_122 rfl rfl
theorem zi_97_125 : z_ins 97 125 = some (.goto (-86), 3) := by decide +kernel
theorem ze_97_125 : z_T g d 97 125 ls st h P = z_T g d 97 39 ls st h P := zt_goto zi_97_125 (by decide)
theorem zi_97_128 : z_ins 97 128 = some (.iconst 0, 1) := by decide +kernel
theorem ze_97_128 : z_T g d 97 128 ls st h P = z_T g d 97 129 ls (.int (nI 0) :: st) h P := zt_iconst zi_97_128 rfl
theorem zi_97_129 : z_ins 97 129 = some (.istore 4, 2) := by decide +kernel
theorem ze_97_129 : z_T g d 97 129 (v0 :: v1 :: v2 :: v3 :: v4 :: ls) (.int x :: st) h P = z_T g d 97 131 (v0 :: v1 :: v2 :: v3 :: .int x :: ls) st h P := zt_istore zi_97_129 (Nat.le_add_left 5 _)
theorem zi_97_131 : z_ins 97 131 = some (.iload 4, 2) := by decide +kernel
theorem ze_97_131 : z_T g d 97 131 (v0 :: v1 :: v2 :: v3 :: .int x :: ls) st h P = z_T g d 97 133 (v0 :: v1 :: v2 :: v3 :: .int x :: ls) (.int x :: st) h P := zt_iload zi_97_131 rfl
theorem zi_97_133 : z_ins 97 133 = some (.aload_n 0, 1) := by decide +kernel
theorem ze_97_133 : z_T g d 97 133 (.ref a :: ls) st h P = z_T g d 97 134 (.ref a :: ls) (.ref a :: st) h P := zt_aloadn zi_97_133 rfl rfl
theorem ze_97_133_n : z_T g d 97 133 (.null :: ls) st h P = z_T g d 97 134 (.null :: ls) (.null :: st) h P := zt_aloadnN zi_97_133 rfl rfl
theorem zi_97_134 : z_ins 97 134 = some (.getfield 13, 3) := by decide +kernel
theorem ze_97_134 : z_T g d 97 134 ls (.ref a :: st) h P = z_gI h.1 a 10 1 (fun x => z_T g d 97 137 ls (.int x :: st) h P) := zt_getI zi_97_134 ((congrArg (fun o => z_fl o 13) zo_97).trans zf_LatinRectanglesLaw_Grid_13)
theorem zi_97_137 : z_ins 97 137 = some (.if_icmp .ge 94, 3) := by decide +kernel
theorem ze_97_137 : z_T g d 97 137 ls (.int y :: .int x :: st) h P = (if x < y then z_T g d 97 140 ls st h P else z_T g d 97 231 ls st h P) := zt_icmpge zi_97_137 (by decide)
theorem zi_97_140 : z_ins 97 140 = some (.aload_n 0, 1) := by decide +kernel
theorem ze_97_140 : z_T g d 97 140 (.ref a :: ls) st h P = z_T g d 97 141 (.ref a :: ls) (.ref a :: st) h P := zt_aloadn zi_97_140 rfl rfl
theorem ze_97_140_n : z_T g d 97 140 (.null :: ls) st h P = z_T g d 97 141 (.null :: ls) (.null :: st) h P := zt_aloadnN zi_97_140 rfl rfl
theorem zi_97_141 : z_ins 97 141 = some (.getfield 7, 3) := by decide +kernel
theorem ze_97_141 : z_T g d 97 141 ls (.ref a :: st) h P = z_gI h.1 a 10 0 (fun x => z_T g d 97 144 ls (.int x :: st) h P) := zt_getI zi_97_141 ((congrArg (fun o => z_fl o 7) zo_97).trans zf_LatinRectanglesLaw_Grid_7)
theorem zi_97_144 : z_ins 97 144 = some (.aload_n 0, 1) := by decide +kernel
theorem ze_97_144 : z_T g d 97 144 (.ref a :: ls) st h P = z_T g d 97 145 (.ref a :: ls) (.ref a :: st) h P := zt_aloadn zi_97_144 rfl rfl
theorem ze_97_144_n : z_T g d 97 144 (.null :: ls) st h P = z_T g d 97 145 (.null :: ls) (.null :: st) h P := zt_aloadnN zi_97_144 rfl rfl
theorem zi_97_145 : z_ins 97 145 = some (.getfield 13, 3) := by decide +kernel
theorem ze_97_145 : z_T g d 97 145 ls (.ref a :: st) h P = z_gI h.1 a 10 1 (fun x => z_T g d 97 148 ls (.int x :: st) h P) := zt_getI zi_97_145 ((congrArg (fun o => z_fl o 13) zo_97).trans zf_LatinRectanglesLaw_Grid_13)
theorem zi_97_148 : z_ins 97 148 = some (.if_icmp .ne 83, 3) := by decide +kernel
theorem ze_97_148 : z_T g d 97 148 ls (.int y :: .int x :: st) h P = (if x = y then z_T g d 97 151 ls st h P else z_T g d 97 231 ls st h P) := zt_icmpne zi_97_148 (by decide)
theorem zi_97_151 : z_ins 97 151 = some (.aload_n 0, 1) := by decide +kernel
theorem ze_97_151 : z_T g d 97 151 (.ref a :: ls) st h P = z_T g d 97 152 (.ref a :: ls) (.ref a :: st) h P := zt_aloadn zi_97_151 rfl rfl
theorem ze_97_151_n : z_T g d 97 151 (.null :: ls) st h P = z_T g d 97 152 (.null :: ls) (.null :: st) h P := zt_aloadnN zi_97_151 rfl rfl
theorem zi_97_152 : z_ins 97 152 = some (.iload_n 1, 1) := by decide +kernel
theorem ze_97_152 : z_T g d 97 152 (v0 :: .int x :: ls) st h P = z_T g d 97 153 (v0 :: .int x :: ls) (.int x :: st) h P := zt_iloadn zi_97_152 rfl rfl
theorem zi_97_153 : z_ins 97 153 = some (.iload_n 2, 1) := by decide +kernel
theorem ze_97_153 : z_T g d 97 153 (v0 :: v1 :: .int x :: ls) st h P = z_T g d 97 154 (v0 :: v1 :: .int x :: ls) (.int x :: st) h P := zt_iloadn zi_97_153 rfl rfl
theorem zi_97_154 : z_ins 97 154 = some (.iload 4, 2) := by decide +kernel
theorem ze_97_154 : z_T g d 97 154 (v0 :: v1 :: v2 :: v3 :: .int x :: ls) st h P = z_T g d 97 156 (v0 :: v1 :: v2 :: v3 :: .int x :: ls) (.int x :: st) h P := zt_iload zi_97_154 rfl
theorem zi_97_156 : z_ins 97 156 = some (.invokevirtual 31, 3) := by decide +kernel
theorem ze_97_156 : z_T g d 97 156 ls (.int x2 :: .int x1 :: .int x0 :: .ref a :: st) h P = ((z_okS 8 st = true ∧ z_gO h.1 a 10 ∧ 0 < d) ∧ z_Ca g (d - 1) 95 [.ref a, .int x0, .int x1, .int x2] h (fun r => z_k r (fun v h' => z_T g d 97 159 ls (z_push v st) h' P) P)) := zt_cV (as := [.int x0, .int x1, .int x2]) (kk := 0) zi_97_156 rfl (zt_call zj_97 zh_97) (z_opV ((congrArg (fun o => z_lookup z_cns (o, 31)) zo_97).trans zq_cns_LatinRectanglesLaw_Grid_31) ((congrArg (fun o => z_lookup z_prs (o, 31)) zo_97).trans zq_prs_LatinRectanglesLaw_Grid_31)) ((congrArg (fun o => z_clk o 31) zo_97).trans zk_LatinRectanglesLaw_Grid_31) rfl rfl rfl rfl (z_rcv0 zc_95)
theorem zi_97_159 : z_ins 97 159 = some (.ifCond .ne 6, 3) := by decide +kernel
theorem ze_97_159 : z_T g d 97 159 ls (.int x :: st) h P = (if x = nI 0 then z_T g d 97 162 ls st h P else z_T g d 97 165 ls st h P) := zt_ifne zi_97_159 (by decide)
theorem zi_97_162 : z_ins 97 162 = some (.goto 63, 3) := by decide +kernel
theorem ze_97_162 : z_T g d 97 162 ls st h P = z_T g d 97 225 ls st h P := zt_goto zi_97_162 (by decide)
theorem zi_97_165 : z_ins 97 165 = some (.iconst 1, 1) := by decide +kernel
theorem ze_97_165 : z_T g d 97 165 ls st h P = z_T g d 97 166 ls (.int (nI 1) :: st) h P := zt_iconst zi_97_165 rfl
theorem zi_97_166 : z_ins 97 166 = some (.istore 5, 2) := by decide +kernel
theorem ze_97_166 : z_T g d 97 166 (v0 :: v1 :: v2 :: v3 :: v4 :: v5 :: ls) (.int x :: st) h P = z_T g d 97 168 (v0 :: v1 :: v2 :: v3 :: v4 :: .int x :: ls) st h P := zt_istore zi_97_166 (Nat.le_add_left 6 _)
theorem zi_97_168 : z_ins 97 168 = some (.iconst 0, 1) := by decide +kernel
theorem ze_97_168 : z_T g d 97 168 ls st h P = z_T g d 97 169 ls (.int (nI 0) :: st) h P := zt_iconst zi_97_168 rfl
theorem zi_97_169 : z_ins 97 169 = some (.istore 6, 2) := by decide +kernel
theorem ze_97_169 : z_T g d 97 169 (v0 :: v1 :: v2 :: v3 :: v4 :: v5 :: v6 :: ls) (.int x :: st) h P = z_T g d 97 171 (v0 :: v1 :: v2 :: v3 :: v4 :: v5 :: .int x :: ls) st h P := zt_istore zi_97_169 (Nat.le_add_left 7 _)
theorem zi_97_171 : z_ins 97 171 = some (.iload 6, 2) := by decide +kernel
theorem ze_97_171 : z_T g d 97 171 (v0 :: v1 :: v2 :: v3 :: v4 :: v5 :: .int x :: ls) st h P = z_T g d 97 173 (v0 :: v1 :: v2 :: v3 :: v4 :: v5 :: .int x :: ls) (.int x :: st) h P := zt_iload zi_97_171 rfl
theorem zi_97_173 : z_ins 97 173 = some (.aload_n 0, 1) := by decide +kernel
theorem ze_97_173 : z_T g d 97 173 (.ref a :: ls) st h P = z_T g d 97 174 (.ref a :: ls) (.ref a :: st) h P := zt_aloadn zi_97_173 rfl rfl
theorem ze_97_173_n : z_T g d 97 173 (.null :: ls) st h P = z_T g d 97 174 (.null :: ls) (.null :: st) h P := zt_aloadnN zi_97_173 rfl rfl
theorem zi_97_174 : z_ins 97 174 = some (.getfield 7, 3) := by decide +kernel
theorem ze_97_174 : z_T g d 97 174 ls (.ref a :: st) h P = z_gI h.1 a 10 0 (fun x => z_T g d 97 177 ls (.int x :: st) h P) := zt_getI zi_97_174 ((congrArg (fun o => z_fl o 7) zo_97).trans zf_LatinRectanglesLaw_Grid_7)
theorem zi_97_177 : z_ins 97 177 = some (.if_icmp .ge 30, 3) := by decide +kernel
theorem ze_97_177 : z_T g d 97 177 ls (.int y :: .int x :: st) h P = (if x < y then z_T g d 97 180 ls st h P else z_T g d 97 207 ls st h P) := zt_icmpge zi_97_177 (by decide)
theorem zi_97_180 : z_ins 97 180 = some (.iload 6, 2) := by decide +kernel
theorem ze_97_180 : z_T g d 97 180 (v0 :: v1 :: v2 :: v3 :: v4 :: v5 :: .int x :: ls) st h P = z_T g d 97 182 (v0 :: v1 :: v2 :: v3 :: v4 :: v5 :: .int x :: ls) (.int x :: st) h P := zt_iload zi_97_180 rfl
theorem zi_97_182 : z_ins 97 182 = some (.iload_n 1, 1) := by decide +kernel
theorem ze_97_182 : z_T g d 97 182 (v0 :: .int x :: ls) st h P = z_T g d 97 183 (v0 :: .int x :: ls) (.int x :: st) h P := zt_iloadn zi_97_182 rfl rfl
theorem zi_97_183 : z_ins 97 183 = some (.if_icmp .eq 18, 3) := by decide +kernel
theorem ze_97_183 : z_T g d 97 183 ls (.int y :: .int x :: st) h P = (if x = y then z_T g d 97 201 ls st h P else z_T g d 97 186 ls st h P) := zt_icmpeq zi_97_183 (by decide)
theorem zi_97_186 : z_ins 97 186 = some (.aload_n 0, 1) := by decide +kernel
theorem ze_97_186 : z_T g d 97 186 (.ref a :: ls) st h P = z_T g d 97 187 (.ref a :: ls) (.ref a :: st) h P := zt_aloadn zi_97_186 rfl rfl
theorem ze_97_186_n : z_T g d 97 186 (.null :: ls) st h P = z_T g d 97 187 (.null :: ls) (.null :: st) h P := zt_aloadnN zi_97_186 rfl rfl
theorem zi_97_187 : z_ins 97 187 = some (.iload 6, 2) := by decide +kernel
theorem ze_97_187 : z_T g d 97 187 (v0 :: v1 :: v2 :: v3 :: v4 :: v5 :: .int x :: ls) st h P = z_T g d 97 189 (v0 :: v1 :: v2 :: v3 :: v4 :: v5 :: .int x :: ls) (.int x :: st) h P := zt_iload zi_97_187 rfl
theorem zi_97_189 : z_ins 97 189 = some (.iload_n 2, 1) := by decide +kernel
theorem ze_97_189 : z_T g d 97 189 (v0 :: v1 :: .int x :: ls) st h P = z_T g d 97 190 (v0 :: v1 :: .int x :: ls) (.int x :: st) h P := zt_iloadn zi_97_189 rfl rfl
theorem zi_97_190 : z_ins 97 190 = some (.iload 4, 2) := by decide +kernel
theorem ze_97_190 : z_T g d 97 190 (v0 :: v1 :: v2 :: v3 :: .int x :: ls) st h P = z_T g d 97 192 (v0 :: v1 :: v2 :: v3 :: .int x :: ls) (.int x :: st) h P := zt_iload zi_97_190 rfl
theorem zi_97_192 : z_ins 97 192 = some (.invokevirtual 31, 3) := by decide +kernel
theorem ze_97_192 : z_T g d 97 192 ls (.int x2 :: .int x1 :: .int x0 :: .ref a :: st) h P = ((z_okS 8 st = true ∧ z_gO h.1 a 10 ∧ 0 < d) ∧ z_Ca g (d - 1) 95 [.ref a, .int x0, .int x1, .int x2] h (fun r => z_k r (fun v h' => z_T g d 97 195 ls (z_push v st) h' P) P)) := zt_cV (as := [.int x0, .int x1, .int x2]) (kk := 0) zi_97_192 rfl (zt_call zj_97 zh_97) (z_opV ((congrArg (fun o => z_lookup z_cns (o, 31)) zo_97).trans zq_cns_LatinRectanglesLaw_Grid_31) ((congrArg (fun o => z_lookup z_prs (o, 31)) zo_97).trans zq_prs_LatinRectanglesLaw_Grid_31)) ((congrArg (fun o => z_clk o 31) zo_97).trans zk_LatinRectanglesLaw_Grid_31) rfl rfl rfl rfl (z_rcv0 zc_95)
theorem zi_97_195 : z_ins 97 195 = some (.ifCond .eq 6, 3) := by decide +kernel
theorem ze_97_195 : z_T g d 97 195 ls (.int x :: st) h P = (if x = nI 0 then z_T g d 97 201 ls st h P else z_T g d 97 198 ls st h P) := zt_ifeq zi_97_195 (by decide)
theorem zi_97_198 : z_ins 97 198 = some (.iconst 0, 1) := by decide +kernel
theorem ze_97_198 : z_T g d 97 198 ls st h P = z_T g d 97 199 ls (.int (nI 0) :: st) h P := zt_iconst zi_97_198 rfl
theorem zi_97_199 : z_ins 97 199 = some (.istore 5, 2) := by decide +kernel
theorem ze_97_199 : z_T g d 97 199 (v0 :: v1 :: v2 :: v3 :: v4 :: v5 :: ls) (.int x :: st) h P = z_T g d 97 201 (v0 :: v1 :: v2 :: v3 :: v4 :: .int x :: ls) st h P := zt_istore zi_97_199 (Nat.le_add_left 6 _)
theorem zi_97_201 : z_ins 97 201 = some (.iinc 6 1, 3) := by decide +kernel
theorem ze_97_201 : z_T g d 97 201 (v0 :: v1 :: v2 :: v3 :: v4 :: v5 :: .int x :: ls) st h P = z_T g d 97 204 (v0 :: v1 :: v2 :: v3 :: v4 :: v5 :: .int (x + (nI 1)) :: ls) st h P := zt_iinc zi_97_201 rfl rfl
theorem zi_97_204 : z_ins 97 204 = some (.goto (-33), 3) := by decide +kernel
theorem ze_97_204 : z_T g d 97 204 ls st h P = z_T g d 97 171 ls st h P := zt_goto zi_97_204 (by decide)
theorem zi_97_207 : z_ins 97 207 = some (.iload 5, 2) := by decide +kernel
theorem ze_97_207 : z_T g d 97 207 (v0 :: v1 :: v2 :: v3 :: v4 :: .int x :: ls) st h P = z_T g d 97 209 (v0 :: v1 :: v2 :: v3 :: v4 :: .int x :: ls) (.int x :: st) h P := zt_iload zi_97_207 rfl
theorem zi_97_209 : z_ins 97 209 = some (.ifCond .eq 16, 3) := by decide +kernel
theorem ze_97_209 : z_T g d 97 209 ls (.int x :: st) h P = (if x = nI 0 then z_T g d 97 225 ls st h P else z_T g d 97 212 ls st h P) := zt_ifeq zi_97_209 (by decide)
theorem zi_97_212 : z_ins 97 212 = some (.iconst 2, 1) := by decide +kernel
theorem ze_97_212 : z_T g d 97 212 ls st h P = z_T g d 97 213 ls (.int (nI 2) :: st) h P := zt_iconst zi_97_212 rfl
theorem zi_97_213 : z_ins 97 213 = some (.newarray .int, 2) := by decide +kernel
theorem ze_97_213 : z_T g d 97 213 ls (.int x :: st) h P = z_nA h .int x (fun q h' => z_T g d 97 215 ls (.ref q :: st) h' P) := zt_newarray zi_97_213
theorem zi_97_215 : z_ins 97 215 = some (.dup, 1) := by decide +kernel
theorem ze_97_215 : z_T g d 97 215 ls (.ref a :: st) h P = z_T g d 97 216 ls (.ref a :: .ref a :: st) h P := zt_dup rfl zi_97_215
theorem ze_97_215_i : z_T g d 97 215 ls (.int x :: st) h P = z_T g d 97 216 ls (.int x :: .int x :: st) h P := zt_dup rfl zi_97_215
theorem zi_97_216 : z_ins 97 216 = some (.iconst 0, 1) := by decide +kernel
theorem ze_97_216 : z_T g d 97 216 ls st h P = z_T g d 97 217 ls (.int (nI 0) :: st) h P := zt_iconst zi_97_216 rfl
theorem zi_97_217 : z_ins 97 217 = some (.iload 4, 2) := by decide +kernel
theorem ze_97_217 : z_T g d 97 217 (v0 :: v1 :: v2 :: v3 :: .int x :: ls) st h P = z_T g d 97 219 (v0 :: v1 :: v2 :: v3 :: .int x :: ls) (.int x :: st) h P := zt_iload zi_97_217 rfl
theorem zi_97_219 : z_ins 97 219 = some (.iastore, 1) := by decide +kernel
theorem ze_97_219 : z_T g d 97 219 ls (.int y :: .int x :: .ref a :: st) h P = z_aS h.1 a z_tI x y (fun f => z_T g d 97 220 ls st (f, h.2) P) := zt_iastore zi_97_219
theorem zi_97_220 : z_ins 97 220 = some (.dup, 1) := by decide +kernel
theorem ze_97_220 : z_T g d 97 220 ls (.ref a :: st) h P = z_T g d 97 221 ls (.ref a :: .ref a :: st) h P := zt_dup rfl zi_97_220
theorem ze_97_220_i : z_T g d 97 220 ls (.int x :: st) h P = z_T g d 97 221 ls (.int x :: .int x :: st) h P := zt_dup rfl zi_97_220
theorem zi_97_221 : z_ins 97 221 = some (.iconst 1, 1) := by decide +kernel
theorem ze_97_221 : z_T g d 97 221 ls st h P = z_T g d 97 222 ls (.int (nI 1) :: st) h P := zt_iconst zi_97_221 rfl
theorem zi_97_222 : z_ins 97 222 = some (.iconst 3, 1) := by decide +kernel
theorem ze_97_222 : z_T g d 97 222 ls st h P = z_T g d 97 223 ls (.int (nI 3) :: st) h P := zt_iconst zi_97_222 rfl
theorem zi_97_223 : z_ins 97 223 = some (.iastore, 1) := by decide +kernel
theorem ze_97_223 : z_T g d 97 223 ls (.int y :: .int x :: .ref a :: st) h P = z_aS h.1 a z_tI x y (fun f => z_T g d 97 224 ls st (f, h.2) P) := zt_iastore zi_97_223
theorem zi_97_224 : z_ins 97 224 = some (.areturn, 1) := by decide +kernel
theorem ze_97_224 : z_T g d 97 224 ls [.ref a] h P = P (.inr (some (.ref a)), h) := zt_areturn rfl zi_97_224 zr_97 rfl
theorem ze_97_224_n : z_T g d 97 224 ls [.null] h P = P (.inr (some (.null)), h) := zt_areturn rfl zi_97_224 zr_97 rfl
theorem zi_97_225 : z_ins 97 225 = some (.iinc 4 1, 3) := by decide +kernel
theorem ze_97_225 : z_T g d 97 225 (v0 :: v1 :: v2 :: v3 :: .int x :: ls) st h P = z_T g d 97 228 (v0 :: v1 :: v2 :: v3 :: .int (x + (nI 1)) :: ls) st h P := zt_iinc zi_97_225 rfl rfl
theorem zi_97_228 : z_ins 97 228 = some (.goto (-97), 3) := by decide +kernel
theorem ze_97_228 : z_T g d 97 228 ls st h P = z_T g d 97 131 ls st h P := zt_goto zi_97_228 (by decide)
theorem zi_97_231 : z_ins 97 231 = some (.aconst_null, 1) := by decide +kernel
theorem ze_97_231 : z_T g d 97 231 ls st h P = z_T g d 97 232 ls (.null :: st) h P := zt_null zi_97_231
theorem zi_97_232 : z_ins 97 232 = some (.areturn, 1) := by decide +kernel
theorem ze_97_232 : z_T g d 97 232 ls [.ref a] h P = P (.inr (some (.ref a)), h) := zt_areturn rfl zi_97_232 zr_97 rfl
theorem ze_97_232_n : z_T g d 97 232 ls [.null] h P = P (.inr (some (.null)), h) := zt_areturn rfl zi_97_232 zr_97 rfl
-- LatinRectanglesLaw$Grid.complete(I)V
theorem zm_98 : z_maxL 98 = 2 := by decide +kernel
theorem zh_98 : z_hds 98 = [] := by decide +kernel
theorem zj_98 : z_jdk 98 = false := by decide +kernel
theorem zr_98 : z_rt 98 = none := by decide +kernel
theorem zn_98 : z_Ca g d 98 [.ref a0, .int x1] h P = z_T g d 98 0 [.ref a0, .int x1] [] h P := z_Ca_ent zm_98 rfl rfl
theorem zi_98_0 : z_ins 98 0 = some (.aload_n 0, 1) := by decide +kernel
theorem ze_98_0 : z_T g d 98 0 (.ref a :: ls) st h P = z_T g d 98 1 (.ref a :: ls) (.ref a :: st) h P := zt_aloadn zi_98_0 rfl rfl
theorem ze_98_0_n : z_T g d 98 0 (.null :: ls) st h P = z_T g d 98 1 (.null :: ls) (.null :: st) h P := zt_aloadnN zi_98_0 rfl rfl
theorem zi_98_1 : z_ins 98 1 = some (.iconst 0, 1) := by decide +kernel
theorem ze_98_1 : z_T g d 98 1 ls st h P = z_T g d 98 2 ls (.int (nI 0) :: st) h P := zt_iconst zi_98_1 rfl
theorem zi_98_2 : z_ins 98 2 = some (.putfield 48, 3) := by decide +kernel
theorem ze_98_2 : z_T g d 98 2 ls (.int x :: .ref a :: st) h P = z_pF h.1 a 10 7 (.int x) (fun f => z_T g d 98 5 ls st (f, h.2) P) := zt_put zi_98_2 ((congrArg (fun o => z_fl o 48) zo_98).trans zf_LatinRectanglesLaw_Grid_48) (by decide +kernel) rfl rfl
theorem zi_98_5 : z_ins 98 5 = some (.aload_n 0, 1) := by decide +kernel
theorem ze_98_5 : z_T g d 98 5 (.ref a :: ls) st h P = z_T g d 98 6 (.ref a :: ls) (.ref a :: st) h P := zt_aloadn zi_98_5 rfl rfl
theorem ze_98_5_n : z_T g d 98 5 (.null :: ls) st h P = z_T g d 98 6 (.null :: ls) (.null :: st) h P := zt_aloadnN zi_98_5 rfl rfl
theorem zi_98_6 : z_ins 98 6 = some (.aload_n 0, 1) := by decide +kernel
theorem ze_98_6 : z_T g d 98 6 (.ref a :: ls) st h P = z_T g d 98 7 (.ref a :: ls) (.ref a :: st) h P := zt_aloadn zi_98_6 rfl rfl
theorem ze_98_6_n : z_T g d 98 6 (.null :: ls) st h P = z_T g d 98 7 (.null :: ls) (.null :: st) h P := zt_aloadnN zi_98_6 rfl rfl
theorem zi_98_7 : z_ins 98 7 = some (.getfield 7, 3) := by decide +kernel
theorem ze_98_7 : z_T g d 98 7 ls (.ref a :: st) h P = z_gI h.1 a 10 0 (fun x => z_T g d 98 10 ls (.int x :: st) h P) := zt_getI zi_98_7 ((congrArg (fun o => z_fl o 7) zo_98).trans zf_LatinRectanglesLaw_Grid_7)
theorem zi_98_10 : z_ins 98 10 = some (.aload_n 0, 1) := by decide +kernel
theorem ze_98_10 : z_T g d 98 10 (.ref a :: ls) st h P = z_T g d 98 11 (.ref a :: ls) (.ref a :: st) h P := zt_aloadn zi_98_10 rfl rfl
theorem ze_98_10_n : z_T g d 98 10 (.null :: ls) st h P = z_T g d 98 11 (.null :: ls) (.null :: st) h P := zt_aloadnN zi_98_10 rfl rfl
theorem zi_98_11 : z_ins 98 11 = some (.getfield 13, 3) := by decide +kernel
theorem ze_98_11 : z_T g d 98 11 ls (.ref a :: st) h P = z_gI h.1 a 10 1 (fun x => z_T g d 98 14 ls (.int x :: st) h P) := zt_getI zi_98_11 ((congrArg (fun o => z_fl o 13) zo_98).trans zf_LatinRectanglesLaw_Grid_13)
theorem zi_98_14 : z_ins 98 14 = some (.multianewarray 16 2, 4) := by decide +kernel
theorem ze_98_14 : z_T g d 98 14 ls (.int y :: .int x :: st) h P = z_nM .int h x y (fun q h' => z_T g d 98 18 ls (.ref q :: st) h' P) := zt_multi zi_98_14 ((congrArg (fun o => z_lookup z_mas (o, 16)) zo_98).trans zq_mas_LatinRectanglesLaw_Grid_16) (by simp)
theorem zi_98_18 : z_ins 98 18 = some (.putfield 51, 3) := by decide +kernel
theorem ze_98_18 : z_T g d 98 18 ls (.ref b :: .ref a :: st) h P = z_pF h.1 a 10 9 (.ref b) (fun f => z_T g d 98 21 ls st (f, h.2) P) := zt_put zi_98_18 ((congrArg (fun o => z_fl o 51) zo_98).trans zf_LatinRectanglesLaw_Grid_51) (by decide +kernel) rfl rfl
theorem ze_98_18_n : z_T g d 98 18 ls (.null :: .ref a :: st) h P = z_pF h.1 a 10 9 (.null) (fun f => z_T g d 98 21 ls st (f, h.2) P) := zt_put zi_98_18 ((congrArg (fun o => z_fl o 51) zo_98).trans zf_LatinRectanglesLaw_Grid_51) (by decide +kernel) rfl rfl
theorem zi_98_21 : z_ins 98 21 = some (.aload_n 0, 1) := by decide +kernel
theorem ze_98_21 : z_T g d 98 21 (.ref a :: ls) st h P = z_T g d 98 22 (.ref a :: ls) (.ref a :: st) h P := zt_aloadn zi_98_21 rfl rfl
theorem ze_98_21_n : z_T g d 98 21 (.null :: ls) st h P = z_T g d 98 22 (.null :: ls) (.null :: st) h P := zt_aloadnN zi_98_21 rfl rfl
theorem zi_98_22 : z_ins 98 22 = some (.iconst 0, 1) := by decide +kernel
theorem ze_98_22 : z_T g d 98 22 ls st h P = z_T g d 98 23 ls (.int (nI 0) :: st) h P := zt_iconst zi_98_22 rfl
theorem zi_98_23 : z_ins 98 23 = some (.iload_n 1, 1) := by decide +kernel
theorem ze_98_23 : z_T g d 98 23 (v0 :: .int x :: ls) st h P = z_T g d 98 24 (v0 :: .int x :: ls) (.int x :: st) h P := zt_iloadn zi_98_23 rfl rfl
theorem zi_98_24 : z_ins 98 24 = some (.invokevirtual 54, 3) := by decide +kernel
theorem ze_98_24 : z_T g d 98 24 ls (.int x1 :: .int x0 :: .ref a :: st) h P = ((z_okS 8 st = true ∧ z_gO h.1 a 10 ∧ 0 < d) ∧ z_Ca g (d - 1) 99 [.ref a, .int x0, .int x1] h (fun r => z_k r (fun v h' => z_T g d 98 27 ls (z_push v st) h' P) P)) := zt_cV (as := [.int x0, .int x1]) (kk := 0) zi_98_24 rfl (zt_call zj_98 zh_98) (z_opV ((congrArg (fun o => z_lookup z_cns (o, 54)) zo_98).trans zq_cns_LatinRectanglesLaw_Grid_54) ((congrArg (fun o => z_lookup z_prs (o, 54)) zo_98).trans zq_prs_LatinRectanglesLaw_Grid_54)) ((congrArg (fun o => z_clk o 54) zo_98).trans zk_LatinRectanglesLaw_Grid_54) rfl rfl rfl rfl (z_rcv0 zc_99)
theorem zi_98_27 : z_ins 98 27 = some (.return_, 1) := by decide +kernel
theorem ze_98_27 : z_T g d 98 27 ls [] h P = P (.inr none, h) := zt_return zi_98_27 zr_98
-- LatinRectanglesLaw$Grid.goesOn(II)V
theorem zm_99 : z_maxL 99 = 6 := by decide +kernel
theorem zh_99 : z_hds 99 = [] := by decide +kernel
theorem zj_99 : z_jdk 99 = false := by decide +kernel
theorem zr_99 : z_rt 99 = none := by decide +kernel
theorem zn_99 : z_Ca g d 99 [.ref a0, .int x1, .int x2] h P = z_T g d 99 0 [.ref a0, .int x1, .int x2, z_un, z_un, z_un] [] h P := z_Ca_ent zm_99 rfl rfl
theorem zi_99_0 : z_ins 99 0 = some (.aload_n 0, 1) := by decide +kernel
theorem ze_99_0 : z_T g d 99 0 (.ref a :: ls) st h P = z_T g d 99 1 (.ref a :: ls) (.ref a :: st) h P := zt_aloadn zi_99_0 rfl rfl
theorem ze_99_0_n : z_T g d 99 0 (.null :: ls) st h P = z_T g d 99 1 (.null :: ls) (.null :: st) h P := zt_aloadnN zi_99_0 rfl rfl
theorem zi_99_1 : z_ins 99 1 = some (.getfield 48, 3) := by decide +kernel
theorem ze_99_1 : z_T g d 99 1 ls (.ref a :: st) h P = z_gI h.1 a 10 7 (fun x => z_T g d 99 4 ls (.int x :: st) h P) := zt_getI zi_99_1 ((congrArg (fun o => z_fl o 48) zo_99).trans zf_LatinRectanglesLaw_Grid_48)
theorem zi_99_4 : z_ins 99 4 = some (.iload_n 2, 1) := by decide +kernel
theorem ze_99_4 : z_T g d 99 4 (v0 :: v1 :: .int x :: ls) st h P = z_T g d 99 5 (v0 :: v1 :: .int x :: ls) (.int x :: st) h P := zt_iloadn zi_99_4 rfl rfl
theorem zi_99_5 : z_ins 99 5 = some (.if_icmp .ne 4, 3) := by decide +kernel
theorem ze_99_5 : z_T g d 99 5 ls (.int y :: .int x :: st) h P = (if x = y then z_T g d 99 8 ls st h P else z_T g d 99 9 ls st h P) := zt_icmpne zi_99_5 (by decide)
theorem zi_99_8 : z_ins 99 8 = some (.return_, 1) := by decide +kernel
theorem ze_99_8 : z_T g d 99 8 ls [] h P = P (.inr none, h) := zt_return zi_99_8 zr_99
theorem zi_99_9 : z_ins 99 9 = some (.iload_n 1, 1) := by decide +kernel
theorem ze_99_9 : z_T g d 99 9 (v0 :: .int x :: ls) st h P = z_T g d 99 10 (v0 :: .int x :: ls) (.int x :: st) h P := zt_iloadn zi_99_9 rfl rfl
theorem zi_99_10 : z_ins 99 10 = some (.aload_n 0, 1) := by decide +kernel
theorem ze_99_10 : z_T g d 99 10 (.ref a :: ls) st h P = z_T g d 99 11 (.ref a :: ls) (.ref a :: st) h P := zt_aloadn zi_99_10 rfl rfl
theorem ze_99_10_n : z_T g d 99 10 (.null :: ls) st h P = z_T g d 99 11 (.null :: ls) (.null :: st) h P := zt_aloadnN zi_99_10 rfl rfl
theorem zi_99_11 : z_ins 99 11 = some (.getfield 7, 3) := by decide +kernel
theorem ze_99_11 : z_T g d 99 11 ls (.ref a :: st) h P = z_gI h.1 a 10 0 (fun x => z_T g d 99 14 ls (.int x :: st) h P) := zt_getI zi_99_11 ((congrArg (fun o => z_fl o 7) zo_99).trans zf_LatinRectanglesLaw_Grid_7)
theorem zi_99_14 : z_ins 99 14 = some (.aload_n 0, 1) := by decide +kernel
theorem ze_99_14 : z_T g d 99 14 (.ref a :: ls) st h P = z_T g d 99 15 (.ref a :: ls) (.ref a :: st) h P := zt_aloadn zi_99_14 rfl rfl
theorem ze_99_14_n : z_T g d 99 14 (.null :: ls) st h P = z_T g d 99 15 (.null :: ls) (.null :: st) h P := zt_aloadnN zi_99_14 rfl rfl
theorem zi_99_15 : z_ins 99 15 = some (.getfield 13, 3) := by decide +kernel
theorem ze_99_15 : z_T g d 99 15 ls (.ref a :: st) h P = z_gI h.1 a 10 1 (fun x => z_T g d 99 18 ls (.int x :: st) h P) := zt_getI zi_99_15 ((congrArg (fun o => z_fl o 13) zo_99).trans zf_LatinRectanglesLaw_Grid_13)
theorem zi_99_18 : z_ins 99 18 = some (.imul, 1) := by decide +kernel
theorem ze_99_18 : z_T g d 99 18 ls (.int y :: .int x :: st) h P = z_T g d 99 19 ls (.int (x * y) :: st) h P := zt_bin (f := fun x y => x * y) zi_99_18 rfl (fun _ _ _ => rfl)
theorem zi_99_19 : z_ins 99 19 = some (.if_icmp .ne 86, 3) := by decide +kernel
theorem ze_99_19 : z_T g d 99 19 ls (.int y :: .int x :: st) h P = (if x = y then z_T g d 99 22 ls st h P else z_T g d 99 105 ls st h P) := zt_icmpne zi_99_19 (by decide)
theorem zi_99_22 : z_ins 99 22 = some (.aload_n 0, 1) := by decide +kernel
theorem ze_99_22 : z_T g d 99 22 (.ref a :: ls) st h P = z_T g d 99 23 (.ref a :: ls) (.ref a :: st) h P := zt_aloadn zi_99_22 rfl rfl
theorem ze_99_22_n : z_T g d 99 22 (.null :: ls) st h P = z_T g d 99 23 (.null :: ls) (.null :: st) h P := zt_aloadnN zi_99_22 rfl rfl
theorem zi_99_23 : z_ins 99 23 = some (.getfield 48, 3) := by decide +kernel
theorem ze_99_23 : z_T g d 99 23 ls (.ref a :: st) h P = z_gI h.1 a 10 7 (fun x => z_T g d 99 26 ls (.int x :: st) h P) := zt_getI zi_99_23 ((congrArg (fun o => z_fl o 48) zo_99).trans zf_LatinRectanglesLaw_Grid_48)
theorem zi_99_26 : z_ins 99 26 = some (.ifCond .ne 11, 3) := by decide +kernel
theorem ze_99_26 : z_T g d 99 26 ls (.int x :: st) h P = (if x = nI 0 then z_T g d 99 29 ls st h P else z_T g d 99 37 ls st h P) := zt_ifne zi_99_26 (by decide)
theorem zi_99_29 : z_ins 99 29 = some (.aload_n 0, 1) := by decide +kernel
theorem ze_99_29 : z_T g d 99 29 (.ref a :: ls) st h P = z_T g d 99 30 (.ref a :: ls) (.ref a :: st) h P := zt_aloadn zi_99_29 rfl rfl
theorem ze_99_29_n : z_T g d 99 29 (.null :: ls) st h P = z_T g d 99 30 (.null :: ls) (.null :: st) h P := zt_aloadnN zi_99_29 rfl rfl
theorem zi_99_30 : z_ins 99 30 = some (.aload_n 0, 1) := by decide +kernel
theorem ze_99_30 : z_T g d 99 30 (.ref a :: ls) st h P = z_T g d 99 31 (.ref a :: ls) (.ref a :: st) h P := zt_aloadn zi_99_30 rfl rfl
theorem ze_99_30_n : z_T g d 99 30 (.null :: ls) st h P = z_T g d 99 31 (.null :: ls) (.null :: st) h P := zt_aloadnN zi_99_30 rfl rfl
theorem zi_99_31 : z_ins 99 31 = some (.invokevirtual 58, 3) := by decide +kernel
theorem ze_99_31 : z_T g d 99 31 ls (.ref a :: st) h P = ((z_okS 8 st = true ∧ z_gO h.1 a 10 ∧ 0 < d) ∧ z_Ca g (d - 1) 100 [.ref a] h (fun r => z_k r (fun v h' => z_T g d 99 34 ls (z_push v st) h' P) P)) := zt_cV (as := []) (kk := 0) zi_99_31 rfl (zt_call zj_99 zh_99) (z_opV ((congrArg (fun o => z_lookup z_cns (o, 58)) zo_99).trans zq_cns_LatinRectanglesLaw_Grid_58) ((congrArg (fun o => z_lookup z_prs (o, 58)) zo_99).trans zq_prs_LatinRectanglesLaw_Grid_58)) ((congrArg (fun o => z_clk o 58) zo_99).trans zk_LatinRectanglesLaw_Grid_58) rfl rfl rfl rfl (z_rcv0 zc_100)
theorem zi_99_34 : z_ins 99 34 = some (.putfield 62, 3) := by decide +kernel
theorem ze_99_34 : z_T g d 99 34 ls (.ref b :: .ref a :: st) h P = z_pF h.1 a 10 8 (.ref b) (fun f => z_T g d 99 37 ls st (f, h.2) P) := zt_put zi_99_34 ((congrArg (fun o => z_fl o 62) zo_99).trans zf_LatinRectanglesLaw_Grid_62) (by decide +kernel) rfl rfl
theorem ze_99_34_n : z_T g d 99 34 ls (.null :: .ref a :: st) h P = z_pF h.1 a 10 8 (.null) (fun f => z_T g d 99 37 ls st (f, h.2) P) := zt_put zi_99_34 ((congrArg (fun o => z_fl o 62) zo_99).trans zf_LatinRectanglesLaw_Grid_62) (by decide +kernel) rfl rfl
theorem zi_99_37 : z_ins 99 37 = some (.aload_n 0, 1) := by decide +kernel
theorem ze_99_37 : z_T g d 99 37 (.ref a :: ls) st h P = z_T g d 99 38 (.ref a :: ls) (.ref a :: st) h P := zt_aloadn zi_99_37 rfl rfl
theorem ze_99_37_n : z_T g d 99 37 (.null :: ls) st h P = z_T g d 99 38 (.null :: ls) (.null :: st) h P := zt_aloadnN zi_99_37 rfl rfl
theorem zi_99_38 : z_ins 99 38 = some (.dup, 1) := by decide +kernel
theorem ze_99_38 : z_T g d 99 38 ls (.ref a :: st) h P = z_T g d 99 39 ls (.ref a :: .ref a :: st) h P := zt_dup rfl zi_99_38
theorem ze_99_38_i : z_T g d 99 38 ls (.int x :: st) h P = z_T g d 99 39 ls (.int x :: .int x :: st) h P := zt_dup rfl zi_99_38
theorem zi_99_39 : z_ins 99 39 = some (.getfield 48, 3) := by decide +kernel
theorem ze_99_39 : z_T g d 99 39 ls (.ref a :: st) h P = z_gI h.1 a 10 7 (fun x => z_T g d 99 42 ls (.int x :: st) h P) := zt_getI zi_99_39 ((congrArg (fun o => z_fl o 48) zo_99).trans zf_LatinRectanglesLaw_Grid_48)
theorem zi_99_42 : z_ins 99 42 = some (.iconst 1, 1) := by decide +kernel
theorem ze_99_42 : z_T g d 99 42 ls st h P = z_T g d 99 43 ls (.int (nI 1) :: st) h P := zt_iconst zi_99_42 rfl
theorem zi_99_43 : z_ins 99 43 = some (.iadd, 1) := by decide +kernel
theorem ze_99_43 : z_T g d 99 43 ls (.int y :: .int x :: st) h P = z_T g d 99 44 ls (.int (x + y) :: st) h P := zt_bin (f := fun x y => x + y) zi_99_43 rfl (fun _ _ _ => rfl)
theorem zi_99_44 : z_ins 99 44 = some (.putfield 48, 3) := by decide +kernel
theorem ze_99_44 : z_T g d 99 44 ls (.int x :: .ref a :: st) h P = z_pF h.1 a 10 7 (.int x) (fun f => z_T g d 99 47 ls st (f, h.2) P) := zt_put zi_99_44 ((congrArg (fun o => z_fl o 48) zo_99).trans zf_LatinRectanglesLaw_Grid_48) (by decide +kernel) rfl rfl
theorem zi_99_47 : z_ins 99 47 = some (.iconst 0, 1) := by decide +kernel
theorem ze_99_47 : z_T g d 99 47 ls st h P = z_T g d 99 48 ls (.int (nI 0) :: st) h P := zt_iconst zi_99_47 rfl
theorem zi_99_48 : z_ins 99 48 = some (.istore_n 3, 1) := by decide +kernel
theorem ze_99_48 : z_T g d 99 48 (v0 :: v1 :: v2 :: v3 :: ls) (.int x :: st) h P = z_T g d 99 49 (v0 :: v1 :: v2 :: .int x :: ls) st h P := zt_istoren zi_99_48 rfl (Nat.le_add_left 4 _)
theorem zi_99_49 : z_ins 99 49 = some (.iload_n 3, 1) := by decide +kernel
theorem ze_99_49 : z_T g d 99 49 (v0 :: v1 :: v2 :: .int x :: ls) st h P = z_T g d 99 50 (v0 :: v1 :: v2 :: .int x :: ls) (.int x :: st) h P := zt_iloadn zi_99_49 rfl rfl
theorem zi_99_50 : z_ins 99 50 = some (.aload_n 0, 1) := by decide +kernel
theorem ze_99_50 : z_T g d 99 50 (.ref a :: ls) st h P = z_T g d 99 51 (.ref a :: ls) (.ref a :: st) h P := zt_aloadn zi_99_50 rfl rfl
theorem ze_99_50_n : z_T g d 99 50 (.null :: ls) st h P = z_T g d 99 51 (.null :: ls) (.null :: st) h P := zt_aloadnN zi_99_50 rfl rfl
theorem zi_99_51 : z_ins 99 51 = some (.getfield 7, 3) := by decide +kernel
theorem ze_99_51 : z_T g d 99 51 ls (.ref a :: st) h P = z_gI h.1 a 10 0 (fun x => z_T g d 99 54 ls (.int x :: st) h P) := zt_getI zi_99_51 ((congrArg (fun o => z_fl o 7) zo_99).trans zf_LatinRectanglesLaw_Grid_7)
theorem zi_99_54 : z_ins 99 54 = some (.if_icmp .ge 50, 3) := by decide +kernel
theorem ze_99_54 : z_T g d 99 54 ls (.int y :: .int x :: st) h P = (if x < y then z_T g d 99 57 ls st h P else z_T g d 99 104 ls st h P) := zt_icmpge zi_99_54 (by decide)
theorem zi_99_57 : z_ins 99 57 = some (.iconst 0, 1) := by decide +kernel
theorem ze_99_57 : z_T g d 99 57 ls st h P = z_T g d 99 58 ls (.int (nI 0) :: st) h P := zt_iconst zi_99_57 rfl
theorem zi_99_58 : z_ins 99 58 = some (.istore 4, 2) := by decide +kernel
theorem ze_99_58 : z_T g d 99 58 (v0 :: v1 :: v2 :: v3 :: v4 :: ls) (.int x :: st) h P = z_T g d 99 60 (v0 :: v1 :: v2 :: v3 :: .int x :: ls) st h P := zt_istore zi_99_58 (Nat.le_add_left 5 _)
theorem zi_99_60 : z_ins 99 60 = some (.iload 4, 2) := by decide +kernel
theorem ze_99_60 : z_T g d 99 60 (v0 :: v1 :: v2 :: v3 :: .int x :: ls) st h P = z_T g d 99 62 (v0 :: v1 :: v2 :: v3 :: .int x :: ls) (.int x :: st) h P := zt_iload zi_99_60 rfl
theorem zi_99_62 : z_ins 99 62 = some (.aload_n 0, 1) := by decide +kernel
theorem ze_99_62 : z_T g d 99 62 (.ref a :: ls) st h P = z_T g d 99 63 (.ref a :: ls) (.ref a :: st) h P := zt_aloadn zi_99_62 rfl rfl
theorem ze_99_62_n : z_T g d 99 62 (.null :: ls) st h P = z_T g d 99 63 (.null :: ls) (.null :: st) h P := zt_aloadnN zi_99_62 rfl rfl
theorem zi_99_63 : z_ins 99 63 = some (.getfield 13, 3) := by decide +kernel
theorem ze_99_63 : z_T g d 99 63 ls (.ref a :: st) h P = z_gI h.1 a 10 1 (fun x => z_T g d 99 66 ls (.int x :: st) h P) := zt_getI zi_99_63 ((congrArg (fun o => z_fl o 13) zo_99).trans zf_LatinRectanglesLaw_Grid_13)
theorem zi_99_66 : z_ins 99 66 = some (.if_icmp .ge 32, 3) := by decide +kernel
theorem ze_99_66 : z_T g d 99 66 ls (.int y :: .int x :: st) h P = (if x < y then z_T g d 99 69 ls st h P else z_T g d 99 98 ls st h P) := zt_icmpge zi_99_66 (by decide)
theorem zi_99_69 : z_ins 99 69 = some (.aload_n 0, 1) := by decide +kernel
theorem ze_99_69 : z_T g d 99 69 (.ref a :: ls) st h P = z_T g d 99 70 (.ref a :: ls) (.ref a :: st) h P := zt_aloadn zi_99_69 rfl rfl
theorem ze_99_69_n : z_T g d 99 69 (.null :: ls) st h P = z_T g d 99 70 (.null :: ls) (.null :: st) h P := zt_aloadnN zi_99_69 rfl rfl
theorem zi_99_70 : z_ins 99 70 = some (.getfield 51, 3) := by decide +kernel
theorem ze_99_70 : z_T g d 99 70 ls (.ref a :: st) h P = z_gR h.1 a 10 9 (fun x => z_T g d 99 73 ls (x :: st) h P) := zt_getR zi_99_70 ((congrArg (fun o => z_fl o 51) zo_99).trans zf_LatinRectanglesLaw_Grid_51)
theorem zi_99_73 : z_ins 99 73 = some (.iload_n 3, 1) := by decide +kernel
theorem ze_99_73 : z_T g d 99 73 (v0 :: v1 :: v2 :: .int x :: ls) st h P = z_T g d 99 74 (v0 :: v1 :: v2 :: .int x :: ls) (.int x :: st) h P := zt_iloadn zi_99_73 rfl rfl
theorem zi_99_74 : z_ins 99 74 = some (.aaload, 1) := by decide +kernel
theorem ze_99_74 : z_T g d 99 74 ls (.int x :: .ref a :: st) h P = z_qL h.1 a x (fun v => z_T g d 99 75 ls (.ref v :: st) h P) := zt_aaload zi_99_74
theorem zi_99_75 : z_ins 99 75 = some (.iload 4, 2) := by decide +kernel
theorem ze_99_75 : z_T g d 99 75 (v0 :: v1 :: v2 :: v3 :: .int x :: ls) st h P = z_T g d 99 77 (v0 :: v1 :: v2 :: v3 :: .int x :: ls) (.int x :: st) h P := zt_iload zi_99_75 rfl
theorem zi_99_77 : z_ins 99 77 = some (.dup2, 1) := by decide +kernel
theorem ze_99_77 : z_T g d 99 77 ls (.int x :: .ref a :: st) h P = z_T g d 99 78 ls (.int x :: .ref a :: .int x :: .ref a :: st) h P := zt_dup2 ⟨rfl, rfl⟩ zi_99_77
theorem zi_99_78 : z_ins 99 78 = some (.iaload, 1) := by decide +kernel
theorem ze_99_78 : z_T g d 99 78 ls (.int x :: .ref a :: st) h P = z_aL h.1 a z_tI x (fun v => z_T g d 99 79 ls (.int v :: st) h P) := zt_iaload zi_99_78
theorem zi_99_79 : z_ins 99 79 = some (.iconst 1, 1) := by decide +kernel
theorem ze_99_79 : z_T g d 99 79 ls st h P = z_T g d 99 80 ls (.int (nI 1) :: st) h P := zt_iconst zi_99_79 rfl
theorem zi_99_80 : z_ins 99 80 = some (.aload_n 0, 1) := by decide +kernel
theorem ze_99_80 : z_T g d 99 80 (.ref a :: ls) st h P = z_T g d 99 81 (.ref a :: ls) (.ref a :: st) h P := zt_aloadn zi_99_80 rfl rfl
theorem ze_99_80_n : z_T g d 99 80 (.null :: ls) st h P = z_T g d 99 81 (.null :: ls) (.null :: st) h P := zt_aloadnN zi_99_80 rfl rfl
theorem zi_99_81 : z_ins 99 81 = some (.getfield 18, 3) := by decide +kernel
theorem ze_99_81 : z_T g d 99 81 ls (.ref a :: st) h P = z_gR h.1 a 10 4 (fun x => z_T g d 99 84 ls (x :: st) h P) := zt_getR zi_99_81 ((congrArg (fun o => z_fl o 18) zo_99).trans zf_LatinRectanglesLaw_Grid_18)
theorem zi_99_84 : z_ins 99 84 = some (.iload_n 3, 1) := by decide +kernel
theorem ze_99_84 : z_T g d 99 84 (v0 :: v1 :: v2 :: .int x :: ls) st h P = z_T g d 99 85 (v0 :: v1 :: v2 :: .int x :: ls) (.int x :: st) h P := zt_iloadn zi_99_84 rfl rfl
theorem zi_99_85 : z_ins 99 85 = some (.aaload, 1) := by decide +kernel
theorem ze_99_85 : z_T g d 99 85 ls (.int x :: .ref a :: st) h P = z_qL h.1 a x (fun v => z_T g d 99 86 ls (.ref v :: st) h P) := zt_aaload zi_99_85
theorem zi_99_86 : z_ins 99 86 = some (.iload 4, 2) := by decide +kernel
theorem ze_99_86 : z_T g d 99 86 (v0 :: v1 :: v2 :: v3 :: .int x :: ls) st h P = z_T g d 99 88 (v0 :: v1 :: v2 :: v3 :: .int x :: ls) (.int x :: st) h P := zt_iload zi_99_86 rfl
theorem zi_99_88 : z_ins 99 88 = some (.iaload, 1) := by decide +kernel
theorem ze_99_88 : z_T g d 99 88 ls (.int x :: .ref a :: st) h P = z_aL h.1 a z_tI x (fun v => z_T g d 99 89 ls (.int v :: st) h P) := zt_iaload zi_99_88
theorem zi_99_89 : z_ins 99 89 = some (.ishl, 1) := by decide +kernel
theorem ze_99_89 : z_T g d 99 89 ls (.int y :: .int x :: st) h P = z_T g d 99 90 ls (.int (x <<< (y &&& 31)) :: st) h P := zt_bin (f := fun x y => x <<< (y &&& 31)) zi_99_89 rfl (fun _ _ _ => rfl)
theorem zi_99_90 : z_ins 99 90 = some (.ior, 1) := by decide +kernel
theorem ze_99_90 : z_T g d 99 90 ls (.int y :: .int x :: st) h P = z_T g d 99 91 ls (.int (x ||| y) :: st) h P := zt_bin (f := fun x y => x ||| y) zi_99_90 rfl (fun _ _ _ => rfl)
theorem zi_99_91 : z_ins 99 91 = some (.iastore, 1) := by decide +kernel
theorem ze_99_91 : z_T g d 99 91 ls (.int y :: .int x :: .ref a :: st) h P = z_aS h.1 a z_tI x y (fun f => z_T g d 99 92 ls st (f, h.2) P) := zt_iastore zi_99_91
theorem zi_99_92 : z_ins 99 92 = some (.iinc 4 1, 3) := by decide +kernel
theorem ze_99_92 : z_T g d 99 92 (v0 :: v1 :: v2 :: v3 :: .int x :: ls) st h P = z_T g d 99 95 (v0 :: v1 :: v2 :: v3 :: .int (x + (nI 1)) :: ls) st h P := zt_iinc zi_99_92 rfl rfl
theorem zi_99_95 : z_ins 99 95 = some (.goto (-35), 3) := by decide +kernel
theorem ze_99_95 : z_T g d 99 95 ls st h P = z_T g d 99 60 ls st h P := zt_goto zi_99_95 (by decide)
theorem zi_99_98 : z_ins 99 98 = some (.iinc 3 1, 3) := by decide +kernel
theorem ze_99_98 : z_T g d 99 98 (v0 :: v1 :: v2 :: .int x :: ls) st h P = z_T g d 99 101 (v0 :: v1 :: v2 :: .int (x + (nI 1)) :: ls) st h P := zt_iinc zi_99_98 rfl rfl
theorem zi_99_101 : z_ins 99 101 = some (.goto (-52), 3) := by decide +kernel
theorem ze_99_101 : z_T g d 99 101 ls st h P = z_T g d 99 49 ls st h P := zt_goto zi_99_101 (by decide)
theorem zi_99_104 : z_ins 99 104 = some (.return_, 1) := by decide +kernel
theorem ze_99_104 : z_T g d 99 104 ls [] h P = P (.inr none, h) := zt_return zi_99_104 zr_99
theorem zi_99_105 : z_ins 99 105 = some (.iload_n 1, 1) := by decide +kernel
theorem ze_99_105 : z_T g d 99 105 (v0 :: .int x :: ls) st h P = z_T g d 99 106 (v0 :: .int x :: ls) (.int x :: st) h P := zt_iloadn zi_99_105 rfl rfl
theorem zi_99_106 : z_ins 99 106 = some (.aload_n 0, 1) := by decide +kernel
theorem ze_99_106 : z_T g d 99 106 (.ref a :: ls) st h P = z_T g d 99 107 (.ref a :: ls) (.ref a :: st) h P := zt_aloadn zi_99_106 rfl rfl
theorem ze_99_106_n : z_T g d 99 106 (.null :: ls) st h P = z_T g d 99 107 (.null :: ls) (.null :: st) h P := zt_aloadnN zi_99_106 rfl rfl
theorem zi_99_107 : z_ins 99 107 = some (.getfield 13, 3) := by decide +kernel
theorem ze_99_107 : z_T g d 99 107 ls (.ref a :: st) h P = z_gI h.1 a 10 1 (fun x => z_T g d 99 110 ls (.int x :: st) h P) := zt_getI zi_99_107 ((congrArg (fun o => z_fl o 13) zo_99).trans zf_LatinRectanglesLaw_Grid_13)
theorem zi_99_110 : z_ins 99 110 = some (.idiv, 1) := by decide +kernel
theorem ze_99_110 : z_T g d 99 110 ls (.int y :: .int x :: st) h P = (¬ y = nI 0 ∧ z_T g d 99 111 ls (.int (x / y) :: st) h P) := zt_idiv zi_99_110
theorem zi_99_111 : z_ins 99 111 = some (.istore_n 3, 1) := by decide +kernel
theorem ze_99_111 : z_T g d 99 111 (v0 :: v1 :: v2 :: v3 :: ls) (.int x :: st) h P = z_T g d 99 112 (v0 :: v1 :: v2 :: .int x :: ls) st h P := zt_istoren zi_99_111 rfl (Nat.le_add_left 4 _)
theorem zi_99_112 : z_ins 99 112 = some (.iload_n 1, 1) := by decide +kernel
theorem ze_99_112 : z_T g d 99 112 (v0 :: .int x :: ls) st h P = z_T g d 99 113 (v0 :: .int x :: ls) (.int x :: st) h P := zt_iloadn zi_99_112 rfl rfl
theorem zi_99_113 : z_ins 99 113 = some (.aload_n 0, 1) := by decide +kernel
theorem ze_99_113 : z_T g d 99 113 (.ref a :: ls) st h P = z_T g d 99 114 (.ref a :: ls) (.ref a :: st) h P := zt_aloadn zi_99_113 rfl rfl
theorem ze_99_113_n : z_T g d 99 113 (.null :: ls) st h P = z_T g d 99 114 (.null :: ls) (.null :: st) h P := zt_aloadnN zi_99_113 rfl rfl
theorem zi_99_114 : z_ins 99 114 = some (.getfield 13, 3) := by decide +kernel
theorem ze_99_114 : z_T g d 99 114 ls (.ref a :: st) h P = z_gI h.1 a 10 1 (fun x => z_T g d 99 117 ls (.int x :: st) h P) := zt_getI zi_99_114 ((congrArg (fun o => z_fl o 13) zo_99).trans zf_LatinRectanglesLaw_Grid_13)
theorem zi_99_117 : z_ins 99 117 = some (.irem, 1) := by decide +kernel
theorem ze_99_117 : z_T g d 99 117 ls (.int y :: .int x :: st) h P = (¬ y = nI 0 ∧ z_T g d 99 118 ls (.int (x - x / y * y) :: st) h P) := zt_irem zi_99_117
theorem zi_99_118 : z_ins 99 118 = some (.istore 4, 2) := by decide +kernel
theorem ze_99_118 : z_T g d 99 118 (v0 :: v1 :: v2 :: v3 :: v4 :: ls) (.int x :: st) h P = z_T g d 99 120 (v0 :: v1 :: v2 :: v3 :: .int x :: ls) st h P := zt_istore zi_99_118 (Nat.le_add_left 5 _)
theorem zi_99_120 : z_ins 99 120 = some (.aload_n 0, 1) := by decide +kernel
theorem ze_99_120 : z_T g d 99 120 (.ref a :: ls) st h P = z_T g d 99 121 (.ref a :: ls) (.ref a :: st) h P := zt_aloadn zi_99_120 rfl rfl
theorem ze_99_120_n : z_T g d 99 120 (.null :: ls) st h P = z_T g d 99 121 (.null :: ls) (.null :: st) h P := zt_aloadnN zi_99_120 rfl rfl
theorem zi_99_121 : z_ins 99 121 = some (.getfield 18, 3) := by decide +kernel
theorem ze_99_121 : z_T g d 99 121 ls (.ref a :: st) h P = z_gR h.1 a 10 4 (fun x => z_T g d 99 124 ls (x :: st) h P) := zt_getR zi_99_121 ((congrArg (fun o => z_fl o 18) zo_99).trans zf_LatinRectanglesLaw_Grid_18)
theorem zi_99_124 : z_ins 99 124 = some (.iload_n 3, 1) := by decide +kernel
theorem ze_99_124 : z_T g d 99 124 (v0 :: v1 :: v2 :: .int x :: ls) st h P = z_T g d 99 125 (v0 :: v1 :: v2 :: .int x :: ls) (.int x :: st) h P := zt_iloadn zi_99_124 rfl rfl
theorem zi_99_125 : z_ins 99 125 = some (.aaload, 1) := by decide +kernel
theorem ze_99_125 : z_T g d 99 125 ls (.int x :: .ref a :: st) h P = z_qL h.1 a x (fun v => z_T g d 99 126 ls (.ref v :: st) h P) := zt_aaload zi_99_125
theorem zi_99_126 : z_ins 99 126 = some (.iload 4, 2) := by decide +kernel
theorem ze_99_126 : z_T g d 99 126 (v0 :: v1 :: v2 :: v3 :: .int x :: ls) st h P = z_T g d 99 128 (v0 :: v1 :: v2 :: v3 :: .int x :: ls) (.int x :: st) h P := zt_iload zi_99_126 rfl
theorem zi_99_128 : z_ins 99 128 = some (.iaload, 1) := by decide +kernel
theorem ze_99_128 : z_T g d 99 128 ls (.int x :: .ref a :: st) h P = z_aL h.1 a z_tI x (fun v => z_T g d 99 129 ls (.int v :: st) h P) := zt_iaload zi_99_128
theorem zi_99_129 : z_ins 99 129 = some (.ifCond .lt 12, 3) := by decide +kernel
theorem ze_99_129 : z_T g d 99 129 ls (.int x :: st) h P = (if x < nI 0 then z_T g d 99 141 ls st h P else z_T g d 99 132 ls st h P) := zt_iflt zi_99_129 (by decide)
theorem zi_99_132 : z_ins 99 132 = some (.aload_n 0, 1) := by decide +kernel
theorem ze_99_132 : z_T g d 99 132 (.ref a :: ls) st h P = z_T g d 99 133 (.ref a :: ls) (.ref a :: st) h P := zt_aloadn zi_99_132 rfl rfl
theorem ze_99_132_n : z_T g d 99 132 (.null :: ls) st h P = z_T g d 99 133 (.null :: ls) (.null :: st) h P := zt_aloadnN zi_99_132 rfl rfl
theorem zi_99_133 : z_ins 99 133 = some (.iload_n 1, 1) := by decide +kernel
theorem ze_99_133 : z_T g d 99 133 (v0 :: .int x :: ls) st h P = z_T g d 99 134 (v0 :: .int x :: ls) (.int x :: st) h P := zt_iloadn zi_99_133 rfl rfl
theorem zi_99_134 : z_ins 99 134 = some (.iconst 1, 1) := by decide +kernel
theorem ze_99_134 : z_T g d 99 134 ls st h P = z_T g d 99 135 ls (.int (nI 1) :: st) h P := zt_iconst zi_99_134 rfl
theorem zi_99_135 : z_ins 99 135 = some (.iadd, 1) := by decide +kernel
theorem ze_99_135 : z_T g d 99 135 ls (.int y :: .int x :: st) h P = z_T g d 99 136 ls (.int (x + y) :: st) h P := zt_bin (f := fun x y => x + y) zi_99_135 rfl (fun _ _ _ => rfl)
theorem zi_99_136 : z_ins 99 136 = some (.iload_n 2, 1) := by decide +kernel
theorem ze_99_136 : z_T g d 99 136 (v0 :: v1 :: .int x :: ls) st h P = z_T g d 99 137 (v0 :: v1 :: .int x :: ls) (.int x :: st) h P := zt_iloadn zi_99_136 rfl rfl
theorem zi_99_137 : z_ins 99 137 = some (.invokevirtual 54, 3) := by decide +kernel
theorem ze_99_137 : z_T g d 99 137 ls (.int x1 :: .int x0 :: .ref a :: st) h P = ((z_okS 8 st = true ∧ z_gO h.1 a 10 ∧ 0 < d) ∧ z_Ca g (d - 1) 99 [.ref a, .int x0, .int x1] h (fun r => z_k r (fun v h' => z_T g d 99 140 ls (z_push v st) h' P) P)) := zt_cV (as := [.int x0, .int x1]) (kk := 0) zi_99_137 rfl (zt_call zj_99 zh_99) (z_opV ((congrArg (fun o => z_lookup z_cns (o, 54)) zo_99).trans zq_cns_LatinRectanglesLaw_Grid_54) ((congrArg (fun o => z_lookup z_prs (o, 54)) zo_99).trans zq_prs_LatinRectanglesLaw_Grid_54)) ((congrArg (fun o => z_clk o 54) zo_99).trans zk_LatinRectanglesLaw_Grid_54) rfl rfl rfl rfl (z_rcv0 zc_99)
theorem zi_99_140 : z_ins 99 140 = some (.return_, 1) := by decide +kernel
theorem ze_99_140 : z_T g d 99 140 ls [] h P = P (.inr none, h) := zt_return zi_99_140 zr_99
theorem zi_99_141 : z_ins 99 141 = some (.iconst 0, 1) := by decide +kernel
theorem ze_99_141 : z_T g d 99 141 ls st h P = z_T g d 99 142 ls (.int (nI 0) :: st) h P := zt_iconst zi_99_141 rfl
theorem zi_99_142 : z_ins 99 142 = some (.istore 5, 2) := by decide +kernel
theorem ze_99_142 : z_T g d 99 142 (v0 :: v1 :: v2 :: v3 :: v4 :: v5 :: ls) (.int x :: st) h P = z_T g d 99 144 (v0 :: v1 :: v2 :: v3 :: v4 :: .int x :: ls) st h P := zt_istore zi_99_142 (Nat.le_add_left 6 _)
theorem zi_99_144 : z_ins 99 144 = some (.iload 5, 2) := by decide +kernel
theorem ze_99_144 : z_T g d 99 144 (v0 :: v1 :: v2 :: v3 :: v4 :: .int x :: ls) st h P = z_T g d 99 146 (v0 :: v1 :: v2 :: v3 :: v4 :: .int x :: ls) (.int x :: st) h P := zt_iload zi_99_144 rfl
theorem zi_99_146 : z_ins 99 146 = some (.aload_n 0, 1) := by decide +kernel
theorem ze_99_146 : z_T g d 99 146 (.ref a :: ls) st h P = z_T g d 99 147 (.ref a :: ls) (.ref a :: st) h P := zt_aloadn zi_99_146 rfl rfl
theorem ze_99_146_n : z_T g d 99 146 (.null :: ls) st h P = z_T g d 99 147 (.null :: ls) (.null :: st) h P := zt_aloadnN zi_99_146 rfl rfl
theorem zi_99_147 : z_ins 99 147 = some (.getfield 13, 3) := by decide +kernel
theorem ze_99_147 : z_T g d 99 147 ls (.ref a :: st) h P = z_gI h.1 a 10 1 (fun x => z_T g d 99 150 ls (.int x :: st) h P) := zt_getI zi_99_147 ((congrArg (fun o => z_fl o 13) zo_99).trans zf_LatinRectanglesLaw_Grid_13)
theorem zi_99_150 : z_ins 99 150 = some (.if_icmp .ge 53, 3) := by decide +kernel
theorem ze_99_150 : z_T g d 99 150 ls (.int y :: .int x :: st) h P = (if x < y then z_T g d 99 153 ls st h P else z_T g d 99 203 ls st h P) := zt_icmpge zi_99_150 (by decide)
theorem zi_99_153 : z_ins 99 153 = some (.aload_n 0, 1) := by decide +kernel
theorem ze_99_153 : z_T g d 99 153 (.ref a :: ls) st h P = z_T g d 99 154 (.ref a :: ls) (.ref a :: st) h P := zt_aloadn zi_99_153 rfl rfl
theorem ze_99_153_n : z_T g d 99 153 (.null :: ls) st h P = z_T g d 99 154 (.null :: ls) (.null :: st) h P := zt_aloadnN zi_99_153 rfl rfl
theorem zi_99_154 : z_ins 99 154 = some (.iload_n 3, 1) := by decide +kernel
theorem ze_99_154 : z_T g d 99 154 (v0 :: v1 :: v2 :: .int x :: ls) st h P = z_T g d 99 155 (v0 :: v1 :: v2 :: .int x :: ls) (.int x :: st) h P := zt_iloadn zi_99_154 rfl rfl
theorem zi_99_155 : z_ins 99 155 = some (.iload 4, 2) := by decide +kernel
theorem ze_99_155 : z_T g d 99 155 (v0 :: v1 :: v2 :: v3 :: .int x :: ls) st h P = z_T g d 99 157 (v0 :: v1 :: v2 :: v3 :: .int x :: ls) (.int x :: st) h P := zt_iload zi_99_155 rfl
theorem zi_99_157 : z_ins 99 157 = some (.iload 5, 2) := by decide +kernel
theorem ze_99_157 : z_T g d 99 157 (v0 :: v1 :: v2 :: v3 :: v4 :: .int x :: ls) st h P = z_T g d 99 159 (v0 :: v1 :: v2 :: v3 :: v4 :: .int x :: ls) (.int x :: st) h P := zt_iload zi_99_157 rfl
theorem zi_99_159 : z_ins 99 159 = some (.invokevirtual 31, 3) := by decide +kernel
theorem ze_99_159 : z_T g d 99 159 ls (.int x2 :: .int x1 :: .int x0 :: .ref a :: st) h P = ((z_okS 8 st = true ∧ z_gO h.1 a 10 ∧ 0 < d) ∧ z_Ca g (d - 1) 95 [.ref a, .int x0, .int x1, .int x2] h (fun r => z_k r (fun v h' => z_T g d 99 162 ls (z_push v st) h' P) P)) := zt_cV (as := [.int x0, .int x1, .int x2]) (kk := 0) zi_99_159 rfl (zt_call zj_99 zh_99) (z_opV ((congrArg (fun o => z_lookup z_cns (o, 31)) zo_99).trans zq_cns_LatinRectanglesLaw_Grid_31) ((congrArg (fun o => z_lookup z_prs (o, 31)) zo_99).trans zq_prs_LatinRectanglesLaw_Grid_31)) ((congrArg (fun o => z_clk o 31) zo_99).trans zk_LatinRectanglesLaw_Grid_31) rfl rfl rfl rfl (z_rcv0 zc_95)
theorem zi_99_162 : z_ins 99 162 = some (.ifCond .ne 6, 3) := by decide +kernel
theorem ze_99_162 : z_T g d 99 162 ls (.int x :: st) h P = (if x = nI 0 then z_T g d 99 165 ls st h P else z_T g d 99 168 ls st h P) := zt_ifne zi_99_162 (by decide)
theorem zi_99_165 : z_ins 99 165 = some (.goto 32, 3) := by decide +kernel
theorem ze_99_165 : z_T g d 99 165 ls st h P = z_T g d 99 197 ls st h P := zt_goto zi_99_165 (by decide)
theorem zi_99_168 : z_ins 99 168 = some (.aload_n 0, 1) := by decide +kernel
theorem ze_99_168 : z_T g d 99 168 (.ref a :: ls) st h P = z_T g d 99 169 (.ref a :: ls) (.ref a :: st) h P := zt_aloadn zi_99_168 rfl rfl
theorem ze_99_168_n : z_T g d 99 168 (.null :: ls) st h P = z_T g d 99 169 (.null :: ls) (.null :: st) h P := zt_aloadnN zi_99_168 rfl rfl
theorem zi_99_169 : z_ins 99 169 = some (.getfield 18, 3) := by decide +kernel
theorem ze_99_169 : z_T g d 99 169 ls (.ref a :: st) h P = z_gR h.1 a 10 4 (fun x => z_T g d 99 172 ls (x :: st) h P) := zt_getR zi_99_169 ((congrArg (fun o => z_fl o 18) zo_99).trans zf_LatinRectanglesLaw_Grid_18)
theorem zi_99_172 : z_ins 99 172 = some (.iload_n 3, 1) := by decide +kernel
theorem ze_99_172 : z_T g d 99 172 (v0 :: v1 :: v2 :: .int x :: ls) st h P = z_T g d 99 173 (v0 :: v1 :: v2 :: .int x :: ls) (.int x :: st) h P := zt_iloadn zi_99_172 rfl rfl
theorem zi_99_173 : z_ins 99 173 = some (.aaload, 1) := by decide +kernel
theorem ze_99_173 : z_T g d 99 173 ls (.int x :: .ref a :: st) h P = z_qL h.1 a x (fun v => z_T g d 99 174 ls (.ref v :: st) h P) := zt_aaload zi_99_173
theorem zi_99_174 : z_ins 99 174 = some (.iload 4, 2) := by decide +kernel
theorem ze_99_174 : z_T g d 99 174 (v0 :: v1 :: v2 :: v3 :: .int x :: ls) st h P = z_T g d 99 176 (v0 :: v1 :: v2 :: v3 :: .int x :: ls) (.int x :: st) h P := zt_iload zi_99_174 rfl
theorem zi_99_176 : z_ins 99 176 = some (.iload 5, 2) := by decide +kernel
theorem ze_99_176 : z_T g d 99 176 (v0 :: v1 :: v2 :: v3 :: v4 :: .int x :: ls) st h P = z_T g d 99 178 (v0 :: v1 :: v2 :: v3 :: v4 :: .int x :: ls) (.int x :: st) h P := zt_iload zi_99_176 rfl
theorem zi_99_178 : z_ins 99 178 = some (.iastore, 1) := by decide +kernel
theorem ze_99_178 : z_T g d 99 178 ls (.int y :: .int x :: .ref a :: st) h P = z_aS h.1 a z_tI x y (fun f => z_T g d 99 179 ls st (f, h.2) P) := zt_iastore zi_99_178
theorem zi_99_179 : z_ins 99 179 = some (.aload_n 0, 1) := by decide +kernel
theorem ze_99_179 : z_T g d 99 179 (.ref a :: ls) st h P = z_T g d 99 180 (.ref a :: ls) (.ref a :: st) h P := zt_aloadn zi_99_179 rfl rfl
theorem ze_99_179_n : z_T g d 99 179 (.null :: ls) st h P = z_T g d 99 180 (.null :: ls) (.null :: st) h P := zt_aloadnN zi_99_179 rfl rfl
theorem zi_99_180 : z_ins 99 180 = some (.iload_n 1, 1) := by decide +kernel
theorem ze_99_180 : z_T g d 99 180 (v0 :: .int x :: ls) st h P = z_T g d 99 181 (v0 :: .int x :: ls) (.int x :: st) h P := zt_iloadn zi_99_180 rfl rfl
theorem zi_99_181 : z_ins 99 181 = some (.iconst 1, 1) := by decide +kernel
theorem ze_99_181 : z_T g d 99 181 ls st h P = z_T g d 99 182 ls (.int (nI 1) :: st) h P := zt_iconst zi_99_181 rfl
theorem zi_99_182 : z_ins 99 182 = some (.iadd, 1) := by decide +kernel
theorem ze_99_182 : z_T g d 99 182 ls (.int y :: .int x :: st) h P = z_T g d 99 183 ls (.int (x + y) :: st) h P := zt_bin (f := fun x y => x + y) zi_99_182 rfl (fun _ _ _ => rfl)
theorem zi_99_183 : z_ins 99 183 = some (.iload_n 2, 1) := by decide +kernel
theorem ze_99_183 : z_T g d 99 183 (v0 :: v1 :: .int x :: ls) st h P = z_T g d 99 184 (v0 :: v1 :: .int x :: ls) (.int x :: st) h P := zt_iloadn zi_99_183 rfl rfl
theorem zi_99_184 : z_ins 99 184 = some (.invokevirtual 54, 3) := by decide +kernel
theorem ze_99_184 : z_T g d 99 184 ls (.int x1 :: .int x0 :: .ref a :: st) h P = ((z_okS 8 st = true ∧ z_gO h.1 a 10 ∧ 0 < d) ∧ z_Ca g (d - 1) 99 [.ref a, .int x0, .int x1] h (fun r => z_k r (fun v h' => z_T g d 99 187 ls (z_push v st) h' P) P)) := zt_cV (as := [.int x0, .int x1]) (kk := 0) zi_99_184 rfl (zt_call zj_99 zh_99) (z_opV ((congrArg (fun o => z_lookup z_cns (o, 54)) zo_99).trans zq_cns_LatinRectanglesLaw_Grid_54) ((congrArg (fun o => z_lookup z_prs (o, 54)) zo_99).trans zq_prs_LatinRectanglesLaw_Grid_54)) ((congrArg (fun o => z_clk o 54) zo_99).trans zk_LatinRectanglesLaw_Grid_54) rfl rfl rfl rfl (z_rcv0 zc_99)
theorem zi_99_187 : z_ins 99 187 = some (.aload_n 0, 1) := by decide +kernel
theorem ze_99_187 : z_T g d 99 187 (.ref a :: ls) st h P = z_T g d 99 188 (.ref a :: ls) (.ref a :: st) h P := zt_aloadn zi_99_187 rfl rfl
theorem ze_99_187_n : z_T g d 99 187 (.null :: ls) st h P = z_T g d 99 188 (.null :: ls) (.null :: st) h P := zt_aloadnN zi_99_187 rfl rfl
theorem zi_99_188 : z_ins 99 188 = some (.getfield 18, 3) := by decide +kernel
theorem ze_99_188 : z_T g d 99 188 ls (.ref a :: st) h P = z_gR h.1 a 10 4 (fun x => z_T g d 99 191 ls (x :: st) h P) := zt_getR zi_99_188 ((congrArg (fun o => z_fl o 18) zo_99).trans zf_LatinRectanglesLaw_Grid_18)
theorem zi_99_191 : z_ins 99 191 = some (.iload_n 3, 1) := by decide +kernel
theorem ze_99_191 : z_T g d 99 191 (v0 :: v1 :: v2 :: .int x :: ls) st h P = z_T g d 99 192 (v0 :: v1 :: v2 :: .int x :: ls) (.int x :: st) h P := zt_iloadn zi_99_191 rfl rfl
theorem zi_99_192 : z_ins 99 192 = some (.aaload, 1) := by decide +kernel
theorem ze_99_192 : z_T g d 99 192 ls (.int x :: .ref a :: st) h P = z_qL h.1 a x (fun v => z_T g d 99 193 ls (.ref v :: st) h P) := zt_aaload zi_99_192
theorem zi_99_193 : z_ins 99 193 = some (.iload 4, 2) := by decide +kernel
theorem ze_99_193 : z_T g d 99 193 (v0 :: v1 :: v2 :: v3 :: .int x :: ls) st h P = z_T g d 99 195 (v0 :: v1 :: v2 :: v3 :: .int x :: ls) (.int x :: st) h P := zt_iload zi_99_193 rfl
theorem zi_99_195 : z_ins 99 195 = some (.iconst (-1), 1) := by decide +kernel
theorem ze_99_195 : z_T g d 99 195 ls st h P = z_T g d 99 196 ls (.int (-1) :: st) h P := zt_iconst zi_99_195 rfl
theorem zi_99_196 : z_ins 99 196 = some (.iastore, 1) := by decide +kernel
theorem ze_99_196 : z_T g d 99 196 ls (.int y :: .int x :: .ref a :: st) h P = z_aS h.1 a z_tI x y (fun f => z_T g d 99 197 ls st (f, h.2) P) := zt_iastore zi_99_196
theorem zi_99_197 : z_ins 99 197 = some (.iinc 5 1, 3) := by decide +kernel
theorem ze_99_197 : z_T g d 99 197 (v0 :: v1 :: v2 :: v3 :: v4 :: .int x :: ls) st h P = z_T g d 99 200 (v0 :: v1 :: v2 :: v3 :: v4 :: .int (x + (nI 1)) :: ls) st h P := zt_iinc zi_99_197 rfl rfl
theorem zi_99_200 : z_ins 99 200 = some (.goto (-56), 3) := by decide +kernel
theorem ze_99_200 : z_T g d 99 200 ls st h P = z_T g d 99 144 ls st h P := zt_goto zi_99_200 (by decide)
theorem zi_99_203 : z_ins 99 203 = some (.return_, 1) := by decide +kernel
theorem ze_99_203 : z_T g d 99 203 ls [] h P = P (.inr none, h) := zt_return zi_99_203 zr_99
-- LatinRectanglesLaw$Grid.copy()[[I
theorem zm_100 : z_maxL 100 = 3 := by decide +kernel
theorem zh_100 : z_hds 100 = [] := by decide +kernel
theorem zj_100 : z_jdk 100 = false := by decide +kernel
theorem zr_100 : z_rt 100 = (some (.array (.array .int))) := by decide +kernel
theorem zn_100 : z_Ca g d 100 [.ref a0] h P = z_T g d 100 0 [.ref a0, z_un, z_un] [] h P := z_Ca_ent zm_100 rfl rfl
theorem zi_100_0 : z_ins 100 0 = some (.aload_n 0, 1) := by decide +kernel
theorem ze_100_0 : z_T g d 100 0 (.ref a :: ls) st h P = z_T g d 100 1 (.ref a :: ls) (.ref a :: st) h P := zt_aloadn zi_100_0 rfl rfl
theorem ze_100_0_n : z_T g d 100 0 (.null :: ls) st h P = z_T g d 100 1 (.null :: ls) (.null :: st) h P := zt_aloadnN zi_100_0 rfl rfl
theorem zi_100_1 : z_ins 100 1 = some (.getfield 7, 3) := by decide +kernel
theorem ze_100_1 : z_T g d 100 1 ls (.ref a :: st) h P = z_gI h.1 a 10 0 (fun x => z_T g d 100 4 ls (.int x :: st) h P) := zt_getI zi_100_1 ((congrArg (fun o => z_fl o 7) zo_100).trans zf_LatinRectanglesLaw_Grid_7)
theorem zi_100_4 : z_ins 100 4 = some (.anewarray 65, 3) := by decide +kernel
theorem ze_100_4 : z_T g d 100 4 ls (.int x :: st) h P = z_nN h x (fun q h' => z_T g d 100 7 ls (.ref q :: st) h' P) := zt_anew zi_100_4 ((congrArg (fun o => z_lookup z_ccs (o, 65)) zo_100).trans zq_ccs_LatinRectanglesLaw_Grid_65)
theorem zi_100_7 : z_ins 100 7 = some (.astore_n 1, 1) := by decide +kernel
theorem ze_100_7 : z_T g d 100 7 (v0 :: v1 :: ls) (.ref a :: st) h P = z_T g d 100 8 (v0 :: .ref a :: ls) st h P := zt_astoren rfl zi_100_7 rfl (Nat.le_add_left 2 _)
theorem ze_100_7_n : z_T g d 100 7 (v0 :: v1 :: ls) (.null :: st) h P = z_T g d 100 8 (v0 :: .null :: ls) st h P := zt_astoren rfl zi_100_7 rfl (Nat.le_add_left 2 _)
theorem zi_100_8 : z_ins 100 8 = some (.iconst 0, 1) := by decide +kernel
theorem ze_100_8 : z_T g d 100 8 ls st h P = z_T g d 100 9 ls (.int (nI 0) :: st) h P := zt_iconst zi_100_8 rfl
theorem zi_100_9 : z_ins 100 9 = some (.istore_n 2, 1) := by decide +kernel
theorem ze_100_9 : z_T g d 100 9 (v0 :: v1 :: v2 :: ls) (.int x :: st) h P = z_T g d 100 10 (v0 :: v1 :: .int x :: ls) st h P := zt_istoren zi_100_9 rfl (Nat.le_add_left 3 _)
theorem zi_100_10 : z_ins 100 10 = some (.iload_n 2, 1) := by decide +kernel
theorem ze_100_10 : z_T g d 100 10 (v0 :: v1 :: .int x :: ls) st h P = z_T g d 100 11 (v0 :: v1 :: .int x :: ls) (.int x :: st) h P := zt_iloadn zi_100_10 rfl rfl
theorem zi_100_11 : z_ins 100 11 = some (.aload_n 0, 1) := by decide +kernel
theorem ze_100_11 : z_T g d 100 11 (.ref a :: ls) st h P = z_T g d 100 12 (.ref a :: ls) (.ref a :: st) h P := zt_aloadn zi_100_11 rfl rfl
theorem ze_100_11_n : z_T g d 100 11 (.null :: ls) st h P = z_T g d 100 12 (.null :: ls) (.null :: st) h P := zt_aloadnN zi_100_11 rfl rfl
theorem zi_100_12 : z_ins 100 12 = some (.getfield 7, 3) := by decide +kernel
theorem ze_100_12 : z_T g d 100 12 ls (.ref a :: st) h P = z_gI h.1 a 10 0 (fun x => z_T g d 100 15 ls (.int x :: st) h P) := zt_getI zi_100_12 ((congrArg (fun o => z_fl o 7) zo_100).trans zf_LatinRectanglesLaw_Grid_7)
theorem zi_100_15 : z_ins 100 15 = some (.if_icmp .ge 24, 3) := by decide +kernel
theorem ze_100_15 : z_T g d 100 15 ls (.int y :: .int x :: st) h P = (if x < y then z_T g d 100 18 ls st h P else z_T g d 100 39 ls st h P) := zt_icmpge zi_100_15 (by decide)
theorem zi_100_18 : z_ins 100 18 = some (.aload_n 1, 1) := by decide +kernel
theorem ze_100_18 : z_T g d 100 18 (v0 :: .ref a :: ls) st h P = z_T g d 100 19 (v0 :: .ref a :: ls) (.ref a :: st) h P := zt_aloadn zi_100_18 rfl rfl
theorem ze_100_18_n : z_T g d 100 18 (v0 :: .null :: ls) st h P = z_T g d 100 19 (v0 :: .null :: ls) (.null :: st) h P := zt_aloadnN zi_100_18 rfl rfl
theorem zi_100_19 : z_ins 100 19 = some (.iload_n 2, 1) := by decide +kernel
theorem ze_100_19 : z_T g d 100 19 (v0 :: v1 :: .int x :: ls) st h P = z_T g d 100 20 (v0 :: v1 :: .int x :: ls) (.int x :: st) h P := zt_iloadn zi_100_19 rfl rfl
theorem zi_100_20 : z_ins 100 20 = some (.aload_n 0, 1) := by decide +kernel
theorem ze_100_20 : z_T g d 100 20 (.ref a :: ls) st h P = z_T g d 100 21 (.ref a :: ls) (.ref a :: st) h P := zt_aloadn zi_100_20 rfl rfl
theorem ze_100_20_n : z_T g d 100 20 (.null :: ls) st h P = z_T g d 100 21 (.null :: ls) (.null :: st) h P := zt_aloadnN zi_100_20 rfl rfl
theorem zi_100_21 : z_ins 100 21 = some (.getfield 18, 3) := by decide +kernel
theorem ze_100_21 : z_T g d 100 21 ls (.ref a :: st) h P = z_gR h.1 a 10 4 (fun x => z_T g d 100 24 ls (x :: st) h P) := zt_getR zi_100_21 ((congrArg (fun o => z_fl o 18) zo_100).trans zf_LatinRectanglesLaw_Grid_18)
theorem zi_100_24 : z_ins 100 24 = some (.iload_n 2, 1) := by decide +kernel
theorem ze_100_24 : z_T g d 100 24 (v0 :: v1 :: .int x :: ls) st h P = z_T g d 100 25 (v0 :: v1 :: .int x :: ls) (.int x :: st) h P := zt_iloadn zi_100_24 rfl rfl
theorem zi_100_25 : z_ins 100 25 = some (.aaload, 1) := by decide +kernel
theorem ze_100_25 : z_T g d 100 25 ls (.int x :: .ref a :: st) h P = z_qL h.1 a x (fun v => z_T g d 100 26 ls (.ref v :: st) h P) := zt_aaload zi_100_25
theorem zi_100_26 : z_ins 100 26 = some (.invokevirtual 67, 3) := by decide +kernel
theorem ze_100_26 : z_T g d 100 26 ls (.ref a :: st) h P = (z_okS 8 st = true ∧ z_nC h 0 a (fun q h' => z_T g d 100 29 ls (.ref q :: st) h' P)) := zt_clone zi_100_26 ((congrArg (fun o => z_lookup z_cns (o, 67)) zo_100).trans zq_cns_LatinRectanglesLaw_Grid_67)
theorem zi_100_29 : z_ins 100 29 = some (.checkcast 65, 3) := by decide +kernel
theorem ze_100_29 : z_T g d 100 29 ls (.ref a :: st) h P = (z_cst h 0 a = true ∧ z_T g d 100 32 ls (.ref a :: st) h P) := zt_cast zi_100_29 ((congrArg (fun o => z_lookup z_ccs (o, 65)) zo_100).trans zq_ccs_LatinRectanglesLaw_Grid_65)
theorem zi_100_32 : z_ins 100 32 = some (.aastore, 1) := by decide +kernel
theorem ze_100_32 : z_T g d 100 32 ls (.ref b :: .int x :: .ref a :: st) h P = z_aA h.1 a x b (fun f => z_T g d 100 33 ls st (f, h.2) P) := zt_aastore zi_100_32
theorem zi_100_33 : z_ins 100 33 = some (.iinc 2 1, 3) := by decide +kernel
theorem ze_100_33 : z_T g d 100 33 (v0 :: v1 :: .int x :: ls) st h P = z_T g d 100 36 (v0 :: v1 :: .int (x + (nI 1)) :: ls) st h P := zt_iinc zi_100_33 rfl rfl
theorem zi_100_36 : z_ins 100 36 = some (.goto (-26), 3) := by decide +kernel
theorem ze_100_36 : z_T g d 100 36 ls st h P = z_T g d 100 10 ls st h P := zt_goto zi_100_36 (by decide)
theorem zi_100_39 : z_ins 100 39 = some (.aload_n 1, 1) := by decide +kernel
theorem ze_100_39 : z_T g d 100 39 (v0 :: .ref a :: ls) st h P = z_T g d 100 40 (v0 :: .ref a :: ls) (.ref a :: st) h P := zt_aloadn zi_100_39 rfl rfl
theorem ze_100_39_n : z_T g d 100 39 (v0 :: .null :: ls) st h P = z_T g d 100 40 (v0 :: .null :: ls) (.null :: st) h P := zt_aloadnN zi_100_39 rfl rfl
theorem zi_100_40 : z_ins 100 40 = some (.areturn, 1) := by decide +kernel
theorem ze_100_40 : z_T g d 100 40 ls [.ref a] h P = P (.inr (some (.ref a)), h) := zt_areturn rfl zi_100_40 zr_100 rfl
theorem ze_100_40_n : z_T g d 100 40 ls [.null] h P = P (.inr (some (.null)), h) := zt_areturn rfl zi_100_40 zr_100 rfl
-- LatinRectanglesLaw$Grid.transversals()I
theorem zm_101 : z_maxL 101 = 1 := by decide +kernel
theorem zh_101 : z_hds 101 = [] := by decide +kernel
theorem zj_101 : z_jdk 101 = false := by decide +kernel
theorem zr_101 : z_rt 101 = (some .int) := by decide +kernel
theorem zn_101 : z_Ca g d 101 [.ref a0] h P = z_T g d 101 0 [.ref a0] [] h P := z_Ca_ent zm_101 rfl rfl
theorem zi_101_0 : z_ins 101 0 = some (.aload_n 0, 1) := by decide +kernel
theorem ze_101_0 : z_T g d 101 0 (.ref a :: ls) st h P = z_T g d 101 1 (.ref a :: ls) (.ref a :: st) h P := zt_aloadn zi_101_0 rfl rfl
theorem ze_101_0_n : z_T g d 101 0 (.null :: ls) st h P = z_T g d 101 1 (.null :: ls) (.null :: st) h P := zt_aloadnN zi_101_0 rfl rfl
theorem zi_101_1 : z_ins 101 1 = some (.aconst_null, 1) := by decide +kernel
theorem ze_101_1 : z_T g d 101 1 ls st h P = z_T g d 101 2 ls (.null :: st) h P := zt_null zi_101_1
theorem zi_101_2 : z_ins 101 2 = some (.putfield 71, 3) := by decide +kernel
theorem ze_101_2 : z_T g d 101 2 ls (.ref b :: .ref a :: st) h P = z_pF h.1 a 10 10 (.ref b) (fun f => z_T g d 101 5 ls st (f, h.2) P) := zt_put zi_101_2 ((congrArg (fun o => z_fl o 71) zo_101).trans zf_LatinRectanglesLaw_Grid_71) (by decide +kernel) rfl rfl
theorem ze_101_2_n : z_T g d 101 2 ls (.null :: .ref a :: st) h P = z_pF h.1 a 10 10 (.null) (fun f => z_T g d 101 5 ls st (f, h.2) P) := zt_put zi_101_2 ((congrArg (fun o => z_fl o 71) zo_101).trans zf_LatinRectanglesLaw_Grid_71) (by decide +kernel) rfl rfl
theorem zi_101_5 : z_ins 101 5 = some (.aload_n 0, 1) := by decide +kernel
theorem ze_101_5 : z_T g d 101 5 (.ref a :: ls) st h P = z_T g d 101 6 (.ref a :: ls) (.ref a :: st) h P := zt_aloadn zi_101_5 rfl rfl
theorem ze_101_5_n : z_T g d 101 5 (.null :: ls) st h P = z_T g d 101 6 (.null :: ls) (.null :: st) h P := zt_aloadnN zi_101_5 rfl rfl
theorem zi_101_6 : z_ins 101 6 = some (.aload_n 0, 1) := by decide +kernel
theorem ze_101_6 : z_T g d 101 6 (.ref a :: ls) st h P = z_T g d 101 7 (.ref a :: ls) (.ref a :: st) h P := zt_aloadn zi_101_6 rfl rfl
theorem ze_101_6_n : z_T g d 101 6 (.null :: ls) st h P = z_T g d 101 7 (.null :: ls) (.null :: st) h P := zt_aloadnN zi_101_6 rfl rfl
theorem zi_101_7 : z_ins 101 7 = some (.getfield 7, 3) := by decide +kernel
theorem ze_101_7 : z_T g d 101 7 ls (.ref a :: st) h P = z_gI h.1 a 10 0 (fun x => z_T g d 101 10 ls (.int x :: st) h P) := zt_getI zi_101_7 ((congrArg (fun o => z_fl o 7) zo_101).trans zf_LatinRectanglesLaw_Grid_7)
theorem zi_101_10 : z_ins 101 10 = some (.aload_n 0, 1) := by decide +kernel
theorem ze_101_10 : z_T g d 101 10 (.ref a :: ls) st h P = z_T g d 101 11 (.ref a :: ls) (.ref a :: st) h P := zt_aloadn zi_101_10 rfl rfl
theorem ze_101_10_n : z_T g d 101 10 (.null :: ls) st h P = z_T g d 101 11 (.null :: ls) (.null :: st) h P := zt_aloadnN zi_101_10 rfl rfl
theorem zi_101_11 : z_ins 101 11 = some (.getfield 13, 3) := by decide +kernel
theorem ze_101_11 : z_T g d 101 11 ls (.ref a :: st) h P = z_gI h.1 a 10 1 (fun x => z_T g d 101 14 ls (.int x :: st) h P) := zt_getI zi_101_11 ((congrArg (fun o => z_fl o 13) zo_101).trans zf_LatinRectanglesLaw_Grid_13)
theorem zi_101_14 : z_ins 101 14 = some (.multianewarray 16 2, 4) := by decide +kernel
theorem ze_101_14 : z_T g d 101 14 ls (.int y :: .int x :: st) h P = z_nM .int h x y (fun q h' => z_T g d 101 18 ls (.ref q :: st) h' P) := zt_multi zi_101_14 ((congrArg (fun o => z_lookup z_mas (o, 16)) zo_101).trans zq_mas_LatinRectanglesLaw_Grid_16) (by simp)
theorem zi_101_18 : z_ins 101 18 = some (.putfield 74, 3) := by decide +kernel
theorem ze_101_18 : z_T g d 101 18 ls (.ref b :: .ref a :: st) h P = z_pF h.1 a 10 11 (.ref b) (fun f => z_T g d 101 21 ls st (f, h.2) P) := zt_put zi_101_18 ((congrArg (fun o => z_fl o 74) zo_101).trans zf_LatinRectanglesLaw_Grid_74) (by decide +kernel) rfl rfl
theorem ze_101_18_n : z_T g d 101 18 ls (.null :: .ref a :: st) h P = z_pF h.1 a 10 11 (.null) (fun f => z_T g d 101 21 ls st (f, h.2) P) := zt_put zi_101_18 ((congrArg (fun o => z_fl o 74) zo_101).trans zf_LatinRectanglesLaw_Grid_74) (by decide +kernel) rfl rfl
theorem zi_101_21 : z_ins 101 21 = some (.aload_n 0, 1) := by decide +kernel
theorem ze_101_21 : z_T g d 101 21 (.ref a :: ls) st h P = z_T g d 101 22 (.ref a :: ls) (.ref a :: st) h P := zt_aloadn zi_101_21 rfl rfl
theorem ze_101_21_n : z_T g d 101 21 (.null :: ls) st h P = z_T g d 101 22 (.null :: ls) (.null :: st) h P := zt_aloadnN zi_101_21 rfl rfl
theorem zi_101_22 : z_ins 101 22 = some (.iconst 0, 1) := by decide +kernel
theorem ze_101_22 : z_T g d 101 22 ls st h P = z_T g d 101 23 ls (.int (nI 0) :: st) h P := zt_iconst zi_101_22 rfl
theorem zi_101_23 : z_ins 101 23 = some (.aload_n 0, 1) := by decide +kernel
theorem ze_101_23 : z_T g d 101 23 (.ref a :: ls) st h P = z_T g d 101 24 (.ref a :: ls) (.ref a :: st) h P := zt_aloadn zi_101_23 rfl rfl
theorem ze_101_23_n : z_T g d 101 23 (.null :: ls) st h P = z_T g d 101 24 (.null :: ls) (.null :: st) h P := zt_aloadnN zi_101_23 rfl rfl
theorem zi_101_24 : z_ins 101 24 = some (.getfield 7, 3) := by decide +kernel
theorem ze_101_24 : z_T g d 101 24 ls (.ref a :: st) h P = z_gI h.1 a 10 0 (fun x => z_T g d 101 27 ls (.int x :: st) h P) := zt_getI zi_101_24 ((congrArg (fun o => z_fl o 7) zo_101).trans zf_LatinRectanglesLaw_Grid_7)
theorem zi_101_27 : z_ins 101 27 = some (.newarray .int, 2) := by decide +kernel
theorem ze_101_27 : z_T g d 101 27 ls (.int x :: st) h P = z_nA h .int x (fun q h' => z_T g d 101 29 ls (.ref q :: st) h' P) := zt_newarray zi_101_27
theorem zi_101_29 : z_ins 101 29 = some (.invokevirtual 77, 3) := by decide +kernel
theorem ze_101_29 : z_T g d 101 29 ls (.ref a1 :: .int x0 :: .ref a :: st) h P = ((z_okS 8 st = true ∧ z_gO h.1 a 10 ∧ 0 < d) ∧ z_Ca g (d - 1) 102 [.ref a, .int x0, .ref a1] h (fun r => z_k r (fun v h' => z_T g d 101 32 ls (z_push v st) h' P) P)) := zt_cV (as := [.int x0, .ref a1]) (kk := 0) zi_101_29 rfl (zt_call zj_101 zh_101) (z_opV ((congrArg (fun o => z_lookup z_cns (o, 77)) zo_101).trans zq_cns_LatinRectanglesLaw_Grid_77) ((congrArg (fun o => z_lookup z_prs (o, 77)) zo_101).trans zq_prs_LatinRectanglesLaw_Grid_77)) ((congrArg (fun o => z_clk o 77) zo_101).trans zk_LatinRectanglesLaw_Grid_77) rfl rfl rfl rfl (z_rcv0 zc_102)
theorem zi_101_32 : z_ins 101 32 = some (.ireturn, 1) := by decide +kernel
theorem ze_101_32 : z_T g d 101 32 ls [.int x] h P = P (.inr (some (.int x)), h) := zt_ireturn zi_101_32 zr_101
-- LatinRectanglesLaw$Grid.across(I[I)I
theorem zm_102 : z_maxL 102 = 7 := by decide +kernel
theorem zh_102 : z_hds 102 = [] := by decide +kernel
theorem zj_102 : z_jdk 102 = false := by decide +kernel
theorem zr_102 : z_rt 102 = (some .int) := by decide +kernel
theorem zn_102 : z_Ca g d 102 [.ref a0, .int x1, .ref a2] h P = z_T g d 102 0 [.ref a0, .int x1, .ref a2, z_un, z_un, z_un, z_un] [] h P := z_Ca_ent zm_102 rfl rfl
theorem zi_102_0 : z_ins 102 0 = some (.iload_n 1, 1) := by decide +kernel
theorem ze_102_0 : z_T g d 102 0 (v0 :: .int x :: ls) st h P = z_T g d 102 1 (v0 :: .int x :: ls) (.int x :: st) h P := zt_iloadn zi_102_0 rfl rfl
theorem zi_102_1 : z_ins 102 1 = some (.aload_n 0, 1) := by decide +kernel
theorem ze_102_1 : z_T g d 102 1 (.ref a :: ls) st h P = z_T g d 102 2 (.ref a :: ls) (.ref a :: st) h P := zt_aloadn zi_102_1 rfl rfl
theorem ze_102_1_n : z_T g d 102 1 (.null :: ls) st h P = z_T g d 102 2 (.null :: ls) (.null :: st) h P := zt_aloadnN zi_102_1 rfl rfl
theorem zi_102_2 : z_ins 102 2 = some (.getfield 7, 3) := by decide +kernel
theorem ze_102_2 : z_T g d 102 2 ls (.ref a :: st) h P = z_gI h.1 a 10 0 (fun x => z_T g d 102 5 ls (.int x :: st) h P) := zt_getI zi_102_2 ((congrArg (fun o => z_fl o 7) zo_102).trans zf_LatinRectanglesLaw_Grid_7)
theorem zi_102_5 : z_ins 102 5 = some (.if_icmp .ne 53, 3) := by decide +kernel
theorem ze_102_5 : z_T g d 102 5 ls (.int y :: .int x :: st) h P = (if x = y then z_T g d 102 8 ls st h P else z_T g d 102 58 ls st h P) := zt_icmpne zi_102_5 (by decide)
theorem zi_102_8 : z_ins 102 8 = some (.aload_n 0, 1) := by decide +kernel
theorem ze_102_8 : z_T g d 102 8 (.ref a :: ls) st h P = z_T g d 102 9 (.ref a :: ls) (.ref a :: st) h P := zt_aloadn zi_102_8 rfl rfl
theorem ze_102_8_n : z_T g d 102 8 (.null :: ls) st h P = z_T g d 102 9 (.null :: ls) (.null :: st) h P := zt_aloadnN zi_102_8 rfl rfl
theorem zi_102_9 : z_ins 102 9 = some (.getfield 71, 3) := by decide +kernel
theorem ze_102_9 : z_T g d 102 9 ls (.ref a :: st) h P = z_gR h.1 a 10 10 (fun x => z_T g d 102 12 ls (x :: st) h P) := zt_getR zi_102_9 ((congrArg (fun o => z_fl o 71) zo_102).trans zf_LatinRectanglesLaw_Grid_71)
theorem zi_102_12 : z_ins 102 12 = some (.ifnonnull 14, 3) := by decide +kernel
theorem ze_102_12 : z_T g d 102 12 ls (.ref a :: st) h P = z_T g d 102 26 ls st h P := zt_nnulR zi_102_12 (by decide)
theorem ze_102_12_n : z_T g d 102 12 ls (.null :: st) h P = z_T g d 102 15 ls st h P := zt_nnulN zi_102_12
theorem ze_102_12_s : z_T g d 102 12 ls (.retAddr b :: st) h P = z_T g d 102 26 ls st h P := zt_nnulS zi_102_12 (by decide)
theorem zi_102_15 : z_ins 102 15 = some (.aload_n 0, 1) := by decide +kernel
theorem ze_102_15 : z_T g d 102 15 (.ref a :: ls) st h P = z_T g d 102 16 (.ref a :: ls) (.ref a :: st) h P := zt_aloadn zi_102_15 rfl rfl
theorem ze_102_15_n : z_T g d 102 15 (.null :: ls) st h P = z_T g d 102 16 (.null :: ls) (.null :: st) h P := zt_aloadnN zi_102_15 rfl rfl
theorem zi_102_16 : z_ins 102 16 = some (.aload_n 2, 1) := by decide +kernel
theorem ze_102_16 : z_T g d 102 16 (v0 :: v1 :: .ref a :: ls) st h P = z_T g d 102 17 (v0 :: v1 :: .ref a :: ls) (.ref a :: st) h P := zt_aloadn zi_102_16 rfl rfl
theorem ze_102_16_n : z_T g d 102 16 (v0 :: v1 :: .null :: ls) st h P = z_T g d 102 17 (v0 :: v1 :: .null :: ls) (.null :: st) h P := zt_aloadnN zi_102_16 rfl rfl
theorem zi_102_17 : z_ins 102 17 = some (.invokevirtual 67, 3) := by decide +kernel
theorem ze_102_17 : z_T g d 102 17 ls (.ref a :: st) h P = (z_okS 8 st = true ∧ z_nC h 0 a (fun q h' => z_T g d 102 20 ls (.ref q :: st) h' P)) := zt_clone zi_102_17 ((congrArg (fun o => z_lookup z_cns (o, 67)) zo_102).trans zq_cns_LatinRectanglesLaw_Grid_67)
theorem zi_102_20 : z_ins 102 20 = some (.checkcast 65, 3) := by decide +kernel
theorem ze_102_20 : z_T g d 102 20 ls (.ref a :: st) h P = (z_cst h 0 a = true ∧ z_T g d 102 23 ls (.ref a :: st) h P) := zt_cast zi_102_20 ((congrArg (fun o => z_lookup z_ccs (o, 65)) zo_102).trans zq_ccs_LatinRectanglesLaw_Grid_65)
theorem zi_102_23 : z_ins 102 23 = some (.putfield 71, 3) := by decide +kernel
theorem ze_102_23 : z_T g d 102 23 ls (.ref b :: .ref a :: st) h P = z_pF h.1 a 10 10 (.ref b) (fun f => z_T g d 102 26 ls st (f, h.2) P) := zt_put zi_102_23 ((congrArg (fun o => z_fl o 71) zo_102).trans zf_LatinRectanglesLaw_Grid_71) (by decide +kernel) rfl rfl
theorem ze_102_23_n : z_T g d 102 23 ls (.null :: .ref a :: st) h P = z_pF h.1 a 10 10 (.null) (fun f => z_T g d 102 26 ls st (f, h.2) P) := zt_put zi_102_23 ((congrArg (fun o => z_fl o 71) zo_102).trans zf_LatinRectanglesLaw_Grid_71) (by decide +kernel) rfl rfl
theorem zi_102_26 : z_ins 102 26 = some (.iconst 0, 1) := by decide +kernel
theorem ze_102_26 : z_T g d 102 26 ls st h P = z_T g d 102 27 ls (.int (nI 0) :: st) h P := zt_iconst zi_102_26 rfl
theorem zi_102_27 : z_ins 102 27 = some (.istore_n 3, 1) := by decide +kernel
theorem ze_102_27 : z_T g d 102 27 (v0 :: v1 :: v2 :: v3 :: ls) (.int x :: st) h P = z_T g d 102 28 (v0 :: v1 :: v2 :: .int x :: ls) st h P := zt_istoren zi_102_27 rfl (Nat.le_add_left 4 _)
theorem zi_102_28 : z_ins 102 28 = some (.iload_n 3, 1) := by decide +kernel
theorem ze_102_28 : z_T g d 102 28 (v0 :: v1 :: v2 :: .int x :: ls) st h P = z_T g d 102 29 (v0 :: v1 :: v2 :: .int x :: ls) (.int x :: st) h P := zt_iloadn zi_102_28 rfl rfl
theorem zi_102_29 : z_ins 102 29 = some (.aload_n 0, 1) := by decide +kernel
theorem ze_102_29 : z_T g d 102 29 (.ref a :: ls) st h P = z_T g d 102 30 (.ref a :: ls) (.ref a :: st) h P := zt_aloadn zi_102_29 rfl rfl
theorem ze_102_29_n : z_T g d 102 29 (.null :: ls) st h P = z_T g d 102 30 (.null :: ls) (.null :: st) h P := zt_aloadnN zi_102_29 rfl rfl
theorem zi_102_30 : z_ins 102 30 = some (.getfield 7, 3) := by decide +kernel
theorem ze_102_30 : z_T g d 102 30 ls (.ref a :: st) h P = z_gI h.1 a 10 0 (fun x => z_T g d 102 33 ls (.int x :: st) h P) := zt_getI zi_102_30 ((congrArg (fun o => z_fl o 7) zo_102).trans zf_LatinRectanglesLaw_Grid_7)
theorem zi_102_33 : z_ins 102 33 = some (.if_icmp .ge 23, 3) := by decide +kernel
theorem ze_102_33 : z_T g d 102 33 ls (.int y :: .int x :: st) h P = (if x < y then z_T g d 102 36 ls st h P else z_T g d 102 56 ls st h P) := zt_icmpge zi_102_33 (by decide)
theorem zi_102_36 : z_ins 102 36 = some (.aload_n 0, 1) := by decide +kernel
theorem ze_102_36 : z_T g d 102 36 (.ref a :: ls) st h P = z_T g d 102 37 (.ref a :: ls) (.ref a :: st) h P := zt_aloadn zi_102_36 rfl rfl
theorem ze_102_36_n : z_T g d 102 36 (.null :: ls) st h P = z_T g d 102 37 (.null :: ls) (.null :: st) h P := zt_aloadnN zi_102_36 rfl rfl
theorem zi_102_37 : z_ins 102 37 = some (.getfield 74, 3) := by decide +kernel
theorem ze_102_37 : z_T g d 102 37 ls (.ref a :: st) h P = z_gR h.1 a 10 11 (fun x => z_T g d 102 40 ls (x :: st) h P) := zt_getR zi_102_37 ((congrArg (fun o => z_fl o 74) zo_102).trans zf_LatinRectanglesLaw_Grid_74)
theorem zi_102_40 : z_ins 102 40 = some (.iload_n 3, 1) := by decide +kernel
theorem ze_102_40 : z_T g d 102 40 (v0 :: v1 :: v2 :: .int x :: ls) st h P = z_T g d 102 41 (v0 :: v1 :: v2 :: .int x :: ls) (.int x :: st) h P := zt_iloadn zi_102_40 rfl rfl
theorem zi_102_41 : z_ins 102 41 = some (.aaload, 1) := by decide +kernel
theorem ze_102_41 : z_T g d 102 41 ls (.int x :: .ref a :: st) h P = z_qL h.1 a x (fun v => z_T g d 102 42 ls (.ref v :: st) h P) := zt_aaload zi_102_41
theorem zi_102_42 : z_ins 102 42 = some (.aload_n 2, 1) := by decide +kernel
theorem ze_102_42 : z_T g d 102 42 (v0 :: v1 :: .ref a :: ls) st h P = z_T g d 102 43 (v0 :: v1 :: .ref a :: ls) (.ref a :: st) h P := zt_aloadn zi_102_42 rfl rfl
theorem ze_102_42_n : z_T g d 102 42 (v0 :: v1 :: .null :: ls) st h P = z_T g d 102 43 (v0 :: v1 :: .null :: ls) (.null :: st) h P := zt_aloadnN zi_102_42 rfl rfl
theorem zi_102_43 : z_ins 102 43 = some (.iload_n 3, 1) := by decide +kernel
theorem ze_102_43 : z_T g d 102 43 (v0 :: v1 :: v2 :: .int x :: ls) st h P = z_T g d 102 44 (v0 :: v1 :: v2 :: .int x :: ls) (.int x :: st) h P := zt_iloadn zi_102_43 rfl rfl
theorem zi_102_44 : z_ins 102 44 = some (.iaload, 1) := by decide +kernel
theorem ze_102_44 : z_T g d 102 44 ls (.int x :: .ref a :: st) h P = z_aL h.1 a z_tI x (fun v => z_T g d 102 45 ls (.int v :: st) h P) := zt_iaload zi_102_44
theorem zi_102_45 : z_ins 102 45 = some (.dup2, 1) := by decide +kernel
theorem ze_102_45 : z_T g d 102 45 ls (.int x :: .ref a :: st) h P = z_T g d 102 46 ls (.int x :: .ref a :: .int x :: .ref a :: st) h P := zt_dup2 ⟨rfl, rfl⟩ zi_102_45
theorem zi_102_46 : z_ins 102 46 = some (.iaload, 1) := by decide +kernel
theorem ze_102_46 : z_T g d 102 46 ls (.int x :: .ref a :: st) h P = z_aL h.1 a z_tI x (fun v => z_T g d 102 47 ls (.int v :: st) h P) := zt_iaload zi_102_46
theorem zi_102_47 : z_ins 102 47 = some (.iconst 1, 1) := by decide +kernel
theorem ze_102_47 : z_T g d 102 47 ls st h P = z_T g d 102 48 ls (.int (nI 1) :: st) h P := zt_iconst zi_102_47 rfl
theorem zi_102_48 : z_ins 102 48 = some (.iadd, 1) := by decide +kernel
theorem ze_102_48 : z_T g d 102 48 ls (.int y :: .int x :: st) h P = z_T g d 102 49 ls (.int (x + y) :: st) h P := zt_bin (f := fun x y => x + y) zi_102_48 rfl (fun _ _ _ => rfl)
theorem zi_102_49 : z_ins 102 49 = some (.iastore, 1) := by decide +kernel
theorem ze_102_49 : z_T g d 102 49 ls (.int y :: .int x :: .ref a :: st) h P = z_aS h.1 a z_tI x y (fun f => z_T g d 102 50 ls st (f, h.2) P) := zt_iastore zi_102_49
theorem zi_102_50 : z_ins 102 50 = some (.iinc 3 1, 3) := by decide +kernel
theorem ze_102_50 : z_T g d 102 50 (v0 :: v1 :: v2 :: .int x :: ls) st h P = z_T g d 102 53 (v0 :: v1 :: v2 :: .int (x + (nI 1)) :: ls) st h P := zt_iinc zi_102_50 rfl rfl
theorem zi_102_53 : z_ins 102 53 = some (.goto (-25), 3) := by decide +kernel
theorem ze_102_53 : z_T g d 102 53 ls st h P = z_T g d 102 28 ls st h P := zt_goto zi_102_53 (by decide)
theorem zi_102_56 : z_ins 102 56 = some (.iconst 1, 1) := by decide +kernel
theorem ze_102_56 : z_T g d 102 56 ls st h P = z_T g d 102 57 ls (.int (nI 1) :: st) h P := zt_iconst zi_102_56 rfl
theorem zi_102_57 : z_ins 102 57 = some (.ireturn, 1) := by decide +kernel
theorem ze_102_57 : z_T g d 102 57 ls [.int x] h P = P (.inr (some (.int x)), h) := zt_ireturn zi_102_57 zr_102
theorem zi_102_58 : z_ins 102 58 = some (.iconst 0, 1) := by decide +kernel
theorem ze_102_58 : z_T g d 102 58 ls st h P = z_T g d 102 59 ls (.int (nI 0) :: st) h P := zt_iconst zi_102_58 rfl
theorem zi_102_59 : z_ins 102 59 = some (.istore_n 3, 1) := by decide +kernel
theorem ze_102_59 : z_T g d 102 59 (v0 :: v1 :: v2 :: v3 :: ls) (.int x :: st) h P = z_T g d 102 60 (v0 :: v1 :: v2 :: .int x :: ls) st h P := zt_istoren zi_102_59 rfl (Nat.le_add_left 4 _)
theorem zi_102_60 : z_ins 102 60 = some (.iconst 0, 1) := by decide +kernel
theorem ze_102_60 : z_T g d 102 60 ls st h P = z_T g d 102 61 ls (.int (nI 0) :: st) h P := zt_iconst zi_102_60 rfl
theorem zi_102_61 : z_ins 102 61 = some (.istore 4, 2) := by decide +kernel
theorem ze_102_61 : z_T g d 102 61 (v0 :: v1 :: v2 :: v3 :: v4 :: ls) (.int x :: st) h P = z_T g d 102 63 (v0 :: v1 :: v2 :: v3 :: .int x :: ls) st h P := zt_istore zi_102_61 (Nat.le_add_left 5 _)
theorem zi_102_63 : z_ins 102 63 = some (.iload 4, 2) := by decide +kernel
theorem ze_102_63 : z_T g d 102 63 (v0 :: v1 :: v2 :: v3 :: .int x :: ls) st h P = z_T g d 102 65 (v0 :: v1 :: v2 :: v3 :: .int x :: ls) (.int x :: st) h P := zt_iload zi_102_63 rfl
theorem zi_102_65 : z_ins 102 65 = some (.aload_n 0, 1) := by decide +kernel
theorem ze_102_65 : z_T g d 102 65 (.ref a :: ls) st h P = z_T g d 102 66 (.ref a :: ls) (.ref a :: st) h P := zt_aloadn zi_102_65 rfl rfl
theorem ze_102_65_n : z_T g d 102 65 (.null :: ls) st h P = z_T g d 102 66 (.null :: ls) (.null :: st) h P := zt_aloadnN zi_102_65 rfl rfl
theorem zi_102_66 : z_ins 102 66 = some (.getfield 13, 3) := by decide +kernel
theorem ze_102_66 : z_T g d 102 66 ls (.ref a :: st) h P = z_gI h.1 a 10 1 (fun x => z_T g d 102 69 ls (.int x :: st) h P) := zt_getI zi_102_66 ((congrArg (fun o => z_fl o 13) zo_102).trans zf_LatinRectanglesLaw_Grid_13)
theorem zi_102_69 : z_ins 102 69 = some (.if_icmp .ge 103, 3) := by decide +kernel
theorem ze_102_69 : z_T g d 102 69 ls (.int y :: .int x :: st) h P = (if x < y then z_T g d 102 72 ls st h P else z_T g d 102 172 ls st h P) := zt_icmpge zi_102_69 (by decide)
theorem zi_102_72 : z_ins 102 72 = some (.aload_n 0, 1) := by decide +kernel
theorem ze_102_72 : z_T g d 102 72 (.ref a :: ls) st h P = z_T g d 102 73 (.ref a :: ls) (.ref a :: st) h P := zt_aloadn zi_102_72 rfl rfl
theorem ze_102_72_n : z_T g d 102 72 (.null :: ls) st h P = z_T g d 102 73 (.null :: ls) (.null :: st) h P := zt_aloadnN zi_102_72 rfl rfl
theorem zi_102_73 : z_ins 102 73 = some (.getfield 18, 3) := by decide +kernel
theorem ze_102_73 : z_T g d 102 73 ls (.ref a :: st) h P = z_gR h.1 a 10 4 (fun x => z_T g d 102 76 ls (x :: st) h P) := zt_getR zi_102_73 ((congrArg (fun o => z_fl o 18) zo_102).trans zf_LatinRectanglesLaw_Grid_18)
theorem zi_102_76 : z_ins 102 76 = some (.iload_n 1, 1) := by decide +kernel
theorem ze_102_76 : z_T g d 102 76 (v0 :: .int x :: ls) st h P = z_T g d 102 77 (v0 :: .int x :: ls) (.int x :: st) h P := zt_iloadn zi_102_76 rfl rfl
theorem zi_102_77 : z_ins 102 77 = some (.aaload, 1) := by decide +kernel
theorem ze_102_77 : z_T g d 102 77 ls (.int x :: .ref a :: st) h P = z_qL h.1 a x (fun v => z_T g d 102 78 ls (.ref v :: st) h P) := zt_aaload zi_102_77
theorem zi_102_78 : z_ins 102 78 = some (.iload 4, 2) := by decide +kernel
theorem ze_102_78 : z_T g d 102 78 (v0 :: v1 :: v2 :: v3 :: .int x :: ls) st h P = z_T g d 102 80 (v0 :: v1 :: v2 :: v3 :: .int x :: ls) (.int x :: st) h P := zt_iload zi_102_78 rfl
theorem zi_102_80 : z_ins 102 80 = some (.iaload, 1) := by decide +kernel
theorem ze_102_80 : z_T g d 102 80 ls (.int x :: .ref a :: st) h P = z_aL h.1 a z_tI x (fun v => z_T g d 102 81 ls (.int v :: st) h P) := zt_iaload zi_102_80
theorem zi_102_81 : z_ins 102 81 = some (.ifCond .lt 7, 3) := by decide +kernel
theorem ze_102_81 : z_T g d 102 81 ls (.int x :: st) h P = (if x < nI 0 then z_T g d 102 88 ls st h P else z_T g d 102 84 ls st h P) := zt_iflt zi_102_81 (by decide)
theorem zi_102_84 : z_ins 102 84 = some (.iconst 1, 1) := by decide +kernel
theorem ze_102_84 : z_T g d 102 84 ls st h P = z_T g d 102 85 ls (.int (nI 1) :: st) h P := zt_iconst zi_102_84 rfl
theorem zi_102_85 : z_ins 102 85 = some (.goto 4, 3) := by decide +kernel
theorem ze_102_85 : z_T g d 102 85 ls st h P = z_T g d 102 89 ls st h P := zt_goto zi_102_85 (by decide)
theorem zi_102_88 : z_ins 102 88 = some (.iconst 0, 1) := by decide +kernel
theorem ze_102_88 : z_T g d 102 88 ls st h P = z_T g d 102 89 ls (.int (nI 0) :: st) h P := zt_iconst zi_102_88 rfl
theorem zi_102_89 : z_ins 102 89 = some (.istore 5, 2) := by decide +kernel
theorem ze_102_89 : z_T g d 102 89 (v0 :: v1 :: v2 :: v3 :: v4 :: v5 :: ls) (.int x :: st) h P = z_T g d 102 91 (v0 :: v1 :: v2 :: v3 :: v4 :: .int x :: ls) st h P := zt_istore zi_102_89 (Nat.le_add_left 6 _)
theorem zi_102_91 : z_ins 102 91 = some (.iconst 0, 1) := by decide +kernel
theorem ze_102_91 : z_T g d 102 91 ls st h P = z_T g d 102 92 ls (.int (nI 0) :: st) h P := zt_iconst zi_102_91 rfl
theorem zi_102_92 : z_ins 102 92 = some (.istore 6, 2) := by decide +kernel
theorem ze_102_92 : z_T g d 102 92 (v0 :: v1 :: v2 :: v3 :: v4 :: v5 :: v6 :: ls) (.int x :: st) h P = z_T g d 102 94 (v0 :: v1 :: v2 :: v3 :: v4 :: v5 :: .int x :: ls) st h P := zt_istore zi_102_92 (Nat.le_add_left 7 _)
theorem zi_102_94 : z_ins 102 94 = some (.iload 6, 2) := by decide +kernel
theorem ze_102_94 : z_T g d 102 94 (v0 :: v1 :: v2 :: v3 :: v4 :: v5 :: .int x :: ls) st h P = z_T g d 102 96 (v0 :: v1 :: v2 :: v3 :: v4 :: v5 :: .int x :: ls) (.int x :: st) h P := zt_iload zi_102_94 rfl
theorem zi_102_96 : z_ins 102 96 = some (.iload_n 1, 1) := by decide +kernel
theorem ze_102_96 : z_T g d 102 96 (v0 :: .int x :: ls) st h P = z_T g d 102 97 (v0 :: .int x :: ls) (.int x :: st) h P := zt_iloadn zi_102_96 rfl rfl
theorem zi_102_97 : z_ins 102 97 = some (.if_icmp .ge 45, 3) := by decide +kernel
theorem ze_102_97 : z_T g d 102 97 ls (.int y :: .int x :: st) h P = (if x < y then z_T g d 102 100 ls st h P else z_T g d 102 142 ls st h P) := zt_icmpge zi_102_97 (by decide)
theorem zi_102_100 : z_ins 102 100 = some (.aload_n 2, 1) := by decide +kernel
theorem ze_102_100 : z_T g d 102 100 (v0 :: v1 :: .ref a :: ls) st h P = z_T g d 102 101 (v0 :: v1 :: .ref a :: ls) (.ref a :: st) h P := zt_aloadn zi_102_100 rfl rfl
theorem ze_102_100_n : z_T g d 102 100 (v0 :: v1 :: .null :: ls) st h P = z_T g d 102 101 (v0 :: v1 :: .null :: ls) (.null :: st) h P := zt_aloadnN zi_102_100 rfl rfl
theorem zi_102_101 : z_ins 102 101 = some (.iload 6, 2) := by decide +kernel
theorem ze_102_101 : z_T g d 102 101 (v0 :: v1 :: v2 :: v3 :: v4 :: v5 :: .int x :: ls) st h P = z_T g d 102 103 (v0 :: v1 :: v2 :: v3 :: v4 :: v5 :: .int x :: ls) (.int x :: st) h P := zt_iload zi_102_101 rfl
theorem zi_102_103 : z_ins 102 103 = some (.iaload, 1) := by decide +kernel
theorem ze_102_103 : z_T g d 102 103 ls (.int x :: .ref a :: st) h P = z_aL h.1 a z_tI x (fun v => z_T g d 102 104 ls (.int v :: st) h P) := zt_iaload zi_102_103
theorem zi_102_104 : z_ins 102 104 = some (.iload 4, 2) := by decide +kernel
theorem ze_102_104 : z_T g d 102 104 (v0 :: v1 :: v2 :: v3 :: .int x :: ls) st h P = z_T g d 102 106 (v0 :: v1 :: v2 :: v3 :: .int x :: ls) (.int x :: st) h P := zt_iload zi_102_104 rfl
theorem zi_102_106 : z_ins 102 106 = some (.if_icmp .eq 27, 3) := by decide +kernel
theorem ze_102_106 : z_T g d 102 106 ls (.int y :: .int x :: st) h P = (if x = y then z_T g d 102 133 ls st h P else z_T g d 102 109 ls st h P) := zt_icmpeq zi_102_106 (by decide)
theorem zi_102_109 : z_ins 102 109 = some (.aload_n 0, 1) := by decide +kernel
theorem ze_102_109 : z_T g d 102 109 (.ref a :: ls) st h P = z_T g d 102 110 (.ref a :: ls) (.ref a :: st) h P := zt_aloadn zi_102_109 rfl rfl
theorem ze_102_109_n : z_T g d 102 109 (.null :: ls) st h P = z_T g d 102 110 (.null :: ls) (.null :: st) h P := zt_aloadnN zi_102_109 rfl rfl
theorem zi_102_110 : z_ins 102 110 = some (.getfield 18, 3) := by decide +kernel
theorem ze_102_110 : z_T g d 102 110 ls (.ref a :: st) h P = z_gR h.1 a 10 4 (fun x => z_T g d 102 113 ls (x :: st) h P) := zt_getR zi_102_110 ((congrArg (fun o => z_fl o 18) zo_102).trans zf_LatinRectanglesLaw_Grid_18)
theorem zi_102_113 : z_ins 102 113 = some (.iload 6, 2) := by decide +kernel
theorem ze_102_113 : z_T g d 102 113 (v0 :: v1 :: v2 :: v3 :: v4 :: v5 :: .int x :: ls) st h P = z_T g d 102 115 (v0 :: v1 :: v2 :: v3 :: v4 :: v5 :: .int x :: ls) (.int x :: st) h P := zt_iload zi_102_113 rfl
theorem zi_102_115 : z_ins 102 115 = some (.aaload, 1) := by decide +kernel
theorem ze_102_115 : z_T g d 102 115 ls (.int x :: .ref a :: st) h P = z_qL h.1 a x (fun v => z_T g d 102 116 ls (.ref v :: st) h P) := zt_aaload zi_102_115
theorem zi_102_116 : z_ins 102 116 = some (.aload_n 2, 1) := by decide +kernel
theorem ze_102_116 : z_T g d 102 116 (v0 :: v1 :: .ref a :: ls) st h P = z_T g d 102 117 (v0 :: v1 :: .ref a :: ls) (.ref a :: st) h P := zt_aloadn zi_102_116 rfl rfl
theorem ze_102_116_n : z_T g d 102 116 (v0 :: v1 :: .null :: ls) st h P = z_T g d 102 117 (v0 :: v1 :: .null :: ls) (.null :: st) h P := zt_aloadnN zi_102_116 rfl rfl
theorem zi_102_117 : z_ins 102 117 = some (.iload 6, 2) := by decide +kernel
theorem ze_102_117 : z_T g d 102 117 (v0 :: v1 :: v2 :: v3 :: v4 :: v5 :: .int x :: ls) st h P = z_T g d 102 119 (v0 :: v1 :: v2 :: v3 :: v4 :: v5 :: .int x :: ls) (.int x :: st) h P := zt_iload zi_102_117 rfl
theorem zi_102_119 : z_ins 102 119 = some (.iaload, 1) := by decide +kernel
theorem ze_102_119 : z_T g d 102 119 ls (.int x :: .ref a :: st) h P = z_aL h.1 a z_tI x (fun v => z_T g d 102 120 ls (.int v :: st) h P) := zt_iaload zi_102_119
theorem zi_102_120 : z_ins 102 120 = some (.iaload, 1) := by decide +kernel
theorem ze_102_120 : z_T g d 102 120 ls (.int x :: .ref a :: st) h P = z_aL h.1 a z_tI x (fun v => z_T g d 102 121 ls (.int v :: st) h P) := zt_iaload zi_102_120
theorem zi_102_121 : z_ins 102 121 = some (.aload_n 0, 1) := by decide +kernel
theorem ze_102_121 : z_T g d 102 121 (.ref a :: ls) st h P = z_T g d 102 122 (.ref a :: ls) (.ref a :: st) h P := zt_aloadn zi_102_121 rfl rfl
theorem ze_102_121_n : z_T g d 102 121 (.null :: ls) st h P = z_T g d 102 122 (.null :: ls) (.null :: st) h P := zt_aloadnN zi_102_121 rfl rfl
theorem zi_102_122 : z_ins 102 122 = some (.getfield 18, 3) := by decide +kernel
theorem ze_102_122 : z_T g d 102 122 ls (.ref a :: st) h P = z_gR h.1 a 10 4 (fun x => z_T g d 102 125 ls (x :: st) h P) := zt_getR zi_102_122 ((congrArg (fun o => z_fl o 18) zo_102).trans zf_LatinRectanglesLaw_Grid_18)
theorem zi_102_125 : z_ins 102 125 = some (.iload_n 1, 1) := by decide +kernel
theorem ze_102_125 : z_T g d 102 125 (v0 :: .int x :: ls) st h P = z_T g d 102 126 (v0 :: .int x :: ls) (.int x :: st) h P := zt_iloadn zi_102_125 rfl rfl
theorem zi_102_126 : z_ins 102 126 = some (.aaload, 1) := by decide +kernel
theorem ze_102_126 : z_T g d 102 126 ls (.int x :: .ref a :: st) h P = z_qL h.1 a x (fun v => z_T g d 102 127 ls (.ref v :: st) h P) := zt_aaload zi_102_126
theorem zi_102_127 : z_ins 102 127 = some (.iload 4, 2) := by decide +kernel
theorem ze_102_127 : z_T g d 102 127 (v0 :: v1 :: v2 :: v3 :: .int x :: ls) st h P = z_T g d 102 129 (v0 :: v1 :: v2 :: v3 :: .int x :: ls) (.int x :: st) h P := zt_iload zi_102_127 rfl
theorem zi_102_129 : z_ins 102 129 = some (.iaload, 1) := by decide +kernel
theorem ze_102_129 : z_T g d 102 129 ls (.int x :: .ref a :: st) h P = z_aL h.1 a z_tI x (fun v => z_T g d 102 130 ls (.int v :: st) h P) := zt_iaload zi_102_129
theorem zi_102_130 : z_ins 102 130 = some (.if_icmp .ne 6, 3) := by decide +kernel
theorem ze_102_130 : z_T g d 102 130 ls (.int y :: .int x :: st) h P = (if x = y then z_T g d 102 133 ls st h P else z_T g d 102 136 ls st h P) := zt_icmpne zi_102_130 (by decide)
theorem zi_102_133 : z_ins 102 133 = some (.iconst 0, 1) := by decide +kernel
theorem ze_102_133 : z_T g d 102 133 ls st h P = z_T g d 102 134 ls (.int (nI 0) :: st) h P := zt_iconst zi_102_133 rfl
theorem zi_102_134 : z_ins 102 134 = some (.istore 5, 2) := by decide +kernel
theorem ze_102_134 : z_T g d 102 134 (v0 :: v1 :: v2 :: v3 :: v4 :: v5 :: ls) (.int x :: st) h P = z_T g d 102 136 (v0 :: v1 :: v2 :: v3 :: v4 :: .int x :: ls) st h P := zt_istore zi_102_134 (Nat.le_add_left 6 _)
theorem zi_102_136 : z_ins 102 136 = some (.iinc 6 1, 3) := by decide +kernel
theorem ze_102_136 : z_T g d 102 136 (v0 :: v1 :: v2 :: v3 :: v4 :: v5 :: .int x :: ls) st h P = z_T g d 102 139 (v0 :: v1 :: v2 :: v3 :: v4 :: v5 :: .int (x + (nI 1)) :: ls) st h P := zt_iinc zi_102_136 rfl rfl
theorem zi_102_139 : z_ins 102 139 = some (.goto (-45), 3) := by decide +kernel
theorem ze_102_139 : z_T g d 102 139 ls st h P = z_T g d 102 94 ls st h P := zt_goto zi_102_139 (by decide)
theorem zi_102_142 : z_ins 102 142 = some (.iload 5, 2) := by decide +kernel
theorem ze_102_142 : z_T g d 102 142 (v0 :: v1 :: v2 :: v3 :: v4 :: .int x :: ls) st h P = z_T g d 102 144 (v0 :: v1 :: v2 :: v3 :: v4 :: .int x :: ls) (.int x :: st) h P := zt_iload zi_102_142 rfl
theorem zi_102_144 : z_ins 102 144 = some (.ifCond .ne 6, 3) := by decide +kernel
theorem ze_102_144 : z_T g d 102 144 ls (.int x :: st) h P = (if x = nI 0 then z_T g d 102 147 ls st h P else z_T g d 102 150 ls st h P) := zt_ifne zi_102_144 (by decide)
theorem zi_102_147 : z_ins 102 147 = some (.goto 19, 3) := by decide +kernel
theorem ze_102_147 : z_T g d 102 147 ls st h P = z_T g d 102 166 ls st h P := zt_goto zi_102_147 (by decide)
theorem zi_102_150 : z_ins 102 150 = some (.aload_n 2, 1) := by decide +kernel
theorem ze_102_150 : z_T g d 102 150 (v0 :: v1 :: .ref a :: ls) st h P = z_T g d 102 151 (v0 :: v1 :: .ref a :: ls) (.ref a :: st) h P := zt_aloadn zi_102_150 rfl rfl
theorem ze_102_150_n : z_T g d 102 150 (v0 :: v1 :: .null :: ls) st h P = z_T g d 102 151 (v0 :: v1 :: .null :: ls) (.null :: st) h P := zt_aloadnN zi_102_150 rfl rfl
theorem zi_102_151 : z_ins 102 151 = some (.iload_n 1, 1) := by decide +kernel
theorem ze_102_151 : z_T g d 102 151 (v0 :: .int x :: ls) st h P = z_T g d 102 152 (v0 :: .int x :: ls) (.int x :: st) h P := zt_iloadn zi_102_151 rfl rfl
theorem zi_102_152 : z_ins 102 152 = some (.iload 4, 2) := by decide +kernel
theorem ze_102_152 : z_T g d 102 152 (v0 :: v1 :: v2 :: v3 :: .int x :: ls) st h P = z_T g d 102 154 (v0 :: v1 :: v2 :: v3 :: .int x :: ls) (.int x :: st) h P := zt_iload zi_102_152 rfl
theorem zi_102_154 : z_ins 102 154 = some (.iastore, 1) := by decide +kernel
theorem ze_102_154 : z_T g d 102 154 ls (.int y :: .int x :: .ref a :: st) h P = z_aS h.1 a z_tI x y (fun f => z_T g d 102 155 ls st (f, h.2) P) := zt_iastore zi_102_154
theorem zi_102_155 : z_ins 102 155 = some (.iload_n 3, 1) := by decide +kernel
theorem ze_102_155 : z_T g d 102 155 (v0 :: v1 :: v2 :: .int x :: ls) st h P = z_T g d 102 156 (v0 :: v1 :: v2 :: .int x :: ls) (.int x :: st) h P := zt_iloadn zi_102_155 rfl rfl
theorem zi_102_156 : z_ins 102 156 = some (.aload_n 0, 1) := by decide +kernel
theorem ze_102_156 : z_T g d 102 156 (.ref a :: ls) st h P = z_T g d 102 157 (.ref a :: ls) (.ref a :: st) h P := zt_aloadn zi_102_156 rfl rfl
theorem ze_102_156_n : z_T g d 102 156 (.null :: ls) st h P = z_T g d 102 157 (.null :: ls) (.null :: st) h P := zt_aloadnN zi_102_156 rfl rfl
theorem zi_102_157 : z_ins 102 157 = some (.iload_n 1, 1) := by decide +kernel
theorem ze_102_157 : z_T g d 102 157 (v0 :: .int x :: ls) st h P = z_T g d 102 158 (v0 :: .int x :: ls) (.int x :: st) h P := zt_iloadn zi_102_157 rfl rfl
theorem zi_102_158 : z_ins 102 158 = some (.iconst 1, 1) := by decide +kernel
theorem ze_102_158 : z_T g d 102 158 ls st h P = z_T g d 102 159 ls (.int (nI 1) :: st) h P := zt_iconst zi_102_158 rfl
theorem zi_102_159 : z_ins 102 159 = some (.iadd, 1) := by decide +kernel
theorem ze_102_159 : z_T g d 102 159 ls (.int y :: .int x :: st) h P = z_T g d 102 160 ls (.int (x + y) :: st) h P := zt_bin (f := fun x y => x + y) zi_102_159 rfl (fun _ _ _ => rfl)
theorem zi_102_160 : z_ins 102 160 = some (.aload_n 2, 1) := by decide +kernel
theorem ze_102_160 : z_T g d 102 160 (v0 :: v1 :: .ref a :: ls) st h P = z_T g d 102 161 (v0 :: v1 :: .ref a :: ls) (.ref a :: st) h P := zt_aloadn zi_102_160 rfl rfl
theorem ze_102_160_n : z_T g d 102 160 (v0 :: v1 :: .null :: ls) st h P = z_T g d 102 161 (v0 :: v1 :: .null :: ls) (.null :: st) h P := zt_aloadnN zi_102_160 rfl rfl
theorem zi_102_161 : z_ins 102 161 = some (.invokevirtual 77, 3) := by decide +kernel
theorem ze_102_161 : z_T g d 102 161 ls (.ref a1 :: .int x0 :: .ref a :: st) h P = ((z_okS 8 st = true ∧ z_gO h.1 a 10 ∧ 0 < d) ∧ z_Ca g (d - 1) 102 [.ref a, .int x0, .ref a1] h (fun r => z_k r (fun v h' => z_T g d 102 164 ls (z_push v st) h' P) P)) := zt_cV (as := [.int x0, .ref a1]) (kk := 0) zi_102_161 rfl (zt_call zj_102 zh_102) (z_opV ((congrArg (fun o => z_lookup z_cns (o, 77)) zo_102).trans zq_cns_LatinRectanglesLaw_Grid_77) ((congrArg (fun o => z_lookup z_prs (o, 77)) zo_102).trans zq_prs_LatinRectanglesLaw_Grid_77)) ((congrArg (fun o => z_clk o 77) zo_102).trans zk_LatinRectanglesLaw_Grid_77) rfl rfl rfl rfl (z_rcv0 zc_102)
theorem zi_102_164 : z_ins 102 164 = some (.iadd, 1) := by decide +kernel
theorem ze_102_164 : z_T g d 102 164 ls (.int y :: .int x :: st) h P = z_T g d 102 165 ls (.int (x + y) :: st) h P := zt_bin (f := fun x y => x + y) zi_102_164 rfl (fun _ _ _ => rfl)
theorem zi_102_165 : z_ins 102 165 = some (.istore_n 3, 1) := by decide +kernel
theorem ze_102_165 : z_T g d 102 165 (v0 :: v1 :: v2 :: v3 :: ls) (.int x :: st) h P = z_T g d 102 166 (v0 :: v1 :: v2 :: .int x :: ls) st h P := zt_istoren zi_102_165 rfl (Nat.le_add_left 4 _)
theorem zi_102_166 : z_ins 102 166 = some (.iinc 4 1, 3) := by decide +kernel
theorem ze_102_166 : z_T g d 102 166 (v0 :: v1 :: v2 :: v3 :: .int x :: ls) st h P = z_T g d 102 169 (v0 :: v1 :: v2 :: v3 :: .int (x + (nI 1)) :: ls) st h P := zt_iinc zi_102_166 rfl rfl
theorem zi_102_169 : z_ins 102 169 = some (.goto (-106), 3) := by decide +kernel
theorem ze_102_169 : z_T g d 102 169 ls st h P = z_T g d 102 63 ls st h P := zt_goto zi_102_169 (by decide)
theorem zi_102_172 : z_ins 102 172 = some (.iload_n 3, 1) := by decide +kernel
theorem ze_102_172 : z_T g d 102 172 (v0 :: v1 :: v2 :: .int x :: ls) st h P = z_T g d 102 173 (v0 :: v1 :: v2 :: .int x :: ls) (.int x :: st) h P := zt_iloadn zi_102_172 rfl rfl
theorem zi_102_173 : z_ins 102 173 = some (.ireturn, 1) := by decide +kernel
theorem ze_102_173 : z_T g d 102 173 ls [.int x] h P = P (.inr (some (.int x)), h) := zt_ireturn zi_102_173 zr_102
-- LatinRectanglesLaw$Grid.full(I)Z
theorem zm_103 : z_maxL 103 = 3 := by decide +kernel
theorem zh_103 : z_hds 103 = [] := by decide +kernel
theorem zj_103 : z_jdk 103 = false := by decide +kernel
theorem zr_103 : z_rt 103 = (some .boolean) := by decide +kernel
theorem zn_103 : z_Ca g d 103 [.ref a0, .int x1] h P = z_T g d 103 0 [.ref a0, .int x1, z_un] [] h P := z_Ca_ent zm_103 rfl rfl
theorem zi_103_0 : z_ins 103 0 = some (.iconst 0, 1) := by decide +kernel
theorem ze_103_0 : z_T g d 103 0 ls st h P = z_T g d 103 1 ls (.int (nI 0) :: st) h P := zt_iconst zi_103_0 rfl
theorem zi_103_1 : z_ins 103 1 = some (.istore_n 2, 1) := by decide +kernel
theorem ze_103_1 : z_T g d 103 1 (v0 :: v1 :: v2 :: ls) (.int x :: st) h P = z_T g d 103 2 (v0 :: v1 :: .int x :: ls) st h P := zt_istoren zi_103_1 rfl (Nat.le_add_left 3 _)
theorem zi_103_2 : z_ins 103 2 = some (.iload_n 2, 1) := by decide +kernel
theorem ze_103_2 : z_T g d 103 2 (v0 :: v1 :: .int x :: ls) st h P = z_T g d 103 3 (v0 :: v1 :: .int x :: ls) (.int x :: st) h P := zt_iloadn zi_103_2 rfl rfl
theorem zi_103_3 : z_ins 103 3 = some (.aload_n 0, 1) := by decide +kernel
theorem ze_103_3 : z_T g d 103 3 (.ref a :: ls) st h P = z_T g d 103 4 (.ref a :: ls) (.ref a :: st) h P := zt_aloadn zi_103_3 rfl rfl
theorem ze_103_3_n : z_T g d 103 3 (.null :: ls) st h P = z_T g d 103 4 (.null :: ls) (.null :: st) h P := zt_aloadnN zi_103_3 rfl rfl
theorem zi_103_4 : z_ins 103 4 = some (.getfield 13, 3) := by decide +kernel
theorem ze_103_4 : z_T g d 103 4 ls (.ref a :: st) h P = z_gI h.1 a 10 1 (fun x => z_T g d 103 7 ls (.int x :: st) h P) := zt_getI zi_103_4 ((congrArg (fun o => z_fl o 13) zo_103).trans zf_LatinRectanglesLaw_Grid_13)
theorem zi_103_7 : z_ins 103 7 = some (.if_icmp .ge 22, 3) := by decide +kernel
theorem ze_103_7 : z_T g d 103 7 ls (.int y :: .int x :: st) h P = (if x < y then z_T g d 103 10 ls st h P else z_T g d 103 29 ls st h P) := zt_icmpge zi_103_7 (by decide)
theorem zi_103_10 : z_ins 103 10 = some (.aload_n 0, 1) := by decide +kernel
theorem ze_103_10 : z_T g d 103 10 (.ref a :: ls) st h P = z_T g d 103 11 (.ref a :: ls) (.ref a :: st) h P := zt_aloadn zi_103_10 rfl rfl
theorem ze_103_10_n : z_T g d 103 10 (.null :: ls) st h P = z_T g d 103 11 (.null :: ls) (.null :: st) h P := zt_aloadnN zi_103_10 rfl rfl
theorem zi_103_11 : z_ins 103 11 = some (.getfield 18, 3) := by decide +kernel
theorem ze_103_11 : z_T g d 103 11 ls (.ref a :: st) h P = z_gR h.1 a 10 4 (fun x => z_T g d 103 14 ls (x :: st) h P) := zt_getR zi_103_11 ((congrArg (fun o => z_fl o 18) zo_103).trans zf_LatinRectanglesLaw_Grid_18)
theorem zi_103_14 : z_ins 103 14 = some (.iload_n 1, 1) := by decide +kernel
theorem ze_103_14 : z_T g d 103 14 (v0 :: .int x :: ls) st h P = z_T g d 103 15 (v0 :: .int x :: ls) (.int x :: st) h P := zt_iloadn zi_103_14 rfl rfl
theorem zi_103_15 : z_ins 103 15 = some (.aaload, 1) := by decide +kernel
theorem ze_103_15 : z_T g d 103 15 ls (.int x :: .ref a :: st) h P = z_qL h.1 a x (fun v => z_T g d 103 16 ls (.ref v :: st) h P) := zt_aaload zi_103_15
theorem zi_103_16 : z_ins 103 16 = some (.iload_n 2, 1) := by decide +kernel
theorem ze_103_16 : z_T g d 103 16 (v0 :: v1 :: .int x :: ls) st h P = z_T g d 103 17 (v0 :: v1 :: .int x :: ls) (.int x :: st) h P := zt_iloadn zi_103_16 rfl rfl
theorem zi_103_17 : z_ins 103 17 = some (.iaload, 1) := by decide +kernel
theorem ze_103_17 : z_T g d 103 17 ls (.int x :: .ref a :: st) h P = z_aL h.1 a z_tI x (fun v => z_T g d 103 18 ls (.int v :: st) h P) := zt_iaload zi_103_17
theorem zi_103_18 : z_ins 103 18 = some (.ifCond .ge 5, 3) := by decide +kernel
theorem ze_103_18 : z_T g d 103 18 ls (.int x :: st) h P = (if x < nI 0 then z_T g d 103 21 ls st h P else z_T g d 103 23 ls st h P) := zt_ifge zi_103_18 (by decide)
theorem zi_103_21 : z_ins 103 21 = some (.iconst 0, 1) := by decide +kernel
theorem ze_103_21 : z_T g d 103 21 ls st h P = z_T g d 103 22 ls (.int (nI 0) :: st) h P := zt_iconst zi_103_21 rfl
theorem zi_103_22 : z_ins 103 22 = some (.ireturn, 1) := by decide +kernel
theorem ze_103_22 : z_T g d 103 22 ls [.int x] h P = ((x = nI 0 ∨ x = nI 1) ∧ P (.inr (some (.int x)), h)) := zt_zreturn zi_103_22 zr_103
theorem zi_103_23 : z_ins 103 23 = some (.iinc 2 1, 3) := by decide +kernel
theorem ze_103_23 : z_T g d 103 23 (v0 :: v1 :: .int x :: ls) st h P = z_T g d 103 26 (v0 :: v1 :: .int (x + (nI 1)) :: ls) st h P := zt_iinc zi_103_23 rfl rfl
theorem zi_103_26 : z_ins 103 26 = some (.goto (-24), 3) := by decide +kernel
theorem ze_103_26 : z_T g d 103 26 ls st h P = z_T g d 103 2 ls st h P := zt_goto zi_103_26 (by decide)
theorem zi_103_29 : z_ins 103 29 = some (.iconst 1, 1) := by decide +kernel
theorem ze_103_29 : z_T g d 103 29 ls st h P = z_T g d 103 30 ls (.int (nI 1) :: st) h P := zt_iconst zi_103_29 rfl
theorem zi_103_30 : z_ins 103 30 = some (.ireturn, 1) := by decide +kernel
theorem ze_103_30 : z_T g d 103 30 ls [.int x] h P = ((x = nI 0 ∨ x = nI 1) ∧ P (.inr (some (.int x)), h)) := zt_zreturn zi_103_30 zr_103
-- LatinRectanglesLaw$Grid.cycle(III)[Z
theorem zm_104 : z_maxL 104 = 7 := by decide +kernel
theorem zh_104 : z_hds 104 = [] := by decide +kernel
theorem zj_104 : z_jdk 104 = false := by decide +kernel
theorem zr_104 : z_rt 104 = (some (.array .boolean)) := by decide +kernel
theorem zn_104 : z_Ca g d 104 [.ref a0, .int x1, .int x2, .int x3] h P = z_T g d 104 0 [.ref a0, .int x1, .int x2, .int x3, z_un, z_un, z_un] [] h P := z_Ca_ent zm_104 rfl rfl
theorem zi_104_0 : z_ins 104 0 = some (.aload_n 0, 1) := by decide +kernel
theorem ze_104_0 : z_T g d 104 0 (.ref a :: ls) st h P = z_T g d 104 1 (.ref a :: ls) (.ref a :: st) h P := zt_aloadn zi_104_0 rfl rfl
theorem ze_104_0_n : z_T g d 104 0 (.null :: ls) st h P = z_T g d 104 1 (.null :: ls) (.null :: st) h P := zt_aloadnN zi_104_0 rfl rfl
theorem zi_104_1 : z_ins 104 1 = some (.getfield 13, 3) := by decide +kernel
theorem ze_104_1 : z_T g d 104 1 ls (.ref a :: st) h P = z_gI h.1 a 10 1 (fun x => z_T g d 104 4 ls (.int x :: st) h P) := zt_getI zi_104_1 ((congrArg (fun o => z_fl o 13) zo_104).trans zf_LatinRectanglesLaw_Grid_13)
theorem zi_104_4 : z_ins 104 4 = some (.newarray .boolean, 2) := by decide +kernel
theorem ze_104_4 : z_T g d 104 4 ls (.int x :: st) h P = z_nA h .boolean x (fun q h' => z_T g d 104 6 ls (.ref q :: st) h' P) := zt_newarray zi_104_4
theorem zi_104_6 : z_ins 104 6 = some (.astore 4, 2) := by decide +kernel
theorem ze_104_6 : z_T g d 104 6 (v0 :: v1 :: v2 :: v3 :: v4 :: ls) (.ref a :: st) h P = z_T g d 104 8 (v0 :: v1 :: v2 :: v3 :: .ref a :: ls) st h P := zt_astore rfl zi_104_6 (Nat.le_add_left 5 _)
theorem ze_104_6_n : z_T g d 104 6 (v0 :: v1 :: v2 :: v3 :: v4 :: ls) (.null :: st) h P = z_T g d 104 8 (v0 :: v1 :: v2 :: v3 :: .null :: ls) st h P := zt_astore rfl zi_104_6 (Nat.le_add_left 5 _)
theorem zi_104_8 : z_ins 104 8 = some (.iload_n 3, 1) := by decide +kernel
theorem ze_104_8 : z_T g d 104 8 (v0 :: v1 :: v2 :: .int x :: ls) st h P = z_T g d 104 9 (v0 :: v1 :: v2 :: .int x :: ls) (.int x :: st) h P := zt_iloadn zi_104_8 rfl rfl
theorem zi_104_9 : z_ins 104 9 = some (.istore 5, 2) := by decide +kernel
theorem ze_104_9 : z_T g d 104 9 (v0 :: v1 :: v2 :: v3 :: v4 :: v5 :: ls) (.int x :: st) h P = z_T g d 104 11 (v0 :: v1 :: v2 :: v3 :: v4 :: .int x :: ls) st h P := zt_istore zi_104_9 (Nat.le_add_left 6 _)
theorem zi_104_11 : z_ins 104 11 = some (.aload 4, 2) := by decide +kernel
theorem ze_104_11 : z_T g d 104 11 (v0 :: v1 :: v2 :: v3 :: .ref a :: ls) st h P = z_T g d 104 13 (v0 :: v1 :: v2 :: v3 :: .ref a :: ls) (.ref a :: st) h P := zt_aload zi_104_11 rfl
theorem ze_104_11_n : z_T g d 104 11 (v0 :: v1 :: v2 :: v3 :: .null :: ls) st h P = z_T g d 104 13 (v0 :: v1 :: v2 :: v3 :: .null :: ls) (.null :: st) h P := zt_aloadN zi_104_11 rfl
theorem zi_104_13 : z_ins 104 13 = some (.iload 5, 2) := by decide +kernel
theorem ze_104_13 : z_T g d 104 13 (v0 :: v1 :: v2 :: v3 :: v4 :: .int x :: ls) st h P = z_T g d 104 15 (v0 :: v1 :: v2 :: v3 :: v4 :: .int x :: ls) (.int x :: st) h P := zt_iload zi_104_13 rfl
theorem zi_104_15 : z_ins 104 15 = some (.baload, 1) := by decide +kernel
theorem ze_104_15 : z_T g d 104 15 ls (.int x :: .ref a :: st) h P = z_aL h.1 a z_tB x (fun v => z_T g d 104 16 ls (.int v :: st) h P) := zt_baload zi_104_15
theorem zi_104_16 : z_ins 104 16 = some (.ifCond .ne 46, 3) := by decide +kernel
theorem ze_104_16 : z_T g d 104 16 ls (.int x :: st) h P = (if x = nI 0 then z_T g d 104 19 ls st h P else z_T g d 104 62 ls st h P) := zt_ifne zi_104_16 (by decide)
theorem zi_104_19 : z_ins 104 19 = some (.aload 4, 2) := by decide +kernel
theorem ze_104_19 : z_T g d 104 19 (v0 :: v1 :: v2 :: v3 :: .ref a :: ls) st h P = z_T g d 104 21 (v0 :: v1 :: v2 :: v3 :: .ref a :: ls) (.ref a :: st) h P := zt_aload zi_104_19 rfl
theorem ze_104_19_n : z_T g d 104 19 (v0 :: v1 :: v2 :: v3 :: .null :: ls) st h P = z_T g d 104 21 (v0 :: v1 :: v2 :: v3 :: .null :: ls) (.null :: st) h P := zt_aloadN zi_104_19 rfl
theorem zi_104_21 : z_ins 104 21 = some (.iload 5, 2) := by decide +kernel
theorem ze_104_21 : z_T g d 104 21 (v0 :: v1 :: v2 :: v3 :: v4 :: .int x :: ls) st h P = z_T g d 104 23 (v0 :: v1 :: v2 :: v3 :: v4 :: .int x :: ls) (.int x :: st) h P := zt_iload zi_104_21 rfl
theorem zi_104_23 : z_ins 104 23 = some (.iconst 1, 1) := by decide +kernel
theorem ze_104_23 : z_T g d 104 23 ls st h P = z_T g d 104 24 ls (.int (nI 1) :: st) h P := zt_iconst zi_104_23 rfl
theorem zi_104_24 : z_ins 104 24 = some (.bastore, 1) := by decide +kernel
theorem ze_104_24 : z_T g d 104 24 ls (.int y :: .int x :: .ref a :: st) h P = z_aS h.1 a z_tB x y (fun f => z_T g d 104 25 ls st (f, h.2) P) := zt_bastore zi_104_24
theorem zi_104_25 : z_ins 104 25 = some (.iconst 0, 1) := by decide +kernel
theorem ze_104_25 : z_T g d 104 25 ls st h P = z_T g d 104 26 ls (.int (nI 0) :: st) h P := zt_iconst zi_104_25 rfl
theorem zi_104_26 : z_ins 104 26 = some (.istore 6, 2) := by decide +kernel
theorem ze_104_26 : z_T g d 104 26 (v0 :: v1 :: v2 :: v3 :: v4 :: v5 :: v6 :: ls) (.int x :: st) h P = z_T g d 104 28 (v0 :: v1 :: v2 :: v3 :: v4 :: v5 :: .int x :: ls) st h P := zt_istore zi_104_26 (Nat.le_add_left 7 _)
theorem zi_104_28 : z_ins 104 28 = some (.aload_n 0, 1) := by decide +kernel
theorem ze_104_28 : z_T g d 104 28 (.ref a :: ls) st h P = z_T g d 104 29 (.ref a :: ls) (.ref a :: st) h P := zt_aloadn zi_104_28 rfl rfl
theorem ze_104_28_n : z_T g d 104 28 (.null :: ls) st h P = z_T g d 104 29 (.null :: ls) (.null :: st) h P := zt_aloadnN zi_104_28 rfl rfl
theorem zi_104_29 : z_ins 104 29 = some (.getfield 18, 3) := by decide +kernel
theorem ze_104_29 : z_T g d 104 29 ls (.ref a :: st) h P = z_gR h.1 a 10 4 (fun x => z_T g d 104 32 ls (x :: st) h P) := zt_getR zi_104_29 ((congrArg (fun o => z_fl o 18) zo_104).trans zf_LatinRectanglesLaw_Grid_18)
theorem zi_104_32 : z_ins 104 32 = some (.iload_n 1, 1) := by decide +kernel
theorem ze_104_32 : z_T g d 104 32 (v0 :: .int x :: ls) st h P = z_T g d 104 33 (v0 :: .int x :: ls) (.int x :: st) h P := zt_iloadn zi_104_32 rfl rfl
theorem zi_104_33 : z_ins 104 33 = some (.aaload, 1) := by decide +kernel
theorem ze_104_33 : z_T g d 104 33 ls (.int x :: .ref a :: st) h P = z_qL h.1 a x (fun v => z_T g d 104 34 ls (.ref v :: st) h P) := zt_aaload zi_104_33
theorem zi_104_34 : z_ins 104 34 = some (.iload 6, 2) := by decide +kernel
theorem ze_104_34 : z_T g d 104 34 (v0 :: v1 :: v2 :: v3 :: v4 :: v5 :: .int x :: ls) st h P = z_T g d 104 36 (v0 :: v1 :: v2 :: v3 :: v4 :: v5 :: .int x :: ls) (.int x :: st) h P := zt_iload zi_104_34 rfl
theorem zi_104_36 : z_ins 104 36 = some (.iaload, 1) := by decide +kernel
theorem ze_104_36 : z_T g d 104 36 ls (.int x :: .ref a :: st) h P = z_aL h.1 a z_tI x (fun v => z_T g d 104 37 ls (.int v :: st) h P) := zt_iaload zi_104_36
theorem zi_104_37 : z_ins 104 37 = some (.aload_n 0, 1) := by decide +kernel
theorem ze_104_37 : z_T g d 104 37 (.ref a :: ls) st h P = z_T g d 104 38 (.ref a :: ls) (.ref a :: st) h P := zt_aloadn zi_104_37 rfl rfl
theorem ze_104_37_n : z_T g d 104 37 (.null :: ls) st h P = z_T g d 104 38 (.null :: ls) (.null :: st) h P := zt_aloadnN zi_104_37 rfl rfl
theorem zi_104_38 : z_ins 104 38 = some (.getfield 18, 3) := by decide +kernel
theorem ze_104_38 : z_T g d 104 38 ls (.ref a :: st) h P = z_gR h.1 a 10 4 (fun x => z_T g d 104 41 ls (x :: st) h P) := zt_getR zi_104_38 ((congrArg (fun o => z_fl o 18) zo_104).trans zf_LatinRectanglesLaw_Grid_18)
theorem zi_104_41 : z_ins 104 41 = some (.iload_n 2, 1) := by decide +kernel
theorem ze_104_41 : z_T g d 104 41 (v0 :: v1 :: .int x :: ls) st h P = z_T g d 104 42 (v0 :: v1 :: .int x :: ls) (.int x :: st) h P := zt_iloadn zi_104_41 rfl rfl
theorem zi_104_42 : z_ins 104 42 = some (.aaload, 1) := by decide +kernel
theorem ze_104_42 : z_T g d 104 42 ls (.int x :: .ref a :: st) h P = z_qL h.1 a x (fun v => z_T g d 104 43 ls (.ref v :: st) h P) := zt_aaload zi_104_42
theorem zi_104_43 : z_ins 104 43 = some (.iload 5, 2) := by decide +kernel
theorem ze_104_43 : z_T g d 104 43 (v0 :: v1 :: v2 :: v3 :: v4 :: .int x :: ls) st h P = z_T g d 104 45 (v0 :: v1 :: v2 :: v3 :: v4 :: .int x :: ls) (.int x :: st) h P := zt_iload zi_104_43 rfl
theorem zi_104_45 : z_ins 104 45 = some (.iaload, 1) := by decide +kernel
theorem ze_104_45 : z_T g d 104 45 ls (.int x :: .ref a :: st) h P = z_aL h.1 a z_tI x (fun v => z_T g d 104 46 ls (.int v :: st) h P) := zt_iaload zi_104_45
theorem zi_104_46 : z_ins 104 46 = some (.if_icmp .eq 9, 3) := by decide +kernel
theorem ze_104_46 : z_T g d 104 46 ls (.int y :: .int x :: st) h P = (if x = y then z_T g d 104 55 ls st h P else z_T g d 104 49 ls st h P) := zt_icmpeq zi_104_46 (by decide)
theorem zi_104_49 : z_ins 104 49 = some (.iinc 6 1, 3) := by decide +kernel
theorem ze_104_49 : z_T g d 104 49 (v0 :: v1 :: v2 :: v3 :: v4 :: v5 :: .int x :: ls) st h P = z_T g d 104 52 (v0 :: v1 :: v2 :: v3 :: v4 :: v5 :: .int (x + (nI 1)) :: ls) st h P := zt_iinc zi_104_49 rfl rfl
theorem zi_104_52 : z_ins 104 52 = some (.goto (-24), 3) := by decide +kernel
theorem ze_104_52 : z_T g d 104 52 ls st h P = z_T g d 104 28 ls st h P := zt_goto zi_104_52 (by decide)
theorem zi_104_55 : z_ins 104 55 = some (.iload 6, 2) := by decide +kernel
theorem ze_104_55 : z_T g d 104 55 (v0 :: v1 :: v2 :: v3 :: v4 :: v5 :: .int x :: ls) st h P = z_T g d 104 57 (v0 :: v1 :: v2 :: v3 :: v4 :: v5 :: .int x :: ls) (.int x :: st) h P := zt_iload zi_104_55 rfl
theorem zi_104_57 : z_ins 104 57 = some (.istore 5, 2) := by decide +kernel
theorem ze_104_57 : z_T g d 104 57 (v0 :: v1 :: v2 :: v3 :: v4 :: v5 :: ls) (.int x :: st) h P = z_T g d 104 59 (v0 :: v1 :: v2 :: v3 :: v4 :: .int x :: ls) st h P := zt_istore zi_104_57 (Nat.le_add_left 6 _)
theorem zi_104_59 : z_ins 104 59 = some (.goto (-48), 3) := by decide +kernel
theorem ze_104_59 : z_T g d 104 59 ls st h P = z_T g d 104 11 ls st h P := zt_goto zi_104_59 (by decide)
theorem zi_104_62 : z_ins 104 62 = some (.aload 4, 2) := by decide +kernel
theorem ze_104_62 : z_T g d 104 62 (v0 :: v1 :: v2 :: v3 :: .ref a :: ls) st h P = z_T g d 104 64 (v0 :: v1 :: v2 :: v3 :: .ref a :: ls) (.ref a :: st) h P := zt_aload zi_104_62 rfl
theorem ze_104_62_n : z_T g d 104 62 (v0 :: v1 :: v2 :: v3 :: .null :: ls) st h P = z_T g d 104 64 (v0 :: v1 :: v2 :: v3 :: .null :: ls) (.null :: st) h P := zt_aloadN zi_104_62 rfl
theorem zi_104_64 : z_ins 104 64 = some (.areturn, 1) := by decide +kernel
theorem ze_104_64 : z_T g d 104 64 ls [.ref a] h P = P (.inr (some (.ref a)), h) := zt_areturn rfl zi_104_64 zr_104 rfl
theorem ze_104_64_n : z_T g d 104 64 ls [.null] h P = P (.inr (some (.null)), h) := zt_areturn rfl zi_104_64 zr_104 rfl
-- LatinRectanglesLaw$Grid.filled()I
theorem zm_105 : z_maxL 105 = 4 := by decide +kernel
theorem zh_105 : z_hds 105 = [] := by decide +kernel
theorem zj_105 : z_jdk 105 = false := by decide +kernel
theorem zr_105 : z_rt 105 = (some .int) := by decide +kernel
theorem zn_105 : z_Ca g d 105 [.ref a0] h P = z_T g d 105 0 [.ref a0, z_un, z_un, z_un] [] h P := z_Ca_ent zm_105 rfl rfl
theorem zi_105_0 : z_ins 105 0 = some (.iconst 0, 1) := by decide +kernel
theorem ze_105_0 : z_T g d 105 0 ls st h P = z_T g d 105 1 ls (.int (nI 0) :: st) h P := zt_iconst zi_105_0 rfl
theorem zi_105_1 : z_ins 105 1 = some (.istore_n 1, 1) := by decide +kernel
theorem ze_105_1 : z_T g d 105 1 (v0 :: v1 :: ls) (.int x :: st) h P = z_T g d 105 2 (v0 :: .int x :: ls) st h P := zt_istoren zi_105_1 rfl (Nat.le_add_left 2 _)
theorem zi_105_2 : z_ins 105 2 = some (.iconst 0, 1) := by decide +kernel
theorem ze_105_2 : z_T g d 105 2 ls st h P = z_T g d 105 3 ls (.int (nI 0) :: st) h P := zt_iconst zi_105_2 rfl
theorem zi_105_3 : z_ins 105 3 = some (.istore_n 2, 1) := by decide +kernel
theorem ze_105_3 : z_T g d 105 3 (v0 :: v1 :: v2 :: ls) (.int x :: st) h P = z_T g d 105 4 (v0 :: v1 :: .int x :: ls) st h P := zt_istoren zi_105_3 rfl (Nat.le_add_left 3 _)
theorem zi_105_4 : z_ins 105 4 = some (.iload_n 2, 1) := by decide +kernel
theorem ze_105_4 : z_T g d 105 4 (v0 :: v1 :: .int x :: ls) st h P = z_T g d 105 5 (v0 :: v1 :: .int x :: ls) (.int x :: st) h P := zt_iloadn zi_105_4 rfl rfl
theorem zi_105_5 : z_ins 105 5 = some (.aload_n 0, 1) := by decide +kernel
theorem ze_105_5 : z_T g d 105 5 (.ref a :: ls) st h P = z_T g d 105 6 (.ref a :: ls) (.ref a :: st) h P := zt_aloadn zi_105_5 rfl rfl
theorem ze_105_5_n : z_T g d 105 5 (.null :: ls) st h P = z_T g d 105 6 (.null :: ls) (.null :: st) h P := zt_aloadnN zi_105_5 rfl rfl
theorem zi_105_6 : z_ins 105 6 = some (.getfield 7, 3) := by decide +kernel
theorem ze_105_6 : z_T g d 105 6 ls (.ref a :: st) h P = z_gI h.1 a 10 0 (fun x => z_T g d 105 9 ls (.int x :: st) h P) := zt_getI zi_105_6 ((congrArg (fun o => z_fl o 7) zo_105).trans zf_LatinRectanglesLaw_Grid_7)
theorem zi_105_9 : z_ins 105 9 = some (.if_icmp .ge 39, 3) := by decide +kernel
theorem ze_105_9 : z_T g d 105 9 ls (.int y :: .int x :: st) h P = (if x < y then z_T g d 105 12 ls st h P else z_T g d 105 48 ls st h P) := zt_icmpge zi_105_9 (by decide)
theorem zi_105_12 : z_ins 105 12 = some (.iconst 0, 1) := by decide +kernel
theorem ze_105_12 : z_T g d 105 12 ls st h P = z_T g d 105 13 ls (.int (nI 0) :: st) h P := zt_iconst zi_105_12 rfl
theorem zi_105_13 : z_ins 105 13 = some (.istore_n 3, 1) := by decide +kernel
theorem ze_105_13 : z_T g d 105 13 (v0 :: v1 :: v2 :: v3 :: ls) (.int x :: st) h P = z_T g d 105 14 (v0 :: v1 :: v2 :: .int x :: ls) st h P := zt_istoren zi_105_13 rfl (Nat.le_add_left 4 _)
theorem zi_105_14 : z_ins 105 14 = some (.iload_n 3, 1) := by decide +kernel
theorem ze_105_14 : z_T g d 105 14 (v0 :: v1 :: v2 :: .int x :: ls) st h P = z_T g d 105 15 (v0 :: v1 :: v2 :: .int x :: ls) (.int x :: st) h P := zt_iloadn zi_105_14 rfl rfl
theorem zi_105_15 : z_ins 105 15 = some (.aload_n 0, 1) := by decide +kernel
theorem ze_105_15 : z_T g d 105 15 (.ref a :: ls) st h P = z_T g d 105 16 (.ref a :: ls) (.ref a :: st) h P := zt_aloadn zi_105_15 rfl rfl
theorem ze_105_15_n : z_T g d 105 15 (.null :: ls) st h P = z_T g d 105 16 (.null :: ls) (.null :: st) h P := zt_aloadnN zi_105_15 rfl rfl
theorem zi_105_16 : z_ins 105 16 = some (.getfield 13, 3) := by decide +kernel
theorem ze_105_16 : z_T g d 105 16 ls (.ref a :: st) h P = z_gI h.1 a 10 1 (fun x => z_T g d 105 19 ls (.int x :: st) h P) := zt_getI zi_105_16 ((congrArg (fun o => z_fl o 13) zo_105).trans zf_LatinRectanglesLaw_Grid_13)
theorem zi_105_19 : z_ins 105 19 = some (.if_icmp .ge 23, 3) := by decide +kernel
theorem ze_105_19 : z_T g d 105 19 ls (.int y :: .int x :: st) h P = (if x < y then z_T g d 105 22 ls st h P else z_T g d 105 42 ls st h P) := zt_icmpge zi_105_19 (by decide)
theorem zi_105_22 : z_ins 105 22 = some (.aload_n 0, 1) := by decide +kernel
theorem ze_105_22 : z_T g d 105 22 (.ref a :: ls) st h P = z_T g d 105 23 (.ref a :: ls) (.ref a :: st) h P := zt_aloadn zi_105_22 rfl rfl
theorem ze_105_22_n : z_T g d 105 22 (.null :: ls) st h P = z_T g d 105 23 (.null :: ls) (.null :: st) h P := zt_aloadnN zi_105_22 rfl rfl
theorem zi_105_23 : z_ins 105 23 = some (.getfield 18, 3) := by decide +kernel
theorem ze_105_23 : z_T g d 105 23 ls (.ref a :: st) h P = z_gR h.1 a 10 4 (fun x => z_T g d 105 26 ls (x :: st) h P) := zt_getR zi_105_23 ((congrArg (fun o => z_fl o 18) zo_105).trans zf_LatinRectanglesLaw_Grid_18)
theorem zi_105_26 : z_ins 105 26 = some (.iload_n 2, 1) := by decide +kernel
theorem ze_105_26 : z_T g d 105 26 (v0 :: v1 :: .int x :: ls) st h P = z_T g d 105 27 (v0 :: v1 :: .int x :: ls) (.int x :: st) h P := zt_iloadn zi_105_26 rfl rfl
theorem zi_105_27 : z_ins 105 27 = some (.aaload, 1) := by decide +kernel
theorem ze_105_27 : z_T g d 105 27 ls (.int x :: .ref a :: st) h P = z_qL h.1 a x (fun v => z_T g d 105 28 ls (.ref v :: st) h P) := zt_aaload zi_105_27
theorem zi_105_28 : z_ins 105 28 = some (.iload_n 3, 1) := by decide +kernel
theorem ze_105_28 : z_T g d 105 28 (v0 :: v1 :: v2 :: .int x :: ls) st h P = z_T g d 105 29 (v0 :: v1 :: v2 :: .int x :: ls) (.int x :: st) h P := zt_iloadn zi_105_28 rfl rfl
theorem zi_105_29 : z_ins 105 29 = some (.iaload, 1) := by decide +kernel
theorem ze_105_29 : z_T g d 105 29 ls (.int x :: .ref a :: st) h P = z_aL h.1 a z_tI x (fun v => z_T g d 105 30 ls (.int v :: st) h P) := zt_iaload zi_105_29
theorem zi_105_30 : z_ins 105 30 = some (.ifCond .lt 6, 3) := by decide +kernel
theorem ze_105_30 : z_T g d 105 30 ls (.int x :: st) h P = (if x < nI 0 then z_T g d 105 36 ls st h P else z_T g d 105 33 ls st h P) := zt_iflt zi_105_30 (by decide)
theorem zi_105_33 : z_ins 105 33 = some (.iinc 1 1, 3) := by decide +kernel
theorem ze_105_33 : z_T g d 105 33 (v0 :: .int x :: ls) st h P = z_T g d 105 36 (v0 :: .int (x + (nI 1)) :: ls) st h P := zt_iinc zi_105_33 rfl rfl
theorem zi_105_36 : z_ins 105 36 = some (.iinc 3 1, 3) := by decide +kernel
theorem ze_105_36 : z_T g d 105 36 (v0 :: v1 :: v2 :: .int x :: ls) st h P = z_T g d 105 39 (v0 :: v1 :: v2 :: .int (x + (nI 1)) :: ls) st h P := zt_iinc zi_105_36 rfl rfl
theorem zi_105_39 : z_ins 105 39 = some (.goto (-25), 3) := by decide +kernel
theorem ze_105_39 : z_T g d 105 39 ls st h P = z_T g d 105 14 ls st h P := zt_goto zi_105_39 (by decide)
theorem zi_105_42 : z_ins 105 42 = some (.iinc 2 1, 3) := by decide +kernel
theorem ze_105_42 : z_T g d 105 42 (v0 :: v1 :: .int x :: ls) st h P = z_T g d 105 45 (v0 :: v1 :: .int (x + (nI 1)) :: ls) st h P := zt_iinc zi_105_42 rfl rfl
theorem zi_105_45 : z_ins 105 45 = some (.goto (-41), 3) := by decide +kernel
theorem ze_105_45 : z_T g d 105 45 ls st h P = z_T g d 105 4 ls st h P := zt_goto zi_105_45 (by decide)
theorem zi_105_48 : z_ins 105 48 = some (.iload_n 1, 1) := by decide +kernel
theorem ze_105_48 : z_T g d 105 48 (v0 :: .int x :: ls) st h P = z_T g d 105 49 (v0 :: .int x :: ls) (.int x :: st) h P := zt_iloadn zi_105_48 rfl rfl
theorem zi_105_49 : z_ins 105 49 = some (.ireturn, 1) := by decide +kernel
theorem ze_105_49 : z_T g d 105 49 ls [.int x] h P = P (.inr (some (.int x)), h) := zt_ireturn zi_105_49 zr_105
-- LatinRectanglesLaw$Grid.fillRow(II)Z
theorem zm_106 : z_maxL 106 = 4 := by decide +kernel
theorem zh_106 : z_hds 106 = [] := by decide +kernel
theorem zj_106 : z_jdk 106 = false := by decide +kernel
theorem zr_106 : z_rt 106 = (some .boolean) := by decide +kernel
theorem zn_106 : z_Ca g d 106 [.ref a0, .int x1, .int x2] h P = z_T g d 106 0 [.ref a0, .int x1, .int x2, z_un] [] h P := z_Ca_ent zm_106 rfl rfl
theorem zi_106_0 : z_ins 106 0 = some (.iload_n 2, 1) := by decide +kernel
theorem ze_106_0 : z_T g d 106 0 (v0 :: v1 :: .int x :: ls) st h P = z_T g d 106 1 (v0 :: v1 :: .int x :: ls) (.int x :: st) h P := zt_iloadn zi_106_0 rfl rfl
theorem zi_106_1 : z_ins 106 1 = some (.aload_n 0, 1) := by decide +kernel
theorem ze_106_1 : z_T g d 106 1 (.ref a :: ls) st h P = z_T g d 106 2 (.ref a :: ls) (.ref a :: st) h P := zt_aloadn zi_106_1 rfl rfl
theorem ze_106_1_n : z_T g d 106 1 (.null :: ls) st h P = z_T g d 106 2 (.null :: ls) (.null :: st) h P := zt_aloadnN zi_106_1 rfl rfl
theorem zi_106_2 : z_ins 106 2 = some (.getfield 13, 3) := by decide +kernel
theorem ze_106_2 : z_T g d 106 2 ls (.ref a :: st) h P = z_gI h.1 a 10 1 (fun x => z_T g d 106 5 ls (.int x :: st) h P) := zt_getI zi_106_2 ((congrArg (fun o => z_fl o 13) zo_106).trans zf_LatinRectanglesLaw_Grid_13)
theorem zi_106_5 : z_ins 106 5 = some (.if_icmp .ne 5, 3) := by decide +kernel
theorem ze_106_5 : z_T g d 106 5 ls (.int y :: .int x :: st) h P = (if x = y then z_T g d 106 8 ls st h P else z_T g d 106 10 ls st h P) := zt_icmpne zi_106_5 (by decide)
theorem zi_106_8 : z_ins 106 8 = some (.iconst 1, 1) := by decide +kernel
theorem ze_106_8 : z_T g d 106 8 ls st h P = z_T g d 106 9 ls (.int (nI 1) :: st) h P := zt_iconst zi_106_8 rfl
theorem zi_106_9 : z_ins 106 9 = some (.ireturn, 1) := by decide +kernel
theorem ze_106_9 : z_T g d 106 9 ls [.int x] h P = ((x = nI 0 ∨ x = nI 1) ∧ P (.inr (some (.int x)), h)) := zt_zreturn zi_106_9 zr_106
theorem zi_106_10 : z_ins 106 10 = some (.aload_n 0, 1) := by decide +kernel
theorem ze_106_10 : z_T g d 106 10 (.ref a :: ls) st h P = z_T g d 106 11 (.ref a :: ls) (.ref a :: st) h P := zt_aloadn zi_106_10 rfl rfl
theorem ze_106_10_n : z_T g d 106 10 (.null :: ls) st h P = z_T g d 106 11 (.null :: ls) (.null :: st) h P := zt_aloadnN zi_106_10 rfl rfl
theorem zi_106_11 : z_ins 106 11 = some (.getfield 18, 3) := by decide +kernel
theorem ze_106_11 : z_T g d 106 11 ls (.ref a :: st) h P = z_gR h.1 a 10 4 (fun x => z_T g d 106 14 ls (x :: st) h P) := zt_getR zi_106_11 ((congrArg (fun o => z_fl o 18) zo_106).trans zf_LatinRectanglesLaw_Grid_18)
theorem zi_106_14 : z_ins 106 14 = some (.iload_n 1, 1) := by decide +kernel
theorem ze_106_14 : z_T g d 106 14 (v0 :: .int x :: ls) st h P = z_T g d 106 15 (v0 :: .int x :: ls) (.int x :: st) h P := zt_iloadn zi_106_14 rfl rfl
theorem zi_106_15 : z_ins 106 15 = some (.aaload, 1) := by decide +kernel
theorem ze_106_15 : z_T g d 106 15 ls (.int x :: .ref a :: st) h P = z_qL h.1 a x (fun v => z_T g d 106 16 ls (.ref v :: st) h P) := zt_aaload zi_106_15
theorem zi_106_16 : z_ins 106 16 = some (.iload_n 2, 1) := by decide +kernel
theorem ze_106_16 : z_T g d 106 16 (v0 :: v1 :: .int x :: ls) st h P = z_T g d 106 17 (v0 :: v1 :: .int x :: ls) (.int x :: st) h P := zt_iloadn zi_106_16 rfl rfl
theorem zi_106_17 : z_ins 106 17 = some (.iaload, 1) := by decide +kernel
theorem ze_106_17 : z_T g d 106 17 ls (.int x :: .ref a :: st) h P = z_aL h.1 a z_tI x (fun v => z_T g d 106 18 ls (.int v :: st) h P) := zt_iaload zi_106_17
theorem zi_106_18 : z_ins 106 18 = some (.ifCond .lt 12, 3) := by decide +kernel
theorem ze_106_18 : z_T g d 106 18 ls (.int x :: st) h P = (if x < nI 0 then z_T g d 106 30 ls st h P else z_T g d 106 21 ls st h P) := zt_iflt zi_106_18 (by decide)
theorem zi_106_21 : z_ins 106 21 = some (.aload_n 0, 1) := by decide +kernel
theorem ze_106_21 : z_T g d 106 21 (.ref a :: ls) st h P = z_T g d 106 22 (.ref a :: ls) (.ref a :: st) h P := zt_aloadn zi_106_21 rfl rfl
theorem ze_106_21_n : z_T g d 106 21 (.null :: ls) st h P = z_T g d 106 22 (.null :: ls) (.null :: st) h P := zt_aloadnN zi_106_21 rfl rfl
theorem zi_106_22 : z_ins 106 22 = some (.iload_n 1, 1) := by decide +kernel
theorem ze_106_22 : z_T g d 106 22 (v0 :: .int x :: ls) st h P = z_T g d 106 23 (v0 :: .int x :: ls) (.int x :: st) h P := zt_iloadn zi_106_22 rfl rfl
theorem zi_106_23 : z_ins 106 23 = some (.iload_n 2, 1) := by decide +kernel
theorem ze_106_23 : z_T g d 106 23 (v0 :: v1 :: .int x :: ls) st h P = z_T g d 106 24 (v0 :: v1 :: .int x :: ls) (.int x :: st) h P := zt_iloadn zi_106_23 rfl rfl
theorem zi_106_24 : z_ins 106 24 = some (.iconst 1, 1) := by decide +kernel
theorem ze_106_24 : z_T g d 106 24 ls st h P = z_T g d 106 25 ls (.int (nI 1) :: st) h P := zt_iconst zi_106_24 rfl
theorem zi_106_25 : z_ins 106 25 = some (.iadd, 1) := by decide +kernel
theorem ze_106_25 : z_T g d 106 25 ls (.int y :: .int x :: st) h P = z_T g d 106 26 ls (.int (x + y) :: st) h P := zt_bin (f := fun x y => x + y) zi_106_25 rfl (fun _ _ _ => rfl)
theorem zi_106_26 : z_ins 106 26 = some (.invokevirtual 81, 3) := by decide +kernel
theorem ze_106_26 : z_T g d 106 26 ls (.int x1 :: .int x0 :: .ref a :: st) h P = ((z_okS 8 st = true ∧ z_gO h.1 a 10 ∧ 0 < d) ∧ z_Ca g (d - 1) 106 [.ref a, .int x0, .int x1] h (fun r => z_k r (fun v h' => z_T g d 106 29 ls (z_push v st) h' P) P)) := zt_cV (as := [.int x0, .int x1]) (kk := 0) zi_106_26 rfl (zt_call zj_106 zh_106) (z_opV ((congrArg (fun o => z_lookup z_cns (o, 81)) zo_106).trans zq_cns_LatinRectanglesLaw_Grid_81) ((congrArg (fun o => z_lookup z_prs (o, 81)) zo_106).trans zq_prs_LatinRectanglesLaw_Grid_81)) ((congrArg (fun o => z_clk o 81) zo_106).trans zk_LatinRectanglesLaw_Grid_81) rfl rfl rfl rfl (z_rcv0 zc_106)
theorem zi_106_29 : z_ins 106 29 = some (.ireturn, 1) := by decide +kernel
theorem ze_106_29 : z_T g d 106 29 ls [.int x] h P = ((x = nI 0 ∨ x = nI 1) ∧ P (.inr (some (.int x)), h)) := zt_zreturn zi_106_29 zr_106
theorem zi_106_30 : z_ins 106 30 = some (.iconst 0, 1) := by decide +kernel
theorem ze_106_30 : z_T g d 106 30 ls st h P = z_T g d 106 31 ls (.int (nI 0) :: st) h P := zt_iconst zi_106_30 rfl
theorem zi_106_31 : z_ins 106 31 = some (.istore_n 3, 1) := by decide +kernel
theorem ze_106_31 : z_T g d 106 31 (v0 :: v1 :: v2 :: v3 :: ls) (.int x :: st) h P = z_T g d 106 32 (v0 :: v1 :: v2 :: .int x :: ls) st h P := zt_istoren zi_106_31 rfl (Nat.le_add_left 4 _)
theorem zi_106_32 : z_ins 106 32 = some (.iload_n 3, 1) := by decide +kernel
theorem ze_106_32 : z_T g d 106 32 (v0 :: v1 :: v2 :: .int x :: ls) st h P = z_T g d 106 33 (v0 :: v1 :: v2 :: .int x :: ls) (.int x :: st) h P := zt_iloadn zi_106_32 rfl rfl
theorem zi_106_33 : z_ins 106 33 = some (.aload_n 0, 1) := by decide +kernel
theorem ze_106_33 : z_T g d 106 33 (.ref a :: ls) st h P = z_T g d 106 34 (.ref a :: ls) (.ref a :: st) h P := zt_aloadn zi_106_33 rfl rfl
theorem ze_106_33_n : z_T g d 106 33 (.null :: ls) st h P = z_T g d 106 34 (.null :: ls) (.null :: st) h P := zt_aloadnN zi_106_33 rfl rfl
theorem zi_106_34 : z_ins 106 34 = some (.getfield 13, 3) := by decide +kernel
theorem ze_106_34 : z_T g d 106 34 ls (.ref a :: st) h P = z_gI h.1 a 10 1 (fun x => z_T g d 106 37 ls (.int x :: st) h P) := zt_getI zi_106_34 ((congrArg (fun o => z_fl o 13) zo_106).trans zf_LatinRectanglesLaw_Grid_13)
theorem zi_106_37 : z_ins 106 37 = some (.if_icmp .ge 53, 3) := by decide +kernel
theorem ze_106_37 : z_T g d 106 37 ls (.int y :: .int x :: st) h P = (if x < y then z_T g d 106 40 ls st h P else z_T g d 106 90 ls st h P) := zt_icmpge zi_106_37 (by decide)
theorem zi_106_40 : z_ins 106 40 = some (.aload_n 0, 1) := by decide +kernel
theorem ze_106_40 : z_T g d 106 40 (.ref a :: ls) st h P = z_T g d 106 41 (.ref a :: ls) (.ref a :: st) h P := zt_aloadn zi_106_40 rfl rfl
theorem ze_106_40_n : z_T g d 106 40 (.null :: ls) st h P = z_T g d 106 41 (.null :: ls) (.null :: st) h P := zt_aloadnN zi_106_40 rfl rfl
theorem zi_106_41 : z_ins 106 41 = some (.iload_n 1, 1) := by decide +kernel
theorem ze_106_41 : z_T g d 106 41 (v0 :: .int x :: ls) st h P = z_T g d 106 42 (v0 :: .int x :: ls) (.int x :: st) h P := zt_iloadn zi_106_41 rfl rfl
theorem zi_106_42 : z_ins 106 42 = some (.iload_n 2, 1) := by decide +kernel
theorem ze_106_42 : z_T g d 106 42 (v0 :: v1 :: .int x :: ls) st h P = z_T g d 106 43 (v0 :: v1 :: .int x :: ls) (.int x :: st) h P := zt_iloadn zi_106_42 rfl rfl
theorem zi_106_43 : z_ins 106 43 = some (.iload_n 3, 1) := by decide +kernel
theorem ze_106_43 : z_T g d 106 43 (v0 :: v1 :: v2 :: .int x :: ls) st h P = z_T g d 106 44 (v0 :: v1 :: v2 :: .int x :: ls) (.int x :: st) h P := zt_iloadn zi_106_43 rfl rfl
theorem zi_106_44 : z_ins 106 44 = some (.invokevirtual 31, 3) := by decide +kernel
theorem ze_106_44 : z_T g d 106 44 ls (.int x2 :: .int x1 :: .int x0 :: .ref a :: st) h P = ((z_okS 8 st = true ∧ z_gO h.1 a 10 ∧ 0 < d) ∧ z_Ca g (d - 1) 95 [.ref a, .int x0, .int x1, .int x2] h (fun r => z_k r (fun v h' => z_T g d 106 47 ls (z_push v st) h' P) P)) := zt_cV (as := [.int x0, .int x1, .int x2]) (kk := 0) zi_106_44 rfl (zt_call zj_106 zh_106) (z_opV ((congrArg (fun o => z_lookup z_cns (o, 31)) zo_106).trans zq_cns_LatinRectanglesLaw_Grid_31) ((congrArg (fun o => z_lookup z_prs (o, 31)) zo_106).trans zq_prs_LatinRectanglesLaw_Grid_31)) ((congrArg (fun o => z_clk o 31) zo_106).trans zk_LatinRectanglesLaw_Grid_31) rfl rfl rfl rfl (z_rcv0 zc_95)
theorem zi_106_47 : z_ins 106 47 = some (.ifCond .ne 6, 3) := by decide +kernel
theorem ze_106_47 : z_T g d 106 47 ls (.int x :: st) h P = (if x = nI 0 then z_T g d 106 50 ls st h P else z_T g d 106 53 ls st h P) := zt_ifne zi_106_47 (by decide)
theorem zi_106_50 : z_ins 106 50 = some (.goto 34, 3) := by decide +kernel
theorem ze_106_50 : z_T g d 106 50 ls st h P = z_T g d 106 84 ls st h P := zt_goto zi_106_50 (by decide)
theorem zi_106_53 : z_ins 106 53 = some (.aload_n 0, 1) := by decide +kernel
theorem ze_106_53 : z_T g d 106 53 (.ref a :: ls) st h P = z_T g d 106 54 (.ref a :: ls) (.ref a :: st) h P := zt_aloadn zi_106_53 rfl rfl
theorem ze_106_53_n : z_T g d 106 53 (.null :: ls) st h P = z_T g d 106 54 (.null :: ls) (.null :: st) h P := zt_aloadnN zi_106_53 rfl rfl
theorem zi_106_54 : z_ins 106 54 = some (.getfield 18, 3) := by decide +kernel
theorem ze_106_54 : z_T g d 106 54 ls (.ref a :: st) h P = z_gR h.1 a 10 4 (fun x => z_T g d 106 57 ls (x :: st) h P) := zt_getR zi_106_54 ((congrArg (fun o => z_fl o 18) zo_106).trans zf_LatinRectanglesLaw_Grid_18)
theorem zi_106_57 : z_ins 106 57 = some (.iload_n 1, 1) := by decide +kernel
theorem ze_106_57 : z_T g d 106 57 (v0 :: .int x :: ls) st h P = z_T g d 106 58 (v0 :: .int x :: ls) (.int x :: st) h P := zt_iloadn zi_106_57 rfl rfl
theorem zi_106_58 : z_ins 106 58 = some (.aaload, 1) := by decide +kernel
theorem ze_106_58 : z_T g d 106 58 ls (.int x :: .ref a :: st) h P = z_qL h.1 a x (fun v => z_T g d 106 59 ls (.ref v :: st) h P) := zt_aaload zi_106_58
theorem zi_106_59 : z_ins 106 59 = some (.iload_n 2, 1) := by decide +kernel
theorem ze_106_59 : z_T g d 106 59 (v0 :: v1 :: .int x :: ls) st h P = z_T g d 106 60 (v0 :: v1 :: .int x :: ls) (.int x :: st) h P := zt_iloadn zi_106_59 rfl rfl
theorem zi_106_60 : z_ins 106 60 = some (.iload_n 3, 1) := by decide +kernel
theorem ze_106_60 : z_T g d 106 60 (v0 :: v1 :: v2 :: .int x :: ls) st h P = z_T g d 106 61 (v0 :: v1 :: v2 :: .int x :: ls) (.int x :: st) h P := zt_iloadn zi_106_60 rfl rfl
theorem zi_106_61 : z_ins 106 61 = some (.iastore, 1) := by decide +kernel
theorem ze_106_61 : z_T g d 106 61 ls (.int y :: .int x :: .ref a :: st) h P = z_aS h.1 a z_tI x y (fun f => z_T g d 106 62 ls st (f, h.2) P) := zt_iastore zi_106_61
theorem zi_106_62 : z_ins 106 62 = some (.aload_n 0, 1) := by decide +kernel
theorem ze_106_62 : z_T g d 106 62 (.ref a :: ls) st h P = z_T g d 106 63 (.ref a :: ls) (.ref a :: st) h P := zt_aloadn zi_106_62 rfl rfl
theorem ze_106_62_n : z_T g d 106 62 (.null :: ls) st h P = z_T g d 106 63 (.null :: ls) (.null :: st) h P := zt_aloadnN zi_106_62 rfl rfl
theorem zi_106_63 : z_ins 106 63 = some (.iload_n 1, 1) := by decide +kernel
theorem ze_106_63 : z_T g d 106 63 (v0 :: .int x :: ls) st h P = z_T g d 106 64 (v0 :: .int x :: ls) (.int x :: st) h P := zt_iloadn zi_106_63 rfl rfl
theorem zi_106_64 : z_ins 106 64 = some (.iload_n 2, 1) := by decide +kernel
theorem ze_106_64 : z_T g d 106 64 (v0 :: v1 :: .int x :: ls) st h P = z_T g d 106 65 (v0 :: v1 :: .int x :: ls) (.int x :: st) h P := zt_iloadn zi_106_64 rfl rfl
theorem zi_106_65 : z_ins 106 65 = some (.iconst 1, 1) := by decide +kernel
theorem ze_106_65 : z_T g d 106 65 ls st h P = z_T g d 106 66 ls (.int (nI 1) :: st) h P := zt_iconst zi_106_65 rfl
theorem zi_106_66 : z_ins 106 66 = some (.iadd, 1) := by decide +kernel
theorem ze_106_66 : z_T g d 106 66 ls (.int y :: .int x :: st) h P = z_T g d 106 67 ls (.int (x + y) :: st) h P := zt_bin (f := fun x y => x + y) zi_106_66 rfl (fun _ _ _ => rfl)
theorem zi_106_67 : z_ins 106 67 = some (.invokevirtual 81, 3) := by decide +kernel
theorem ze_106_67 : z_T g d 106 67 ls (.int x1 :: .int x0 :: .ref a :: st) h P = ((z_okS 8 st = true ∧ z_gO h.1 a 10 ∧ 0 < d) ∧ z_Ca g (d - 1) 106 [.ref a, .int x0, .int x1] h (fun r => z_k r (fun v h' => z_T g d 106 70 ls (z_push v st) h' P) P)) := zt_cV (as := [.int x0, .int x1]) (kk := 0) zi_106_67 rfl (zt_call zj_106 zh_106) (z_opV ((congrArg (fun o => z_lookup z_cns (o, 81)) zo_106).trans zq_cns_LatinRectanglesLaw_Grid_81) ((congrArg (fun o => z_lookup z_prs (o, 81)) zo_106).trans zq_prs_LatinRectanglesLaw_Grid_81)) ((congrArg (fun o => z_clk o 81) zo_106).trans zk_LatinRectanglesLaw_Grid_81) rfl rfl rfl rfl (z_rcv0 zc_106)
theorem zi_106_70 : z_ins 106 70 = some (.ifCond .eq 5, 3) := by decide +kernel
theorem ze_106_70 : z_T g d 106 70 ls (.int x :: st) h P = (if x = nI 0 then z_T g d 106 75 ls st h P else z_T g d 106 73 ls st h P) := zt_ifeq zi_106_70 (by decide)
theorem zi_106_73 : z_ins 106 73 = some (.iconst 1, 1) := by decide +kernel
theorem ze_106_73 : z_T g d 106 73 ls st h P = z_T g d 106 74 ls (.int (nI 1) :: st) h P := zt_iconst zi_106_73 rfl
theorem zi_106_74 : z_ins 106 74 = some (.ireturn, 1) := by decide +kernel
theorem ze_106_74 : z_T g d 106 74 ls [.int x] h P = ((x = nI 0 ∨ x = nI 1) ∧ P (.inr (some (.int x)), h)) := zt_zreturn zi_106_74 zr_106
theorem zi_106_75 : z_ins 106 75 = some (.aload_n 0, 1) := by decide +kernel
theorem ze_106_75 : z_T g d 106 75 (.ref a :: ls) st h P = z_T g d 106 76 (.ref a :: ls) (.ref a :: st) h P := zt_aloadn zi_106_75 rfl rfl
theorem ze_106_75_n : z_T g d 106 75 (.null :: ls) st h P = z_T g d 106 76 (.null :: ls) (.null :: st) h P := zt_aloadnN zi_106_75 rfl rfl
theorem zi_106_76 : z_ins 106 76 = some (.getfield 18, 3) := by decide +kernel
theorem ze_106_76 : z_T g d 106 76 ls (.ref a :: st) h P = z_gR h.1 a 10 4 (fun x => z_T g d 106 79 ls (x :: st) h P) := zt_getR zi_106_76 ((congrArg (fun o => z_fl o 18) zo_106).trans zf_LatinRectanglesLaw_Grid_18)
theorem zi_106_79 : z_ins 106 79 = some (.iload_n 1, 1) := by decide +kernel
theorem ze_106_79 : z_T g d 106 79 (v0 :: .int x :: ls) st h P = z_T g d 106 80 (v0 :: .int x :: ls) (.int x :: st) h P := zt_iloadn zi_106_79 rfl rfl
theorem zi_106_80 : z_ins 106 80 = some (.aaload, 1) := by decide +kernel
theorem ze_106_80 : z_T g d 106 80 ls (.int x :: .ref a :: st) h P = z_qL h.1 a x (fun v => z_T g d 106 81 ls (.ref v :: st) h P) := zt_aaload zi_106_80
theorem zi_106_81 : z_ins 106 81 = some (.iload_n 2, 1) := by decide +kernel
theorem ze_106_81 : z_T g d 106 81 (v0 :: v1 :: .int x :: ls) st h P = z_T g d 106 82 (v0 :: v1 :: .int x :: ls) (.int x :: st) h P := zt_iloadn zi_106_81 rfl rfl
theorem zi_106_82 : z_ins 106 82 = some (.iconst (-1), 1) := by decide +kernel
theorem ze_106_82 : z_T g d 106 82 ls st h P = z_T g d 106 83 ls (.int (-1) :: st) h P := zt_iconst zi_106_82 rfl
theorem zi_106_83 : z_ins 106 83 = some (.iastore, 1) := by decide +kernel
theorem ze_106_83 : z_T g d 106 83 ls (.int y :: .int x :: .ref a :: st) h P = z_aS h.1 a z_tI x y (fun f => z_T g d 106 84 ls st (f, h.2) P) := zt_iastore zi_106_83
theorem zi_106_84 : z_ins 106 84 = some (.iinc 3 1, 3) := by decide +kernel
theorem ze_106_84 : z_T g d 106 84 (v0 :: v1 :: v2 :: .int x :: ls) st h P = z_T g d 106 87 (v0 :: v1 :: v2 :: .int (x + (nI 1)) :: ls) st h P := zt_iinc zi_106_84 rfl rfl
theorem zi_106_87 : z_ins 106 87 = some (.goto (-55), 3) := by decide +kernel
theorem ze_106_87 : z_T g d 106 87 ls st h P = z_T g d 106 32 ls st h P := zt_goto zi_106_87 (by decide)
theorem zi_106_90 : z_ins 106 90 = some (.iconst 0, 1) := by decide +kernel
theorem ze_106_90 : z_T g d 106 90 ls st h P = z_T g d 106 91 ls (.int (nI 0) :: st) h P := zt_iconst zi_106_90 rfl
theorem zi_106_91 : z_ins 106 91 = some (.ireturn, 1) := by decide +kernel
theorem ze_106_91 : z_T g d 106 91 ls [.int x] h P = ((x = nI 0 ∨ x = nI 1) ∧ P (.inr (some (.int x)), h)) := zt_zreturn zi_106_91 zr_106
end
