section
variable {g : z_G} {d : Nat} {h : z_H} {P : z_Res → Prop} {ls st : List Value} {v0 v1 v2 v3 v4 v5 v6 v7 v8 v9 v10 v11 : Value} {x y x0 x1 x2 x3 x4 x5 x6 : Int32} {u w : Int64} {a b a0 a1 a2 a3 a4 a5 k0 k1 : Nat}
-- LatinRectangles$Completions.<init>(LLatinRectangles$Grid;)V
theorem zo_0 : z_own 0 = "LatinRectangles$Completions" := by decide +kernel
theorem zm_0 : z_maxL 0 = 2 := by decide +kernel
theorem zh_0 : z_hds 0 = [] := by decide +kernel
theorem zr_0 : z_rt 0 = none := by decide +kernel
theorem zn_0 : z_Ca g d 0 [.ref a0, .ref a1] h P = z_T g d 0 0 [.ref a0, .ref a1] [] h P := z_Ca_ent zm_0 rfl rfl
theorem zi_0_0 : z_ins 0 0 = some (.aload_n 0, 1) := by decide +kernel
theorem ze_0_0 : z_T g d 0 0 (.ref a :: ls) st h P = z_T g d 0 1 (.ref a :: ls) (.ref a :: st) h P := zt_aloadn zi_0_0 rfl rfl
theorem zi_0_1 : z_ins 0 1 = some (.invokespecial 3, 3) := by decide +kernel
theorem ze_0_1 : z_T g d 0 1 ls (.ref a :: st) h P = (z_okS 8 st = true ∧ z_T g d 0 4 ls st h P) := zt_objInit zi_0_1 ((congrArg (fun o => z_lookup z_ois (o, 3)) zo_0).trans zq_LatinRectangles_Completions_3)
theorem zi_0_4 : z_ins 0 4 = some (.aload_n 0, 1) := by decide +kernel
theorem ze_0_4 : z_T g d 0 4 (.ref a :: ls) st h P = z_T g d 0 5 (.ref a :: ls) (.ref a :: st) h P := zt_aloadn zi_0_4 rfl rfl
theorem zi_0_5 : z_ins 0 5 = some (.new 9, 3) := by decide +kernel
theorem ze_0_5 : z_T g d 0 5 ls st h P = z_nO h 3 10 [.null, .null, .null, .null, .null, .int 0, .int 0, .int 0, .int 0, .int 0] (fun q h' => z_T g d 0 8 ls (.ref q :: st) h' P) := zt_new zi_0_5 (by decide +kernel)
theorem zi_0_8 : z_ins 0 8 = some (.dup, 1) := by decide +kernel
theorem ze_0_8 : z_T g d 0 8 ls (.ref a :: st) h P = z_T g d 0 9 ls (.ref a :: .ref a :: st) h P := zt_dupR zi_0_8
theorem ze_0_8_i : z_T g d 0 8 ls (.int x :: st) h P = z_T g d 0 9 ls (.int x :: .int x :: st) h P := zt_dupI zi_0_8
theorem zi_0_9 : z_ins 0 9 = some (.invokespecial 11, 3) := by decide +kernel
theorem ze_0_9 : z_T g d 0 9 ls (.ref a :: st) h P = ((z_okS 8 st = true ∧ 0 < d) ∧ z_Ca g (d - 1) 27 [.ref a] h (fun r => z_k r (fun v h' => z_T g d 0 12 ls (z_push v st) h' P) P)) := zt_callI (as := []) zi_0_9 ((congrArg (fun o => z_lookup z_ois (o, 11)) zo_0).trans zp_LatinRectangles_Completions_11) ((congrArg (fun o => z_clk o 11) zo_0).trans zk_LatinRectangles_Completions_11) (by decide) zh_0 rfl rfl rfl
theorem zi_0_12 : z_ins 0 12 = some (.putfield 12, 3) := by decide +kernel
theorem ze_0_12 : z_T g d 0 12 ls (.ref b :: .ref a :: st) h P = z_pF h.1 a 0 1 (.ref b) (fun f => z_T g d 0 15 ls st (f, h.2) P) := zt_putR zi_0_12 ((congrArg (fun o => z_fl o 12) zo_0).trans zf_LatinRectangles_Completions_12) (by decide +kernel)
theorem zi_0_15 : z_ins 0 15 = some (.aload_n 0, 1) := by decide +kernel
theorem ze_0_15 : z_T g d 0 15 (.ref a :: ls) st h P = z_T g d 0 16 (.ref a :: ls) (.ref a :: st) h P := zt_aloadn zi_0_15 rfl rfl
theorem zi_0_16 : z_ins 0 16 = some (.bipush 25, 2) := by decide +kernel
theorem ze_0_16 : z_T g d 0 16 ls st h P = z_T g d 0 18 ls (.int (nI 25) :: st) h P := zt_bipush zi_0_16 rfl
theorem zi_0_18 : z_ins 0 18 = some (.newarray .int, 2) := by decide +kernel
theorem ze_0_18 : z_T g d 0 18 ls (.int x :: st) h P = z_nA h .int x (fun q h' => z_T g d 0 20 ls (.ref q :: st) h' P) := zt_newarray zi_0_18
theorem zi_0_20 : z_ins 0 20 = some (.putfield 18, 3) := by decide +kernel
theorem ze_0_20 : z_T g d 0 20 ls (.ref b :: .ref a :: st) h P = z_pF h.1 a 0 2 (.ref b) (fun f => z_T g d 0 23 ls st (f, h.2) P) := zt_putR zi_0_20 ((congrArg (fun o => z_fl o 18) zo_0).trans zf_LatinRectangles_Completions_18) (by decide +kernel)
theorem zi_0_23 : z_ins 0 23 = some (.aload_n 0, 1) := by decide +kernel
theorem ze_0_23 : z_T g d 0 23 (.ref a :: ls) st h P = z_T g d 0 24 (.ref a :: ls) (.ref a :: st) h P := zt_aloadn zi_0_23 rfl rfl
theorem zi_0_24 : z_ins 0 24 = some (.aload_n 1, 1) := by decide +kernel
theorem ze_0_24 : z_T g d 0 24 (v0 :: .ref a :: ls) st h P = z_T g d 0 25 (v0 :: .ref a :: ls) (.ref a :: st) h P := zt_aloadn zi_0_24 rfl rfl
theorem zi_0_25 : z_ins 0 25 = some (.putfield 22, 3) := by decide +kernel
theorem ze_0_25 : z_T g d 0 25 ls (.ref b :: .ref a :: st) h P = z_pF h.1 a 0 0 (.ref b) (fun f => z_T g d 0 28 ls st (f, h.2) P) := zt_putR zi_0_25 ((congrArg (fun o => z_fl o 22) zo_0).trans zf_LatinRectangles_Completions_22) (by decide +kernel)
theorem zi_0_28 : z_ins 0 28 = some (.return_, 1) := by decide +kernel
theorem ze_0_28 : z_T g d 0 28 ls [] h P = P (.inr none, h) := zt_return zi_0_28 zr_0
-- LatinRectangles$Completions.count(I)I
theorem zo_1 : z_own 1 = "LatinRectangles$Completions" := by decide +kernel
theorem zm_1 : z_maxL 1 = 2 := by decide +kernel
theorem zh_1 : z_hds 1 = [] := by decide +kernel
theorem zr_1 : z_rt 1 = (some .int) := by decide +kernel
theorem zn_1 : z_Ca g d 1 [.ref a0, .int x1] h P = z_T g d 1 0 [.ref a0, .int x1] [] h P := z_Ca_ent zm_1 rfl rfl
theorem zi_1_0 : z_ins 1 0 = some (.aload_n 0, 1) := by decide +kernel
theorem ze_1_0 : z_T g d 1 0 (.ref a :: ls) st h P = z_T g d 1 1 (.ref a :: ls) (.ref a :: st) h P := zt_aloadn zi_1_0 rfl rfl
theorem zi_1_1 : z_ins 1 1 = some (.getfield 12, 3) := by decide +kernel
theorem ze_1_1 : z_T g d 1 1 ls (.ref a :: st) h P = z_gR h.1 a 0 1 (fun x => z_T g d 1 4 ls (.ref x :: st) h P) := zt_getR zi_1_1 ((congrArg (fun o => z_fl o 12) zo_1).trans zf_LatinRectangles_Completions_12)
theorem zi_1_4 : z_ins 1 4 = some (.aload_n 0, 1) := by decide +kernel
theorem ze_1_4 : z_T g d 1 4 (.ref a :: ls) st h P = z_T g d 1 5 (.ref a :: ls) (.ref a :: st) h P := zt_aloadn zi_1_4 rfl rfl
theorem zi_1_5 : z_ins 1 5 = some (.getfield 22, 3) := by decide +kernel
theorem ze_1_5 : z_T g d 1 5 ls (.ref a :: st) h P = z_gR h.1 a 0 0 (fun x => z_T g d 1 8 ls (.ref x :: st) h P) := zt_getR zi_1_5 ((congrArg (fun o => z_fl o 22) zo_1).trans zf_LatinRectangles_Completions_22)
theorem zi_1_8 : z_ins 1 8 = some (.invokevirtual 25, 3) := by decide +kernel
theorem ze_1_8 : z_T g d 1 8 ls (.ref a0 :: .ref a :: st) h P = ((z_okS 8 st = true ∧ z_gO h.1 a 3 ∧ 0 < d) ∧ z_Ca g (d - 1) 30 [.ref a, .ref a0] h (fun r => z_k r (fun v h' => z_T g d 1 11 ls (z_push v st) h' P) P)) := zt_callV (as := [.ref a0]) zi_1_8 ((congrArg (fun o => z_lookup z_prs (o, 25)) zo_1).trans zp_LatinRectangles_Completions_25) ((congrArg (fun o => z_clk o 25) zo_1).trans zk_LatinRectangles_Completions_25) zh_1 zc_30 rfl rfl rfl
theorem zi_1_11 : z_ins 1 11 = some (.aload_n 0, 1) := by decide +kernel
theorem ze_1_11 : z_T g d 1 11 (.ref a :: ls) st h P = z_T g d 1 12 (.ref a :: ls) (.ref a :: st) h P := zt_aloadn zi_1_11 rfl rfl
theorem zi_1_12 : z_ins 1 12 = some (.iload_n 1, 1) := by decide +kernel
theorem ze_1_12 : z_T g d 1 12 (v0 :: .int x :: ls) st h P = z_T g d 1 13 (v0 :: .int x :: ls) (.int x :: st) h P := zt_iloadn zi_1_12 rfl rfl
theorem zi_1_13 : z_ins 1 13 = some (.invokevirtual 29, 3) := by decide +kernel
theorem ze_1_13 : z_T g d 1 13 ls (.int x0 :: .ref a :: st) h P = ((z_okS 8 st = true ∧ z_gO h.1 a 0 ∧ 0 < d) ∧ z_Ca g (d - 1) 5 [.ref a, .int x0] h (fun r => z_k r (fun v h' => z_T g d 1 16 ls (z_push v st) h' P) P)) := zt_callV (as := [.int x0]) zi_1_13 ((congrArg (fun o => z_lookup z_prs (o, 29)) zo_1).trans zp_LatinRectangles_Completions_29) ((congrArg (fun o => z_clk o 29) zo_1).trans zk_LatinRectangles_Completions_29) zh_1 zc_5 rfl rfl rfl
theorem zi_1_16 : z_ins 1 16 = some (.ireturn, 1) := by decide +kernel
theorem ze_1_16 : z_T g d 1 16 ls [.int x] h P = P (.inr (some (.int x)), h) := zt_ireturn zi_1_16 zr_1
-- LatinRectangles$Completions.firstSymbol(II)I
theorem zo_2 : z_own 2 = "LatinRectangles$Completions" := by decide +kernel
theorem zm_2 : z_maxL 2 = 5 := by decide +kernel
theorem zh_2 : z_hds 2 = [] := by decide +kernel
theorem zr_2 : z_rt 2 = (some .int) := by decide +kernel
theorem zn_2 : z_Ca g d 2 [.ref a0, .int x1, .int x2] h P = z_T g d 2 0 [.ref a0, .int x1, .int x2, z_un, z_un] [] h P := z_Ca_ent zm_2 rfl rfl
theorem zi_2_0 : z_ins 2 0 = some (.aload_n 0, 1) := by decide +kernel
theorem ze_2_0 : z_T g d 2 0 (.ref a :: ls) st h P = z_T g d 2 1 (.ref a :: ls) (.ref a :: st) h P := zt_aloadn zi_2_0 rfl rfl
theorem zi_2_1 : z_ins 2 1 = some (.getfield 12, 3) := by decide +kernel
theorem ze_2_1 : z_T g d 2 1 ls (.ref a :: st) h P = z_gR h.1 a 0 1 (fun x => z_T g d 2 4 ls (.ref x :: st) h P) := zt_getR zi_2_1 ((congrArg (fun o => z_fl o 12) zo_2).trans zf_LatinRectangles_Completions_12)
theorem zi_2_4 : z_ins 2 4 = some (.aload_n 0, 1) := by decide +kernel
theorem ze_2_4 : z_T g d 2 4 (.ref a :: ls) st h P = z_T g d 2 5 (.ref a :: ls) (.ref a :: st) h P := zt_aloadn zi_2_4 rfl rfl
theorem zi_2_5 : z_ins 2 5 = some (.getfield 22, 3) := by decide +kernel
theorem ze_2_5 : z_T g d 2 5 ls (.ref a :: st) h P = z_gR h.1 a 0 0 (fun x => z_T g d 2 8 ls (.ref x :: st) h P) := zt_getR zi_2_5 ((congrArg (fun o => z_fl o 22) zo_2).trans zf_LatinRectangles_Completions_22)
theorem zi_2_8 : z_ins 2 8 = some (.invokevirtual 25, 3) := by decide +kernel
theorem ze_2_8 : z_T g d 2 8 ls (.ref a0 :: .ref a :: st) h P = ((z_okS 8 st = true ∧ z_gO h.1 a 3 ∧ 0 < d) ∧ z_Ca g (d - 1) 30 [.ref a, .ref a0] h (fun r => z_k r (fun v h' => z_T g d 2 11 ls (z_push v st) h' P) P)) := zt_callV (as := [.ref a0]) zi_2_8 ((congrArg (fun o => z_lookup z_prs (o, 25)) zo_2).trans zp_LatinRectangles_Completions_25) ((congrArg (fun o => z_clk o 25) zo_2).trans zk_LatinRectangles_Completions_25) zh_2 zc_30 rfl rfl rfl
theorem zi_2_11 : z_ins 2 11 = some (.aload_n 0, 1) := by decide +kernel
theorem ze_2_11 : z_T g d 2 11 (.ref a :: ls) st h P = z_T g d 2 12 (.ref a :: ls) (.ref a :: st) h P := zt_aloadn zi_2_11 rfl rfl
theorem zi_2_12 : z_ins 2 12 = some (.iconst 1, 1) := by decide +kernel
theorem ze_2_12 : z_T g d 2 12 ls st h P = z_T g d 2 13 ls (.int (nI 1) :: st) h P := zt_iconst zi_2_12 rfl
theorem zi_2_13 : z_ins 2 13 = some (.invokevirtual 29, 3) := by decide +kernel
theorem ze_2_13 : z_T g d 2 13 ls (.int x0 :: .ref a :: st) h P = ((z_okS 8 st = true ∧ z_gO h.1 a 0 ∧ 0 < d) ∧ z_Ca g (d - 1) 5 [.ref a, .int x0] h (fun r => z_k r (fun v h' => z_T g d 2 16 ls (z_push v st) h' P) P)) := zt_callV (as := [.int x0]) zi_2_13 ((congrArg (fun o => z_lookup z_prs (o, 29)) zo_2).trans zp_LatinRectangles_Completions_29) ((congrArg (fun o => z_clk o 29) zo_2).trans zk_LatinRectangles_Completions_29) zh_2 zc_5 rfl rfl rfl
theorem zi_2_16 : z_ins 2 16 = some (.ifCond .ne 5, 3) := by decide +kernel
theorem ze_2_16 : z_T g d 2 16 ls (.int x :: st) h P = (if x = nI 0 then z_T g d 2 19 ls st h P else z_T g d 2 21 ls st h P) := zt_ifne zi_2_16 (by decide)
theorem zi_2_19 : z_ins 2 19 = some (.iconst (-1), 1) := by decide +kernel
theorem ze_2_19 : z_T g d 2 19 ls st h P = z_T g d 2 20 ls (.int (-1) :: st) h P := zt_iconst zi_2_19 rfl
theorem zi_2_20 : z_ins 2 20 = some (.ireturn, 1) := by decide +kernel
theorem ze_2_20 : z_T g d 2 20 ls [.int x] h P = P (.inr (some (.int x)), h) := zt_ireturn zi_2_20 zr_2
theorem zi_2_21 : z_ins 2 21 = some (.iload_n 1, 1) := by decide +kernel
theorem ze_2_21 : z_T g d 2 21 (v0 :: .int x :: ls) st h P = z_T g d 2 22 (v0 :: .int x :: ls) (.int x :: st) h P := zt_iloadn zi_2_21 rfl rfl
theorem zi_2_22 : z_ins 2 22 = some (.iconst 5, 1) := by decide +kernel
theorem ze_2_22 : z_T g d 2 22 ls st h P = z_T g d 2 23 ls (.int (nI 5) :: st) h P := zt_iconst zi_2_22 rfl
theorem zi_2_23 : z_ins 2 23 = some (.imul, 1) := by decide +kernel
theorem ze_2_23 : z_T g d 2 23 ls (.int y :: .int x :: st) h P = z_T g d 2 24 ls (.int (x * y) :: st) h P := zt_bin (f := fun x y => x * y) zi_2_23 rfl (fun _ _ _ => rfl)
theorem zi_2_24 : z_ins 2 24 = some (.iload_n 2, 1) := by decide +kernel
theorem ze_2_24 : z_T g d 2 24 (v0 :: v1 :: .int x :: ls) st h P = z_T g d 2 25 (v0 :: v1 :: .int x :: ls) (.int x :: st) h P := zt_iloadn zi_2_24 rfl rfl
theorem zi_2_25 : z_ins 2 25 = some (.iadd, 1) := by decide +kernel
theorem ze_2_25 : z_T g d 2 25 ls (.int y :: .int x :: st) h P = z_T g d 2 26 ls (.int (x + y) :: st) h P := zt_bin (f := fun x y => x + y) zi_2_25 rfl (fun _ _ _ => rfl)
theorem zi_2_26 : z_ins 2 26 = some (.istore_n 3, 1) := by decide +kernel
theorem ze_2_26 : z_T g d 2 26 (v0 :: v1 :: v2 :: v3 :: ls) (.int x :: st) h P = z_T g d 2 27 (v0 :: v1 :: v2 :: .int x :: ls) st h P := zt_istoren zi_2_26 rfl (Nat.le_add_left 4 _)
theorem zi_2_27 : z_ins 2 27 = some (.iconst 0, 1) := by decide +kernel
theorem ze_2_27 : z_T g d 2 27 ls st h P = z_T g d 2 28 ls (.int (nI 0) :: st) h P := zt_iconst zi_2_27 rfl
theorem zi_2_28 : z_ins 2 28 = some (.istore 4, 2) := by decide +kernel
theorem ze_2_28 : z_T g d 2 28 (v0 :: v1 :: v2 :: v3 :: v4 :: ls) (.int x :: st) h P = z_T g d 2 30 (v0 :: v1 :: v2 :: v3 :: .int x :: ls) st h P := zt_istore zi_2_28 (Nat.le_add_left 5 _)
theorem zi_2_30 : z_ins 2 30 = some (.iload 4, 2) := by decide +kernel
theorem ze_2_30 : z_T g d 2 30 (v0 :: v1 :: v2 :: v3 :: .int x :: ls) st h P = z_T g d 2 32 (v0 :: v1 :: v2 :: v3 :: .int x :: ls) (.int x :: st) h P := zt_iload zi_2_30 rfl
theorem zi_2_32 : z_ins 2 32 = some (.iload_n 3, 1) := by decide +kernel
theorem ze_2_32 : z_T g d 2 32 (v0 :: v1 :: v2 :: .int x :: ls) st h P = z_T g d 2 33 (v0 :: v1 :: v2 :: .int x :: ls) (.int x :: st) h P := zt_iloadn zi_2_32 rfl rfl
theorem zi_2_33 : z_ins 2 33 = some (.if_icmp .gt 49, 3) := by decide +kernel
theorem ze_2_33 : z_T g d 2 33 ls (.int y :: .int x :: st) h P = (if y < x then z_T g d 2 82 ls st h P else z_T g d 2 36 ls st h P) := zt_icmpgt zi_2_33 (by decide)
theorem zi_2_36 : z_ins 2 36 = some (.iload 4, 2) := by decide +kernel
theorem ze_2_36 : z_T g d 2 36 (v0 :: v1 :: v2 :: v3 :: .int x :: ls) st h P = z_T g d 2 38 (v0 :: v1 :: v2 :: v3 :: .int x :: ls) (.int x :: st) h P := zt_iload zi_2_36 rfl
theorem zi_2_38 : z_ins 2 38 = some (.iconst 5, 1) := by decide +kernel
theorem ze_2_38 : z_T g d 2 38 ls st h P = z_T g d 2 39 ls (.int (nI 5) :: st) h P := zt_iconst zi_2_38 rfl
theorem zi_2_39 : z_ins 2 39 = some (.irem, 1) := by decide +kernel
theorem ze_2_39 : z_T g d 2 39 ls (.int y :: .int x :: st) h P = (¬ y = nI 0 ∧ z_T g d 2 40 ls (.int (x - x / y * y) :: st) h P) := zt_irem zi_2_39
theorem zi_2_40 : z_ins 2 40 = some (.aload_n 0, 1) := by decide +kernel
theorem ze_2_40 : z_T g d 2 40 (.ref a :: ls) st h P = z_T g d 2 41 (.ref a :: ls) (.ref a :: st) h P := zt_aloadn zi_2_40 rfl rfl
theorem zi_2_41 : z_ins 2 41 = some (.getfield 12, 3) := by decide +kernel
theorem ze_2_41 : z_T g d 2 41 ls (.ref a :: st) h P = z_gR h.1 a 0 1 (fun x => z_T g d 2 44 ls (.ref x :: st) h P) := zt_getR zi_2_41 ((congrArg (fun o => z_fl o 12) zo_2).trans zf_LatinRectangles_Completions_12)
theorem zi_2_44 : z_ins 2 44 = some (.getfield 33, 3) := by decide +kernel
theorem ze_2_44 : z_T g d 2 44 ls (.ref a :: st) h P = z_gI h.1 a 3 6 (fun x => z_T g d 2 47 ls (.int x :: st) h P) := zt_getI zi_2_44 ((congrArg (fun o => z_fl o 33) zo_2).trans zf_LatinRectangles_Completions_33)
theorem zi_2_47 : z_ins 2 47 = some (.if_icmp .ge 29, 3) := by decide +kernel
theorem ze_2_47 : z_T g d 2 47 ls (.int y :: .int x :: st) h P = (if x < y then z_T g d 2 50 ls st h P else z_T g d 2 76 ls st h P) := zt_icmpge zi_2_47 (by decide)
theorem zi_2_50 : z_ins 2 50 = some (.aload_n 0, 1) := by decide +kernel
theorem ze_2_50 : z_T g d 2 50 (.ref a :: ls) st h P = z_T g d 2 51 (.ref a :: ls) (.ref a :: st) h P := zt_aloadn zi_2_50 rfl rfl
theorem zi_2_51 : z_ins 2 51 = some (.getfield 12, 3) := by decide +kernel
theorem ze_2_51 : z_T g d 2 51 ls (.ref a :: st) h P = z_gR h.1 a 0 1 (fun x => z_T g d 2 54 ls (.ref x :: st) h P) := zt_getR zi_2_51 ((congrArg (fun o => z_fl o 12) zo_2).trans zf_LatinRectangles_Completions_12)
theorem zi_2_54 : z_ins 2 54 = some (.getfield 37, 3) := by decide +kernel
theorem ze_2_54 : z_T g d 2 54 ls (.ref a :: st) h P = z_gR h.1 a 3 0 (fun x => z_T g d 2 57 ls (.ref x :: st) h P) := zt_getR zi_2_54 ((congrArg (fun o => z_fl o 37) zo_2).trans zf_LatinRectangles_Completions_37)
theorem zi_2_57 : z_ins 2 57 = some (.iload 4, 2) := by decide +kernel
theorem ze_2_57 : z_T g d 2 57 (v0 :: v1 :: v2 :: v3 :: .int x :: ls) st h P = z_T g d 2 59 (v0 :: v1 :: v2 :: v3 :: .int x :: ls) (.int x :: st) h P := zt_iload zi_2_57 rfl
theorem zi_2_59 : z_ins 2 59 = some (.iaload, 1) := by decide +kernel
theorem ze_2_59 : z_T g d 2 59 ls (.int x :: .ref a :: st) h P = z_aL h.1 a z_tI x (fun v => z_T g d 2 60 ls (.int v :: st) h P) := zt_iaload zi_2_59
theorem zi_2_60 : z_ins 2 60 = some (.iconst (-1), 1) := by decide +kernel
theorem ze_2_60 : z_T g d 2 60 ls st h P = z_T g d 2 61 ls (.int (-1) :: st) h P := zt_iconst zi_2_60 rfl
theorem zi_2_61 : z_ins 2 61 = some (.if_icmp .ne 15, 3) := by decide +kernel
theorem ze_2_61 : z_T g d 2 61 ls (.int y :: .int x :: st) h P = (if x = y then z_T g d 2 64 ls st h P else z_T g d 2 76 ls st h P) := zt_icmpne zi_2_61 (by decide)
theorem zi_2_64 : z_ins 2 64 = some (.aload_n 0, 1) := by decide +kernel
theorem ze_2_64 : z_T g d 2 64 (.ref a :: ls) st h P = z_T g d 2 65 (.ref a :: ls) (.ref a :: st) h P := zt_aloadn zi_2_64 rfl rfl
theorem zi_2_65 : z_ins 2 65 = some (.iload 4, 2) := by decide +kernel
theorem ze_2_65 : z_T g d 2 65 (v0 :: v1 :: v2 :: v3 :: .int x :: ls) st h P = z_T g d 2 67 (v0 :: v1 :: v2 :: v3 :: .int x :: ls) (.int x :: st) h P := zt_iload zi_2_65 rfl
theorem zi_2_67 : z_ins 2 67 = some (.iconst 5, 1) := by decide +kernel
theorem ze_2_67 : z_T g d 2 67 ls st h P = z_T g d 2 68 ls (.int (nI 5) :: st) h P := zt_iconst zi_2_67 rfl
theorem zi_2_68 : z_ins 2 68 = some (.idiv, 1) := by decide +kernel
theorem ze_2_68 : z_T g d 2 68 ls (.int y :: .int x :: st) h P = (¬ y = nI 0 ∧ z_T g d 2 69 ls (.int (x / y) :: st) h P) := zt_idiv zi_2_68
theorem zi_2_69 : z_ins 2 69 = some (.iload 4, 2) := by decide +kernel
theorem ze_2_69 : z_T g d 2 69 (v0 :: v1 :: v2 :: v3 :: .int x :: ls) st h P = z_T g d 2 71 (v0 :: v1 :: v2 :: v3 :: .int x :: ls) (.int x :: st) h P := zt_iload zi_2_69 rfl
theorem zi_2_71 : z_ins 2 71 = some (.iconst 5, 1) := by decide +kernel
theorem ze_2_71 : z_T g d 2 71 ls st h P = z_T g d 2 72 ls (.int (nI 5) :: st) h P := zt_iconst zi_2_71 rfl
theorem zi_2_72 : z_ins 2 72 = some (.irem, 1) := by decide +kernel
theorem ze_2_72 : z_T g d 2 72 ls (.int y :: .int x :: st) h P = (¬ y = nI 0 ∧ z_T g d 2 73 ls (.int (x - x / y * y) :: st) h P) := zt_irem zi_2_72
theorem zi_2_73 : z_ins 2 73 = some (.invokevirtual 40, 3) := by decide +kernel
theorem ze_2_73 : z_T g d 2 73 ls (.int x1 :: .int x0 :: .ref a :: st) h P = ((z_okS 8 st = true ∧ z_gO h.1 a 0 ∧ 0 < d) ∧ z_Ca g (d - 1) 4 [.ref a, .int x0, .int x1] h (fun r => z_k r (fun v h' => z_T g d 2 76 ls (z_push v st) h' P) P)) := zt_callV (as := [.int x0, .int x1]) zi_2_73 ((congrArg (fun o => z_lookup z_prs (o, 40)) zo_2).trans zp_LatinRectangles_Completions_40) ((congrArg (fun o => z_clk o 40) zo_2).trans zk_LatinRectangles_Completions_40) zh_2 zc_4 rfl rfl rfl
theorem zi_2_76 : z_ins 2 76 = some (.iinc 4 1, 3) := by decide +kernel
theorem ze_2_76 : z_T g d 2 76 (v0 :: v1 :: v2 :: v3 :: .int x :: ls) st h P = z_T g d 2 79 (v0 :: v1 :: v2 :: v3 :: .int (x + (nI 1)) :: ls) st h P := zt_iinc zi_2_76 rfl rfl
theorem zi_2_79 : z_ins 2 79 = some (.goto (-49), 3) := by decide +kernel
theorem ze_2_79 : z_T g d 2 79 ls st h P = z_T g d 2 30 ls st h P := zt_goto zi_2_79 (by decide)
theorem zi_2_82 : z_ins 2 82 = some (.aload_n 0, 1) := by decide +kernel
theorem ze_2_82 : z_T g d 2 82 (.ref a :: ls) st h P = z_T g d 2 83 (.ref a :: ls) (.ref a :: st) h P := zt_aloadn zi_2_82 rfl rfl
theorem zi_2_83 : z_ins 2 83 = some (.getfield 12, 3) := by decide +kernel
theorem ze_2_83 : z_T g d 2 83 ls (.ref a :: st) h P = z_gR h.1 a 0 1 (fun x => z_T g d 2 86 ls (.ref x :: st) h P) := zt_getR zi_2_83 ((congrArg (fun o => z_fl o 12) zo_2).trans zf_LatinRectangles_Completions_12)
theorem zi_2_86 : z_ins 2 86 = some (.getfield 37, 3) := by decide +kernel
theorem ze_2_86 : z_T g d 2 86 ls (.ref a :: st) h P = z_gR h.1 a 3 0 (fun x => z_T g d 2 89 ls (.ref x :: st) h P) := zt_getR zi_2_86 ((congrArg (fun o => z_fl o 37) zo_2).trans zf_LatinRectangles_Completions_37)
theorem zi_2_89 : z_ins 2 89 = some (.iload_n 3, 1) := by decide +kernel
theorem ze_2_89 : z_T g d 2 89 (v0 :: v1 :: v2 :: .int x :: ls) st h P = z_T g d 2 90 (v0 :: v1 :: v2 :: .int x :: ls) (.int x :: st) h P := zt_iloadn zi_2_89 rfl rfl
theorem zi_2_90 : z_ins 2 90 = some (.iaload, 1) := by decide +kernel
theorem ze_2_90 : z_T g d 2 90 ls (.int x :: .ref a :: st) h P = z_aL h.1 a z_tI x (fun v => z_T g d 2 91 ls (.int v :: st) h P) := zt_iaload zi_2_90
theorem zi_2_91 : z_ins 2 91 = some (.ireturn, 1) := by decide +kernel
theorem ze_2_91 : z_T g d 2 91 ls [.int x] h P = P (.inr (some (.int x)), h) := zt_ireturn zi_2_91 zr_2
-- LatinRectangles$Completions.possibleBits(II)I
theorem zo_3 : z_own 3 = "LatinRectangles$Completions" := by decide +kernel
theorem zm_3 : z_maxL 3 = 7 := by decide +kernel
theorem zh_3 : z_hds 3 = [] := by decide +kernel
theorem zr_3 : z_rt 3 = (some .int) := by decide +kernel
theorem zn_3 : z_Ca g d 3 [.ref a0, .int x1, .int x2] h P = z_T g d 3 0 [.ref a0, .int x1, .int x2, z_un, z_un, z_un, z_un] [] h P := z_Ca_ent zm_3 rfl rfl
theorem zi_3_0 : z_ins 3 0 = some (.aload_n 0, 1) := by decide +kernel
theorem ze_3_0 : z_T g d 3 0 (.ref a :: ls) st h P = z_T g d 3 1 (.ref a :: ls) (.ref a :: st) h P := zt_aloadn zi_3_0 rfl rfl
theorem zi_3_1 : z_ins 3 1 = some (.getfield 12, 3) := by decide +kernel
theorem ze_3_1 : z_T g d 3 1 ls (.ref a :: st) h P = z_gR h.1 a 0 1 (fun x => z_T g d 3 4 ls (.ref x :: st) h P) := zt_getR zi_3_1 ((congrArg (fun o => z_fl o 12) zo_3).trans zf_LatinRectangles_Completions_12)
theorem zi_3_4 : z_ins 3 4 = some (.aload_n 0, 1) := by decide +kernel
theorem ze_3_4 : z_T g d 3 4 (.ref a :: ls) st h P = z_T g d 3 5 (.ref a :: ls) (.ref a :: st) h P := zt_aloadn zi_3_4 rfl rfl
theorem zi_3_5 : z_ins 3 5 = some (.getfield 22, 3) := by decide +kernel
theorem ze_3_5 : z_T g d 3 5 ls (.ref a :: st) h P = z_gR h.1 a 0 0 (fun x => z_T g d 3 8 ls (.ref x :: st) h P) := zt_getR zi_3_5 ((congrArg (fun o => z_fl o 22) zo_3).trans zf_LatinRectangles_Completions_22)
theorem zi_3_8 : z_ins 3 8 = some (.invokevirtual 25, 3) := by decide +kernel
theorem ze_3_8 : z_T g d 3 8 ls (.ref a0 :: .ref a :: st) h P = ((z_okS 8 st = true ∧ z_gO h.1 a 3 ∧ 0 < d) ∧ z_Ca g (d - 1) 30 [.ref a, .ref a0] h (fun r => z_k r (fun v h' => z_T g d 3 11 ls (z_push v st) h' P) P)) := zt_callV (as := [.ref a0]) zi_3_8 ((congrArg (fun o => z_lookup z_prs (o, 25)) zo_3).trans zp_LatinRectangles_Completions_25) ((congrArg (fun o => z_clk o 25) zo_3).trans zk_LatinRectangles_Completions_25) zh_3 zc_30 rfl rfl rfl
theorem zi_3_11 : z_ins 3 11 = some (.aload_n 0, 1) := by decide +kernel
theorem ze_3_11 : z_T g d 3 11 (.ref a :: ls) st h P = z_T g d 3 12 (.ref a :: ls) (.ref a :: st) h P := zt_aloadn zi_3_11 rfl rfl
theorem zi_3_12 : z_ins 3 12 = some (.getfield 12, 3) := by decide +kernel
theorem ze_3_12 : z_T g d 3 12 ls (.ref a :: st) h P = z_gR h.1 a 0 1 (fun x => z_T g d 3 15 ls (.ref x :: st) h P) := zt_getR zi_3_12 ((congrArg (fun o => z_fl o 12) zo_3).trans zf_LatinRectangles_Completions_12)
theorem zi_3_15 : z_ins 3 15 = some (.getfield 37, 3) := by decide +kernel
theorem ze_3_15 : z_T g d 3 15 ls (.ref a :: st) h P = z_gR h.1 a 3 0 (fun x => z_T g d 3 18 ls (.ref x :: st) h P) := zt_getR zi_3_15 ((congrArg (fun o => z_fl o 37) zo_3).trans zf_LatinRectangles_Completions_37)
theorem zi_3_18 : z_ins 3 18 = some (.iload_n 1, 1) := by decide +kernel
theorem ze_3_18 : z_T g d 3 18 (v0 :: .int x :: ls) st h P = z_T g d 3 19 (v0 :: .int x :: ls) (.int x :: st) h P := zt_iloadn zi_3_18 rfl rfl
theorem zi_3_19 : z_ins 3 19 = some (.iconst 5, 1) := by decide +kernel
theorem ze_3_19 : z_T g d 3 19 ls st h P = z_T g d 3 20 ls (.int (nI 5) :: st) h P := zt_iconst zi_3_19 rfl
theorem zi_3_20 : z_ins 3 20 = some (.imul, 1) := by decide +kernel
theorem ze_3_20 : z_T g d 3 20 ls (.int y :: .int x :: st) h P = z_T g d 3 21 ls (.int (x * y) :: st) h P := zt_bin (f := fun x y => x * y) zi_3_20 rfl (fun _ _ _ => rfl)
theorem zi_3_21 : z_ins 3 21 = some (.iload_n 2, 1) := by decide +kernel
theorem ze_3_21 : z_T g d 3 21 (v0 :: v1 :: .int x :: ls) st h P = z_T g d 3 22 (v0 :: v1 :: .int x :: ls) (.int x :: st) h P := zt_iloadn zi_3_21 rfl rfl
theorem zi_3_22 : z_ins 3 22 = some (.iadd, 1) := by decide +kernel
theorem ze_3_22 : z_T g d 3 22 ls (.int y :: .int x :: st) h P = z_T g d 3 23 ls (.int (x + y) :: st) h P := zt_bin (f := fun x y => x + y) zi_3_22 rfl (fun _ _ _ => rfl)
theorem zi_3_23 : z_ins 3 23 = some (.iaload, 1) := by decide +kernel
theorem ze_3_23 : z_T g d 3 23 ls (.int x :: .ref a :: st) h P = z_aL h.1 a z_tI x (fun v => z_T g d 3 24 ls (.int v :: st) h P) := zt_iaload zi_3_23
theorem zi_3_24 : z_ins 3 24 = some (.istore_n 3, 1) := by decide +kernel
theorem ze_3_24 : z_T g d 3 24 (v0 :: v1 :: v2 :: v3 :: ls) (.int x :: st) h P = z_T g d 3 25 (v0 :: v1 :: v2 :: .int x :: ls) st h P := zt_istoren zi_3_24 rfl (Nat.le_add_left 4 _)
theorem zi_3_25 : z_ins 3 25 = some (.iload_n 3, 1) := by decide +kernel
theorem ze_3_25 : z_T g d 3 25 (v0 :: v1 :: v2 :: .int x :: ls) st h P = z_T g d 3 26 (v0 :: v1 :: v2 :: .int x :: ls) (.int x :: st) h P := zt_iloadn zi_3_25 rfl rfl
theorem zi_3_26 : z_ins 3 26 = some (.iconst (-1), 1) := by decide +kernel
theorem ze_3_26 : z_T g d 3 26 ls st h P = z_T g d 3 27 ls (.int (-1) :: st) h P := zt_iconst zi_3_26 rfl
theorem zi_3_27 : z_ins 3 27 = some (.if_icmp .eq 19, 3) := by decide +kernel
theorem ze_3_27 : z_T g d 3 27 ls (.int y :: .int x :: st) h P = (if x = y then z_T g d 3 46 ls st h P else z_T g d 3 30 ls st h P) := zt_icmpeq zi_3_27 (by decide)
theorem zi_3_30 : z_ins 3 30 = some (.aload_n 0, 1) := by decide +kernel
theorem ze_3_30 : z_T g d 3 30 (.ref a :: ls) st h P = z_T g d 3 31 (.ref a :: ls) (.ref a :: st) h P := zt_aloadn zi_3_30 rfl rfl
theorem zi_3_31 : z_ins 3 31 = some (.iconst 1, 1) := by decide +kernel
theorem ze_3_31 : z_T g d 3 31 ls st h P = z_T g d 3 32 ls (.int (nI 1) :: st) h P := zt_iconst zi_3_31 rfl
theorem zi_3_32 : z_ins 3 32 = some (.invokevirtual 29, 3) := by decide +kernel
theorem ze_3_32 : z_T g d 3 32 ls (.int x0 :: .ref a :: st) h P = ((z_okS 8 st = true ∧ z_gO h.1 a 0 ∧ 0 < d) ∧ z_Ca g (d - 1) 5 [.ref a, .int x0] h (fun r => z_k r (fun v h' => z_T g d 3 35 ls (z_push v st) h' P) P)) := zt_callV (as := [.int x0]) zi_3_32 ((congrArg (fun o => z_lookup z_prs (o, 29)) zo_3).trans zp_LatinRectangles_Completions_29) ((congrArg (fun o => z_clk o 29) zo_3).trans zk_LatinRectangles_Completions_29) zh_3 zc_5 rfl rfl rfl
theorem zi_3_35 : z_ins 3 35 = some (.ifCond .ne 7, 3) := by decide +kernel
theorem ze_3_35 : z_T g d 3 35 ls (.int x :: st) h P = (if x = nI 0 then z_T g d 3 38 ls st h P else z_T g d 3 42 ls st h P) := zt_ifne zi_3_35 (by decide)
theorem zi_3_38 : z_ins 3 38 = some (.iconst 0, 1) := by decide +kernel
theorem ze_3_38 : z_T g d 3 38 ls st h P = z_T g d 3 39 ls (.int (nI 0) :: st) h P := zt_iconst zi_3_38 rfl
theorem zi_3_39 : z_ins 3 39 = some (.goto 6, 3) := by decide +kernel
theorem ze_3_39 : z_T g d 3 39 ls st h P = z_T g d 3 45 ls st h P := zt_goto zi_3_39 (by decide)
theorem zi_3_42 : z_ins 3 42 = some (.iconst 1, 1) := by decide +kernel
theorem ze_3_42 : z_T g d 3 42 ls st h P = z_T g d 3 43 ls (.int (nI 1) :: st) h P := zt_iconst zi_3_42 rfl
theorem zi_3_43 : z_ins 3 43 = some (.iload_n 3, 1) := by decide +kernel
theorem ze_3_43 : z_T g d 3 43 (v0 :: v1 :: v2 :: .int x :: ls) st h P = z_T g d 3 44 (v0 :: v1 :: v2 :: .int x :: ls) (.int x :: st) h P := zt_iloadn zi_3_43 rfl rfl
theorem zi_3_44 : z_ins 3 44 = some (.ishl, 1) := by decide +kernel
theorem ze_3_44 : z_T g d 3 44 ls (.int y :: .int x :: st) h P = z_T g d 3 45 ls (.int (x <<< (y &&& 31)) :: st) h P := zt_bin (f := fun x y => x <<< (y &&& 31)) zi_3_44 rfl (fun _ _ _ => rfl)
theorem zi_3_45 : z_ins 3 45 = some (.ireturn, 1) := by decide +kernel
theorem ze_3_45 : z_T g d 3 45 ls [.int x] h P = P (.inr (some (.int x)), h) := zt_ireturn zi_3_45 zr_3
theorem zi_3_46 : z_ins 3 46 = some (.iconst 0, 1) := by decide +kernel
theorem ze_3_46 : z_T g d 3 46 ls st h P = z_T g d 3 47 ls (.int (nI 0) :: st) h P := zt_iconst zi_3_46 rfl
theorem zi_3_47 : z_ins 3 47 = some (.istore 4, 2) := by decide +kernel
theorem ze_3_47 : z_T g d 3 47 (v0 :: v1 :: v2 :: v3 :: v4 :: ls) (.int x :: st) h P = z_T g d 3 49 (v0 :: v1 :: v2 :: v3 :: .int x :: ls) st h P := zt_istore zi_3_47 (Nat.le_add_left 5 _)
theorem zi_3_49 : z_ins 3 49 = some (.aload_n 0, 1) := by decide +kernel
theorem ze_3_49 : z_T g d 3 49 (.ref a :: ls) st h P = z_T g d 3 50 (.ref a :: ls) (.ref a :: st) h P := zt_aloadn zi_3_49 rfl rfl
theorem zi_3_50 : z_ins 3 50 = some (.getfield 12, 3) := by decide +kernel
theorem ze_3_50 : z_T g d 3 50 ls (.ref a :: st) h P = z_gR h.1 a 0 1 (fun x => z_T g d 3 53 ls (.ref x :: st) h P) := zt_getR zi_3_50 ((congrArg (fun o => z_fl o 12) zo_3).trans zf_LatinRectangles_Completions_12)
theorem zi_3_53 : z_ins 3 53 = some (.iload_n 1, 1) := by decide +kernel
theorem ze_3_53 : z_T g d 3 53 (v0 :: .int x :: ls) st h P = z_T g d 3 54 (v0 :: .int x :: ls) (.int x :: st) h P := zt_iloadn zi_3_53 rfl rfl
theorem zi_3_54 : z_ins 3 54 = some (.iload_n 2, 1) := by decide +kernel
theorem ze_3_54 : z_T g d 3 54 (v0 :: v1 :: .int x :: ls) st h P = z_T g d 3 55 (v0 :: v1 :: .int x :: ls) (.int x :: st) h P := zt_iloadn zi_3_54 rfl rfl
theorem zi_3_55 : z_ins 3 55 = some (.invokevirtual 44, 3) := by decide +kernel
theorem ze_3_55 : z_T g d 3 55 ls (.int x1 :: .int x0 :: .ref a :: st) h P = ((z_okS 8 st = true ∧ z_gO h.1 a 3 ∧ 0 < d) ∧ z_Ca g (d - 1) 38 [.ref a, .int x0, .int x1] h (fun r => z_k r (fun v h' => z_T g d 3 58 ls (z_push v st) h' P) P)) := zt_callV (as := [.int x0, .int x1]) zi_3_55 ((congrArg (fun o => z_lookup z_prs (o, 44)) zo_3).trans zp_LatinRectangles_Completions_44) ((congrArg (fun o => z_clk o 44) zo_3).trans zk_LatinRectangles_Completions_44) zh_3 zc_38 rfl rfl rfl
theorem zi_3_58 : z_ins 3 58 = some (.istore 5, 2) := by decide +kernel
theorem ze_3_58 : z_T g d 3 58 (v0 :: v1 :: v2 :: v3 :: v4 :: v5 :: ls) (.int x :: st) h P = z_T g d 3 60 (v0 :: v1 :: v2 :: v3 :: v4 :: .int x :: ls) st h P := zt_istore zi_3_58 (Nat.le_add_left 6 _)
theorem zi_3_60 : z_ins 3 60 = some (.iconst 0, 1) := by decide +kernel
theorem ze_3_60 : z_T g d 3 60 ls st h P = z_T g d 3 61 ls (.int (nI 0) :: st) h P := zt_iconst zi_3_60 rfl
theorem zi_3_61 : z_ins 3 61 = some (.istore 6, 2) := by decide +kernel
theorem ze_3_61 : z_T g d 3 61 (v0 :: v1 :: v2 :: v3 :: v4 :: v5 :: v6 :: ls) (.int x :: st) h P = z_T g d 3 63 (v0 :: v1 :: v2 :: v3 :: v4 :: v5 :: .int x :: ls) st h P := zt_istore zi_3_61 (Nat.le_add_left 7 _)
theorem zi_3_63 : z_ins 3 63 = some (.iload 6, 2) := by decide +kernel
theorem ze_3_63 : z_T g d 3 63 (v0 :: v1 :: v2 :: v3 :: v4 :: v5 :: .int x :: ls) st h P = z_T g d 3 65 (v0 :: v1 :: v2 :: v3 :: v4 :: v5 :: .int x :: ls) (.int x :: st) h P := zt_iload zi_3_63 rfl
theorem zi_3_65 : z_ins 3 65 = some (.aload_n 0, 1) := by decide +kernel
theorem ze_3_65 : z_T g d 3 65 (.ref a :: ls) st h P = z_T g d 3 66 (.ref a :: ls) (.ref a :: st) h P := zt_aloadn zi_3_65 rfl rfl
theorem zi_3_66 : z_ins 3 66 = some (.getfield 12, 3) := by decide +kernel
theorem ze_3_66 : z_T g d 3 66 ls (.ref a :: st) h P = z_gR h.1 a 0 1 (fun x => z_T g d 3 69 ls (.ref x :: st) h P) := zt_getR zi_3_66 ((congrArg (fun o => z_fl o 12) zo_3).trans zf_LatinRectangles_Completions_12)
theorem zi_3_69 : z_ins 3 69 = some (.getfield 33, 3) := by decide +kernel
theorem ze_3_69 : z_T g d 3 69 ls (.ref a :: st) h P = z_gI h.1 a 3 6 (fun x => z_T g d 3 72 ls (.int x :: st) h P) := zt_getI zi_3_69 ((congrArg (fun o => z_fl o 33) zo_3).trans zf_LatinRectangles_Completions_33)
theorem zi_3_72 : z_ins 3 72 = some (.if_icmp .ge 56, 3) := by decide +kernel
theorem ze_3_72 : z_T g d 3 72 ls (.int y :: .int x :: st) h P = (if x < y then z_T g d 3 75 ls st h P else z_T g d 3 128 ls st h P) := zt_icmpge zi_3_72 (by decide)
theorem zi_3_75 : z_ins 3 75 = some (.iload 5, 2) := by decide +kernel
theorem ze_3_75 : z_T g d 3 75 (v0 :: v1 :: v2 :: v3 :: v4 :: .int x :: ls) st h P = z_T g d 3 77 (v0 :: v1 :: v2 :: v3 :: v4 :: .int x :: ls) (.int x :: st) h P := zt_iload zi_3_75 rfl
theorem zi_3_77 : z_ins 3 77 = some (.iload 6, 2) := by decide +kernel
theorem ze_3_77 : z_T g d 3 77 (v0 :: v1 :: v2 :: v3 :: v4 :: v5 :: .int x :: ls) st h P = z_T g d 3 79 (v0 :: v1 :: v2 :: v3 :: v4 :: v5 :: .int x :: ls) (.int x :: st) h P := zt_iload zi_3_77 rfl
theorem zi_3_79 : z_ins 3 79 = some (.ishr, 1) := by decide +kernel
theorem ze_3_79 : z_T g d 3 79 ls (.int y :: .int x :: st) h P = z_T g d 3 80 ls (.int (x >>> (y &&& 31)) :: st) h P := zt_bin (f := fun x y => x >>> (y &&& 31)) zi_3_79 rfl (fun _ _ _ => rfl)
theorem zi_3_80 : z_ins 3 80 = some (.iconst 1, 1) := by decide +kernel
theorem ze_3_80 : z_T g d 3 80 ls st h P = z_T g d 3 81 ls (.int (nI 1) :: st) h P := zt_iconst zi_3_80 rfl
theorem zi_3_81 : z_ins 3 81 = some (.iand, 1) := by decide +kernel
theorem ze_3_81 : z_T g d 3 81 ls (.int y :: .int x :: st) h P = z_T g d 3 82 ls (.int (x &&& y) :: st) h P := zt_bin (f := fun x y => x &&& y) zi_3_81 rfl (fun _ _ _ => rfl)
theorem zi_3_82 : z_ins 3 82 = some (.ifCond .eq 40, 3) := by decide +kernel
theorem ze_3_82 : z_T g d 3 82 ls (.int x :: st) h P = (if x = nI 0 then z_T g d 3 122 ls st h P else z_T g d 3 85 ls st h P) := zt_ifeq zi_3_82 (by decide)
theorem zi_3_85 : z_ins 3 85 = some (.aload_n 0, 1) := by decide +kernel
theorem ze_3_85 : z_T g d 3 85 (.ref a :: ls) st h P = z_T g d 3 86 (.ref a :: ls) (.ref a :: st) h P := zt_aloadn zi_3_85 rfl rfl
theorem zi_3_86 : z_ins 3 86 = some (.getfield 12, 3) := by decide +kernel
theorem ze_3_86 : z_T g d 3 86 ls (.ref a :: st) h P = z_gR h.1 a 0 1 (fun x => z_T g d 3 89 ls (.ref x :: st) h P) := zt_getR zi_3_86 ((congrArg (fun o => z_fl o 12) zo_3).trans zf_LatinRectangles_Completions_12)
theorem zi_3_89 : z_ins 3 89 = some (.iload_n 1, 1) := by decide +kernel
theorem ze_3_89 : z_T g d 3 89 (v0 :: .int x :: ls) st h P = z_T g d 3 90 (v0 :: .int x :: ls) (.int x :: st) h P := zt_iloadn zi_3_89 rfl rfl
theorem zi_3_90 : z_ins 3 90 = some (.iload_n 2, 1) := by decide +kernel
theorem ze_3_90 : z_T g d 3 90 (v0 :: v1 :: .int x :: ls) st h P = z_T g d 3 91 (v0 :: v1 :: .int x :: ls) (.int x :: st) h P := zt_iloadn zi_3_90 rfl rfl
theorem zi_3_91 : z_ins 3 91 = some (.iload 6, 2) := by decide +kernel
theorem ze_3_91 : z_T g d 3 91 (v0 :: v1 :: v2 :: v3 :: v4 :: v5 :: .int x :: ls) st h P = z_T g d 3 93 (v0 :: v1 :: v2 :: v3 :: v4 :: v5 :: .int x :: ls) (.int x :: st) h P := zt_iload zi_3_91 rfl
theorem zi_3_93 : z_ins 3 93 = some (.invokevirtual 48, 3) := by decide +kernel
theorem ze_3_93 : z_T g d 3 93 ls (.int x2 :: .int x1 :: .int x0 :: .ref a :: st) h P = ((z_okS 8 st = true ∧ z_gO h.1 a 3 ∧ 0 < d) ∧ z_Ca g (d - 1) 33 [.ref a, .int x0, .int x1, .int x2] h (fun r => z_k r (fun v h' => z_T g d 3 96 ls (z_push v st) h' P) P)) := zt_callV (as := [.int x0, .int x1, .int x2]) zi_3_93 ((congrArg (fun o => z_lookup z_prs (o, 48)) zo_3).trans zp_LatinRectangles_Completions_48) ((congrArg (fun o => z_clk o 48) zo_3).trans zk_LatinRectangles_Completions_48) zh_3 zc_33 rfl rfl rfl
theorem zi_3_96 : z_ins 3 96 = some (.aload_n 0, 1) := by decide +kernel
theorem ze_3_96 : z_T g d 3 96 (.ref a :: ls) st h P = z_T g d 3 97 (.ref a :: ls) (.ref a :: st) h P := zt_aloadn zi_3_96 rfl rfl
theorem zi_3_97 : z_ins 3 97 = some (.iconst 1, 1) := by decide +kernel
theorem ze_3_97 : z_T g d 3 97 ls st h P = z_T g d 3 98 ls (.int (nI 1) :: st) h P := zt_iconst zi_3_97 rfl
theorem zi_3_98 : z_ins 3 98 = some (.invokevirtual 29, 3) := by decide +kernel
theorem ze_3_98 : z_T g d 3 98 ls (.int x0 :: .ref a :: st) h P = ((z_okS 8 st = true ∧ z_gO h.1 a 0 ∧ 0 < d) ∧ z_Ca g (d - 1) 5 [.ref a, .int x0] h (fun r => z_k r (fun v h' => z_T g d 3 101 ls (z_push v st) h' P) P)) := zt_callV (as := [.int x0]) zi_3_98 ((congrArg (fun o => z_lookup z_prs (o, 29)) zo_3).trans zp_LatinRectangles_Completions_29) ((congrArg (fun o => z_clk o 29) zo_3).trans zk_LatinRectangles_Completions_29) zh_3 zc_5 rfl rfl rfl
theorem zi_3_101 : z_ins 3 101 = some (.ifCond .eq 12, 3) := by decide +kernel
theorem ze_3_101 : z_T g d 3 101 ls (.int x :: st) h P = (if x = nI 0 then z_T g d 3 113 ls st h P else z_T g d 3 104 ls st h P) := zt_ifeq zi_3_101 (by decide)
theorem zi_3_104 : z_ins 3 104 = some (.iload 4, 2) := by decide +kernel
theorem ze_3_104 : z_T g d 3 104 (v0 :: v1 :: v2 :: v3 :: .int x :: ls) st h P = z_T g d 3 106 (v0 :: v1 :: v2 :: v3 :: .int x :: ls) (.int x :: st) h P := zt_iload zi_3_104 rfl
theorem zi_3_106 : z_ins 3 106 = some (.iconst 1, 1) := by decide +kernel
theorem ze_3_106 : z_T g d 3 106 ls st h P = z_T g d 3 107 ls (.int (nI 1) :: st) h P := zt_iconst zi_3_106 rfl
theorem zi_3_107 : z_ins 3 107 = some (.iload 6, 2) := by decide +kernel
theorem ze_3_107 : z_T g d 3 107 (v0 :: v1 :: v2 :: v3 :: v4 :: v5 :: .int x :: ls) st h P = z_T g d 3 109 (v0 :: v1 :: v2 :: v3 :: v4 :: v5 :: .int x :: ls) (.int x :: st) h P := zt_iload zi_3_107 rfl
theorem zi_3_109 : z_ins 3 109 = some (.ishl, 1) := by decide +kernel
theorem ze_3_109 : z_T g d 3 109 ls (.int y :: .int x :: st) h P = z_T g d 3 110 ls (.int (x <<< (y &&& 31)) :: st) h P := zt_bin (f := fun x y => x <<< (y &&& 31)) zi_3_109 rfl (fun _ _ _ => rfl)
theorem zi_3_110 : z_ins 3 110 = some (.ior, 1) := by decide +kernel
theorem ze_3_110 : z_T g d 3 110 ls (.int y :: .int x :: st) h P = z_T g d 3 111 ls (.int (x ||| y) :: st) h P := zt_bin (f := fun x y => x ||| y) zi_3_110 rfl (fun _ _ _ => rfl)
theorem zi_3_111 : z_ins 3 111 = some (.istore 4, 2) := by decide +kernel
theorem ze_3_111 : z_T g d 3 111 (v0 :: v1 :: v2 :: v3 :: v4 :: ls) (.int x :: st) h P = z_T g d 3 113 (v0 :: v1 :: v2 :: v3 :: .int x :: ls) st h P := zt_istore zi_3_111 (Nat.le_add_left 5 _)
theorem zi_3_113 : z_ins 3 113 = some (.aload_n 0, 1) := by decide +kernel
theorem ze_3_113 : z_T g d 3 113 (.ref a :: ls) st h P = z_T g d 3 114 (.ref a :: ls) (.ref a :: st) h P := zt_aloadn zi_3_113 rfl rfl
theorem zi_3_114 : z_ins 3 114 = some (.getfield 12, 3) := by decide +kernel
theorem ze_3_114 : z_T g d 3 114 ls (.ref a :: st) h P = z_gR h.1 a 0 1 (fun x => z_T g d 3 117 ls (.ref x :: st) h P) := zt_getR zi_3_114 ((congrArg (fun o => z_fl o 12) zo_3).trans zf_LatinRectangles_Completions_12)
theorem zi_3_117 : z_ins 3 117 = some (.iload_n 1, 1) := by decide +kernel
theorem ze_3_117 : z_T g d 3 117 (v0 :: .int x :: ls) st h P = z_T g d 3 118 (v0 :: .int x :: ls) (.int x :: st) h P := zt_iloadn zi_3_117 rfl rfl
theorem zi_3_118 : z_ins 3 118 = some (.iload_n 2, 1) := by decide +kernel
theorem ze_3_118 : z_T g d 3 118 (v0 :: v1 :: .int x :: ls) st h P = z_T g d 3 119 (v0 :: v1 :: .int x :: ls) (.int x :: st) h P := zt_iloadn zi_3_118 rfl rfl
theorem zi_3_119 : z_ins 3 119 = some (.invokevirtual 52, 3) := by decide +kernel
theorem ze_3_119 : z_T g d 3 119 ls (.int x1 :: .int x0 :: .ref a :: st) h P = ((z_okS 8 st = true ∧ z_gO h.1 a 3 ∧ 0 < d) ∧ z_Ca g (d - 1) 34 [.ref a, .int x0, .int x1] h (fun r => z_k r (fun v h' => z_T g d 3 122 ls (z_push v st) h' P) P)) := zt_callV (as := [.int x0, .int x1]) zi_3_119 ((congrArg (fun o => z_lookup z_prs (o, 52)) zo_3).trans zp_LatinRectangles_Completions_52) ((congrArg (fun o => z_clk o 52) zo_3).trans zk_LatinRectangles_Completions_52) zh_3 zc_34 rfl rfl rfl
theorem zi_3_122 : z_ins 3 122 = some (.iinc 6 1, 3) := by decide +kernel
theorem ze_3_122 : z_T g d 3 122 (v0 :: v1 :: v2 :: v3 :: v4 :: v5 :: .int x :: ls) st h P = z_T g d 3 125 (v0 :: v1 :: v2 :: v3 :: v4 :: v5 :: .int (x + (nI 1)) :: ls) st h P := zt_iinc zi_3_122 rfl rfl
theorem zi_3_125 : z_ins 3 125 = some (.goto (-62), 3) := by decide +kernel
theorem ze_3_125 : z_T g d 3 125 ls st h P = z_T g d 3 63 ls st h P := zt_goto zi_3_125 (by decide)
theorem zi_3_128 : z_ins 3 128 = some (.iload 4, 2) := by decide +kernel
theorem ze_3_128 : z_T g d 3 128 (v0 :: v1 :: v2 :: v3 :: .int x :: ls) st h P = z_T g d 3 130 (v0 :: v1 :: v2 :: v3 :: .int x :: ls) (.int x :: st) h P := zt_iload zi_3_128 rfl
theorem zi_3_130 : z_ins 3 130 = some (.ireturn, 1) := by decide +kernel
theorem ze_3_130 : z_T g d 3 130 ls [.int x] h P = P (.inr (some (.int x)), h) := zt_ireturn zi_3_130 zr_3
-- LatinRectangles$Completions.putLowest(II)V
theorem zo_4 : z_own 4 = "LatinRectangles$Completions" := by decide +kernel
theorem zm_4 : z_maxL 4 = 5 := by decide +kernel
theorem zh_4 : z_hds 4 = [] := by decide +kernel
theorem zr_4 : z_rt 4 = none := by decide +kernel
theorem zn_4 : z_Ca g d 4 [.ref a0, .int x1, .int x2] h P = z_T g d 4 0 [.ref a0, .int x1, .int x2, z_un, z_un] [] h P := z_Ca_ent zm_4 rfl rfl
theorem zi_4_0 : z_ins 4 0 = some (.aload_n 0, 1) := by decide +kernel
theorem ze_4_0 : z_T g d 4 0 (.ref a :: ls) st h P = z_T g d 4 1 (.ref a :: ls) (.ref a :: st) h P := zt_aloadn zi_4_0 rfl rfl
theorem zi_4_1 : z_ins 4 1 = some (.getfield 12, 3) := by decide +kernel
theorem ze_4_1 : z_T g d 4 1 ls (.ref a :: st) h P = z_gR h.1 a 0 1 (fun x => z_T g d 4 4 ls (.ref x :: st) h P) := zt_getR zi_4_1 ((congrArg (fun o => z_fl o 12) zo_4).trans zf_LatinRectangles_Completions_12)
theorem zi_4_4 : z_ins 4 4 = some (.iload_n 1, 1) := by decide +kernel
theorem ze_4_4 : z_T g d 4 4 (v0 :: .int x :: ls) st h P = z_T g d 4 5 (v0 :: .int x :: ls) (.int x :: st) h P := zt_iloadn zi_4_4 rfl rfl
theorem zi_4_5 : z_ins 4 5 = some (.iload_n 2, 1) := by decide +kernel
theorem ze_4_5 : z_T g d 4 5 (v0 :: v1 :: .int x :: ls) st h P = z_T g d 4 6 (v0 :: v1 :: .int x :: ls) (.int x :: st) h P := zt_iloadn zi_4_5 rfl rfl
theorem zi_4_6 : z_ins 4 6 = some (.invokevirtual 44, 3) := by decide +kernel
theorem ze_4_6 : z_T g d 4 6 ls (.int x1 :: .int x0 :: .ref a :: st) h P = ((z_okS 8 st = true ∧ z_gO h.1 a 3 ∧ 0 < d) ∧ z_Ca g (d - 1) 38 [.ref a, .int x0, .int x1] h (fun r => z_k r (fun v h' => z_T g d 4 9 ls (z_push v st) h' P) P)) := zt_callV (as := [.int x0, .int x1]) zi_4_6 ((congrArg (fun o => z_lookup z_prs (o, 44)) zo_4).trans zp_LatinRectangles_Completions_44) ((congrArg (fun o => z_clk o 44) zo_4).trans zk_LatinRectangles_Completions_44) zh_4 zc_38 rfl rfl rfl
theorem zi_4_9 : z_ins 4 9 = some (.istore_n 3, 1) := by decide +kernel
theorem ze_4_9 : z_T g d 4 9 (v0 :: v1 :: v2 :: v3 :: ls) (.int x :: st) h P = z_T g d 4 10 (v0 :: v1 :: v2 :: .int x :: ls) st h P := zt_istoren zi_4_9 rfl (Nat.le_add_left 4 _)
theorem zi_4_10 : z_ins 4 10 = some (.iconst 0, 1) := by decide +kernel
theorem ze_4_10 : z_T g d 4 10 ls st h P = z_T g d 4 11 ls (.int (nI 0) :: st) h P := zt_iconst zi_4_10 rfl
theorem zi_4_11 : z_ins 4 11 = some (.istore 4, 2) := by decide +kernel
theorem ze_4_11 : z_T g d 4 11 (v0 :: v1 :: v2 :: v3 :: v4 :: ls) (.int x :: st) h P = z_T g d 4 13 (v0 :: v1 :: v2 :: v3 :: .int x :: ls) st h P := zt_istore zi_4_11 (Nat.le_add_left 5 _)
theorem zi_4_13 : z_ins 4 13 = some (.iload 4, 2) := by decide +kernel
theorem ze_4_13 : z_T g d 4 13 (v0 :: v1 :: v2 :: v3 :: .int x :: ls) st h P = z_T g d 4 15 (v0 :: v1 :: v2 :: v3 :: .int x :: ls) (.int x :: st) h P := zt_iload zi_4_13 rfl
theorem zi_4_15 : z_ins 4 15 = some (.aload_n 0, 1) := by decide +kernel
theorem ze_4_15 : z_T g d 4 15 (.ref a :: ls) st h P = z_T g d 4 16 (.ref a :: ls) (.ref a :: st) h P := zt_aloadn zi_4_15 rfl rfl
theorem zi_4_16 : z_ins 4 16 = some (.getfield 12, 3) := by decide +kernel
theorem ze_4_16 : z_T g d 4 16 ls (.ref a :: st) h P = z_gR h.1 a 0 1 (fun x => z_T g d 4 19 ls (.ref x :: st) h P) := zt_getR zi_4_16 ((congrArg (fun o => z_fl o 12) zo_4).trans zf_LatinRectangles_Completions_12)
theorem zi_4_19 : z_ins 4 19 = some (.getfield 33, 3) := by decide +kernel
theorem ze_4_19 : z_T g d 4 19 ls (.ref a :: st) h P = z_gI h.1 a 3 6 (fun x => z_T g d 4 22 ls (.int x :: st) h P) := zt_getI zi_4_19 ((congrArg (fun o => z_fl o 33) zo_4).trans zf_LatinRectangles_Completions_33)
theorem zi_4_22 : z_ins 4 22 = some (.if_icmp .ge 47, 3) := by decide +kernel
theorem ze_4_22 : z_T g d 4 22 ls (.int y :: .int x :: st) h P = (if x < y then z_T g d 4 25 ls st h P else z_T g d 4 69 ls st h P) := zt_icmpge zi_4_22 (by decide)
theorem zi_4_25 : z_ins 4 25 = some (.iload_n 3, 1) := by decide +kernel
theorem ze_4_25 : z_T g d 4 25 (v0 :: v1 :: v2 :: .int x :: ls) st h P = z_T g d 4 26 (v0 :: v1 :: v2 :: .int x :: ls) (.int x :: st) h P := zt_iloadn zi_4_25 rfl rfl
theorem zi_4_26 : z_ins 4 26 = some (.iload 4, 2) := by decide +kernel
theorem ze_4_26 : z_T g d 4 26 (v0 :: v1 :: v2 :: v3 :: .int x :: ls) st h P = z_T g d 4 28 (v0 :: v1 :: v2 :: v3 :: .int x :: ls) (.int x :: st) h P := zt_iload zi_4_26 rfl
theorem zi_4_28 : z_ins 4 28 = some (.ishr, 1) := by decide +kernel
theorem ze_4_28 : z_T g d 4 28 ls (.int y :: .int x :: st) h P = z_T g d 4 29 ls (.int (x >>> (y &&& 31)) :: st) h P := zt_bin (f := fun x y => x >>> (y &&& 31)) zi_4_28 rfl (fun _ _ _ => rfl)
theorem zi_4_29 : z_ins 4 29 = some (.iconst 1, 1) := by decide +kernel
theorem ze_4_29 : z_T g d 4 29 ls st h P = z_T g d 4 30 ls (.int (nI 1) :: st) h P := zt_iconst zi_4_29 rfl
theorem zi_4_30 : z_ins 4 30 = some (.iand, 1) := by decide +kernel
theorem ze_4_30 : z_T g d 4 30 ls (.int y :: .int x :: st) h P = z_T g d 4 31 ls (.int (x &&& y) :: st) h P := zt_bin (f := fun x y => x &&& y) zi_4_30 rfl (fun _ _ _ => rfl)
theorem zi_4_31 : z_ins 4 31 = some (.ifCond .eq 32, 3) := by decide +kernel
theorem ze_4_31 : z_T g d 4 31 ls (.int x :: st) h P = (if x = nI 0 then z_T g d 4 63 ls st h P else z_T g d 4 34 ls st h P) := zt_ifeq zi_4_31 (by decide)
theorem zi_4_34 : z_ins 4 34 = some (.aload_n 0, 1) := by decide +kernel
theorem ze_4_34 : z_T g d 4 34 (.ref a :: ls) st h P = z_T g d 4 35 (.ref a :: ls) (.ref a :: st) h P := zt_aloadn zi_4_34 rfl rfl
theorem zi_4_35 : z_ins 4 35 = some (.getfield 12, 3) := by decide +kernel
theorem ze_4_35 : z_T g d 4 35 ls (.ref a :: st) h P = z_gR h.1 a 0 1 (fun x => z_T g d 4 38 ls (.ref x :: st) h P) := zt_getR zi_4_35 ((congrArg (fun o => z_fl o 12) zo_4).trans zf_LatinRectangles_Completions_12)
theorem zi_4_38 : z_ins 4 38 = some (.iload_n 1, 1) := by decide +kernel
theorem ze_4_38 : z_T g d 4 38 (v0 :: .int x :: ls) st h P = z_T g d 4 39 (v0 :: .int x :: ls) (.int x :: st) h P := zt_iloadn zi_4_38 rfl rfl
theorem zi_4_39 : z_ins 4 39 = some (.iload_n 2, 1) := by decide +kernel
theorem ze_4_39 : z_T g d 4 39 (v0 :: v1 :: .int x :: ls) st h P = z_T g d 4 40 (v0 :: v1 :: .int x :: ls) (.int x :: st) h P := zt_iloadn zi_4_39 rfl rfl
theorem zi_4_40 : z_ins 4 40 = some (.iload 4, 2) := by decide +kernel
theorem ze_4_40 : z_T g d 4 40 (v0 :: v1 :: v2 :: v3 :: .int x :: ls) st h P = z_T g d 4 42 (v0 :: v1 :: v2 :: v3 :: .int x :: ls) (.int x :: st) h P := zt_iload zi_4_40 rfl
theorem zi_4_42 : z_ins 4 42 = some (.invokevirtual 48, 3) := by decide +kernel
theorem ze_4_42 : z_T g d 4 42 ls (.int x2 :: .int x1 :: .int x0 :: .ref a :: st) h P = ((z_okS 8 st = true ∧ z_gO h.1 a 3 ∧ 0 < d) ∧ z_Ca g (d - 1) 33 [.ref a, .int x0, .int x1, .int x2] h (fun r => z_k r (fun v h' => z_T g d 4 45 ls (z_push v st) h' P) P)) := zt_callV (as := [.int x0, .int x1, .int x2]) zi_4_42 ((congrArg (fun o => z_lookup z_prs (o, 48)) zo_4).trans zp_LatinRectangles_Completions_48) ((congrArg (fun o => z_clk o 48) zo_4).trans zk_LatinRectangles_Completions_48) zh_4 zc_33 rfl rfl rfl
theorem zi_4_45 : z_ins 4 45 = some (.aload_n 0, 1) := by decide +kernel
theorem ze_4_45 : z_T g d 4 45 (.ref a :: ls) st h P = z_T g d 4 46 (.ref a :: ls) (.ref a :: st) h P := zt_aloadn zi_4_45 rfl rfl
theorem zi_4_46 : z_ins 4 46 = some (.iconst 1, 1) := by decide +kernel
theorem ze_4_46 : z_T g d 4 46 ls st h P = z_T g d 4 47 ls (.int (nI 1) :: st) h P := zt_iconst zi_4_46 rfl
theorem zi_4_47 : z_ins 4 47 = some (.invokevirtual 29, 3) := by decide +kernel
theorem ze_4_47 : z_T g d 4 47 ls (.int x0 :: .ref a :: st) h P = ((z_okS 8 st = true ∧ z_gO h.1 a 0 ∧ 0 < d) ∧ z_Ca g (d - 1) 5 [.ref a, .int x0] h (fun r => z_k r (fun v h' => z_T g d 4 50 ls (z_push v st) h' P) P)) := zt_callV (as := [.int x0]) zi_4_47 ((congrArg (fun o => z_lookup z_prs (o, 29)) zo_4).trans zp_LatinRectangles_Completions_29) ((congrArg (fun o => z_clk o 29) zo_4).trans zk_LatinRectangles_Completions_29) zh_4 zc_5 rfl rfl rfl
theorem zi_4_50 : z_ins 4 50 = some (.ifCond .eq 4, 3) := by decide +kernel
theorem ze_4_50 : z_T g d 4 50 ls (.int x :: st) h P = (if x = nI 0 then z_T g d 4 54 ls st h P else z_T g d 4 53 ls st h P) := zt_ifeq zi_4_50 (by decide)
theorem zi_4_53 : z_ins 4 53 = some (.return_, 1) := by decide +kernel
theorem ze_4_53 : z_T g d 4 53 ls [] h P = P (.inr none, h) := zt_return zi_4_53 zr_4
theorem zi_4_54 : z_ins 4 54 = some (.aload_n 0, 1) := by decide +kernel
theorem ze_4_54 : z_T g d 4 54 (.ref a :: ls) st h P = z_T g d 4 55 (.ref a :: ls) (.ref a :: st) h P := zt_aloadn zi_4_54 rfl rfl
theorem zi_4_55 : z_ins 4 55 = some (.getfield 12, 3) := by decide +kernel
theorem ze_4_55 : z_T g d 4 55 ls (.ref a :: st) h P = z_gR h.1 a 0 1 (fun x => z_T g d 4 58 ls (.ref x :: st) h P) := zt_getR zi_4_55 ((congrArg (fun o => z_fl o 12) zo_4).trans zf_LatinRectangles_Completions_12)
theorem zi_4_58 : z_ins 4 58 = some (.iload_n 1, 1) := by decide +kernel
theorem ze_4_58 : z_T g d 4 58 (v0 :: .int x :: ls) st h P = z_T g d 4 59 (v0 :: .int x :: ls) (.int x :: st) h P := zt_iloadn zi_4_58 rfl rfl
theorem zi_4_59 : z_ins 4 59 = some (.iload_n 2, 1) := by decide +kernel
theorem ze_4_59 : z_T g d 4 59 (v0 :: v1 :: .int x :: ls) st h P = z_T g d 4 60 (v0 :: v1 :: .int x :: ls) (.int x :: st) h P := zt_iloadn zi_4_59 rfl rfl
theorem zi_4_60 : z_ins 4 60 = some (.invokevirtual 52, 3) := by decide +kernel
theorem ze_4_60 : z_T g d 4 60 ls (.int x1 :: .int x0 :: .ref a :: st) h P = ((z_okS 8 st = true ∧ z_gO h.1 a 3 ∧ 0 < d) ∧ z_Ca g (d - 1) 34 [.ref a, .int x0, .int x1] h (fun r => z_k r (fun v h' => z_T g d 4 63 ls (z_push v st) h' P) P)) := zt_callV (as := [.int x0, .int x1]) zi_4_60 ((congrArg (fun o => z_lookup z_prs (o, 52)) zo_4).trans zp_LatinRectangles_Completions_52) ((congrArg (fun o => z_clk o 52) zo_4).trans zk_LatinRectangles_Completions_52) zh_4 zc_34 rfl rfl rfl
theorem zi_4_63 : z_ins 4 63 = some (.iinc 4 1, 3) := by decide +kernel
theorem ze_4_63 : z_T g d 4 63 (v0 :: v1 :: v2 :: v3 :: .int x :: ls) st h P = z_T g d 4 66 (v0 :: v1 :: v2 :: v3 :: .int (x + (nI 1)) :: ls) st h P := zt_iinc zi_4_63 rfl rfl
theorem zi_4_66 : z_ins 4 66 = some (.goto (-53), 3) := by decide +kernel
theorem ze_4_66 : z_T g d 4 66 ls st h P = z_T g d 4 13 ls st h P := zt_goto zi_4_66 (by decide)
theorem zi_4_69 : z_ins 4 69 = some (.return_, 1) := by decide +kernel
theorem ze_4_69 : z_T g d 4 69 ls [] h P = P (.inr none, h) := zt_return zi_4_69 zr_4
-- LatinRectangles$Completions.countInWork(I)I
theorem zo_5 : z_own 5 = "LatinRectangles$Completions" := by decide +kernel
theorem zm_5 : z_maxL 5 = 4 := by decide +kernel
theorem zh_5 : z_hds 5 = [] := by decide +kernel
theorem zr_5 : z_rt 5 = (some .int) := by decide +kernel
theorem zn_5 : z_Ca g d 5 [.ref a0, .int x1] h P = z_T g d 5 0 [.ref a0, .int x1, z_un, z_un] [] h P := z_Ca_ent zm_5 rfl rfl
theorem zi_5_0 : z_ins 5 0 = some (.aload_n 0, 1) := by decide +kernel
theorem ze_5_0 : z_T g d 5 0 (.ref a :: ls) st h P = z_T g d 5 1 (.ref a :: ls) (.ref a :: st) h P := zt_aloadn zi_5_0 rfl rfl
theorem zi_5_1 : z_ins 5 1 = some (.iconst 0, 1) := by decide +kernel
theorem ze_5_1 : z_T g d 5 1 ls st h P = z_T g d 5 2 ls (.int (nI 0) :: st) h P := zt_iconst zi_5_1 rfl
theorem zi_5_2 : z_ins 5 2 = some (.putfield 55, 3) := by decide +kernel
theorem ze_5_2 : z_T g d 5 2 ls (.int x :: .ref a :: st) h P = z_pF h.1 a 0 3 (.int x) (fun f => z_T g d 5 5 ls st (f, h.2) P) := zt_putI zi_5_2 ((congrArg (fun o => z_fl o 55) zo_5).trans zf_LatinRectangles_Completions_55)
theorem zi_5_5 : z_ins 5 5 = some (.iconst 0, 1) := by decide +kernel
theorem ze_5_5 : z_T g d 5 5 ls st h P = z_T g d 5 6 ls (.int (nI 0) :: st) h P := zt_iconst zi_5_5 rfl
theorem zi_5_6 : z_ins 5 6 = some (.istore_n 2, 1) := by decide +kernel
theorem ze_5_6 : z_T g d 5 6 (v0 :: v1 :: v2 :: ls) (.int x :: st) h P = z_T g d 5 7 (v0 :: v1 :: .int x :: ls) st h P := zt_istoren zi_5_6 rfl (Nat.le_add_left 3 _)
theorem zi_5_7 : z_ins 5 7 = some (.iload_n 2, 1) := by decide +kernel
theorem ze_5_7 : z_T g d 5 7 (v0 :: v1 :: .int x :: ls) st h P = z_T g d 5 8 (v0 :: v1 :: .int x :: ls) (.int x :: st) h P := zt_iloadn zi_5_7 rfl rfl
theorem zi_5_8 : z_ins 5 8 = some (.aload_n 0, 1) := by decide +kernel
theorem ze_5_8 : z_T g d 5 8 (.ref a :: ls) st h P = z_T g d 5 9 (.ref a :: ls) (.ref a :: st) h P := zt_aloadn zi_5_8 rfl rfl
theorem zi_5_9 : z_ins 5 9 = some (.getfield 12, 3) := by decide +kernel
theorem ze_5_9 : z_T g d 5 9 ls (.ref a :: st) h P = z_gR h.1 a 0 1 (fun x => z_T g d 5 12 ls (.ref x :: st) h P) := zt_getR zi_5_9 ((congrArg (fun o => z_fl o 12) zo_5).trans zf_LatinRectangles_Completions_12)
theorem zi_5_12 : z_ins 5 12 = some (.getfield 58, 3) := by decide +kernel
theorem ze_5_12 : z_T g d 5 12 ls (.ref a :: st) h P = z_gI h.1 a 3 5 (fun x => z_T g d 5 15 ls (.int x :: st) h P) := zt_getI zi_5_12 ((congrArg (fun o => z_fl o 58) zo_5).trans zf_LatinRectangles_Completions_58)
theorem zi_5_15 : z_ins 5 15 = some (.if_icmp .ge 69, 3) := by decide +kernel
theorem ze_5_15 : z_T g d 5 15 ls (.int y :: .int x :: st) h P = (if x < y then z_T g d 5 18 ls st h P else z_T g d 5 84 ls st h P) := zt_icmpge zi_5_15 (by decide)
theorem zi_5_18 : z_ins 5 18 = some (.iconst 0, 1) := by decide +kernel
theorem ze_5_18 : z_T g d 5 18 ls st h P = z_T g d 5 19 ls (.int (nI 0) :: st) h P := zt_iconst zi_5_18 rfl
theorem zi_5_19 : z_ins 5 19 = some (.istore_n 3, 1) := by decide +kernel
theorem ze_5_19 : z_T g d 5 19 (v0 :: v1 :: v2 :: v3 :: ls) (.int x :: st) h P = z_T g d 5 20 (v0 :: v1 :: v2 :: .int x :: ls) st h P := zt_istoren zi_5_19 rfl (Nat.le_add_left 4 _)
theorem zi_5_20 : z_ins 5 20 = some (.iload_n 3, 1) := by decide +kernel
theorem ze_5_20 : z_T g d 5 20 (v0 :: v1 :: v2 :: .int x :: ls) st h P = z_T g d 5 21 (v0 :: v1 :: v2 :: .int x :: ls) (.int x :: st) h P := zt_iloadn zi_5_20 rfl rfl
theorem zi_5_21 : z_ins 5 21 = some (.aload_n 0, 1) := by decide +kernel
theorem ze_5_21 : z_T g d 5 21 (.ref a :: ls) st h P = z_T g d 5 22 (.ref a :: ls) (.ref a :: st) h P := zt_aloadn zi_5_21 rfl rfl
theorem zi_5_22 : z_ins 5 22 = some (.getfield 12, 3) := by decide +kernel
theorem ze_5_22 : z_T g d 5 22 ls (.ref a :: st) h P = z_gR h.1 a 0 1 (fun x => z_T g d 5 25 ls (.ref x :: st) h P) := zt_getR zi_5_22 ((congrArg (fun o => z_fl o 12) zo_5).trans zf_LatinRectangles_Completions_12)
theorem zi_5_25 : z_ins 5 25 = some (.getfield 33, 3) := by decide +kernel
theorem ze_5_25 : z_T g d 5 25 ls (.ref a :: st) h P = z_gI h.1 a 3 6 (fun x => z_T g d 5 28 ls (.int x :: st) h P) := zt_getI zi_5_25 ((congrArg (fun o => z_fl o 33) zo_5).trans zf_LatinRectangles_Completions_33)
theorem zi_5_28 : z_ins 5 28 = some (.if_icmp .ge 50, 3) := by decide +kernel
theorem ze_5_28 : z_T g d 5 28 ls (.int y :: .int x :: st) h P = (if x < y then z_T g d 5 31 ls st h P else z_T g d 5 78 ls st h P) := zt_icmpge zi_5_28 (by decide)
theorem zi_5_31 : z_ins 5 31 = some (.aload_n 0, 1) := by decide +kernel
theorem ze_5_31 : z_T g d 5 31 (.ref a :: ls) st h P = z_T g d 5 32 (.ref a :: ls) (.ref a :: st) h P := zt_aloadn zi_5_31 rfl rfl
theorem zi_5_32 : z_ins 5 32 = some (.getfield 12, 3) := by decide +kernel
theorem ze_5_32 : z_T g d 5 32 ls (.ref a :: st) h P = z_gR h.1 a 0 1 (fun x => z_T g d 5 35 ls (.ref x :: st) h P) := zt_getR zi_5_32 ((congrArg (fun o => z_fl o 12) zo_5).trans zf_LatinRectangles_Completions_12)
theorem zi_5_35 : z_ins 5 35 = some (.getfield 37, 3) := by decide +kernel
theorem ze_5_35 : z_T g d 5 35 ls (.ref a :: st) h P = z_gR h.1 a 3 0 (fun x => z_T g d 5 38 ls (.ref x :: st) h P) := zt_getR zi_5_35 ((congrArg (fun o => z_fl o 37) zo_5).trans zf_LatinRectangles_Completions_37)
theorem zi_5_38 : z_ins 5 38 = some (.iload_n 2, 1) := by decide +kernel
theorem ze_5_38 : z_T g d 5 38 (v0 :: v1 :: .int x :: ls) st h P = z_T g d 5 39 (v0 :: v1 :: .int x :: ls) (.int x :: st) h P := zt_iloadn zi_5_38 rfl rfl
theorem zi_5_39 : z_ins 5 39 = some (.iconst 5, 1) := by decide +kernel
theorem ze_5_39 : z_T g d 5 39 ls st h P = z_T g d 5 40 ls (.int (nI 5) :: st) h P := zt_iconst zi_5_39 rfl
theorem zi_5_40 : z_ins 5 40 = some (.imul, 1) := by decide +kernel
theorem ze_5_40 : z_T g d 5 40 ls (.int y :: .int x :: st) h P = z_T g d 5 41 ls (.int (x * y) :: st) h P := zt_bin (f := fun x y => x * y) zi_5_40 rfl (fun _ _ _ => rfl)
theorem zi_5_41 : z_ins 5 41 = some (.iload_n 3, 1) := by decide +kernel
theorem ze_5_41 : z_T g d 5 41 (v0 :: v1 :: v2 :: .int x :: ls) st h P = z_T g d 5 42 (v0 :: v1 :: v2 :: .int x :: ls) (.int x :: st) h P := zt_iloadn zi_5_41 rfl rfl
theorem zi_5_42 : z_ins 5 42 = some (.iadd, 1) := by decide +kernel
theorem ze_5_42 : z_T g d 5 42 ls (.int y :: .int x :: st) h P = z_T g d 5 43 ls (.int (x + y) :: st) h P := zt_bin (f := fun x y => x + y) zi_5_42 rfl (fun _ _ _ => rfl)
theorem zi_5_43 : z_ins 5 43 = some (.iaload, 1) := by decide +kernel
theorem ze_5_43 : z_T g d 5 43 ls (.int x :: .ref a :: st) h P = z_aL h.1 a z_tI x (fun v => z_T g d 5 44 ls (.int v :: st) h P) := zt_iaload zi_5_43
theorem zi_5_44 : z_ins 5 44 = some (.iconst (-1), 1) := by decide +kernel
theorem ze_5_44 : z_T g d 5 44 ls st h P = z_T g d 5 45 ls (.int (-1) :: st) h P := zt_iconst zi_5_44 rfl
theorem zi_5_45 : z_ins 5 45 = some (.if_icmp .ne 27, 3) := by decide +kernel
theorem ze_5_45 : z_T g d 5 45 ls (.int y :: .int x :: st) h P = (if x = y then z_T g d 5 48 ls st h P else z_T g d 5 72 ls st h P) := zt_icmpne zi_5_45 (by decide)
theorem zi_5_48 : z_ins 5 48 = some (.aload_n 0, 1) := by decide +kernel
theorem ze_5_48 : z_T g d 5 48 (.ref a :: ls) st h P = z_T g d 5 49 (.ref a :: ls) (.ref a :: st) h P := zt_aloadn zi_5_48 rfl rfl
theorem zi_5_49 : z_ins 5 49 = some (.getfield 18, 3) := by decide +kernel
theorem ze_5_49 : z_T g d 5 49 ls (.ref a :: st) h P = z_gR h.1 a 0 2 (fun x => z_T g d 5 52 ls (.ref x :: st) h P) := zt_getR zi_5_49 ((congrArg (fun o => z_fl o 18) zo_5).trans zf_LatinRectangles_Completions_18)
theorem zi_5_52 : z_ins 5 52 = some (.aload_n 0, 1) := by decide +kernel
theorem ze_5_52 : z_T g d 5 52 (.ref a :: ls) st h P = z_T g d 5 53 (.ref a :: ls) (.ref a :: st) h P := zt_aloadn zi_5_52 rfl rfl
theorem zi_5_53 : z_ins 5 53 = some (.getfield 55, 3) := by decide +kernel
theorem ze_5_53 : z_T g d 5 53 ls (.ref a :: st) h P = z_gI h.1 a 0 3 (fun x => z_T g d 5 56 ls (.int x :: st) h P) := zt_getI zi_5_53 ((congrArg (fun o => z_fl o 55) zo_5).trans zf_LatinRectangles_Completions_55)
theorem zi_5_56 : z_ins 5 56 = some (.iload_n 2, 1) := by decide +kernel
theorem ze_5_56 : z_T g d 5 56 (v0 :: v1 :: .int x :: ls) st h P = z_T g d 5 57 (v0 :: v1 :: .int x :: ls) (.int x :: st) h P := zt_iloadn zi_5_56 rfl rfl
theorem zi_5_57 : z_ins 5 57 = some (.iconst 5, 1) := by decide +kernel
theorem ze_5_57 : z_T g d 5 57 ls st h P = z_T g d 5 58 ls (.int (nI 5) :: st) h P := zt_iconst zi_5_57 rfl
theorem zi_5_58 : z_ins 5 58 = some (.imul, 1) := by decide +kernel
theorem ze_5_58 : z_T g d 5 58 ls (.int y :: .int x :: st) h P = z_T g d 5 59 ls (.int (x * y) :: st) h P := zt_bin (f := fun x y => x * y) zi_5_58 rfl (fun _ _ _ => rfl)
theorem zi_5_59 : z_ins 5 59 = some (.iload_n 3, 1) := by decide +kernel
theorem ze_5_59 : z_T g d 5 59 (v0 :: v1 :: v2 :: .int x :: ls) st h P = z_T g d 5 60 (v0 :: v1 :: v2 :: .int x :: ls) (.int x :: st) h P := zt_iloadn zi_5_59 rfl rfl
theorem zi_5_60 : z_ins 5 60 = some (.iadd, 1) := by decide +kernel
theorem ze_5_60 : z_T g d 5 60 ls (.int y :: .int x :: st) h P = z_T g d 5 61 ls (.int (x + y) :: st) h P := zt_bin (f := fun x y => x + y) zi_5_60 rfl (fun _ _ _ => rfl)
theorem zi_5_61 : z_ins 5 61 = some (.iastore, 1) := by decide +kernel
theorem ze_5_61 : z_T g d 5 61 ls (.int y :: .int x :: .ref a :: st) h P = z_aS h.1 a z_tI x y (fun f => z_T g d 5 62 ls st (f, h.2) P) := zt_iastore zi_5_61
theorem zi_5_62 : z_ins 5 62 = some (.aload_n 0, 1) := by decide +kernel
theorem ze_5_62 : z_T g d 5 62 (.ref a :: ls) st h P = z_T g d 5 63 (.ref a :: ls) (.ref a :: st) h P := zt_aloadn zi_5_62 rfl rfl
theorem zi_5_63 : z_ins 5 63 = some (.dup, 1) := by decide +kernel
theorem ze_5_63 : z_T g d 5 63 ls (.ref a :: st) h P = z_T g d 5 64 ls (.ref a :: .ref a :: st) h P := zt_dupR zi_5_63
theorem ze_5_63_i : z_T g d 5 63 ls (.int x :: st) h P = z_T g d 5 64 ls (.int x :: .int x :: st) h P := zt_dupI zi_5_63
theorem zi_5_64 : z_ins 5 64 = some (.getfield 55, 3) := by decide +kernel
theorem ze_5_64 : z_T g d 5 64 ls (.ref a :: st) h P = z_gI h.1 a 0 3 (fun x => z_T g d 5 67 ls (.int x :: st) h P) := zt_getI zi_5_64 ((congrArg (fun o => z_fl o 55) zo_5).trans zf_LatinRectangles_Completions_55)
theorem zi_5_67 : z_ins 5 67 = some (.iconst 1, 1) := by decide +kernel
theorem ze_5_67 : z_T g d 5 67 ls st h P = z_T g d 5 68 ls (.int (nI 1) :: st) h P := zt_iconst zi_5_67 rfl
theorem zi_5_68 : z_ins 5 68 = some (.iadd, 1) := by decide +kernel
theorem ze_5_68 : z_T g d 5 68 ls (.int y :: .int x :: st) h P = z_T g d 5 69 ls (.int (x + y) :: st) h P := zt_bin (f := fun x y => x + y) zi_5_68 rfl (fun _ _ _ => rfl)
theorem zi_5_69 : z_ins 5 69 = some (.putfield 55, 3) := by decide +kernel
theorem ze_5_69 : z_T g d 5 69 ls (.int x :: .ref a :: st) h P = z_pF h.1 a 0 3 (.int x) (fun f => z_T g d 5 72 ls st (f, h.2) P) := zt_putI zi_5_69 ((congrArg (fun o => z_fl o 55) zo_5).trans zf_LatinRectangles_Completions_55)
theorem zi_5_72 : z_ins 5 72 = some (.iinc 3 1, 3) := by decide +kernel
theorem ze_5_72 : z_T g d 5 72 (v0 :: v1 :: v2 :: .int x :: ls) st h P = z_T g d 5 75 (v0 :: v1 :: v2 :: .int (x + (nI 1)) :: ls) st h P := zt_iinc zi_5_72 rfl rfl
theorem zi_5_75 : z_ins 5 75 = some (.goto (-55), 3) := by decide +kernel
theorem ze_5_75 : z_T g d 5 75 ls st h P = z_T g d 5 20 ls st h P := zt_goto zi_5_75 (by decide)
theorem zi_5_78 : z_ins 5 78 = some (.iinc 2 1, 3) := by decide +kernel
theorem ze_5_78 : z_T g d 5 78 (v0 :: v1 :: .int x :: ls) st h P = z_T g d 5 81 (v0 :: v1 :: .int (x + (nI 1)) :: ls) st h P := zt_iinc zi_5_78 rfl rfl
theorem zi_5_81 : z_ins 5 81 = some (.goto (-74), 3) := by decide +kernel
theorem ze_5_81 : z_T g d 5 81 ls st h P = z_T g d 5 7 ls st h P := zt_goto zi_5_81 (by decide)
theorem zi_5_84 : z_ins 5 84 = some (.aload_n 0, 1) := by decide +kernel
theorem ze_5_84 : z_T g d 5 84 (.ref a :: ls) st h P = z_T g d 5 85 (.ref a :: ls) (.ref a :: st) h P := zt_aloadn zi_5_84 rfl rfl
theorem zi_5_85 : z_ins 5 85 = some (.iconst 0, 1) := by decide +kernel
theorem ze_5_85 : z_T g d 5 85 ls st h P = z_T g d 5 86 ls (.int (nI 0) :: st) h P := zt_iconst zi_5_85 rfl
theorem zi_5_86 : z_ins 5 86 = some (.iload_n 1, 1) := by decide +kernel
theorem ze_5_86 : z_T g d 5 86 (v0 :: .int x :: ls) st h P = z_T g d 5 87 (v0 :: .int x :: ls) (.int x :: st) h P := zt_iloadn zi_5_86 rfl rfl
theorem zi_5_87 : z_ins 5 87 = some (.invokestatic 61, 3) := by decide +kernel
theorem ze_5_87 : z_T g d 5 87 ls (.int x2 :: .int x1 :: .ref a0 :: st) h P = ((z_okS 8 st = true ∧ 0 < d) ∧ z_Ca g (d - 1) 6 [.ref a0, .int x1, .int x2] h (fun r => z_k r (fun v h' => z_T g d 5 90 ls (z_push v st) h' P) P)) := zt_callS0 (as := [.ref a0, .int x1, .int x2]) zi_5_87 ((congrArg (fun o => z_lookup z_prs (o, 61)) zo_5).trans zp_LatinRectangles_Completions_61) ((congrArg (fun o => z_clk o 61) zo_5).trans zk_LatinRectangles_Completions_61) zh_5 rfl rfl rfl
theorem zi_5_90 : z_ins 5 90 = some (.ireturn, 1) := by decide +kernel
theorem ze_5_90 : z_T g d 5 90 ls [.int x] h P = P (.inr (some (.int x)), h) := zt_ireturn zi_5_90 zr_5
-- LatinRectangles$Completions.countFrom(LLatinRectangles$Completions;II)I
theorem zo_6 : z_own 6 = "LatinRectangles$Completions" := by decide +kernel
theorem zm_6 : z_maxL 6 = 9 := by decide +kernel
theorem zh_6 : z_hds 6 = [] := by decide +kernel
theorem zr_6 : z_rt 6 = (some .int) := by decide +kernel
theorem zn_6 : z_Ca g d 6 [.ref a0, .int x1, .int x2] h P = z_T g d 6 0 [.ref a0, .int x1, .int x2, z_un, z_un, z_un, z_un, z_un, z_un] [] h P := z_Ca_ent zm_6 rfl rfl
theorem zi_6_0 : z_ins 6 0 = some (.iload_n 1, 1) := by decide +kernel
theorem ze_6_0 : z_T g d 6 0 (v0 :: .int x :: ls) st h P = z_T g d 6 1 (v0 :: .int x :: ls) (.int x :: st) h P := zt_iloadn zi_6_0 rfl rfl
theorem zi_6_1 : z_ins 6 1 = some (.aload_n 0, 1) := by decide +kernel
theorem ze_6_1 : z_T g d 6 1 (.ref a :: ls) st h P = z_T g d 6 2 (.ref a :: ls) (.ref a :: st) h P := zt_aloadn zi_6_1 rfl rfl
theorem zi_6_2 : z_ins 6 2 = some (.getfield 55, 3) := by decide +kernel
theorem ze_6_2 : z_T g d 6 2 ls (.ref a :: st) h P = z_gI h.1 a 0 3 (fun x => z_T g d 6 5 ls (.int x :: st) h P) := zt_getI zi_6_2 ((congrArg (fun o => z_fl o 55) zo_6).trans zf_LatinRectangles_Completions_55)
theorem zi_6_5 : z_ins 6 5 = some (.if_icmp .lt 5, 3) := by decide +kernel
theorem ze_6_5 : z_T g d 6 5 ls (.int y :: .int x :: st) h P = (if x < y then z_T g d 6 10 ls st h P else z_T g d 6 8 ls st h P) := zt_icmplt zi_6_5 (by decide)
theorem zi_6_8 : z_ins 6 8 = some (.iconst 1, 1) := by decide +kernel
theorem ze_6_8 : z_T g d 6 8 ls st h P = z_T g d 6 9 ls (.int (nI 1) :: st) h P := zt_iconst zi_6_8 rfl
theorem zi_6_9 : z_ins 6 9 = some (.ireturn, 1) := by decide +kernel
theorem ze_6_9 : z_T g d 6 9 ls [.int x] h P = P (.inr (some (.int x)), h) := zt_ireturn zi_6_9 zr_6
theorem zi_6_10 : z_ins 6 10 = some (.aload_n 0, 1) := by decide +kernel
theorem ze_6_10 : z_T g d 6 10 (.ref a :: ls) st h P = z_T g d 6 11 (.ref a :: ls) (.ref a :: st) h P := zt_aloadn zi_6_10 rfl rfl
theorem zi_6_11 : z_ins 6 11 = some (.iload_n 1, 1) := by decide +kernel
theorem ze_6_11 : z_T g d 6 11 (v0 :: .int x :: ls) st h P = z_T g d 6 12 (v0 :: .int x :: ls) (.int x :: st) h P := zt_iloadn zi_6_11 rfl rfl
theorem zi_6_12 : z_ins 6 12 = some (.invokevirtual 65, 3) := by decide +kernel
theorem ze_6_12 : z_T g d 6 12 ls (.int x0 :: .ref a :: st) h P = ((z_okS 8 st = true ∧ z_gO h.1 a 0 ∧ 0 < d) ∧ z_Ca g (d - 1) 7 [.ref a, .int x0] h (fun r => z_k r (fun v h' => z_T g d 6 15 ls (z_push v st) h' P) P)) := zt_callV (as := [.int x0]) zi_6_12 ((congrArg (fun o => z_lookup z_prs (o, 65)) zo_6).trans zp_LatinRectangles_Completions_65) ((congrArg (fun o => z_clk o 65) zo_6).trans zk_LatinRectangles_Completions_65) zh_6 zc_7 rfl rfl rfl
theorem zi_6_15 : z_ins 6 15 = some (.istore_n 3, 1) := by decide +kernel
theorem ze_6_15 : z_T g d 6 15 (v0 :: v1 :: v2 :: v3 :: ls) (.int x :: st) h P = z_T g d 6 16 (v0 :: v1 :: v2 :: .int x :: ls) st h P := zt_istoren zi_6_15 rfl (Nat.le_add_left 4 _)
theorem zi_6_16 : z_ins 6 16 = some (.iload_n 3, 1) := by decide +kernel
theorem ze_6_16 : z_T g d 6 16 (v0 :: v1 :: v2 :: .int x :: ls) st h P = z_T g d 6 17 (v0 :: v1 :: v2 :: .int x :: ls) (.int x :: st) h P := zt_iloadn zi_6_16 rfl rfl
theorem zi_6_17 : z_ins 6 17 = some (.iconst 5, 1) := by decide +kernel
theorem ze_6_17 : z_T g d 6 17 ls st h P = z_T g d 6 18 ls (.int (nI 5) :: st) h P := zt_iconst zi_6_17 rfl
theorem zi_6_18 : z_ins 6 18 = some (.idiv, 1) := by decide +kernel
theorem ze_6_18 : z_T g d 6 18 ls (.int y :: .int x :: st) h P = (¬ y = nI 0 ∧ z_T g d 6 19 ls (.int (x / y) :: st) h P) := zt_idiv zi_6_18
theorem zi_6_19 : z_ins 6 19 = some (.istore 4, 2) := by decide +kernel
theorem ze_6_19 : z_T g d 6 19 (v0 :: v1 :: v2 :: v3 :: v4 :: ls) (.int x :: st) h P = z_T g d 6 21 (v0 :: v1 :: v2 :: v3 :: .int x :: ls) st h P := zt_istore zi_6_19 (Nat.le_add_left 5 _)
theorem zi_6_21 : z_ins 6 21 = some (.iload_n 3, 1) := by decide +kernel
theorem ze_6_21 : z_T g d 6 21 (v0 :: v1 :: v2 :: .int x :: ls) st h P = z_T g d 6 22 (v0 :: v1 :: v2 :: .int x :: ls) (.int x :: st) h P := zt_iloadn zi_6_21 rfl rfl
theorem zi_6_22 : z_ins 6 22 = some (.iconst 5, 1) := by decide +kernel
theorem ze_6_22 : z_T g d 6 22 ls st h P = z_T g d 6 23 ls (.int (nI 5) :: st) h P := zt_iconst zi_6_22 rfl
theorem zi_6_23 : z_ins 6 23 = some (.irem, 1) := by decide +kernel
theorem ze_6_23 : z_T g d 6 23 ls (.int y :: .int x :: st) h P = (¬ y = nI 0 ∧ z_T g d 6 24 ls (.int (x - x / y * y) :: st) h P) := zt_irem zi_6_23
theorem zi_6_24 : z_ins 6 24 = some (.istore 5, 2) := by decide +kernel
theorem ze_6_24 : z_T g d 6 24 (v0 :: v1 :: v2 :: v3 :: v4 :: v5 :: ls) (.int x :: st) h P = z_T g d 6 26 (v0 :: v1 :: v2 :: v3 :: v4 :: .int x :: ls) st h P := zt_istore zi_6_24 (Nat.le_add_left 6 _)
theorem zi_6_26 : z_ins 6 26 = some (.aload_n 0, 1) := by decide +kernel
theorem ze_6_26 : z_T g d 6 26 (.ref a :: ls) st h P = z_T g d 6 27 (.ref a :: ls) (.ref a :: st) h P := zt_aloadn zi_6_26 rfl rfl
theorem zi_6_27 : z_ins 6 27 = some (.getfield 12, 3) := by decide +kernel
theorem ze_6_27 : z_T g d 6 27 ls (.ref a :: st) h P = z_gR h.1 a 0 1 (fun x => z_T g d 6 30 ls (.ref x :: st) h P) := zt_getR zi_6_27 ((congrArg (fun o => z_fl o 12) zo_6).trans zf_LatinRectangles_Completions_12)
theorem zi_6_30 : z_ins 6 30 = some (.iload 4, 2) := by decide +kernel
theorem ze_6_30 : z_T g d 6 30 (v0 :: v1 :: v2 :: v3 :: .int x :: ls) st h P = z_T g d 6 32 (v0 :: v1 :: v2 :: v3 :: .int x :: ls) (.int x :: st) h P := zt_iload zi_6_30 rfl
theorem zi_6_32 : z_ins 6 32 = some (.iload 5, 2) := by decide +kernel
theorem ze_6_32 : z_T g d 6 32 (v0 :: v1 :: v2 :: v3 :: v4 :: .int x :: ls) st h P = z_T g d 6 34 (v0 :: v1 :: v2 :: v3 :: v4 :: .int x :: ls) (.int x :: st) h P := zt_iload zi_6_32 rfl
theorem zi_6_34 : z_ins 6 34 = some (.invokevirtual 44, 3) := by decide +kernel
theorem ze_6_34 : z_T g d 6 34 ls (.int x1 :: .int x0 :: .ref a :: st) h P = ((z_okS 8 st = true ∧ z_gO h.1 a 3 ∧ 0 < d) ∧ z_Ca g (d - 1) 38 [.ref a, .int x0, .int x1] h (fun r => z_k r (fun v h' => z_T g d 6 37 ls (z_push v st) h' P) P)) := zt_callV (as := [.int x0, .int x1]) zi_6_34 ((congrArg (fun o => z_lookup z_prs (o, 44)) zo_6).trans zp_LatinRectangles_Completions_44) ((congrArg (fun o => z_clk o 44) zo_6).trans zk_LatinRectangles_Completions_44) zh_6 zc_38 rfl rfl rfl
theorem zi_6_37 : z_ins 6 37 = some (.istore 6, 2) := by decide +kernel
theorem ze_6_37 : z_T g d 6 37 (v0 :: v1 :: v2 :: v3 :: v4 :: v5 :: v6 :: ls) (.int x :: st) h P = z_T g d 6 39 (v0 :: v1 :: v2 :: v3 :: v4 :: v5 :: .int x :: ls) st h P := zt_istore zi_6_37 (Nat.le_add_left 7 _)
theorem zi_6_39 : z_ins 6 39 = some (.iconst 0, 1) := by decide +kernel
theorem ze_6_39 : z_T g d 6 39 ls st h P = z_T g d 6 40 ls (.int (nI 0) :: st) h P := zt_iconst zi_6_39 rfl
theorem zi_6_40 : z_ins 6 40 = some (.istore 7, 2) := by decide +kernel
theorem ze_6_40 : z_T g d 6 40 (v0 :: v1 :: v2 :: v3 :: v4 :: v5 :: v6 :: v7 :: ls) (.int x :: st) h P = z_T g d 6 42 (v0 :: v1 :: v2 :: v3 :: v4 :: v5 :: v6 :: .int x :: ls) st h P := zt_istore zi_6_40 (Nat.le_add_left 8 _)
theorem zi_6_42 : z_ins 6 42 = some (.iconst 0, 1) := by decide +kernel
theorem ze_6_42 : z_T g d 6 42 ls st h P = z_T g d 6 43 ls (.int (nI 0) :: st) h P := zt_iconst zi_6_42 rfl
theorem zi_6_43 : z_ins 6 43 = some (.istore 8, 2) := by decide +kernel
theorem ze_6_43 : z_T g d 6 43 (v0 :: v1 :: v2 :: v3 :: v4 :: v5 :: v6 :: v7 :: v8 :: ls) (.int x :: st) h P = z_T g d 6 45 (v0 :: v1 :: v2 :: v3 :: v4 :: v5 :: v6 :: v7 :: .int x :: ls) st h P := zt_istore zi_6_43 (Nat.le_add_left 9 _)
theorem zi_6_45 : z_ins 6 45 = some (.iload 8, 2) := by decide +kernel
theorem ze_6_45 : z_T g d 6 45 (v0 :: v1 :: v2 :: v3 :: v4 :: v5 :: v6 :: v7 :: .int x :: ls) st h P = z_T g d 6 47 (v0 :: v1 :: v2 :: v3 :: v4 :: v5 :: v6 :: v7 :: .int x :: ls) (.int x :: st) h P := zt_iload zi_6_45 rfl
theorem zi_6_47 : z_ins 6 47 = some (.aload_n 0, 1) := by decide +kernel
theorem ze_6_47 : z_T g d 6 47 (.ref a :: ls) st h P = z_T g d 6 48 (.ref a :: ls) (.ref a :: st) h P := zt_aloadn zi_6_47 rfl rfl
theorem zi_6_48 : z_ins 6 48 = some (.getfield 12, 3) := by decide +kernel
theorem ze_6_48 : z_T g d 6 48 ls (.ref a :: st) h P = z_gR h.1 a 0 1 (fun x => z_T g d 6 51 ls (.ref x :: st) h P) := zt_getR zi_6_48 ((congrArg (fun o => z_fl o 12) zo_6).trans zf_LatinRectangles_Completions_12)
theorem zi_6_51 : z_ins 6 51 = some (.getfield 33, 3) := by decide +kernel
theorem ze_6_51 : z_T g d 6 51 ls (.ref a :: st) h P = z_gI h.1 a 3 6 (fun x => z_T g d 6 54 ls (.int x :: st) h P) := zt_getI zi_6_51 ((congrArg (fun o => z_fl o 33) zo_6).trans zf_LatinRectangles_Completions_33)
theorem zi_6_54 : z_ins 6 54 = some (.if_icmp .ge 65, 3) := by decide +kernel
theorem ze_6_54 : z_T g d 6 54 ls (.int y :: .int x :: st) h P = (if x < y then z_T g d 6 57 ls st h P else z_T g d 6 119 ls st h P) := zt_icmpge zi_6_54 (by decide)
theorem zi_6_57 : z_ins 6 57 = some (.iload 7, 2) := by decide +kernel
theorem ze_6_57 : z_T g d 6 57 (v0 :: v1 :: v2 :: v3 :: v4 :: v5 :: v6 :: .int x :: ls) st h P = z_T g d 6 59 (v0 :: v1 :: v2 :: v3 :: v4 :: v5 :: v6 :: .int x :: ls) (.int x :: st) h P := zt_iload zi_6_57 rfl
theorem zi_6_59 : z_ins 6 59 = some (.iload_n 2, 1) := by decide +kernel
theorem ze_6_59 : z_T g d 6 59 (v0 :: v1 :: .int x :: ls) st h P = z_T g d 6 60 (v0 :: v1 :: .int x :: ls) (.int x :: st) h P := zt_iloadn zi_6_59 rfl rfl
theorem zi_6_60 : z_ins 6 60 = some (.if_icmp .ge 59, 3) := by decide +kernel
theorem ze_6_60 : z_T g d 6 60 ls (.int y :: .int x :: st) h P = (if x < y then z_T g d 6 63 ls st h P else z_T g d 6 119 ls st h P) := zt_icmpge zi_6_60 (by decide)
theorem zi_6_63 : z_ins 6 63 = some (.iload 6, 2) := by decide +kernel
theorem ze_6_63 : z_T g d 6 63 (v0 :: v1 :: v2 :: v3 :: v4 :: v5 :: .int x :: ls) st h P = z_T g d 6 65 (v0 :: v1 :: v2 :: v3 :: v4 :: v5 :: .int x :: ls) (.int x :: st) h P := zt_iload zi_6_63 rfl
theorem zi_6_65 : z_ins 6 65 = some (.iload 8, 2) := by decide +kernel
theorem ze_6_65 : z_T g d 6 65 (v0 :: v1 :: v2 :: v3 :: v4 :: v5 :: v6 :: v7 :: .int x :: ls) st h P = z_T g d 6 67 (v0 :: v1 :: v2 :: v3 :: v4 :: v5 :: v6 :: v7 :: .int x :: ls) (.int x :: st) h P := zt_iload zi_6_65 rfl
theorem zi_6_67 : z_ins 6 67 = some (.ishr, 1) := by decide +kernel
theorem ze_6_67 : z_T g d 6 67 ls (.int y :: .int x :: st) h P = z_T g d 6 68 ls (.int (x >>> (y &&& 31)) :: st) h P := zt_bin (f := fun x y => x >>> (y &&& 31)) zi_6_67 rfl (fun _ _ _ => rfl)
theorem zi_6_68 : z_ins 6 68 = some (.iconst 1, 1) := by decide +kernel
theorem ze_6_68 : z_T g d 6 68 ls st h P = z_T g d 6 69 ls (.int (nI 1) :: st) h P := zt_iconst zi_6_68 rfl
theorem zi_6_69 : z_ins 6 69 = some (.iand, 1) := by decide +kernel
theorem ze_6_69 : z_T g d 6 69 ls (.int y :: .int x :: st) h P = z_T g d 6 70 ls (.int (x &&& y) :: st) h P := zt_bin (f := fun x y => x &&& y) zi_6_69 rfl (fun _ _ _ => rfl)
theorem zi_6_70 : z_ins 6 70 = some (.ifCond .eq 43, 3) := by decide +kernel
theorem ze_6_70 : z_T g d 6 70 ls (.int x :: st) h P = (if x = nI 0 then z_T g d 6 113 ls st h P else z_T g d 6 73 ls st h P) := zt_ifeq zi_6_70 (by decide)
theorem zi_6_73 : z_ins 6 73 = some (.aload_n 0, 1) := by decide +kernel
theorem ze_6_73 : z_T g d 6 73 (.ref a :: ls) st h P = z_T g d 6 74 (.ref a :: ls) (.ref a :: st) h P := zt_aloadn zi_6_73 rfl rfl
theorem zi_6_74 : z_ins 6 74 = some (.getfield 12, 3) := by decide +kernel
theorem ze_6_74 : z_T g d 6 74 ls (.ref a :: st) h P = z_gR h.1 a 0 1 (fun x => z_T g d 6 77 ls (.ref x :: st) h P) := zt_getR zi_6_74 ((congrArg (fun o => z_fl o 12) zo_6).trans zf_LatinRectangles_Completions_12)
theorem zi_6_77 : z_ins 6 77 = some (.iload 4, 2) := by decide +kernel
theorem ze_6_77 : z_T g d 6 77 (v0 :: v1 :: v2 :: v3 :: .int x :: ls) st h P = z_T g d 6 79 (v0 :: v1 :: v2 :: v3 :: .int x :: ls) (.int x :: st) h P := zt_iload zi_6_77 rfl
theorem zi_6_79 : z_ins 6 79 = some (.iload 5, 2) := by decide +kernel
theorem ze_6_79 : z_T g d 6 79 (v0 :: v1 :: v2 :: v3 :: v4 :: .int x :: ls) st h P = z_T g d 6 81 (v0 :: v1 :: v2 :: v3 :: v4 :: .int x :: ls) (.int x :: st) h P := zt_iload zi_6_79 rfl
theorem zi_6_81 : z_ins 6 81 = some (.iload 8, 2) := by decide +kernel
theorem ze_6_81 : z_T g d 6 81 (v0 :: v1 :: v2 :: v3 :: v4 :: v5 :: v6 :: v7 :: .int x :: ls) st h P = z_T g d 6 83 (v0 :: v1 :: v2 :: v3 :: v4 :: v5 :: v6 :: v7 :: .int x :: ls) (.int x :: st) h P := zt_iload zi_6_81 rfl
theorem zi_6_83 : z_ins 6 83 = some (.invokevirtual 48, 3) := by decide +kernel
theorem ze_6_83 : z_T g d 6 83 ls (.int x2 :: .int x1 :: .int x0 :: .ref a :: st) h P = ((z_okS 8 st = true ∧ z_gO h.1 a 3 ∧ 0 < d) ∧ z_Ca g (d - 1) 33 [.ref a, .int x0, .int x1, .int x2] h (fun r => z_k r (fun v h' => z_T g d 6 86 ls (z_push v st) h' P) P)) := zt_callV (as := [.int x0, .int x1, .int x2]) zi_6_83 ((congrArg (fun o => z_lookup z_prs (o, 48)) zo_6).trans zp_LatinRectangles_Completions_48) ((congrArg (fun o => z_clk o 48) zo_6).trans zk_LatinRectangles_Completions_48) zh_6 zc_33 rfl rfl rfl
theorem zi_6_86 : z_ins 6 86 = some (.iload 7, 2) := by decide +kernel
theorem ze_6_86 : z_T g d 6 86 (v0 :: v1 :: v2 :: v3 :: v4 :: v5 :: v6 :: .int x :: ls) st h P = z_T g d 6 88 (v0 :: v1 :: v2 :: v3 :: v4 :: v5 :: v6 :: .int x :: ls) (.int x :: st) h P := zt_iload zi_6_86 rfl
theorem zi_6_88 : z_ins 6 88 = some (.aload_n 0, 1) := by decide +kernel
theorem ze_6_88 : z_T g d 6 88 (.ref a :: ls) st h P = z_T g d 6 89 (.ref a :: ls) (.ref a :: st) h P := zt_aloadn zi_6_88 rfl rfl
theorem zi_6_89 : z_ins 6 89 = some (.iload_n 1, 1) := by decide +kernel
theorem ze_6_89 : z_T g d 6 89 (v0 :: .int x :: ls) st h P = z_T g d 6 90 (v0 :: .int x :: ls) (.int x :: st) h P := zt_iloadn zi_6_89 rfl rfl
theorem zi_6_90 : z_ins 6 90 = some (.iconst 1, 1) := by decide +kernel
theorem ze_6_90 : z_T g d 6 90 ls st h P = z_T g d 6 91 ls (.int (nI 1) :: st) h P := zt_iconst zi_6_90 rfl
theorem zi_6_91 : z_ins 6 91 = some (.iadd, 1) := by decide +kernel
theorem ze_6_91 : z_T g d 6 91 ls (.int y :: .int x :: st) h P = z_T g d 6 92 ls (.int (x + y) :: st) h P := zt_bin (f := fun x y => x + y) zi_6_91 rfl (fun _ _ _ => rfl)
theorem zi_6_92 : z_ins 6 92 = some (.iload_n 2, 1) := by decide +kernel
theorem ze_6_92 : z_T g d 6 92 (v0 :: v1 :: .int x :: ls) st h P = z_T g d 6 93 (v0 :: v1 :: .int x :: ls) (.int x :: st) h P := zt_iloadn zi_6_92 rfl rfl
theorem zi_6_93 : z_ins 6 93 = some (.iload 7, 2) := by decide +kernel
theorem ze_6_93 : z_T g d 6 93 (v0 :: v1 :: v2 :: v3 :: v4 :: v5 :: v6 :: .int x :: ls) st h P = z_T g d 6 95 (v0 :: v1 :: v2 :: v3 :: v4 :: v5 :: v6 :: .int x :: ls) (.int x :: st) h P := zt_iload zi_6_93 rfl
theorem zi_6_95 : z_ins 6 95 = some (.isub, 1) := by decide +kernel
theorem ze_6_95 : z_T g d 6 95 ls (.int y :: .int x :: st) h P = z_T g d 6 96 ls (.int (x - y) :: st) h P := zt_bin (f := fun x y => x - y) zi_6_95 rfl (fun _ _ _ => rfl)
theorem zi_6_96 : z_ins 6 96 = some (.invokestatic 61, 3) := by decide +kernel
theorem ze_6_96 : z_T g d 6 96 ls (.int x2 :: .int x1 :: .ref a0 :: st) h P = ((z_okS 8 st = true ∧ 0 < d) ∧ z_Ca g (d - 1) 6 [.ref a0, .int x1, .int x2] h (fun r => z_k r (fun v h' => z_T g d 6 99 ls (z_push v st) h' P) P)) := zt_callS0 (as := [.ref a0, .int x1, .int x2]) zi_6_96 ((congrArg (fun o => z_lookup z_prs (o, 61)) zo_6).trans zp_LatinRectangles_Completions_61) ((congrArg (fun o => z_clk o 61) zo_6).trans zk_LatinRectangles_Completions_61) zh_6 rfl rfl rfl
theorem zi_6_99 : z_ins 6 99 = some (.iadd, 1) := by decide +kernel
theorem ze_6_99 : z_T g d 6 99 ls (.int y :: .int x :: st) h P = z_T g d 6 100 ls (.int (x + y) :: st) h P := zt_bin (f := fun x y => x + y) zi_6_99 rfl (fun _ _ _ => rfl)
theorem zi_6_100 : z_ins 6 100 = some (.istore 7, 2) := by decide +kernel
theorem ze_6_100 : z_T g d 6 100 (v0 :: v1 :: v2 :: v3 :: v4 :: v5 :: v6 :: v7 :: ls) (.int x :: st) h P = z_T g d 6 102 (v0 :: v1 :: v2 :: v3 :: v4 :: v5 :: v6 :: .int x :: ls) st h P := zt_istore zi_6_100 (Nat.le_add_left 8 _)
theorem zi_6_102 : z_ins 6 102 = some (.aload_n 0, 1) := by decide +kernel
theorem ze_6_102 : z_T g d 6 102 (.ref a :: ls) st h P = z_T g d 6 103 (.ref a :: ls) (.ref a :: st) h P := zt_aloadn zi_6_102 rfl rfl
theorem zi_6_103 : z_ins 6 103 = some (.getfield 12, 3) := by decide +kernel
theorem ze_6_103 : z_T g d 6 103 ls (.ref a :: st) h P = z_gR h.1 a 0 1 (fun x => z_T g d 6 106 ls (.ref x :: st) h P) := zt_getR zi_6_103 ((congrArg (fun o => z_fl o 12) zo_6).trans zf_LatinRectangles_Completions_12)
theorem zi_6_106 : z_ins 6 106 = some (.iload 4, 2) := by decide +kernel
theorem ze_6_106 : z_T g d 6 106 (v0 :: v1 :: v2 :: v3 :: .int x :: ls) st h P = z_T g d 6 108 (v0 :: v1 :: v2 :: v3 :: .int x :: ls) (.int x :: st) h P := zt_iload zi_6_106 rfl
theorem zi_6_108 : z_ins 6 108 = some (.iload 5, 2) := by decide +kernel
theorem ze_6_108 : z_T g d 6 108 (v0 :: v1 :: v2 :: v3 :: v4 :: .int x :: ls) st h P = z_T g d 6 110 (v0 :: v1 :: v2 :: v3 :: v4 :: .int x :: ls) (.int x :: st) h P := zt_iload zi_6_108 rfl
theorem zi_6_110 : z_ins 6 110 = some (.invokevirtual 52, 3) := by decide +kernel
theorem ze_6_110 : z_T g d 6 110 ls (.int x1 :: .int x0 :: .ref a :: st) h P = ((z_okS 8 st = true ∧ z_gO h.1 a 3 ∧ 0 < d) ∧ z_Ca g (d - 1) 34 [.ref a, .int x0, .int x1] h (fun r => z_k r (fun v h' => z_T g d 6 113 ls (z_push v st) h' P) P)) := zt_callV (as := [.int x0, .int x1]) zi_6_110 ((congrArg (fun o => z_lookup z_prs (o, 52)) zo_6).trans zp_LatinRectangles_Completions_52) ((congrArg (fun o => z_clk o 52) zo_6).trans zk_LatinRectangles_Completions_52) zh_6 zc_34 rfl rfl rfl
theorem zi_6_113 : z_ins 6 113 = some (.iinc 8 1, 3) := by decide +kernel
theorem ze_6_113 : z_T g d 6 113 (v0 :: v1 :: v2 :: v3 :: v4 :: v5 :: v6 :: v7 :: .int x :: ls) st h P = z_T g d 6 116 (v0 :: v1 :: v2 :: v3 :: v4 :: v5 :: v6 :: v7 :: .int (x + (nI 1)) :: ls) st h P := zt_iinc zi_6_113 rfl rfl
theorem zi_6_116 : z_ins 6 116 = some (.goto (-71), 3) := by decide +kernel
theorem ze_6_116 : z_T g d 6 116 ls st h P = z_T g d 6 45 ls st h P := zt_goto zi_6_116 (by decide)
theorem zi_6_119 : z_ins 6 119 = some (.iload 7, 2) := by decide +kernel
theorem ze_6_119 : z_T g d 6 119 (v0 :: v1 :: v2 :: v3 :: v4 :: v5 :: v6 :: .int x :: ls) st h P = z_T g d 6 121 (v0 :: v1 :: v2 :: v3 :: v4 :: v5 :: v6 :: .int x :: ls) (.int x :: st) h P := zt_iload zi_6_119 rfl
theorem zi_6_121 : z_ins 6 121 = some (.ireturn, 1) := by decide +kernel
theorem ze_6_121 : z_T g d 6 121 ls [.int x] h P = P (.inr (some (.int x)), h) := zt_ireturn zi_6_121 zr_6
-- LatinRectangles$Completions.bringTightest(I)I
theorem zo_7 : z_own 7 = "LatinRectangles$Completions" := by decide +kernel
theorem zm_7 : z_maxL 7 = 6 := by decide +kernel
theorem zh_7 : z_hds 7 = [] := by decide +kernel
theorem zr_7 : z_rt 7 = (some .int) := by decide +kernel
theorem zn_7 : z_Ca g d 7 [.ref a0, .int x1] h P = z_T g d 7 0 [.ref a0, .int x1, z_un, z_un, z_un, z_un] [] h P := z_Ca_ent zm_7 rfl rfl
theorem zi_7_0 : z_ins 7 0 = some (.iload_n 1, 1) := by decide +kernel
theorem ze_7_0 : z_T g d 7 0 (v0 :: .int x :: ls) st h P = z_T g d 7 1 (v0 :: .int x :: ls) (.int x :: st) h P := zt_iloadn zi_7_0 rfl rfl
theorem zi_7_1 : z_ins 7 1 = some (.istore_n 2, 1) := by decide +kernel
theorem ze_7_1 : z_T g d 7 1 (v0 :: v1 :: v2 :: ls) (.int x :: st) h P = z_T g d 7 2 (v0 :: v1 :: .int x :: ls) st h P := zt_istoren zi_7_1 rfl (Nat.le_add_left 3 _)
theorem zi_7_2 : z_ins 7 2 = some (.bipush 6, 2) := by decide +kernel
theorem ze_7_2 : z_T g d 7 2 ls st h P = z_T g d 7 4 ls (.int (nI 6) :: st) h P := zt_bipush zi_7_2 rfl
theorem zi_7_4 : z_ins 7 4 = some (.istore_n 3, 1) := by decide +kernel
theorem ze_7_4 : z_T g d 7 4 (v0 :: v1 :: v2 :: v3 :: ls) (.int x :: st) h P = z_T g d 7 5 (v0 :: v1 :: v2 :: .int x :: ls) st h P := zt_istoren zi_7_4 rfl (Nat.le_add_left 4 _)
theorem zi_7_5 : z_ins 7 5 = some (.iload_n 1, 1) := by decide +kernel
theorem ze_7_5 : z_T g d 7 5 (v0 :: .int x :: ls) st h P = z_T g d 7 6 (v0 :: .int x :: ls) (.int x :: st) h P := zt_iloadn zi_7_5 rfl rfl
theorem zi_7_6 : z_ins 7 6 = some (.istore 4, 2) := by decide +kernel
theorem ze_7_6 : z_T g d 7 6 (v0 :: v1 :: v2 :: v3 :: v4 :: ls) (.int x :: st) h P = z_T g d 7 8 (v0 :: v1 :: v2 :: v3 :: .int x :: ls) st h P := zt_istore zi_7_6 (Nat.le_add_left 5 _)
theorem zi_7_8 : z_ins 7 8 = some (.iload 4, 2) := by decide +kernel
theorem ze_7_8 : z_T g d 7 8 (v0 :: v1 :: v2 :: v3 :: .int x :: ls) st h P = z_T g d 7 10 (v0 :: v1 :: v2 :: v3 :: .int x :: ls) (.int x :: st) h P := zt_iload zi_7_8 rfl
theorem zi_7_10 : z_ins 7 10 = some (.aload_n 0, 1) := by decide +kernel
theorem ze_7_10 : z_T g d 7 10 (.ref a :: ls) st h P = z_T g d 7 11 (.ref a :: ls) (.ref a :: st) h P := zt_aloadn zi_7_10 rfl rfl
theorem zi_7_11 : z_ins 7 11 = some (.getfield 55, 3) := by decide +kernel
theorem ze_7_11 : z_T g d 7 11 ls (.ref a :: st) h P = z_gI h.1 a 0 3 (fun x => z_T g d 7 14 ls (.int x :: st) h P) := zt_getI zi_7_11 ((congrArg (fun o => z_fl o 55) zo_7).trans zf_LatinRectangles_Completions_55)
theorem zi_7_14 : z_ins 7 14 = some (.if_icmp .ge 56, 3) := by decide +kernel
theorem ze_7_14 : z_T g d 7 14 ls (.int y :: .int x :: st) h P = (if x < y then z_T g d 7 17 ls st h P else z_T g d 7 70 ls st h P) := zt_icmpge zi_7_14 (by decide)
theorem zi_7_17 : z_ins 7 17 = some (.iload_n 3, 1) := by decide +kernel
theorem ze_7_17 : z_T g d 7 17 (v0 :: v1 :: v2 :: .int x :: ls) st h P = z_T g d 7 18 (v0 :: v1 :: v2 :: .int x :: ls) (.int x :: st) h P := zt_iloadn zi_7_17 rfl rfl
theorem zi_7_18 : z_ins 7 18 = some (.iconst 1, 1) := by decide +kernel
theorem ze_7_18 : z_T g d 7 18 ls st h P = z_T g d 7 19 ls (.int (nI 1) :: st) h P := zt_iconst zi_7_18 rfl
theorem zi_7_19 : z_ins 7 19 = some (.if_icmp .le 51, 3) := by decide +kernel
theorem ze_7_19 : z_T g d 7 19 ls (.int y :: .int x :: st) h P = (if y < x then z_T g d 7 22 ls st h P else z_T g d 7 70 ls st h P) := zt_icmple zi_7_19 (by decide)
theorem zi_7_22 : z_ins 7 22 = some (.aload_n 0, 1) := by decide +kernel
theorem ze_7_22 : z_T g d 7 22 (.ref a :: ls) st h P = z_T g d 7 23 (.ref a :: ls) (.ref a :: st) h P := zt_aloadn zi_7_22 rfl rfl
theorem zi_7_23 : z_ins 7 23 = some (.getfield 12, 3) := by decide +kernel
theorem ze_7_23 : z_T g d 7 23 ls (.ref a :: st) h P = z_gR h.1 a 0 1 (fun x => z_T g d 7 26 ls (.ref x :: st) h P) := zt_getR zi_7_23 ((congrArg (fun o => z_fl o 12) zo_7).trans zf_LatinRectangles_Completions_12)
theorem zi_7_26 : z_ins 7 26 = some (.aload_n 0, 1) := by decide +kernel
theorem ze_7_26 : z_T g d 7 26 (.ref a :: ls) st h P = z_T g d 7 27 (.ref a :: ls) (.ref a :: st) h P := zt_aloadn zi_7_26 rfl rfl
theorem zi_7_27 : z_ins 7 27 = some (.getfield 18, 3) := by decide +kernel
theorem ze_7_27 : z_T g d 7 27 ls (.ref a :: st) h P = z_gR h.1 a 0 2 (fun x => z_T g d 7 30 ls (.ref x :: st) h P) := zt_getR zi_7_27 ((congrArg (fun o => z_fl o 18) zo_7).trans zf_LatinRectangles_Completions_18)
theorem zi_7_30 : z_ins 7 30 = some (.iload 4, 2) := by decide +kernel
theorem ze_7_30 : z_T g d 7 30 (v0 :: v1 :: v2 :: v3 :: .int x :: ls) st h P = z_T g d 7 32 (v0 :: v1 :: v2 :: v3 :: .int x :: ls) (.int x :: st) h P := zt_iload zi_7_30 rfl
theorem zi_7_32 : z_ins 7 32 = some (.iaload, 1) := by decide +kernel
theorem ze_7_32 : z_T g d 7 32 ls (.int x :: .ref a :: st) h P = z_aL h.1 a z_tI x (fun v => z_T g d 7 33 ls (.int v :: st) h P) := zt_iaload zi_7_32
theorem zi_7_33 : z_ins 7 33 = some (.iconst 5, 1) := by decide +kernel
theorem ze_7_33 : z_T g d 7 33 ls st h P = z_T g d 7 34 ls (.int (nI 5) :: st) h P := zt_iconst zi_7_33 rfl
theorem zi_7_34 : z_ins 7 34 = some (.idiv, 1) := by decide +kernel
theorem ze_7_34 : z_T g d 7 34 ls (.int y :: .int x :: st) h P = (¬ y = nI 0 ∧ z_T g d 7 35 ls (.int (x / y) :: st) h P) := zt_idiv zi_7_34
theorem zi_7_35 : z_ins 7 35 = some (.aload_n 0, 1) := by decide +kernel
theorem ze_7_35 : z_T g d 7 35 (.ref a :: ls) st h P = z_T g d 7 36 (.ref a :: ls) (.ref a :: st) h P := zt_aloadn zi_7_35 rfl rfl
theorem zi_7_36 : z_ins 7 36 = some (.getfield 18, 3) := by decide +kernel
theorem ze_7_36 : z_T g d 7 36 ls (.ref a :: st) h P = z_gR h.1 a 0 2 (fun x => z_T g d 7 39 ls (.ref x :: st) h P) := zt_getR zi_7_36 ((congrArg (fun o => z_fl o 18) zo_7).trans zf_LatinRectangles_Completions_18)
theorem zi_7_39 : z_ins 7 39 = some (.iload 4, 2) := by decide +kernel
theorem ze_7_39 : z_T g d 7 39 (v0 :: v1 :: v2 :: v3 :: .int x :: ls) st h P = z_T g d 7 41 (v0 :: v1 :: v2 :: v3 :: .int x :: ls) (.int x :: st) h P := zt_iload zi_7_39 rfl
theorem zi_7_41 : z_ins 7 41 = some (.iaload, 1) := by decide +kernel
theorem ze_7_41 : z_T g d 7 41 ls (.int x :: .ref a :: st) h P = z_aL h.1 a z_tI x (fun v => z_T g d 7 42 ls (.int v :: st) h P) := zt_iaload zi_7_41
theorem zi_7_42 : z_ins 7 42 = some (.iconst 5, 1) := by decide +kernel
theorem ze_7_42 : z_T g d 7 42 ls st h P = z_T g d 7 43 ls (.int (nI 5) :: st) h P := zt_iconst zi_7_42 rfl
theorem zi_7_43 : z_ins 7 43 = some (.irem, 1) := by decide +kernel
theorem ze_7_43 : z_T g d 7 43 ls (.int y :: .int x :: st) h P = (¬ y = nI 0 ∧ z_T g d 7 44 ls (.int (x - x / y * y) :: st) h P) := zt_irem zi_7_43
theorem zi_7_44 : z_ins 7 44 = some (.invokevirtual 44, 3) := by decide +kernel
theorem ze_7_44 : z_T g d 7 44 ls (.int x1 :: .int x0 :: .ref a :: st) h P = ((z_okS 8 st = true ∧ z_gO h.1 a 3 ∧ 0 < d) ∧ z_Ca g (d - 1) 38 [.ref a, .int x0, .int x1] h (fun r => z_k r (fun v h' => z_T g d 7 47 ls (z_push v st) h' P) P)) := zt_callV (as := [.int x0, .int x1]) zi_7_44 ((congrArg (fun o => z_lookup z_prs (o, 44)) zo_7).trans zp_LatinRectangles_Completions_44) ((congrArg (fun o => z_clk o 44) zo_7).trans zk_LatinRectangles_Completions_44) zh_7 zc_38 rfl rfl rfl
theorem zi_7_47 : z_ins 7 47 = some (.invokestatic 68, 3) := by decide +kernel
theorem ze_7_47 : z_T g d 7 47 ls (.int x0 :: st) h P = ((z_okS 8 st = true ∧ 0 < d) ∧ z_Ca g (d - 1) 201 [.int x0] h (fun r => z_k r (fun v h' => z_T g d 7 50 ls (z_push v st) h' P) P)) := zt_callS0 (as := [.int x0]) zi_7_47 ((congrArg (fun o => z_lookup z_prs (o, 68)) zo_7).trans zp_LatinRectangles_Completions_68) ((congrArg (fun o => z_clk o 68) zo_7).trans zk_LatinRectangles_Completions_68) zh_7 rfl rfl rfl
theorem zi_7_50 : z_ins 7 50 = some (.istore 5, 2) := by decide +kernel
theorem ze_7_50 : z_T g d 7 50 (v0 :: v1 :: v2 :: v3 :: v4 :: v5 :: ls) (.int x :: st) h P = z_T g d 7 52 (v0 :: v1 :: v2 :: v3 :: v4 :: .int x :: ls) st h P := zt_istore zi_7_50 (Nat.le_add_left 6 _)
theorem zi_7_52 : z_ins 7 52 = some (.iload 5, 2) := by decide +kernel
theorem ze_7_52 : z_T g d 7 52 (v0 :: v1 :: v2 :: v3 :: v4 :: .int x :: ls) st h P = z_T g d 7 54 (v0 :: v1 :: v2 :: v3 :: v4 :: .int x :: ls) (.int x :: st) h P := zt_iload zi_7_52 rfl
theorem zi_7_54 : z_ins 7 54 = some (.iload_n 3, 1) := by decide +kernel
theorem ze_7_54 : z_T g d 7 54 (v0 :: v1 :: v2 :: .int x :: ls) st h P = z_T g d 7 55 (v0 :: v1 :: v2 :: .int x :: ls) (.int x :: st) h P := zt_iloadn zi_7_54 rfl rfl
theorem zi_7_55 : z_ins 7 55 = some (.if_icmp .ge 9, 3) := by decide +kernel
theorem ze_7_55 : z_T g d 7 55 ls (.int y :: .int x :: st) h P = (if x < y then z_T g d 7 58 ls st h P else z_T g d 7 64 ls st h P) := zt_icmpge zi_7_55 (by decide)
theorem zi_7_58 : z_ins 7 58 = some (.iload 5, 2) := by decide +kernel
theorem ze_7_58 : z_T g d 7 58 (v0 :: v1 :: v2 :: v3 :: v4 :: .int x :: ls) st h P = z_T g d 7 60 (v0 :: v1 :: v2 :: v3 :: v4 :: .int x :: ls) (.int x :: st) h P := zt_iload zi_7_58 rfl
theorem zi_7_60 : z_ins 7 60 = some (.istore_n 3, 1) := by decide +kernel
theorem ze_7_60 : z_T g d 7 60 (v0 :: v1 :: v2 :: v3 :: ls) (.int x :: st) h P = z_T g d 7 61 (v0 :: v1 :: v2 :: .int x :: ls) st h P := zt_istoren zi_7_60 rfl (Nat.le_add_left 4 _)
theorem zi_7_61 : z_ins 7 61 = some (.iload 4, 2) := by decide +kernel
theorem ze_7_61 : z_T g d 7 61 (v0 :: v1 :: v2 :: v3 :: .int x :: ls) st h P = z_T g d 7 63 (v0 :: v1 :: v2 :: v3 :: .int x :: ls) (.int x :: st) h P := zt_iload zi_7_61 rfl
theorem zi_7_63 : z_ins 7 63 = some (.istore_n 2, 1) := by decide +kernel
theorem ze_7_63 : z_T g d 7 63 (v0 :: v1 :: v2 :: ls) (.int x :: st) h P = z_T g d 7 64 (v0 :: v1 :: .int x :: ls) st h P := zt_istoren zi_7_63 rfl (Nat.le_add_left 3 _)
theorem zi_7_64 : z_ins 7 64 = some (.iinc 4 1, 3) := by decide +kernel
theorem ze_7_64 : z_T g d 7 64 (v0 :: v1 :: v2 :: v3 :: .int x :: ls) st h P = z_T g d 7 67 (v0 :: v1 :: v2 :: v3 :: .int (x + (nI 1)) :: ls) st h P := zt_iinc zi_7_64 rfl rfl
theorem zi_7_67 : z_ins 7 67 = some (.goto (-59), 3) := by decide +kernel
theorem ze_7_67 : z_T g d 7 67 ls st h P = z_T g d 7 8 ls st h P := zt_goto zi_7_67 (by decide)
theorem zi_7_70 : z_ins 7 70 = some (.aload_n 0, 1) := by decide +kernel
theorem ze_7_70 : z_T g d 7 70 (.ref a :: ls) st h P = z_T g d 7 71 (.ref a :: ls) (.ref a :: st) h P := zt_aloadn zi_7_70 rfl rfl
theorem zi_7_71 : z_ins 7 71 = some (.getfield 18, 3) := by decide +kernel
theorem ze_7_71 : z_T g d 7 71 ls (.ref a :: st) h P = z_gR h.1 a 0 2 (fun x => z_T g d 7 74 ls (.ref x :: st) h P) := zt_getR zi_7_71 ((congrArg (fun o => z_fl o 18) zo_7).trans zf_LatinRectangles_Completions_18)
theorem zi_7_74 : z_ins 7 74 = some (.iload_n 2, 1) := by decide +kernel
theorem ze_7_74 : z_T g d 7 74 (v0 :: v1 :: .int x :: ls) st h P = z_T g d 7 75 (v0 :: v1 :: .int x :: ls) (.int x :: st) h P := zt_iloadn zi_7_74 rfl rfl
theorem zi_7_75 : z_ins 7 75 = some (.iaload, 1) := by decide +kernel
theorem ze_7_75 : z_T g d 7 75 ls (.int x :: .ref a :: st) h P = z_aL h.1 a z_tI x (fun v => z_T g d 7 76 ls (.int v :: st) h P) := zt_iaload zi_7_75
theorem zi_7_76 : z_ins 7 76 = some (.istore 4, 2) := by decide +kernel
theorem ze_7_76 : z_T g d 7 76 (v0 :: v1 :: v2 :: v3 :: v4 :: ls) (.int x :: st) h P = z_T g d 7 78 (v0 :: v1 :: v2 :: v3 :: .int x :: ls) st h P := zt_istore zi_7_76 (Nat.le_add_left 5 _)
theorem zi_7_78 : z_ins 7 78 = some (.aload_n 0, 1) := by decide +kernel
theorem ze_7_78 : z_T g d 7 78 (.ref a :: ls) st h P = z_T g d 7 79 (.ref a :: ls) (.ref a :: st) h P := zt_aloadn zi_7_78 rfl rfl
theorem zi_7_79 : z_ins 7 79 = some (.getfield 18, 3) := by decide +kernel
theorem ze_7_79 : z_T g d 7 79 ls (.ref a :: st) h P = z_gR h.1 a 0 2 (fun x => z_T g d 7 82 ls (.ref x :: st) h P) := zt_getR zi_7_79 ((congrArg (fun o => z_fl o 18) zo_7).trans zf_LatinRectangles_Completions_18)
theorem zi_7_82 : z_ins 7 82 = some (.iload_n 2, 1) := by decide +kernel
theorem ze_7_82 : z_T g d 7 82 (v0 :: v1 :: .int x :: ls) st h P = z_T g d 7 83 (v0 :: v1 :: .int x :: ls) (.int x :: st) h P := zt_iloadn zi_7_82 rfl rfl
theorem zi_7_83 : z_ins 7 83 = some (.aload_n 0, 1) := by decide +kernel
theorem ze_7_83 : z_T g d 7 83 (.ref a :: ls) st h P = z_T g d 7 84 (.ref a :: ls) (.ref a :: st) h P := zt_aloadn zi_7_83 rfl rfl
theorem zi_7_84 : z_ins 7 84 = some (.getfield 18, 3) := by decide +kernel
theorem ze_7_84 : z_T g d 7 84 ls (.ref a :: st) h P = z_gR h.1 a 0 2 (fun x => z_T g d 7 87 ls (.ref x :: st) h P) := zt_getR zi_7_84 ((congrArg (fun o => z_fl o 18) zo_7).trans zf_LatinRectangles_Completions_18)
theorem zi_7_87 : z_ins 7 87 = some (.iload_n 1, 1) := by decide +kernel
theorem ze_7_87 : z_T g d 7 87 (v0 :: .int x :: ls) st h P = z_T g d 7 88 (v0 :: .int x :: ls) (.int x :: st) h P := zt_iloadn zi_7_87 rfl rfl
theorem zi_7_88 : z_ins 7 88 = some (.iaload, 1) := by decide +kernel
theorem ze_7_88 : z_T g d 7 88 ls (.int x :: .ref a :: st) h P = z_aL h.1 a z_tI x (fun v => z_T g d 7 89 ls (.int v :: st) h P) := zt_iaload zi_7_88
theorem zi_7_89 : z_ins 7 89 = some (.iastore, 1) := by decide +kernel
theorem ze_7_89 : z_T g d 7 89 ls (.int y :: .int x :: .ref a :: st) h P = z_aS h.1 a z_tI x y (fun f => z_T g d 7 90 ls st (f, h.2) P) := zt_iastore zi_7_89
theorem zi_7_90 : z_ins 7 90 = some (.aload_n 0, 1) := by decide +kernel
theorem ze_7_90 : z_T g d 7 90 (.ref a :: ls) st h P = z_T g d 7 91 (.ref a :: ls) (.ref a :: st) h P := zt_aloadn zi_7_90 rfl rfl
theorem zi_7_91 : z_ins 7 91 = some (.getfield 18, 3) := by decide +kernel
theorem ze_7_91 : z_T g d 7 91 ls (.ref a :: st) h P = z_gR h.1 a 0 2 (fun x => z_T g d 7 94 ls (.ref x :: st) h P) := zt_getR zi_7_91 ((congrArg (fun o => z_fl o 18) zo_7).trans zf_LatinRectangles_Completions_18)
theorem zi_7_94 : z_ins 7 94 = some (.iload_n 1, 1) := by decide +kernel
theorem ze_7_94 : z_T g d 7 94 (v0 :: .int x :: ls) st h P = z_T g d 7 95 (v0 :: .int x :: ls) (.int x :: st) h P := zt_iloadn zi_7_94 rfl rfl
theorem zi_7_95 : z_ins 7 95 = some (.iload 4, 2) := by decide +kernel
theorem ze_7_95 : z_T g d 7 95 (v0 :: v1 :: v2 :: v3 :: .int x :: ls) st h P = z_T g d 7 97 (v0 :: v1 :: v2 :: v3 :: .int x :: ls) (.int x :: st) h P := zt_iload zi_7_95 rfl
theorem zi_7_97 : z_ins 7 97 = some (.iastore, 1) := by decide +kernel
theorem ze_7_97 : z_T g d 7 97 ls (.int y :: .int x :: .ref a :: st) h P = z_aS h.1 a z_tI x y (fun f => z_T g d 7 98 ls st (f, h.2) P) := zt_iastore zi_7_97
theorem zi_7_98 : z_ins 7 98 = some (.iload 4, 2) := by decide +kernel
theorem ze_7_98 : z_T g d 7 98 (v0 :: v1 :: v2 :: v3 :: .int x :: ls) st h P = z_T g d 7 100 (v0 :: v1 :: v2 :: v3 :: .int x :: ls) (.int x :: st) h P := zt_iload zi_7_98 rfl
theorem zi_7_100 : z_ins 7 100 = some (.ireturn, 1) := by decide +kernel
theorem ze_7_100 : z_T g d 7 100 ls [.int x] h P = P (.inr (some (.int x)), h) := zt_ireturn zi_7_100 zr_7
-- LatinRectangles$Cycles.<init>(LLatinRectangles$Grid;)V
theorem zo_8 : z_own 8 = "LatinRectangles$Cycles" := by decide +kernel
theorem zm_8 : z_maxL 8 = 2 := by decide +kernel
theorem zh_8 : z_hds 8 = [] := by decide +kernel
theorem zr_8 : z_rt 8 = none := by decide +kernel
theorem zn_8 : z_Ca g d 8 [.ref a0, .ref a1] h P = z_T g d 8 0 [.ref a0, .ref a1] [] h P := z_Ca_ent zm_8 rfl rfl
theorem zi_8_0 : z_ins 8 0 = some (.aload_n 0, 1) := by decide +kernel
theorem ze_8_0 : z_T g d 8 0 (.ref a :: ls) st h P = z_T g d 8 1 (.ref a :: ls) (.ref a :: st) h P := zt_aloadn zi_8_0 rfl rfl
theorem zi_8_1 : z_ins 8 1 = some (.invokespecial 3, 3) := by decide +kernel
theorem ze_8_1 : z_T g d 8 1 ls (.ref a :: st) h P = (z_okS 8 st = true ∧ z_T g d 8 4 ls st h P) := zt_objInit zi_8_1 ((congrArg (fun o => z_lookup z_ois (o, 3)) zo_8).trans zq_LatinRectangles_Cycles_3)
theorem zi_8_4 : z_ins 8 4 = some (.aload_n 0, 1) := by decide +kernel
theorem ze_8_4 : z_T g d 8 4 (.ref a :: ls) st h P = z_T g d 8 5 (.ref a :: ls) (.ref a :: st) h P := zt_aloadn zi_8_4 rfl rfl
theorem zi_8_5 : z_ins 8 5 = some (.bipush 20, 2) := by decide +kernel
theorem ze_8_5 : z_T g d 8 5 ls st h P = z_T g d 8 7 ls (.int (nI 20) :: st) h P := zt_bipush zi_8_5 rfl
theorem zi_8_7 : z_ins 8 7 = some (.newarray .int, 2) := by decide +kernel
theorem ze_8_7 : z_T g d 8 7 ls (.int x :: st) h P = z_nA h .int x (fun q h' => z_T g d 8 9 ls (.ref q :: st) h' P) := zt_newarray zi_8_7
theorem zi_8_9 : z_ins 8 9 = some (.putfield 9, 3) := by decide +kernel
theorem ze_8_9 : z_T g d 8 9 ls (.ref b :: .ref a :: st) h P = z_pF h.1 a 1 1 (.ref b) (fun f => z_T g d 8 12 ls st (f, h.2) P) := zt_putR zi_8_9 ((congrArg (fun o => z_fl o 9) zo_8).trans zf_LatinRectangles_Cycles_9) (by decide +kernel)
theorem zi_8_12 : z_ins 8 12 = some (.aload_n 0, 1) := by decide +kernel
theorem ze_8_12 : z_T g d 8 12 (.ref a :: ls) st h P = z_T g d 8 13 (.ref a :: ls) (.ref a :: st) h P := zt_aloadn zi_8_12 rfl rfl
theorem zi_8_13 : z_ins 8 13 = some (.aload_n 1, 1) := by decide +kernel
theorem ze_8_13 : z_T g d 8 13 (v0 :: .ref a :: ls) st h P = z_T g d 8 14 (v0 :: .ref a :: ls) (.ref a :: st) h P := zt_aloadn zi_8_13 rfl rfl
theorem zi_8_14 : z_ins 8 14 = some (.putfield 15, 3) := by decide +kernel
theorem ze_8_14 : z_T g d 8 14 ls (.ref b :: .ref a :: st) h P = z_pF h.1 a 1 0 (.ref b) (fun f => z_T g d 8 17 ls st (f, h.2) P) := zt_putR zi_8_14 ((congrArg (fun o => z_fl o 15) zo_8).trans zf_LatinRectangles_Cycles_15) (by decide +kernel)
theorem zi_8_17 : z_ins 8 17 = some (.return_, 1) := by decide +kernel
theorem ze_8_17 : z_T g d 8 17 ls [] h P = P (.inr none, h) := zt_return zi_8_17 zr_8
-- LatinRectangles$Cycles.columnBits(III)I
theorem zo_9 : z_own 9 = "LatinRectangles$Cycles" := by decide +kernel
theorem zm_9 : z_maxL 9 = 7 := by decide +kernel
theorem zh_9 : z_hds 9 = [] := by decide +kernel
theorem zr_9 : z_rt 9 = (some .int) := by decide +kernel
theorem zn_9 : z_Ca g d 9 [.ref a0, .int x1, .int x2, .int x3] h P = z_T g d 9 0 [.ref a0, .int x1, .int x2, .int x3, z_un, z_un, z_un] [] h P := z_Ca_ent zm_9 rfl rfl
theorem zi_9_0 : z_ins 9 0 = some (.iconst 0, 1) := by decide +kernel
theorem ze_9_0 : z_T g d 9 0 ls st h P = z_T g d 9 1 ls (.int (nI 0) :: st) h P := zt_iconst zi_9_0 rfl
theorem zi_9_1 : z_ins 9 1 = some (.istore 4, 2) := by decide +kernel
theorem ze_9_1 : z_T g d 9 1 (v0 :: v1 :: v2 :: v3 :: v4 :: ls) (.int x :: st) h P = z_T g d 9 3 (v0 :: v1 :: v2 :: v3 :: .int x :: ls) st h P := zt_istore zi_9_1 (Nat.le_add_left 5 _)
theorem zi_9_3 : z_ins 9 3 = some (.iload_n 3, 1) := by decide +kernel
theorem ze_9_3 : z_T g d 9 3 (v0 :: v1 :: v2 :: .int x :: ls) st h P = z_T g d 9 4 (v0 :: v1 :: v2 :: .int x :: ls) (.int x :: st) h P := zt_iloadn zi_9_3 rfl rfl
theorem zi_9_4 : z_ins 9 4 = some (.istore 5, 2) := by decide +kernel
theorem ze_9_4 : z_T g d 9 4 (v0 :: v1 :: v2 :: v3 :: v4 :: v5 :: ls) (.int x :: st) h P = z_T g d 9 6 (v0 :: v1 :: v2 :: v3 :: v4 :: .int x :: ls) st h P := zt_istore zi_9_4 (Nat.le_add_left 6 _)
theorem zi_9_6 : z_ins 9 6 = some (.iconst 0, 1) := by decide +kernel
theorem ze_9_6 : z_T g d 9 6 ls st h P = z_T g d 9 7 ls (.int (nI 0) :: st) h P := zt_iconst zi_9_6 rfl
theorem zi_9_7 : z_ins 9 7 = some (.istore 6, 2) := by decide +kernel
theorem ze_9_7 : z_T g d 9 7 (v0 :: v1 :: v2 :: v3 :: v4 :: v5 :: v6 :: ls) (.int x :: st) h P = z_T g d 9 9 (v0 :: v1 :: v2 :: v3 :: v4 :: v5 :: .int x :: ls) st h P := zt_istore zi_9_7 (Nat.le_add_left 7 _)
theorem zi_9_9 : z_ins 9 9 = some (.iload 6, 2) := by decide +kernel
theorem ze_9_9 : z_T g d 9 9 (v0 :: v1 :: v2 :: v3 :: v4 :: v5 :: .int x :: ls) st h P = z_T g d 9 11 (v0 :: v1 :: v2 :: v3 :: v4 :: v5 :: .int x :: ls) (.int x :: st) h P := zt_iload zi_9_9 rfl
theorem zi_9_11 : z_ins 9 11 = some (.aload_n 0, 1) := by decide +kernel
theorem ze_9_11 : z_T g d 9 11 (.ref a :: ls) st h P = z_T g d 9 12 (.ref a :: ls) (.ref a :: st) h P := zt_aloadn zi_9_11 rfl rfl
theorem zi_9_12 : z_ins 9 12 = some (.getfield 15, 3) := by decide +kernel
theorem ze_9_12 : z_T g d 9 12 ls (.ref a :: st) h P = z_gR h.1 a 1 0 (fun x => z_T g d 9 15 ls (.ref x :: st) h P) := zt_getR zi_9_12 ((congrArg (fun o => z_fl o 15) zo_9).trans zf_LatinRectangles_Cycles_15)
theorem zi_9_15 : z_ins 9 15 = some (.getfield 19, 3) := by decide +kernel
theorem ze_9_15 : z_T g d 9 15 ls (.ref a :: st) h P = z_gI h.1 a 3 6 (fun x => z_T g d 9 18 ls (.int x :: st) h P) := zt_getI zi_9_15 ((congrArg (fun o => z_fl o 19) zo_9).trans zf_LatinRectangles_Cycles_19)
theorem zi_9_18 : z_ins 9 18 = some (.if_icmp .ge 45, 3) := by decide +kernel
theorem ze_9_18 : z_T g d 9 18 ls (.int y :: .int x :: st) h P = (if x < y then z_T g d 9 21 ls st h P else z_T g d 9 63 ls st h P) := zt_icmpge zi_9_18 (by decide)
theorem zi_9_21 : z_ins 9 21 = some (.iload 5, 2) := by decide +kernel
theorem ze_9_21 : z_T g d 9 21 (v0 :: v1 :: v2 :: v3 :: v4 :: .int x :: ls) st h P = z_T g d 9 23 (v0 :: v1 :: v2 :: v3 :: v4 :: .int x :: ls) (.int x :: st) h P := zt_iload zi_9_21 rfl
theorem zi_9_23 : z_ins 9 23 = some (.iconst (-1), 1) := by decide +kernel
theorem ze_9_23 : z_T g d 9 23 ls st h P = z_T g d 9 24 ls (.int (-1) :: st) h P := zt_iconst zi_9_23 rfl
theorem zi_9_24 : z_ins 9 24 = some (.if_icmp .eq 39, 3) := by decide +kernel
theorem ze_9_24 : z_T g d 9 24 ls (.int y :: .int x :: st) h P = (if x = y then z_T g d 9 63 ls st h P else z_T g d 9 27 ls st h P) := zt_icmpeq zi_9_24 (by decide)
theorem zi_9_27 : z_ins 9 27 = some (.iload 4, 2) := by decide +kernel
theorem ze_9_27 : z_T g d 9 27 (v0 :: v1 :: v2 :: v3 :: .int x :: ls) st h P = z_T g d 9 29 (v0 :: v1 :: v2 :: v3 :: .int x :: ls) (.int x :: st) h P := zt_iload zi_9_27 rfl
theorem zi_9_29 : z_ins 9 29 = some (.iconst 1, 1) := by decide +kernel
theorem ze_9_29 : z_T g d 9 29 ls st h P = z_T g d 9 30 ls (.int (nI 1) :: st) h P := zt_iconst zi_9_29 rfl
theorem zi_9_30 : z_ins 9 30 = some (.iload 5, 2) := by decide +kernel
theorem ze_9_30 : z_T g d 9 30 (v0 :: v1 :: v2 :: v3 :: v4 :: .int x :: ls) st h P = z_T g d 9 32 (v0 :: v1 :: v2 :: v3 :: v4 :: .int x :: ls) (.int x :: st) h P := zt_iload zi_9_30 rfl
theorem zi_9_32 : z_ins 9 32 = some (.ishl, 1) := by decide +kernel
theorem ze_9_32 : z_T g d 9 32 ls (.int y :: .int x :: st) h P = z_T g d 9 33 ls (.int (x <<< (y &&& 31)) :: st) h P := zt_bin (f := fun x y => x <<< (y &&& 31)) zi_9_32 rfl (fun _ _ _ => rfl)
theorem zi_9_33 : z_ins 9 33 = some (.ior, 1) := by decide +kernel
theorem ze_9_33 : z_T g d 9 33 ls (.int y :: .int x :: st) h P = z_T g d 9 34 ls (.int (x ||| y) :: st) h P := zt_bin (f := fun x y => x ||| y) zi_9_33 rfl (fun _ _ _ => rfl)
theorem zi_9_34 : z_ins 9 34 = some (.istore 4, 2) := by decide +kernel
theorem ze_9_34 : z_T g d 9 34 (v0 :: v1 :: v2 :: v3 :: v4 :: ls) (.int x :: st) h P = z_T g d 9 36 (v0 :: v1 :: v2 :: v3 :: .int x :: ls) st h P := zt_istore zi_9_34 (Nat.le_add_left 5 _)
theorem zi_9_36 : z_ins 9 36 = some (.aload_n 0, 1) := by decide +kernel
theorem ze_9_36 : z_T g d 9 36 (.ref a :: ls) st h P = z_T g d 9 37 (.ref a :: ls) (.ref a :: st) h P := zt_aloadn zi_9_36 rfl rfl
theorem zi_9_37 : z_ins 9 37 = some (.iload_n 1, 1) := by decide +kernel
theorem ze_9_37 : z_T g d 9 37 (v0 :: .int x :: ls) st h P = z_T g d 9 38 (v0 :: .int x :: ls) (.int x :: st) h P := zt_iloadn zi_9_37 rfl rfl
theorem zi_9_38 : z_ins 9 38 = some (.aload_n 0, 1) := by decide +kernel
theorem ze_9_38 : z_T g d 9 38 (.ref a :: ls) st h P = z_T g d 9 39 (.ref a :: ls) (.ref a :: st) h P := zt_aloadn zi_9_38 rfl rfl
theorem zi_9_39 : z_ins 9 39 = some (.getfield 15, 3) := by decide +kernel
theorem ze_9_39 : z_T g d 9 39 ls (.ref a :: st) h P = z_gR h.1 a 1 0 (fun x => z_T g d 9 42 ls (.ref x :: st) h P) := zt_getR zi_9_39 ((congrArg (fun o => z_fl o 15) zo_9).trans zf_LatinRectangles_Cycles_15)
theorem zi_9_42 : z_ins 9 42 = some (.getfield 25, 3) := by decide +kernel
theorem ze_9_42 : z_T g d 9 42 ls (.ref a :: st) h P = z_gR h.1 a 3 0 (fun x => z_T g d 9 45 ls (.ref x :: st) h P) := zt_getR zi_9_42 ((congrArg (fun o => z_fl o 25) zo_9).trans zf_LatinRectangles_Cycles_25)
theorem zi_9_45 : z_ins 9 45 = some (.iload_n 2, 1) := by decide +kernel
theorem ze_9_45 : z_T g d 9 45 (v0 :: v1 :: .int x :: ls) st h P = z_T g d 9 46 (v0 :: v1 :: .int x :: ls) (.int x :: st) h P := zt_iloadn zi_9_45 rfl rfl
theorem zi_9_46 : z_ins 9 46 = some (.iconst 5, 1) := by decide +kernel
theorem ze_9_46 : z_T g d 9 46 ls st h P = z_T g d 9 47 ls (.int (nI 5) :: st) h P := zt_iconst zi_9_46 rfl
theorem zi_9_47 : z_ins 9 47 = some (.imul, 1) := by decide +kernel
theorem ze_9_47 : z_T g d 9 47 ls (.int y :: .int x :: st) h P = z_T g d 9 48 ls (.int (x * y) :: st) h P := zt_bin (f := fun x y => x * y) zi_9_47 rfl (fun _ _ _ => rfl)
theorem zi_9_48 : z_ins 9 48 = some (.iload 5, 2) := by decide +kernel
theorem ze_9_48 : z_T g d 9 48 (v0 :: v1 :: v2 :: v3 :: v4 :: .int x :: ls) st h P = z_T g d 9 50 (v0 :: v1 :: v2 :: v3 :: v4 :: .int x :: ls) (.int x :: st) h P := zt_iload zi_9_48 rfl
theorem zi_9_50 : z_ins 9 50 = some (.iadd, 1) := by decide +kernel
theorem ze_9_50 : z_T g d 9 50 ls (.int y :: .int x :: st) h P = z_T g d 9 51 ls (.int (x + y) :: st) h P := zt_bin (f := fun x y => x + y) zi_9_50 rfl (fun _ _ _ => rfl)
theorem zi_9_51 : z_ins 9 51 = some (.iaload, 1) := by decide +kernel
theorem ze_9_51 : z_T g d 9 51 ls (.int x :: .ref a :: st) h P = z_aL h.1 a z_tI x (fun v => z_T g d 9 52 ls (.int v :: st) h P) := zt_iaload zi_9_51
theorem zi_9_52 : z_ins 9 52 = some (.invokevirtual 28, 3) := by decide +kernel
theorem ze_9_52 : z_T g d 9 52 ls (.int x1 :: .int x0 :: .ref a :: st) h P = ((z_okS 8 st = true ∧ z_gO h.1 a 1 ∧ 0 < d) ∧ z_Ca g (d - 1) 10 [.ref a, .int x0, .int x1] h (fun r => z_k r (fun v h' => z_T g d 9 55 ls (z_push v st) h' P) P)) := zt_callV (as := [.int x0, .int x1]) zi_9_52 ((congrArg (fun o => z_lookup z_prs (o, 28)) zo_9).trans zp_LatinRectangles_Cycles_28) ((congrArg (fun o => z_clk o 28) zo_9).trans zk_LatinRectangles_Cycles_28) zh_9 zc_10 rfl rfl rfl
theorem zi_9_55 : z_ins 9 55 = some (.istore 5, 2) := by decide +kernel
theorem ze_9_55 : z_T g d 9 55 (v0 :: v1 :: v2 :: v3 :: v4 :: v5 :: ls) (.int x :: st) h P = z_T g d 9 57 (v0 :: v1 :: v2 :: v3 :: v4 :: .int x :: ls) st h P := zt_istore zi_9_55 (Nat.le_add_left 6 _)
theorem zi_9_57 : z_ins 9 57 = some (.iinc 6 1, 3) := by decide +kernel
theorem ze_9_57 : z_T g d 9 57 (v0 :: v1 :: v2 :: v3 :: v4 :: v5 :: .int x :: ls) st h P = z_T g d 9 60 (v0 :: v1 :: v2 :: v3 :: v4 :: v5 :: .int (x + (nI 1)) :: ls) st h P := zt_iinc zi_9_57 rfl rfl
theorem zi_9_60 : z_ins 9 60 = some (.goto (-51), 3) := by decide +kernel
theorem ze_9_60 : z_T g d 9 60 ls st h P = z_T g d 9 9 ls st h P := zt_goto zi_9_60 (by decide)
theorem zi_9_63 : z_ins 9 63 = some (.iload 4, 2) := by decide +kernel
theorem ze_9_63 : z_T g d 9 63 (v0 :: v1 :: v2 :: v3 :: .int x :: ls) st h P = z_T g d 9 65 (v0 :: v1 :: v2 :: v3 :: .int x :: ls) (.int x :: st) h P := zt_iload zi_9_63 rfl
theorem zi_9_65 : z_ins 9 65 = some (.ireturn, 1) := by decide +kernel
theorem ze_9_65 : z_T g d 9 65 ls [.int x] h P = P (.inr (some (.int x)), h) := zt_ireturn zi_9_65 zr_9
-- LatinRectangles$Cycles.columnWith(II)I
theorem zo_10 : z_own 10 = "LatinRectangles$Cycles" := by decide +kernel
theorem zm_10 : z_maxL 10 = 4 := by decide +kernel
theorem zh_10 : z_hds 10 = [] := by decide +kernel
theorem zr_10 : z_rt 10 = (some .int) := by decide +kernel
theorem zn_10 : z_Ca g d 10 [.ref a0, .int x1, .int x2] h P = z_T g d 10 0 [.ref a0, .int x1, .int x2, z_un] [] h P := z_Ca_ent zm_10 rfl rfl
theorem zi_10_0 : z_ins 10 0 = some (.iconst 0, 1) := by decide +kernel
theorem ze_10_0 : z_T g d 10 0 ls st h P = z_T g d 10 1 ls (.int (nI 0) :: st) h P := zt_iconst zi_10_0 rfl
theorem zi_10_1 : z_ins 10 1 = some (.istore_n 3, 1) := by decide +kernel
theorem ze_10_1 : z_T g d 10 1 (v0 :: v1 :: v2 :: v3 :: ls) (.int x :: st) h P = z_T g d 10 2 (v0 :: v1 :: v2 :: .int x :: ls) st h P := zt_istoren zi_10_1 rfl (Nat.le_add_left 4 _)
theorem zi_10_2 : z_ins 10 2 = some (.iload_n 3, 1) := by decide +kernel
theorem ze_10_2 : z_T g d 10 2 (v0 :: v1 :: v2 :: .int x :: ls) st h P = z_T g d 10 3 (v0 :: v1 :: v2 :: .int x :: ls) (.int x :: st) h P := zt_iloadn zi_10_2 rfl rfl
theorem zi_10_3 : z_ins 10 3 = some (.aload_n 0, 1) := by decide +kernel
theorem ze_10_3 : z_T g d 10 3 (.ref a :: ls) st h P = z_T g d 10 4 (.ref a :: ls) (.ref a :: st) h P := zt_aloadn zi_10_3 rfl rfl
theorem zi_10_4 : z_ins 10 4 = some (.getfield 15, 3) := by decide +kernel
theorem ze_10_4 : z_T g d 10 4 ls (.ref a :: st) h P = z_gR h.1 a 1 0 (fun x => z_T g d 10 7 ls (.ref x :: st) h P) := zt_getR zi_10_4 ((congrArg (fun o => z_fl o 15) zo_10).trans zf_LatinRectangles_Cycles_15)
theorem zi_10_7 : z_ins 10 7 = some (.getfield 19, 3) := by decide +kernel
theorem ze_10_7 : z_T g d 10 7 ls (.ref a :: st) h P = z_gI h.1 a 3 6 (fun x => z_T g d 10 10 ls (.int x :: st) h P) := zt_getI zi_10_7 ((congrArg (fun o => z_fl o 19) zo_10).trans zf_LatinRectangles_Cycles_19)
theorem zi_10_10 : z_ins 10 10 = some (.if_icmp .ge 28, 3) := by decide +kernel
theorem ze_10_10 : z_T g d 10 10 ls (.int y :: .int x :: st) h P = (if x < y then z_T g d 10 13 ls st h P else z_T g d 10 38 ls st h P) := zt_icmpge zi_10_10 (by decide)
theorem zi_10_13 : z_ins 10 13 = some (.aload_n 0, 1) := by decide +kernel
theorem ze_10_13 : z_T g d 10 13 (.ref a :: ls) st h P = z_T g d 10 14 (.ref a :: ls) (.ref a :: st) h P := zt_aloadn zi_10_13 rfl rfl
theorem zi_10_14 : z_ins 10 14 = some (.getfield 15, 3) := by decide +kernel
theorem ze_10_14 : z_T g d 10 14 ls (.ref a :: st) h P = z_gR h.1 a 1 0 (fun x => z_T g d 10 17 ls (.ref x :: st) h P) := zt_getR zi_10_14 ((congrArg (fun o => z_fl o 15) zo_10).trans zf_LatinRectangles_Cycles_15)
theorem zi_10_17 : z_ins 10 17 = some (.getfield 25, 3) := by decide +kernel
theorem ze_10_17 : z_T g d 10 17 ls (.ref a :: st) h P = z_gR h.1 a 3 0 (fun x => z_T g d 10 20 ls (.ref x :: st) h P) := zt_getR zi_10_17 ((congrArg (fun o => z_fl o 25) zo_10).trans zf_LatinRectangles_Cycles_25)
theorem zi_10_20 : z_ins 10 20 = some (.iload_n 1, 1) := by decide +kernel
theorem ze_10_20 : z_T g d 10 20 (v0 :: .int x :: ls) st h P = z_T g d 10 21 (v0 :: .int x :: ls) (.int x :: st) h P := zt_iloadn zi_10_20 rfl rfl
theorem zi_10_21 : z_ins 10 21 = some (.iconst 5, 1) := by decide +kernel
theorem ze_10_21 : z_T g d 10 21 ls st h P = z_T g d 10 22 ls (.int (nI 5) :: st) h P := zt_iconst zi_10_21 rfl
theorem zi_10_22 : z_ins 10 22 = some (.imul, 1) := by decide +kernel
theorem ze_10_22 : z_T g d 10 22 ls (.int y :: .int x :: st) h P = z_T g d 10 23 ls (.int (x * y) :: st) h P := zt_bin (f := fun x y => x * y) zi_10_22 rfl (fun _ _ _ => rfl)
theorem zi_10_23 : z_ins 10 23 = some (.iload_n 3, 1) := by decide +kernel
theorem ze_10_23 : z_T g d 10 23 (v0 :: v1 :: v2 :: .int x :: ls) st h P = z_T g d 10 24 (v0 :: v1 :: v2 :: .int x :: ls) (.int x :: st) h P := zt_iloadn zi_10_23 rfl rfl
theorem zi_10_24 : z_ins 10 24 = some (.iadd, 1) := by decide +kernel
theorem ze_10_24 : z_T g d 10 24 ls (.int y :: .int x :: st) h P = z_T g d 10 25 ls (.int (x + y) :: st) h P := zt_bin (f := fun x y => x + y) zi_10_24 rfl (fun _ _ _ => rfl)
theorem zi_10_25 : z_ins 10 25 = some (.iaload, 1) := by decide +kernel
theorem ze_10_25 : z_T g d 10 25 ls (.int x :: .ref a :: st) h P = z_aL h.1 a z_tI x (fun v => z_T g d 10 26 ls (.int v :: st) h P) := zt_iaload zi_10_25
theorem zi_10_26 : z_ins 10 26 = some (.iload_n 2, 1) := by decide +kernel
theorem ze_10_26 : z_T g d 10 26 (v0 :: v1 :: .int x :: ls) st h P = z_T g d 10 27 (v0 :: v1 :: .int x :: ls) (.int x :: st) h P := zt_iloadn zi_10_26 rfl rfl
theorem zi_10_27 : z_ins 10 27 = some (.if_icmp .ne 5, 3) := by decide +kernel
theorem ze_10_27 : z_T g d 10 27 ls (.int y :: .int x :: st) h P = (if x = y then z_T g d 10 30 ls st h P else z_T g d 10 32 ls st h P) := zt_icmpne zi_10_27 (by decide)
theorem zi_10_30 : z_ins 10 30 = some (.iload_n 3, 1) := by decide +kernel
theorem ze_10_30 : z_T g d 10 30 (v0 :: v1 :: v2 :: .int x :: ls) st h P = z_T g d 10 31 (v0 :: v1 :: v2 :: .int x :: ls) (.int x :: st) h P := zt_iloadn zi_10_30 rfl rfl
theorem zi_10_31 : z_ins 10 31 = some (.ireturn, 1) := by decide +kernel
theorem ze_10_31 : z_T g d 10 31 ls [.int x] h P = P (.inr (some (.int x)), h) := zt_ireturn zi_10_31 zr_10
theorem zi_10_32 : z_ins 10 32 = some (.iinc 3 1, 3) := by decide +kernel
theorem ze_10_32 : z_T g d 10 32 (v0 :: v1 :: v2 :: .int x :: ls) st h P = z_T g d 10 35 (v0 :: v1 :: v2 :: .int (x + (nI 1)) :: ls) st h P := zt_iinc zi_10_32 rfl rfl
theorem zi_10_35 : z_ins 10 35 = some (.goto (-33), 3) := by decide +kernel
theorem ze_10_35 : z_T g d 10 35 ls st h P = z_T g d 10 2 ls st h P := zt_goto zi_10_35 (by decide)
theorem zi_10_38 : z_ins 10 38 = some (.iconst (-1), 1) := by decide +kernel
theorem ze_10_38 : z_T g d 10 38 ls st h P = z_T g d 10 39 ls (.int (-1) :: st) h P := zt_iconst zi_10_38 rfl
theorem zi_10_39 : z_ins 10 39 = some (.ireturn, 1) := by decide +kernel
theorem ze_10_39 : z_T g d 10 39 ls [.int x] h P = P (.inr (some (.int x)), h) := zt_ireturn zi_10_39 zr_10
-- LatinRectangles$Cycles.property(II)I
theorem zo_11 : z_own 11 = "LatinRectangles$Cycles" := by decide +kernel
theorem zm_11 : z_maxL 11 = 4 := by decide +kernel
theorem zh_11 : z_hds 11 = [] := by decide +kernel
theorem zr_11 : z_rt 11 = (some .int) := by decide +kernel
theorem zn_11 : z_Ca g d 11 [.ref a0, .int x1, .int x2] h P = z_T g d 11 0 [.ref a0, .int x1, .int x2, z_un] [] h P := z_Ca_ent zm_11 rfl rfl
theorem zi_11_0 : z_ins 11 0 = some (.aload_n 0, 1) := by decide +kernel
theorem ze_11_0 : z_T g d 11 0 (.ref a :: ls) st h P = z_T g d 11 1 (.ref a :: ls) (.ref a :: st) h P := zt_aloadn zi_11_0 rfl rfl
theorem zi_11_1 : z_ins 11 1 = some (.invokevirtual 32, 3) := by decide +kernel
theorem ze_11_1 : z_T g d 11 1 ls (.ref a :: st) h P = ((z_okS 8 st = true ∧ z_gO h.1 a 1 ∧ 0 < d) ∧ z_Ca g (d - 1) 12 [.ref a] h (fun r => z_k r (fun v h' => z_T g d 11 4 ls (z_push v st) h' P) P)) := zt_callV (as := []) zi_11_1 ((congrArg (fun o => z_lookup z_prs (o, 32)) zo_11).trans zp_LatinRectangles_Cycles_32) ((congrArg (fun o => z_clk o 32) zo_11).trans zk_LatinRectangles_Cycles_32) zh_11 zc_12 rfl rfl rfl
theorem zi_11_4 : z_ins 11 4 = some (.iload_n 1, 1) := by decide +kernel
theorem ze_11_4 : z_T g d 11 4 (v0 :: .int x :: ls) st h P = z_T g d 11 5 (v0 :: .int x :: ls) (.int x :: st) h P := zt_iloadn zi_11_4 rfl rfl
theorem zi_11_5 : z_ins 11 5 = some (.ifCond .lt 11, 3) := by decide +kernel
theorem ze_11_5 : z_T g d 11 5 ls (.int x :: st) h P = (if x < nI 0 then z_T g d 11 16 ls st h P else z_T g d 11 8 ls st h P) := zt_iflt zi_11_5 (by decide)
theorem zi_11_8 : z_ins 11 8 = some (.iload_n 1, 1) := by decide +kernel
theorem ze_11_8 : z_T g d 11 8 (v0 :: .int x :: ls) st h P = z_T g d 11 9 (v0 :: .int x :: ls) (.int x :: st) h P := zt_iloadn zi_11_8 rfl rfl
theorem zi_11_9 : z_ins 11 9 = some (.aload_n 0, 1) := by decide +kernel
theorem ze_11_9 : z_T g d 11 9 (.ref a :: ls) st h P = z_T g d 11 10 (.ref a :: ls) (.ref a :: st) h P := zt_aloadn zi_11_9 rfl rfl
theorem zi_11_10 : z_ins 11 10 = some (.getfield 35, 3) := by decide +kernel
theorem ze_11_10 : z_T g d 11 10 ls (.ref a :: st) h P = z_gI h.1 a 1 2 (fun x => z_T g d 11 13 ls (.int x :: st) h P) := zt_getI zi_11_10 ((congrArg (fun o => z_fl o 35) zo_11).trans zf_LatinRectangles_Cycles_35)
theorem zi_11_13 : z_ins 11 13 = some (.if_icmp .lt 5, 3) := by decide +kernel
theorem ze_11_13 : z_T g d 11 13 ls (.int y :: .int x :: st) h P = (if x < y then z_T g d 11 18 ls st h P else z_T g d 11 16 ls st h P) := zt_icmplt zi_11_13 (by decide)
theorem zi_11_16 : z_ins 11 16 = some (.iconst (-1), 1) := by decide +kernel
theorem ze_11_16 : z_T g d 11 16 ls st h P = z_T g d 11 17 ls (.int (-1) :: st) h P := zt_iconst zi_11_16 rfl
theorem zi_11_17 : z_ins 11 17 = some (.ireturn, 1) := by decide +kernel
theorem ze_11_17 : z_T g d 11 17 ls [.int x] h P = P (.inr (some (.int x)), h) := zt_ireturn zi_11_17 zr_11
theorem zi_11_18 : z_ins 11 18 = some (.aload_n 0, 1) := by decide +kernel
theorem ze_11_18 : z_T g d 11 18 (.ref a :: ls) st h P = z_T g d 11 19 (.ref a :: ls) (.ref a :: st) h P := zt_aloadn zi_11_18 rfl rfl
theorem zi_11_19 : z_ins 11 19 = some (.getfield 9, 3) := by decide +kernel
theorem ze_11_19 : z_T g d 11 19 ls (.ref a :: st) h P = z_gR h.1 a 1 1 (fun x => z_T g d 11 22 ls (.ref x :: st) h P) := zt_getR zi_11_19 ((congrArg (fun o => z_fl o 9) zo_11).trans zf_LatinRectangles_Cycles_9)
theorem zi_11_22 : z_ins 11 22 = some (.iload_n 1, 1) := by decide +kernel
theorem ze_11_22 : z_T g d 11 22 (v0 :: .int x :: ls) st h P = z_T g d 11 23 (v0 :: .int x :: ls) (.int x :: st) h P := zt_iloadn zi_11_22 rfl rfl
theorem zi_11_23 : z_ins 11 23 = some (.iaload, 1) := by decide +kernel
theorem ze_11_23 : z_T g d 11 23 ls (.int x :: .ref a :: st) h P = z_aL h.1 a z_tI x (fun v => z_T g d 11 24 ls (.int v :: st) h P) := zt_iaload zi_11_23
theorem zi_11_24 : z_ins 11 24 = some (.istore_n 3, 1) := by decide +kernel
theorem ze_11_24 : z_T g d 11 24 (v0 :: v1 :: v2 :: v3 :: ls) (.int x :: st) h P = z_T g d 11 25 (v0 :: v1 :: v2 :: .int x :: ls) st h P := zt_istoren zi_11_24 rfl (Nat.le_add_left 4 _)
theorem zi_11_25 : z_ins 11 25 = some (.iload_n 2, 1) := by decide +kernel
theorem ze_11_25 : z_T g d 11 25 (v0 :: v1 :: .int x :: ls) st h P = z_T g d 11 26 (v0 :: v1 :: .int x :: ls) (.int x :: st) h P := zt_iloadn zi_11_25 rfl rfl
theorem zi_11_26 : z_ins 11 26 = some (.tableswitch 48 0 2 #[26, 32, 40], 26) := by decide +kernel
theorem ze_11_26_0 : z_T g d 11 26 ls (.int (nI 0) :: st) h P = z_T g d 11 52 ls st h P := zt_swIn zi_11_26 (by decide) (by decide) rfl (by decide)
theorem ze_11_26_1 : z_T g d 11 26 ls (.int (nI 1) :: st) h P = z_T g d 11 58 ls st h P := zt_swIn zi_11_26 (by decide) (by decide) rfl (by decide)
theorem ze_11_26_2 : z_T g d 11 26 ls (.int (nI 2) :: st) h P = z_T g d 11 66 ls st h P := zt_swIn zi_11_26 (by decide) (by decide) rfl (by decide)
theorem ze_11_26_3 : z_T g d 11 26 ls (.int (nI 3) :: st) h P = z_T g d 11 74 ls st h P := zt_swOut zi_11_26 (by decide) (by decide)
theorem zi_11_52 : z_ins 11 52 = some (.iload_n 3, 1) := by decide +kernel
theorem ze_11_52 : z_T g d 11 52 (v0 :: v1 :: v2 :: .int x :: ls) st h P = z_T g d 11 53 (v0 :: v1 :: v2 :: .int x :: ls) (.int x :: st) h P := zt_iloadn zi_11_52 rfl rfl
theorem zi_11_53 : z_ins 11 53 = some (.sipush 1000, 3) := by decide +kernel
theorem ze_11_53 : z_T g d 11 53 ls st h P = z_T g d 11 56 ls (.int (nI 1000) :: st) h P := zt_sipush zi_11_53 rfl
theorem zi_11_56 : z_ins 11 56 = some (.idiv, 1) := by decide +kernel
theorem ze_11_56 : z_T g d 11 56 ls (.int y :: .int x :: st) h P = (¬ y = nI 0 ∧ z_T g d 11 57 ls (.int (x / y) :: st) h P) := zt_idiv zi_11_56
theorem zi_11_57 : z_ins 11 57 = some (.ireturn, 1) := by decide +kernel
theorem ze_11_57 : z_T g d 11 57 ls [.int x] h P = P (.inr (some (.int x)), h) := zt_ireturn zi_11_57 zr_11
theorem zi_11_58 : z_ins 11 58 = some (.iload_n 3, 1) := by decide +kernel
theorem ze_11_58 : z_T g d 11 58 (v0 :: v1 :: v2 :: .int x :: ls) st h P = z_T g d 11 59 (v0 :: v1 :: v2 :: .int x :: ls) (.int x :: st) h P := zt_iloadn zi_11_58 rfl rfl
theorem zi_11_59 : z_ins 11 59 = some (.bipush 100, 2) := by decide +kernel
theorem ze_11_59 : z_T g d 11 59 ls st h P = z_T g d 11 61 ls (.int (nI 100) :: st) h P := zt_bipush zi_11_59 rfl
theorem zi_11_61 : z_ins 11 61 = some (.idiv, 1) := by decide +kernel
theorem ze_11_61 : z_T g d 11 61 ls (.int y :: .int x :: st) h P = (¬ y = nI 0 ∧ z_T g d 11 62 ls (.int (x / y) :: st) h P) := zt_idiv zi_11_61
theorem zi_11_62 : z_ins 11 62 = some (.bipush 10, 2) := by decide +kernel
theorem ze_11_62 : z_T g d 11 62 ls st h P = z_T g d 11 64 ls (.int (nI 10) :: st) h P := zt_bipush zi_11_62 rfl
theorem zi_11_64 : z_ins 11 64 = some (.irem, 1) := by decide +kernel
theorem ze_11_64 : z_T g d 11 64 ls (.int y :: .int x :: st) h P = (¬ y = nI 0 ∧ z_T g d 11 65 ls (.int (x - x / y * y) :: st) h P) := zt_irem zi_11_64
theorem zi_11_65 : z_ins 11 65 = some (.ireturn, 1) := by decide +kernel
theorem ze_11_65 : z_T g d 11 65 ls [.int x] h P = P (.inr (some (.int x)), h) := zt_ireturn zi_11_65 zr_11
theorem zi_11_66 : z_ins 11 66 = some (.iload_n 3, 1) := by decide +kernel
theorem ze_11_66 : z_T g d 11 66 (v0 :: v1 :: v2 :: .int x :: ls) st h P = z_T g d 11 67 (v0 :: v1 :: v2 :: .int x :: ls) (.int x :: st) h P := zt_iloadn zi_11_66 rfl rfl
theorem zi_11_67 : z_ins 11 67 = some (.bipush 10, 2) := by decide +kernel
theorem ze_11_67 : z_T g d 11 67 ls st h P = z_T g d 11 69 ls (.int (nI 10) :: st) h P := zt_bipush zi_11_67 rfl
theorem zi_11_69 : z_ins 11 69 = some (.idiv, 1) := by decide +kernel
theorem ze_11_69 : z_T g d 11 69 ls (.int y :: .int x :: st) h P = (¬ y = nI 0 ∧ z_T g d 11 70 ls (.int (x / y) :: st) h P) := zt_idiv zi_11_69
theorem zi_11_70 : z_ins 11 70 = some (.bipush 10, 2) := by decide +kernel
theorem ze_11_70 : z_T g d 11 70 ls st h P = z_T g d 11 72 ls (.int (nI 10) :: st) h P := zt_bipush zi_11_70 rfl
theorem zi_11_72 : z_ins 11 72 = some (.irem, 1) := by decide +kernel
theorem ze_11_72 : z_T g d 11 72 ls (.int y :: .int x :: st) h P = (¬ y = nI 0 ∧ z_T g d 11 73 ls (.int (x - x / y * y) :: st) h P) := zt_irem zi_11_72
theorem zi_11_73 : z_ins 11 73 = some (.ireturn, 1) := by decide +kernel
theorem ze_11_73 : z_T g d 11 73 ls [.int x] h P = P (.inr (some (.int x)), h) := zt_ireturn zi_11_73 zr_11
theorem zi_11_74 : z_ins 11 74 = some (.iload_n 3, 1) := by decide +kernel
theorem ze_11_74 : z_T g d 11 74 (v0 :: v1 :: v2 :: .int x :: ls) st h P = z_T g d 11 75 (v0 :: v1 :: v2 :: .int x :: ls) (.int x :: st) h P := zt_iloadn zi_11_74 rfl rfl
theorem zi_11_75 : z_ins 11 75 = some (.bipush 10, 2) := by decide +kernel
theorem ze_11_75 : z_T g d 11 75 ls st h P = z_T g d 11 77 ls (.int (nI 10) :: st) h P := zt_bipush zi_11_75 rfl
theorem zi_11_77 : z_ins 11 77 = some (.irem, 1) := by decide +kernel
theorem ze_11_77 : z_T g d 11 77 ls (.int y :: .int x :: st) h P = (¬ y = nI 0 ∧ z_T g d 11 78 ls (.int (x - x / y * y) :: st) h P) := zt_irem zi_11_77
theorem zi_11_78 : z_ins 11 78 = some (.ireturn, 1) := by decide +kernel
theorem ze_11_78 : z_T g d 11 78 ls [.int x] h P = P (.inr (some (.int x)), h) := zt_ireturn zi_11_78 zr_11
-- LatinRectangles$Cycles.collect()V
theorem zo_12 : z_own 12 = "LatinRectangles$Cycles" := by decide +kernel
theorem zm_12 : z_maxL 12 = 3 := by decide +kernel
theorem zh_12 : z_hds 12 = [] := by decide +kernel
theorem zr_12 : z_rt 12 = none := by decide +kernel
theorem zn_12 : z_Ca g d 12 [.ref a0] h P = z_T g d 12 0 [.ref a0, z_un, z_un] [] h P := z_Ca_ent zm_12 rfl rfl
theorem zi_12_0 : z_ins 12 0 = some (.aload_n 0, 1) := by decide +kernel
theorem ze_12_0 : z_T g d 12 0 (.ref a :: ls) st h P = z_T g d 12 1 (.ref a :: ls) (.ref a :: st) h P := zt_aloadn zi_12_0 rfl rfl
theorem zi_12_1 : z_ins 12 1 = some (.iconst 0, 1) := by decide +kernel
theorem ze_12_1 : z_T g d 12 1 ls st h P = z_T g d 12 2 ls (.int (nI 0) :: st) h P := zt_iconst zi_12_1 rfl
theorem zi_12_2 : z_ins 12 2 = some (.putfield 35, 3) := by decide +kernel
theorem ze_12_2 : z_T g d 12 2 ls (.int x :: .ref a :: st) h P = z_pF h.1 a 1 2 (.int x) (fun f => z_T g d 12 5 ls st (f, h.2) P) := zt_putI zi_12_2 ((congrArg (fun o => z_fl o 35) zo_12).trans zf_LatinRectangles_Cycles_35)
theorem zi_12_5 : z_ins 12 5 = some (.iconst 0, 1) := by decide +kernel
theorem ze_12_5 : z_T g d 12 5 ls st h P = z_T g d 12 6 ls (.int (nI 0) :: st) h P := zt_iconst zi_12_5 rfl
theorem zi_12_6 : z_ins 12 6 = some (.istore_n 1, 1) := by decide +kernel
theorem ze_12_6 : z_T g d 12 6 (v0 :: v1 :: ls) (.int x :: st) h P = z_T g d 12 7 (v0 :: .int x :: ls) st h P := zt_istoren zi_12_6 rfl (Nat.le_add_left 2 _)
theorem zi_12_7 : z_ins 12 7 = some (.iload_n 1, 1) := by decide +kernel
theorem ze_12_7 : z_T g d 12 7 (v0 :: .int x :: ls) st h P = z_T g d 12 8 (v0 :: .int x :: ls) (.int x :: st) h P := zt_iloadn zi_12_7 rfl rfl
theorem zi_12_8 : z_ins 12 8 = some (.aload_n 0, 1) := by decide +kernel
theorem ze_12_8 : z_T g d 12 8 (.ref a :: ls) st h P = z_T g d 12 9 (.ref a :: ls) (.ref a :: st) h P := zt_aloadn zi_12_8 rfl rfl
theorem zi_12_9 : z_ins 12 9 = some (.getfield 15, 3) := by decide +kernel
theorem ze_12_9 : z_T g d 12 9 ls (.ref a :: st) h P = z_gR h.1 a 1 0 (fun x => z_T g d 12 12 ls (.ref x :: st) h P) := zt_getR zi_12_9 ((congrArg (fun o => z_fl o 15) zo_12).trans zf_LatinRectangles_Cycles_15)
theorem zi_12_12 : z_ins 12 12 = some (.getfield 38, 3) := by decide +kernel
theorem ze_12_12 : z_T g d 12 12 ls (.ref a :: st) h P = z_gI h.1 a 3 5 (fun x => z_T g d 12 15 ls (.int x :: st) h P) := zt_getI zi_12_12 ((congrArg (fun o => z_fl o 38) zo_12).trans zf_LatinRectangles_Cycles_38)
theorem zi_12_15 : z_ins 12 15 = some (.if_icmp .ge 58, 3) := by decide +kernel
theorem ze_12_15 : z_T g d 12 15 ls (.int y :: .int x :: st) h P = (if x < y then z_T g d 12 18 ls st h P else z_T g d 12 73 ls st h P) := zt_icmpge zi_12_15 (by decide)
theorem zi_12_18 : z_ins 12 18 = some (.iload_n 1, 1) := by decide +kernel
theorem ze_12_18 : z_T g d 12 18 (v0 :: .int x :: ls) st h P = z_T g d 12 19 (v0 :: .int x :: ls) (.int x :: st) h P := zt_iloadn zi_12_18 rfl rfl
theorem zi_12_19 : z_ins 12 19 = some (.iconst 1, 1) := by decide +kernel
theorem ze_12_19 : z_T g d 12 19 ls st h P = z_T g d 12 20 ls (.int (nI 1) :: st) h P := zt_iconst zi_12_19 rfl
theorem zi_12_20 : z_ins 12 20 = some (.iadd, 1) := by decide +kernel
theorem ze_12_20 : z_T g d 12 20 ls (.int y :: .int x :: st) h P = z_T g d 12 21 ls (.int (x + y) :: st) h P := zt_bin (f := fun x y => x + y) zi_12_20 rfl (fun _ _ _ => rfl)
theorem zi_12_21 : z_ins 12 21 = some (.istore_n 2, 1) := by decide +kernel
theorem ze_12_21 : z_T g d 12 21 (v0 :: v1 :: v2 :: ls) (.int x :: st) h P = z_T g d 12 22 (v0 :: v1 :: .int x :: ls) st h P := zt_istoren zi_12_21 rfl (Nat.le_add_left 3 _)
theorem zi_12_22 : z_ins 12 22 = some (.iload_n 2, 1) := by decide +kernel
theorem ze_12_22 : z_T g d 12 22 (v0 :: v1 :: .int x :: ls) st h P = z_T g d 12 23 (v0 :: v1 :: .int x :: ls) (.int x :: st) h P := zt_iloadn zi_12_22 rfl rfl
theorem zi_12_23 : z_ins 12 23 = some (.aload_n 0, 1) := by decide +kernel
theorem ze_12_23 : z_T g d 12 23 (.ref a :: ls) st h P = z_T g d 12 24 (.ref a :: ls) (.ref a :: st) h P := zt_aloadn zi_12_23 rfl rfl
theorem zi_12_24 : z_ins 12 24 = some (.getfield 15, 3) := by decide +kernel
theorem ze_12_24 : z_T g d 12 24 ls (.ref a :: st) h P = z_gR h.1 a 1 0 (fun x => z_T g d 12 27 ls (.ref x :: st) h P) := zt_getR zi_12_24 ((congrArg (fun o => z_fl o 15) zo_12).trans zf_LatinRectangles_Cycles_15)
theorem zi_12_27 : z_ins 12 27 = some (.getfield 38, 3) := by decide +kernel
theorem ze_12_27 : z_T g d 12 27 ls (.ref a :: st) h P = z_gI h.1 a 3 5 (fun x => z_T g d 12 30 ls (.int x :: st) h P) := zt_getI zi_12_27 ((congrArg (fun o => z_fl o 38) zo_12).trans zf_LatinRectangles_Cycles_38)
theorem zi_12_30 : z_ins 12 30 = some (.if_icmp .ge 37, 3) := by decide +kernel
theorem ze_12_30 : z_T g d 12 30 ls (.int y :: .int x :: st) h P = (if x < y then z_T g d 12 33 ls st h P else z_T g d 12 67 ls st h P) := zt_icmpge zi_12_30 (by decide)
theorem zi_12_33 : z_ins 12 33 = some (.aload_n 0, 1) := by decide +kernel
theorem ze_12_33 : z_T g d 12 33 (.ref a :: ls) st h P = z_T g d 12 34 (.ref a :: ls) (.ref a :: st) h P := zt_aloadn zi_12_33 rfl rfl
theorem zi_12_34 : z_ins 12 34 = some (.getfield 15, 3) := by decide +kernel
theorem ze_12_34 : z_T g d 12 34 ls (.ref a :: st) h P = z_gR h.1 a 1 0 (fun x => z_T g d 12 37 ls (.ref x :: st) h P) := zt_getR zi_12_34 ((congrArg (fun o => z_fl o 15) zo_12).trans zf_LatinRectangles_Cycles_15)
theorem zi_12_37 : z_ins 12 37 = some (.iload_n 1, 1) := by decide +kernel
theorem ze_12_37 : z_T g d 12 37 (v0 :: .int x :: ls) st h P = z_T g d 12 38 (v0 :: .int x :: ls) (.int x :: st) h P := zt_iloadn zi_12_37 rfl rfl
theorem zi_12_38 : z_ins 12 38 = some (.invokevirtual 41, 3) := by decide +kernel
theorem ze_12_38 : z_T g d 12 38 ls (.int x0 :: .ref a :: st) h P = ((z_okS 8 st = true ∧ z_gO h.1 a 3 ∧ 0 < d) ∧ z_Ca g (d - 1) 39 [.ref a, .int x0] h (fun r => z_k r (fun v h' => z_T g d 12 41 ls (z_push v st) h' P) P)) := zt_callV (as := [.int x0]) zi_12_38 ((congrArg (fun o => z_lookup z_prs (o, 41)) zo_12).trans zp_LatinRectangles_Cycles_41) ((congrArg (fun o => z_clk o 41) zo_12).trans zk_LatinRectangles_Cycles_41) zh_12 zc_39 rfl rfl rfl
theorem zi_12_41 : z_ins 12 41 = some (.ifCond .eq 20, 3) := by decide +kernel
theorem ze_12_41 : z_T g d 12 41 ls (.int x :: st) h P = (if x = nI 0 then z_T g d 12 61 ls st h P else z_T g d 12 44 ls st h P) := zt_ifeq zi_12_41 (by decide)
theorem zi_12_44 : z_ins 12 44 = some (.aload_n 0, 1) := by decide +kernel
theorem ze_12_44 : z_T g d 12 44 (.ref a :: ls) st h P = z_T g d 12 45 (.ref a :: ls) (.ref a :: st) h P := zt_aloadn zi_12_44 rfl rfl
theorem zi_12_45 : z_ins 12 45 = some (.getfield 15, 3) := by decide +kernel
theorem ze_12_45 : z_T g d 12 45 ls (.ref a :: st) h P = z_gR h.1 a 1 0 (fun x => z_T g d 12 48 ls (.ref x :: st) h P) := zt_getR zi_12_45 ((congrArg (fun o => z_fl o 15) zo_12).trans zf_LatinRectangles_Cycles_15)
theorem zi_12_48 : z_ins 12 48 = some (.iload_n 2, 1) := by decide +kernel
theorem ze_12_48 : z_T g d 12 48 (v0 :: v1 :: .int x :: ls) st h P = z_T g d 12 49 (v0 :: v1 :: .int x :: ls) (.int x :: st) h P := zt_iloadn zi_12_48 rfl rfl
theorem zi_12_49 : z_ins 12 49 = some (.invokevirtual 41, 3) := by decide +kernel
theorem ze_12_49 : z_T g d 12 49 ls (.int x0 :: .ref a :: st) h P = ((z_okS 8 st = true ∧ z_gO h.1 a 3 ∧ 0 < d) ∧ z_Ca g (d - 1) 39 [.ref a, .int x0] h (fun r => z_k r (fun v h' => z_T g d 12 52 ls (z_push v st) h' P) P)) := zt_callV (as := [.int x0]) zi_12_49 ((congrArg (fun o => z_lookup z_prs (o, 41)) zo_12).trans zp_LatinRectangles_Cycles_41) ((congrArg (fun o => z_clk o 41) zo_12).trans zk_LatinRectangles_Cycles_41) zh_12 zc_39 rfl rfl rfl
theorem zi_12_52 : z_ins 12 52 = some (.ifCond .eq 9, 3) := by decide +kernel
theorem ze_12_52 : z_T g d 12 52 ls (.int x :: st) h P = (if x = nI 0 then z_T g d 12 61 ls st h P else z_T g d 12 55 ls st h P) := zt_ifeq zi_12_52 (by decide)
theorem zi_12_55 : z_ins 12 55 = some (.aload_n 0, 1) := by decide +kernel
theorem ze_12_55 : z_T g d 12 55 (.ref a :: ls) st h P = z_T g d 12 56 (.ref a :: ls) (.ref a :: st) h P := zt_aloadn zi_12_55 rfl rfl
theorem zi_12_56 : z_ins 12 56 = some (.iload_n 1, 1) := by decide +kernel
theorem ze_12_56 : z_T g d 12 56 (v0 :: .int x :: ls) st h P = z_T g d 12 57 (v0 :: .int x :: ls) (.int x :: st) h P := zt_iloadn zi_12_56 rfl rfl
theorem zi_12_57 : z_ins 12 57 = some (.iload_n 2, 1) := by decide +kernel
theorem ze_12_57 : z_T g d 12 57 (v0 :: v1 :: .int x :: ls) st h P = z_T g d 12 58 (v0 :: v1 :: .int x :: ls) (.int x :: st) h P := zt_iloadn zi_12_57 rfl rfl
theorem zi_12_58 : z_ins 12 58 = some (.invokevirtual 45, 3) := by decide +kernel
theorem ze_12_58 : z_T g d 12 58 ls (.int x1 :: .int x0 :: .ref a :: st) h P = ((z_okS 8 st = true ∧ z_gO h.1 a 1 ∧ 0 < d) ∧ z_Ca g (d - 1) 13 [.ref a, .int x0, .int x1] h (fun r => z_k r (fun v h' => z_T g d 12 61 ls (z_push v st) h' P) P)) := zt_callV (as := [.int x0, .int x1]) zi_12_58 ((congrArg (fun o => z_lookup z_prs (o, 45)) zo_12).trans zp_LatinRectangles_Cycles_45) ((congrArg (fun o => z_clk o 45) zo_12).trans zk_LatinRectangles_Cycles_45) zh_12 zc_13 rfl rfl rfl
theorem zi_12_61 : z_ins 12 61 = some (.iinc 2 1, 3) := by decide +kernel
theorem ze_12_61 : z_T g d 12 61 (v0 :: v1 :: .int x :: ls) st h P = z_T g d 12 64 (v0 :: v1 :: .int (x + (nI 1)) :: ls) st h P := zt_iinc zi_12_61 rfl rfl
theorem zi_12_64 : z_ins 12 64 = some (.goto (-42), 3) := by decide +kernel
theorem ze_12_64 : z_T g d 12 64 ls st h P = z_T g d 12 22 ls st h P := zt_goto zi_12_64 (by decide)
theorem zi_12_67 : z_ins 12 67 = some (.iinc 1 1, 3) := by decide +kernel
theorem ze_12_67 : z_T g d 12 67 (v0 :: .int x :: ls) st h P = z_T g d 12 70 (v0 :: .int (x + (nI 1)) :: ls) st h P := zt_iinc zi_12_67 rfl rfl
theorem zi_12_70 : z_ins 12 70 = some (.goto (-63), 3) := by decide +kernel
theorem ze_12_70 : z_T g d 12 70 ls st h P = z_T g d 12 7 ls st h P := zt_goto zi_12_70 (by decide)
theorem zi_12_73 : z_ins 12 73 = some (.return_, 1) := by decide +kernel
theorem ze_12_73 : z_T g d 12 73 ls [] h P = P (.inr none, h) := zt_return zi_12_73 zr_12
-- LatinRectangles$Cycles.collectPair(II)V
theorem zo_13 : z_own 13 = "LatinRectangles$Cycles" := by decide +kernel
theorem zm_13 : z_maxL 13 = 6 := by decide +kernel
theorem zh_13 : z_hds 13 = [] := by decide +kernel
theorem zr_13 : z_rt 13 = none := by decide +kernel
theorem zn_13 : z_Ca g d 13 [.ref a0, .int x1, .int x2] h P = z_T g d 13 0 [.ref a0, .int x1, .int x2, z_un, z_un, z_un] [] h P := z_Ca_ent zm_13 rfl rfl
theorem zi_13_0 : z_ins 13 0 = some (.iconst 0, 1) := by decide +kernel
theorem ze_13_0 : z_T g d 13 0 ls st h P = z_T g d 13 1 ls (.int (nI 0) :: st) h P := zt_iconst zi_13_0 rfl
theorem zi_13_1 : z_ins 13 1 = some (.istore_n 3, 1) := by decide +kernel
theorem ze_13_1 : z_T g d 13 1 (v0 :: v1 :: v2 :: v3 :: ls) (.int x :: st) h P = z_T g d 13 2 (v0 :: v1 :: v2 :: .int x :: ls) st h P := zt_istoren zi_13_1 rfl (Nat.le_add_left 4 _)
theorem zi_13_2 : z_ins 13 2 = some (.iconst 0, 1) := by decide +kernel
theorem ze_13_2 : z_T g d 13 2 ls st h P = z_T g d 13 3 ls (.int (nI 0) :: st) h P := zt_iconst zi_13_2 rfl
theorem zi_13_3 : z_ins 13 3 = some (.istore 4, 2) := by decide +kernel
theorem ze_13_3 : z_T g d 13 3 (v0 :: v1 :: v2 :: v3 :: v4 :: ls) (.int x :: st) h P = z_T g d 13 5 (v0 :: v1 :: v2 :: v3 :: .int x :: ls) st h P := zt_istore zi_13_3 (Nat.le_add_left 5 _)
theorem zi_13_5 : z_ins 13 5 = some (.iload 4, 2) := by decide +kernel
theorem ze_13_5 : z_T g d 13 5 (v0 :: v1 :: v2 :: v3 :: .int x :: ls) st h P = z_T g d 13 7 (v0 :: v1 :: v2 :: v3 :: .int x :: ls) (.int x :: st) h P := zt_iload zi_13_5 rfl
theorem zi_13_7 : z_ins 13 7 = some (.aload_n 0, 1) := by decide +kernel
theorem ze_13_7 : z_T g d 13 7 (.ref a :: ls) st h P = z_T g d 13 8 (.ref a :: ls) (.ref a :: st) h P := zt_aloadn zi_13_7 rfl rfl
theorem zi_13_8 : z_ins 13 8 = some (.getfield 15, 3) := by decide +kernel
theorem ze_13_8 : z_T g d 13 8 ls (.ref a :: st) h P = z_gR h.1 a 1 0 (fun x => z_T g d 13 11 ls (.ref x :: st) h P) := zt_getR zi_13_8 ((congrArg (fun o => z_fl o 15) zo_13).trans zf_LatinRectangles_Cycles_15)
theorem zi_13_11 : z_ins 13 11 = some (.getfield 19, 3) := by decide +kernel
theorem ze_13_11 : z_T g d 13 11 ls (.ref a :: st) h P = z_gI h.1 a 3 6 (fun x => z_T g d 13 14 ls (.int x :: st) h P) := zt_getI zi_13_11 ((congrArg (fun o => z_fl o 19) zo_13).trans zf_LatinRectangles_Cycles_19)
theorem zi_13_14 : z_ins 13 14 = some (.if_icmp .ge 59, 3) := by decide +kernel
theorem ze_13_14 : z_T g d 13 14 ls (.int y :: .int x :: st) h P = (if x < y then z_T g d 13 17 ls st h P else z_T g d 13 73 ls st h P) := zt_icmpge zi_13_14 (by decide)
theorem zi_13_17 : z_ins 13 17 = some (.iload_n 3, 1) := by decide +kernel
theorem ze_13_17 : z_T g d 13 17 (v0 :: v1 :: v2 :: .int x :: ls) st h P = z_T g d 13 18 (v0 :: v1 :: v2 :: .int x :: ls) (.int x :: st) h P := zt_iloadn zi_13_17 rfl rfl
theorem zi_13_18 : z_ins 13 18 = some (.iload 4, 2) := by decide +kernel
theorem ze_13_18 : z_T g d 13 18 (v0 :: v1 :: v2 :: v3 :: .int x :: ls) st h P = z_T g d 13 20 (v0 :: v1 :: v2 :: v3 :: .int x :: ls) (.int x :: st) h P := zt_iload zi_13_18 rfl
theorem zi_13_20 : z_ins 13 20 = some (.ishr, 1) := by decide +kernel
theorem ze_13_20 : z_T g d 13 20 ls (.int y :: .int x :: st) h P = z_T g d 13 21 ls (.int (x >>> (y &&& 31)) :: st) h P := zt_bin (f := fun x y => x >>> (y &&& 31)) zi_13_20 rfl (fun _ _ _ => rfl)
theorem zi_13_21 : z_ins 13 21 = some (.iconst 1, 1) := by decide +kernel
theorem ze_13_21 : z_T g d 13 21 ls st h P = z_T g d 13 22 ls (.int (nI 1) :: st) h P := zt_iconst zi_13_21 rfl
theorem zi_13_22 : z_ins 13 22 = some (.iand, 1) := by decide +kernel
theorem ze_13_22 : z_T g d 13 22 ls (.int y :: .int x :: st) h P = z_T g d 13 23 ls (.int (x &&& y) :: st) h P := zt_bin (f := fun x y => x &&& y) zi_13_22 rfl (fun _ _ _ => rfl)
theorem zi_13_23 : z_ins 13 23 = some (.ifCond .ne 44, 3) := by decide +kernel
theorem ze_13_23 : z_T g d 13 23 ls (.int x :: st) h P = (if x = nI 0 then z_T g d 13 26 ls st h P else z_T g d 13 67 ls st h P) := zt_ifne zi_13_23 (by decide)
theorem zi_13_26 : z_ins 13 26 = some (.aload_n 0, 1) := by decide +kernel
theorem ze_13_26 : z_T g d 13 26 (.ref a :: ls) st h P = z_T g d 13 27 (.ref a :: ls) (.ref a :: st) h P := zt_aloadn zi_13_26 rfl rfl
theorem zi_13_27 : z_ins 13 27 = some (.iload_n 1, 1) := by decide +kernel
theorem ze_13_27 : z_T g d 13 27 (v0 :: .int x :: ls) st h P = z_T g d 13 28 (v0 :: .int x :: ls) (.int x :: st) h P := zt_iloadn zi_13_27 rfl rfl
theorem zi_13_28 : z_ins 13 28 = some (.iload_n 2, 1) := by decide +kernel
theorem ze_13_28 : z_T g d 13 28 (v0 :: v1 :: .int x :: ls) st h P = z_T g d 13 29 (v0 :: v1 :: .int x :: ls) (.int x :: st) h P := zt_iloadn zi_13_28 rfl rfl
theorem zi_13_29 : z_ins 13 29 = some (.iload 4, 2) := by decide +kernel
theorem ze_13_29 : z_T g d 13 29 (v0 :: v1 :: v2 :: v3 :: .int x :: ls) st h P = z_T g d 13 31 (v0 :: v1 :: v2 :: v3 :: .int x :: ls) (.int x :: st) h P := zt_iload zi_13_29 rfl
theorem zi_13_31 : z_ins 13 31 = some (.invokevirtual 49, 3) := by decide +kernel
theorem ze_13_31 : z_T g d 13 31 ls (.int x2 :: .int x1 :: .int x0 :: .ref a :: st) h P = ((z_okS 8 st = true ∧ z_gO h.1 a 1 ∧ 0 < d) ∧ z_Ca g (d - 1) 9 [.ref a, .int x0, .int x1, .int x2] h (fun r => z_k r (fun v h' => z_T g d 13 34 ls (z_push v st) h' P) P)) := zt_callV (as := [.int x0, .int x1, .int x2]) zi_13_31 ((congrArg (fun o => z_lookup z_prs (o, 49)) zo_13).trans zp_LatinRectangles_Cycles_49) ((congrArg (fun o => z_clk o 49) zo_13).trans zk_LatinRectangles_Cycles_49) zh_13 zc_9 rfl rfl rfl
theorem zi_13_34 : z_ins 13 34 = some (.istore 5, 2) := by decide +kernel
theorem ze_13_34 : z_T g d 13 34 (v0 :: v1 :: v2 :: v3 :: v4 :: v5 :: ls) (.int x :: st) h P = z_T g d 13 36 (v0 :: v1 :: v2 :: v3 :: v4 :: .int x :: ls) st h P := zt_istore zi_13_34 (Nat.le_add_left 6 _)
theorem zi_13_36 : z_ins 13 36 = some (.iload_n 3, 1) := by decide +kernel
theorem ze_13_36 : z_T g d 13 36 (v0 :: v1 :: v2 :: .int x :: ls) st h P = z_T g d 13 37 (v0 :: v1 :: v2 :: .int x :: ls) (.int x :: st) h P := zt_iloadn zi_13_36 rfl rfl
theorem zi_13_37 : z_ins 13 37 = some (.iload 5, 2) := by decide +kernel
theorem ze_13_37 : z_T g d 13 37 (v0 :: v1 :: v2 :: v3 :: v4 :: .int x :: ls) st h P = z_T g d 13 39 (v0 :: v1 :: v2 :: v3 :: v4 :: .int x :: ls) (.int x :: st) h P := zt_iload zi_13_37 rfl
theorem zi_13_39 : z_ins 13 39 = some (.ior, 1) := by decide +kernel
theorem ze_13_39 : z_T g d 13 39 ls (.int y :: .int x :: st) h P = z_T g d 13 40 ls (.int (x ||| y) :: st) h P := zt_bin (f := fun x y => x ||| y) zi_13_39 rfl (fun _ _ _ => rfl)
theorem zi_13_40 : z_ins 13 40 = some (.istore_n 3, 1) := by decide +kernel
theorem ze_13_40 : z_T g d 13 40 (v0 :: v1 :: v2 :: v3 :: ls) (.int x :: st) h P = z_T g d 13 41 (v0 :: v1 :: v2 :: .int x :: ls) st h P := zt_istoren zi_13_40 rfl (Nat.le_add_left 4 _)
theorem zi_13_41 : z_ins 13 41 = some (.aload_n 0, 1) := by decide +kernel
theorem ze_13_41 : z_T g d 13 41 (.ref a :: ls) st h P = z_T g d 13 42 (.ref a :: ls) (.ref a :: st) h P := zt_aloadn zi_13_41 rfl rfl
theorem zi_13_42 : z_ins 13 42 = some (.iload 5, 2) := by decide +kernel
theorem ze_13_42 : z_T g d 13 42 (v0 :: v1 :: v2 :: v3 :: v4 :: .int x :: ls) st h P = z_T g d 13 44 (v0 :: v1 :: v2 :: v3 :: v4 :: .int x :: ls) (.int x :: st) h P := zt_iload zi_13_42 rfl
theorem zi_13_44 : z_ins 13 44 = some (.invokestatic 53, 3) := by decide +kernel
theorem ze_13_44 : z_T g d 13 44 ls (.int x0 :: st) h P = ((z_okS 8 st = true ∧ 0 < d) ∧ z_Ca g (d - 1) 201 [.int x0] h (fun r => z_k r (fun v h' => z_T g d 13 47 ls (z_push v st) h' P) P)) := zt_callS0 (as := [.int x0]) zi_13_44 ((congrArg (fun o => z_lookup z_prs (o, 53)) zo_13).trans zp_LatinRectangles_Cycles_53) ((congrArg (fun o => z_clk o 53) zo_13).trans zk_LatinRectangles_Cycles_53) zh_13 rfl rfl rfl
theorem zi_13_47 : z_ins 13 47 = some (.sipush 1000, 3) := by decide +kernel
theorem ze_13_47 : z_T g d 13 47 ls st h P = z_T g d 13 50 ls (.int (nI 1000) :: st) h P := zt_sipush zi_13_47 rfl
theorem zi_13_50 : z_ins 13 50 = some (.imul, 1) := by decide +kernel
theorem ze_13_50 : z_T g d 13 50 ls (.int y :: .int x :: st) h P = z_T g d 13 51 ls (.int (x * y) :: st) h P := zt_bin (f := fun x y => x * y) zi_13_50 rfl (fun _ _ _ => rfl)
theorem zi_13_51 : z_ins 13 51 = some (.iload_n 1, 1) := by decide +kernel
theorem ze_13_51 : z_T g d 13 51 (v0 :: .int x :: ls) st h P = z_T g d 13 52 (v0 :: .int x :: ls) (.int x :: st) h P := zt_iloadn zi_13_51 rfl rfl
theorem zi_13_52 : z_ins 13 52 = some (.bipush 100, 2) := by decide +kernel
theorem ze_13_52 : z_T g d 13 52 ls st h P = z_T g d 13 54 ls (.int (nI 100) :: st) h P := zt_bipush zi_13_52 rfl
theorem zi_13_54 : z_ins 13 54 = some (.imul, 1) := by decide +kernel
theorem ze_13_54 : z_T g d 13 54 ls (.int y :: .int x :: st) h P = z_T g d 13 55 ls (.int (x * y) :: st) h P := zt_bin (f := fun x y => x * y) zi_13_54 rfl (fun _ _ _ => rfl)
theorem zi_13_55 : z_ins 13 55 = some (.iadd, 1) := by decide +kernel
theorem ze_13_55 : z_T g d 13 55 ls (.int y :: .int x :: st) h P = z_T g d 13 56 ls (.int (x + y) :: st) h P := zt_bin (f := fun x y => x + y) zi_13_55 rfl (fun _ _ _ => rfl)
theorem zi_13_56 : z_ins 13 56 = some (.iload_n 2, 1) := by decide +kernel
theorem ze_13_56 : z_T g d 13 56 (v0 :: v1 :: .int x :: ls) st h P = z_T g d 13 57 (v0 :: v1 :: .int x :: ls) (.int x :: st) h P := zt_iloadn zi_13_56 rfl rfl
theorem zi_13_57 : z_ins 13 57 = some (.bipush 10, 2) := by decide +kernel
theorem ze_13_57 : z_T g d 13 57 ls st h P = z_T g d 13 59 ls (.int (nI 10) :: st) h P := zt_bipush zi_13_57 rfl
theorem zi_13_59 : z_ins 13 59 = some (.imul, 1) := by decide +kernel
theorem ze_13_59 : z_T g d 13 59 ls (.int y :: .int x :: st) h P = z_T g d 13 60 ls (.int (x * y) :: st) h P := zt_bin (f := fun x y => x * y) zi_13_59 rfl (fun _ _ _ => rfl)
theorem zi_13_60 : z_ins 13 60 = some (.iadd, 1) := by decide +kernel
theorem ze_13_60 : z_T g d 13 60 ls (.int y :: .int x :: st) h P = z_T g d 13 61 ls (.int (x + y) :: st) h P := zt_bin (f := fun x y => x + y) zi_13_60 rfl (fun _ _ _ => rfl)
theorem zi_13_61 : z_ins 13 61 = some (.iload 4, 2) := by decide +kernel
theorem ze_13_61 : z_T g d 13 61 (v0 :: v1 :: v2 :: v3 :: .int x :: ls) st h P = z_T g d 13 63 (v0 :: v1 :: v2 :: v3 :: .int x :: ls) (.int x :: st) h P := zt_iload zi_13_61 rfl
theorem zi_13_63 : z_ins 13 63 = some (.iadd, 1) := by decide +kernel
theorem ze_13_63 : z_T g d 13 63 ls (.int y :: .int x :: st) h P = z_T g d 13 64 ls (.int (x + y) :: st) h P := zt_bin (f := fun x y => x + y) zi_13_63 rfl (fun _ _ _ => rfl)
theorem zi_13_64 : z_ins 13 64 = some (.invokevirtual 59, 3) := by decide +kernel
theorem ze_13_64 : z_T g d 13 64 ls (.int x0 :: .ref a :: st) h P = ((z_okS 8 st = true ∧ z_gO h.1 a 1 ∧ 0 < d) ∧ z_Ca g (d - 1) 14 [.ref a, .int x0] h (fun r => z_k r (fun v h' => z_T g d 13 67 ls (z_push v st) h' P) P)) := zt_callV (as := [.int x0]) zi_13_64 ((congrArg (fun o => z_lookup z_prs (o, 59)) zo_13).trans zp_LatinRectangles_Cycles_59) ((congrArg (fun o => z_clk o 59) zo_13).trans zk_LatinRectangles_Cycles_59) zh_13 zc_14 rfl rfl rfl
theorem zi_13_67 : z_ins 13 67 = some (.iinc 4 1, 3) := by decide +kernel
theorem ze_13_67 : z_T g d 13 67 (v0 :: v1 :: v2 :: v3 :: .int x :: ls) st h P = z_T g d 13 70 (v0 :: v1 :: v2 :: v3 :: .int (x + (nI 1)) :: ls) st h P := zt_iinc zi_13_67 rfl rfl
theorem zi_13_70 : z_ins 13 70 = some (.goto (-65), 3) := by decide +kernel
theorem ze_13_70 : z_T g d 13 70 ls st h P = z_T g d 13 5 ls st h P := zt_goto zi_13_70 (by decide)
theorem zi_13_73 : z_ins 13 73 = some (.return_, 1) := by decide +kernel
theorem ze_13_73 : z_T g d 13 73 ls [] h P = P (.inr none, h) := zt_return zi_13_73 zr_13
-- LatinRectangles$Cycles.insert(I)V
theorem zo_14 : z_own 14 = "LatinRectangles$Cycles" := by decide +kernel
theorem zm_14 : z_maxL 14 = 3 := by decide +kernel
theorem zh_14 : z_hds 14 = [] := by decide +kernel
theorem zr_14 : z_rt 14 = none := by decide +kernel
theorem zn_14 : z_Ca g d 14 [.ref a0, .int x1] h P = z_T g d 14 0 [.ref a0, .int x1, z_un] [] h P := z_Ca_ent zm_14 rfl rfl
theorem zi_14_0 : z_ins 14 0 = some (.aload_n 0, 1) := by decide +kernel
theorem ze_14_0 : z_T g d 14 0 (.ref a :: ls) st h P = z_T g d 14 1 (.ref a :: ls) (.ref a :: st) h P := zt_aloadn zi_14_0 rfl rfl
theorem zi_14_1 : z_ins 14 1 = some (.getfield 35, 3) := by decide +kernel
theorem ze_14_1 : z_T g d 14 1 ls (.ref a :: st) h P = z_gI h.1 a 1 2 (fun x => z_T g d 14 4 ls (.int x :: st) h P) := zt_getI zi_14_1 ((congrArg (fun o => z_fl o 35) zo_14).trans zf_LatinRectangles_Cycles_35)
theorem zi_14_4 : z_ins 14 4 = some (.bipush 20, 2) := by decide +kernel
theorem ze_14_4 : z_T g d 14 4 ls st h P = z_T g d 14 6 ls (.int (nI 20) :: st) h P := zt_bipush zi_14_4 rfl
theorem zi_14_6 : z_ins 14 6 = some (.if_icmp .lt 4, 3) := by decide +kernel
theorem ze_14_6 : z_T g d 14 6 ls (.int y :: .int x :: st) h P = (if x < y then z_T g d 14 10 ls st h P else z_T g d 14 9 ls st h P) := zt_icmplt zi_14_6 (by decide)
theorem zi_14_9 : z_ins 14 9 = some (.return_, 1) := by decide +kernel
theorem ze_14_9 : z_T g d 14 9 ls [] h P = P (.inr none, h) := zt_return zi_14_9 zr_14
theorem zi_14_10 : z_ins 14 10 = some (.aload_n 0, 1) := by decide +kernel
theorem ze_14_10 : z_T g d 14 10 (.ref a :: ls) st h P = z_T g d 14 11 (.ref a :: ls) (.ref a :: st) h P := zt_aloadn zi_14_10 rfl rfl
theorem zi_14_11 : z_ins 14 11 = some (.getfield 35, 3) := by decide +kernel
theorem ze_14_11 : z_T g d 14 11 ls (.ref a :: st) h P = z_gI h.1 a 1 2 (fun x => z_T g d 14 14 ls (.int x :: st) h P) := zt_getI zi_14_11 ((congrArg (fun o => z_fl o 35) zo_14).trans zf_LatinRectangles_Cycles_35)
theorem zi_14_14 : z_ins 14 14 = some (.istore_n 2, 1) := by decide +kernel
theorem ze_14_14 : z_T g d 14 14 (v0 :: v1 :: v2 :: ls) (.int x :: st) h P = z_T g d 14 15 (v0 :: v1 :: .int x :: ls) st h P := zt_istoren zi_14_14 rfl (Nat.le_add_left 3 _)
theorem zi_14_15 : z_ins 14 15 = some (.iload_n 2, 1) := by decide +kernel
theorem ze_14_15 : z_T g d 14 15 (v0 :: v1 :: .int x :: ls) st h P = z_T g d 14 16 (v0 :: v1 :: .int x :: ls) (.int x :: st) h P := zt_iloadn zi_14_15 rfl rfl
theorem zi_14_16 : z_ins 14 16 = some (.ifCond .le 35, 3) := by decide +kernel
theorem ze_14_16 : z_T g d 14 16 ls (.int x :: st) h P = (if nI 0 < x then z_T g d 14 19 ls st h P else z_T g d 14 51 ls st h P) := zt_ifle zi_14_16 (by decide)
theorem zi_14_19 : z_ins 14 19 = some (.aload_n 0, 1) := by decide +kernel
theorem ze_14_19 : z_T g d 14 19 (.ref a :: ls) st h P = z_T g d 14 20 (.ref a :: ls) (.ref a :: st) h P := zt_aloadn zi_14_19 rfl rfl
theorem zi_14_20 : z_ins 14 20 = some (.getfield 9, 3) := by decide +kernel
theorem ze_14_20 : z_T g d 14 20 ls (.ref a :: st) h P = z_gR h.1 a 1 1 (fun x => z_T g d 14 23 ls (.ref x :: st) h P) := zt_getR zi_14_20 ((congrArg (fun o => z_fl o 9) zo_14).trans zf_LatinRectangles_Cycles_9)
theorem zi_14_23 : z_ins 14 23 = some (.iload_n 2, 1) := by decide +kernel
theorem ze_14_23 : z_T g d 14 23 (v0 :: v1 :: .int x :: ls) st h P = z_T g d 14 24 (v0 :: v1 :: .int x :: ls) (.int x :: st) h P := zt_iloadn zi_14_23 rfl rfl
theorem zi_14_24 : z_ins 14 24 = some (.iconst 1, 1) := by decide +kernel
theorem ze_14_24 : z_T g d 14 24 ls st h P = z_T g d 14 25 ls (.int (nI 1) :: st) h P := zt_iconst zi_14_24 rfl
theorem zi_14_25 : z_ins 14 25 = some (.isub, 1) := by decide +kernel
theorem ze_14_25 : z_T g d 14 25 ls (.int y :: .int x :: st) h P = z_T g d 14 26 ls (.int (x - y) :: st) h P := zt_bin (f := fun x y => x - y) zi_14_25 rfl (fun _ _ _ => rfl)
theorem zi_14_26 : z_ins 14 26 = some (.iaload, 1) := by decide +kernel
theorem ze_14_26 : z_T g d 14 26 ls (.int x :: .ref a :: st) h P = z_aL h.1 a z_tI x (fun v => z_T g d 14 27 ls (.int v :: st) h P) := zt_iaload zi_14_26
theorem zi_14_27 : z_ins 14 27 = some (.iload_n 1, 1) := by decide +kernel
theorem ze_14_27 : z_T g d 14 27 (v0 :: .int x :: ls) st h P = z_T g d 14 28 (v0 :: .int x :: ls) (.int x :: st) h P := zt_iloadn zi_14_27 rfl rfl
theorem zi_14_28 : z_ins 14 28 = some (.if_icmp .le 23, 3) := by decide +kernel
theorem ze_14_28 : z_T g d 14 28 ls (.int y :: .int x :: st) h P = (if y < x then z_T g d 14 31 ls st h P else z_T g d 14 51 ls st h P) := zt_icmple zi_14_28 (by decide)
theorem zi_14_31 : z_ins 14 31 = some (.aload_n 0, 1) := by decide +kernel
theorem ze_14_31 : z_T g d 14 31 (.ref a :: ls) st h P = z_T g d 14 32 (.ref a :: ls) (.ref a :: st) h P := zt_aloadn zi_14_31 rfl rfl
theorem zi_14_32 : z_ins 14 32 = some (.getfield 9, 3) := by decide +kernel
theorem ze_14_32 : z_T g d 14 32 ls (.ref a :: st) h P = z_gR h.1 a 1 1 (fun x => z_T g d 14 35 ls (.ref x :: st) h P) := zt_getR zi_14_32 ((congrArg (fun o => z_fl o 9) zo_14).trans zf_LatinRectangles_Cycles_9)
theorem zi_14_35 : z_ins 14 35 = some (.iload_n 2, 1) := by decide +kernel
theorem ze_14_35 : z_T g d 14 35 (v0 :: v1 :: .int x :: ls) st h P = z_T g d 14 36 (v0 :: v1 :: .int x :: ls) (.int x :: st) h P := zt_iloadn zi_14_35 rfl rfl
theorem zi_14_36 : z_ins 14 36 = some (.aload_n 0, 1) := by decide +kernel
theorem ze_14_36 : z_T g d 14 36 (.ref a :: ls) st h P = z_T g d 14 37 (.ref a :: ls) (.ref a :: st) h P := zt_aloadn zi_14_36 rfl rfl
theorem zi_14_37 : z_ins 14 37 = some (.getfield 9, 3) := by decide +kernel
theorem ze_14_37 : z_T g d 14 37 ls (.ref a :: st) h P = z_gR h.1 a 1 1 (fun x => z_T g d 14 40 ls (.ref x :: st) h P) := zt_getR zi_14_37 ((congrArg (fun o => z_fl o 9) zo_14).trans zf_LatinRectangles_Cycles_9)
theorem zi_14_40 : z_ins 14 40 = some (.iload_n 2, 1) := by decide +kernel
theorem ze_14_40 : z_T g d 14 40 (v0 :: v1 :: .int x :: ls) st h P = z_T g d 14 41 (v0 :: v1 :: .int x :: ls) (.int x :: st) h P := zt_iloadn zi_14_40 rfl rfl
theorem zi_14_41 : z_ins 14 41 = some (.iconst 1, 1) := by decide +kernel
theorem ze_14_41 : z_T g d 14 41 ls st h P = z_T g d 14 42 ls (.int (nI 1) :: st) h P := zt_iconst zi_14_41 rfl
theorem zi_14_42 : z_ins 14 42 = some (.isub, 1) := by decide +kernel
theorem ze_14_42 : z_T g d 14 42 ls (.int y :: .int x :: st) h P = z_T g d 14 43 ls (.int (x - y) :: st) h P := zt_bin (f := fun x y => x - y) zi_14_42 rfl (fun _ _ _ => rfl)
theorem zi_14_43 : z_ins 14 43 = some (.iaload, 1) := by decide +kernel
theorem ze_14_43 : z_T g d 14 43 ls (.int x :: .ref a :: st) h P = z_aL h.1 a z_tI x (fun v => z_T g d 14 44 ls (.int v :: st) h P) := zt_iaload zi_14_43
theorem zi_14_44 : z_ins 14 44 = some (.iastore, 1) := by decide +kernel
theorem ze_14_44 : z_T g d 14 44 ls (.int y :: .int x :: .ref a :: st) h P = z_aS h.1 a z_tI x y (fun f => z_T g d 14 45 ls st (f, h.2) P) := zt_iastore zi_14_44
theorem zi_14_45 : z_ins 14 45 = some (.iinc 2 (-1), 3) := by decide +kernel
theorem ze_14_45 : z_T g d 14 45 (v0 :: v1 :: .int x :: ls) st h P = z_T g d 14 48 (v0 :: v1 :: .int (x + (-1)) :: ls) st h P := zt_iinc zi_14_45 rfl rfl
theorem zi_14_48 : z_ins 14 48 = some (.goto (-33), 3) := by decide +kernel
theorem ze_14_48 : z_T g d 14 48 ls st h P = z_T g d 14 15 ls st h P := zt_goto zi_14_48 (by decide)
theorem zi_14_51 : z_ins 14 51 = some (.aload_n 0, 1) := by decide +kernel
theorem ze_14_51 : z_T g d 14 51 (.ref a :: ls) st h P = z_T g d 14 52 (.ref a :: ls) (.ref a :: st) h P := zt_aloadn zi_14_51 rfl rfl
theorem zi_14_52 : z_ins 14 52 = some (.getfield 9, 3) := by decide +kernel
theorem ze_14_52 : z_T g d 14 52 ls (.ref a :: st) h P = z_gR h.1 a 1 1 (fun x => z_T g d 14 55 ls (.ref x :: st) h P) := zt_getR zi_14_52 ((congrArg (fun o => z_fl o 9) zo_14).trans zf_LatinRectangles_Cycles_9)
theorem zi_14_55 : z_ins 14 55 = some (.iload_n 2, 1) := by decide +kernel
theorem ze_14_55 : z_T g d 14 55 (v0 :: v1 :: .int x :: ls) st h P = z_T g d 14 56 (v0 :: v1 :: .int x :: ls) (.int x :: st) h P := zt_iloadn zi_14_55 rfl rfl
theorem zi_14_56 : z_ins 14 56 = some (.iload_n 1, 1) := by decide +kernel
theorem ze_14_56 : z_T g d 14 56 (v0 :: .int x :: ls) st h P = z_T g d 14 57 (v0 :: .int x :: ls) (.int x :: st) h P := zt_iloadn zi_14_56 rfl rfl
theorem zi_14_57 : z_ins 14 57 = some (.iastore, 1) := by decide +kernel
theorem ze_14_57 : z_T g d 14 57 ls (.int y :: .int x :: .ref a :: st) h P = z_aS h.1 a z_tI x y (fun f => z_T g d 14 58 ls st (f, h.2) P) := zt_iastore zi_14_57
theorem zi_14_58 : z_ins 14 58 = some (.aload_n 0, 1) := by decide +kernel
theorem ze_14_58 : z_T g d 14 58 (.ref a :: ls) st h P = z_T g d 14 59 (.ref a :: ls) (.ref a :: st) h P := zt_aloadn zi_14_58 rfl rfl
theorem zi_14_59 : z_ins 14 59 = some (.dup, 1) := by decide +kernel
theorem ze_14_59 : z_T g d 14 59 ls (.ref a :: st) h P = z_T g d 14 60 ls (.ref a :: .ref a :: st) h P := zt_dupR zi_14_59
theorem ze_14_59_i : z_T g d 14 59 ls (.int x :: st) h P = z_T g d 14 60 ls (.int x :: .int x :: st) h P := zt_dupI zi_14_59
theorem zi_14_60 : z_ins 14 60 = some (.getfield 35, 3) := by decide +kernel
theorem ze_14_60 : z_T g d 14 60 ls (.ref a :: st) h P = z_gI h.1 a 1 2 (fun x => z_T g d 14 63 ls (.int x :: st) h P) := zt_getI zi_14_60 ((congrArg (fun o => z_fl o 35) zo_14).trans zf_LatinRectangles_Cycles_35)
theorem zi_14_63 : z_ins 14 63 = some (.iconst 1, 1) := by decide +kernel
theorem ze_14_63 : z_T g d 14 63 ls st h P = z_T g d 14 64 ls (.int (nI 1) :: st) h P := zt_iconst zi_14_63 rfl
theorem zi_14_64 : z_ins 14 64 = some (.iadd, 1) := by decide +kernel
theorem ze_14_64 : z_T g d 14 64 ls (.int y :: .int x :: st) h P = z_T g d 14 65 ls (.int (x + y) :: st) h P := zt_bin (f := fun x y => x + y) zi_14_64 rfl (fun _ _ _ => rfl)
theorem zi_14_65 : z_ins 14 65 = some (.putfield 35, 3) := by decide +kernel
theorem ze_14_65 : z_T g d 14 65 ls (.int x :: .ref a :: st) h P = z_pF h.1 a 1 2 (.int x) (fun f => z_T g d 14 68 ls st (f, h.2) P) := zt_putI zi_14_65 ((congrArg (fun o => z_fl o 35) zo_14).trans zf_LatinRectangles_Cycles_35)
theorem zi_14_68 : z_ins 14 68 = some (.return_, 1) := by decide +kernel
theorem ze_14_68 : z_T g d 14 68 ls [] h P = P (.inr none, h) := zt_return zi_14_68 zr_14
-- LatinRectangles$Cycles.canSwitch(III)Z
theorem zo_15 : z_own 15 = "LatinRectangles$Cycles" := by decide +kernel
theorem zm_15 : z_maxL 15 = 7 := by decide +kernel
theorem zh_15 : z_hds 15 = [] := by decide +kernel
theorem zr_15 : z_rt 15 = (some .boolean) := by decide +kernel
theorem zn_15 : z_Ca g d 15 [.ref a0, .int x1, .int x2, .int x3] h P = z_T g d 15 0 [.ref a0, .int x1, .int x2, .int x3, z_un, z_un, z_un] [] h P := z_Ca_ent zm_15 rfl rfl
theorem zi_15_0 : z_ins 15 0 = some (.iconst 0, 1) := by decide +kernel
theorem ze_15_0 : z_T g d 15 0 ls st h P = z_T g d 15 1 ls (.int (nI 0) :: st) h P := zt_iconst zi_15_0 rfl
theorem zi_15_1 : z_ins 15 1 = some (.istore 4, 2) := by decide +kernel
theorem ze_15_1 : z_T g d 15 1 (v0 :: v1 :: v2 :: v3 :: v4 :: ls) (.int x :: st) h P = z_T g d 15 3 (v0 :: v1 :: v2 :: v3 :: .int x :: ls) st h P := zt_istore zi_15_1 (Nat.le_add_left 5 _)
theorem zi_15_3 : z_ins 15 3 = some (.iload 4, 2) := by decide +kernel
theorem ze_15_3 : z_T g d 15 3 (v0 :: v1 :: v2 :: v3 :: .int x :: ls) st h P = z_T g d 15 5 (v0 :: v1 :: v2 :: v3 :: .int x :: ls) (.int x :: st) h P := zt_iload zi_15_3 rfl
theorem zi_15_5 : z_ins 15 5 = some (.aload_n 0, 1) := by decide +kernel
theorem ze_15_5 : z_T g d 15 5 (.ref a :: ls) st h P = z_T g d 15 6 (.ref a :: ls) (.ref a :: st) h P := zt_aloadn zi_15_5 rfl rfl
theorem zi_15_6 : z_ins 15 6 = some (.getfield 15, 3) := by decide +kernel
theorem ze_15_6 : z_T g d 15 6 ls (.ref a :: st) h P = z_gR h.1 a 1 0 (fun x => z_T g d 15 9 ls (.ref x :: st) h P) := zt_getR zi_15_6 ((congrArg (fun o => z_fl o 15) zo_15).trans zf_LatinRectangles_Cycles_15)
theorem zi_15_9 : z_ins 15 9 = some (.getfield 19, 3) := by decide +kernel
theorem ze_15_9 : z_T g d 15 9 ls (.ref a :: st) h P = z_gI h.1 a 3 6 (fun x => z_T g d 15 12 ls (.int x :: st) h P) := zt_getI zi_15_9 ((congrArg (fun o => z_fl o 19) zo_15).trans zf_LatinRectangles_Cycles_19)
theorem zi_15_12 : z_ins 15 12 = some (.if_icmp .ge 108, 3) := by decide +kernel
theorem ze_15_12 : z_T g d 15 12 ls (.int y :: .int x :: st) h P = (if x < y then z_T g d 15 15 ls st h P else z_T g d 15 120 ls st h P) := zt_icmpge zi_15_12 (by decide)
theorem zi_15_15 : z_ins 15 15 = some (.iload_n 3, 1) := by decide +kernel
theorem ze_15_15 : z_T g d 15 15 (v0 :: v1 :: v2 :: .int x :: ls) st h P = z_T g d 15 16 (v0 :: v1 :: v2 :: .int x :: ls) (.int x :: st) h P := zt_iloadn zi_15_15 rfl rfl
theorem zi_15_16 : z_ins 15 16 = some (.iload 4, 2) := by decide +kernel
theorem ze_15_16 : z_T g d 15 16 (v0 :: v1 :: v2 :: v3 :: .int x :: ls) st h P = z_T g d 15 18 (v0 :: v1 :: v2 :: v3 :: .int x :: ls) (.int x :: st) h P := zt_iload zi_15_16 rfl
theorem zi_15_18 : z_ins 15 18 = some (.ishr, 1) := by decide +kernel
theorem ze_15_18 : z_T g d 15 18 ls (.int y :: .int x :: st) h P = z_T g d 15 19 ls (.int (x >>> (y &&& 31)) :: st) h P := zt_bin (f := fun x y => x >>> (y &&& 31)) zi_15_18 rfl (fun _ _ _ => rfl)
theorem zi_15_19 : z_ins 15 19 = some (.iconst 1, 1) := by decide +kernel
theorem ze_15_19 : z_T g d 15 19 ls st h P = z_T g d 15 20 ls (.int (nI 1) :: st) h P := zt_iconst zi_15_19 rfl
theorem zi_15_20 : z_ins 15 20 = some (.iand, 1) := by decide +kernel
theorem ze_15_20 : z_T g d 15 20 ls (.int y :: .int x :: st) h P = z_T g d 15 21 ls (.int (x &&& y) :: st) h P := zt_bin (f := fun x y => x &&& y) zi_15_20 rfl (fun _ _ _ => rfl)
theorem zi_15_21 : z_ins 15 21 = some (.ifCond .eq 93, 3) := by decide +kernel
theorem ze_15_21 : z_T g d 15 21 ls (.int x :: st) h P = (if x = nI 0 then z_T g d 15 114 ls st h P else z_T g d 15 24 ls st h P) := zt_ifeq zi_15_21 (by decide)
theorem zi_15_24 : z_ins 15 24 = some (.iload_n 1, 1) := by decide +kernel
theorem ze_15_24 : z_T g d 15 24 (v0 :: .int x :: ls) st h P = z_T g d 15 25 (v0 :: .int x :: ls) (.int x :: st) h P := zt_iloadn zi_15_24 rfl rfl
theorem zi_15_25 : z_ins 15 25 = some (.iconst 5, 1) := by decide +kernel
theorem ze_15_25 : z_T g d 15 25 ls st h P = z_T g d 15 26 ls (.int (nI 5) :: st) h P := zt_iconst zi_15_25 rfl
theorem zi_15_26 : z_ins 15 26 = some (.imul, 1) := by decide +kernel
theorem ze_15_26 : z_T g d 15 26 ls (.int y :: .int x :: st) h P = z_T g d 15 27 ls (.int (x * y) :: st) h P := zt_bin (f := fun x y => x * y) zi_15_26 rfl (fun _ _ _ => rfl)
theorem zi_15_27 : z_ins 15 27 = some (.iload 4, 2) := by decide +kernel
theorem ze_15_27 : z_T g d 15 27 (v0 :: v1 :: v2 :: v3 :: .int x :: ls) st h P = z_T g d 15 29 (v0 :: v1 :: v2 :: v3 :: .int x :: ls) (.int x :: st) h P := zt_iload zi_15_27 rfl
theorem zi_15_29 : z_ins 15 29 = some (.iadd, 1) := by decide +kernel
theorem ze_15_29 : z_T g d 15 29 ls (.int y :: .int x :: st) h P = z_T g d 15 30 ls (.int (x + y) :: st) h P := zt_bin (f := fun x y => x + y) zi_15_29 rfl (fun _ _ _ => rfl)
theorem zi_15_30 : z_ins 15 30 = some (.istore 5, 2) := by decide +kernel
theorem ze_15_30 : z_T g d 15 30 (v0 :: v1 :: v2 :: v3 :: v4 :: v5 :: ls) (.int x :: st) h P = z_T g d 15 32 (v0 :: v1 :: v2 :: v3 :: v4 :: .int x :: ls) st h P := zt_istore zi_15_30 (Nat.le_add_left 6 _)
theorem zi_15_32 : z_ins 15 32 = some (.iload_n 2, 1) := by decide +kernel
theorem ze_15_32 : z_T g d 15 32 (v0 :: v1 :: .int x :: ls) st h P = z_T g d 15 33 (v0 :: v1 :: .int x :: ls) (.int x :: st) h P := zt_iloadn zi_15_32 rfl rfl
theorem zi_15_33 : z_ins 15 33 = some (.iconst 5, 1) := by decide +kernel
theorem ze_15_33 : z_T g d 15 33 ls st h P = z_T g d 15 34 ls (.int (nI 5) :: st) h P := zt_iconst zi_15_33 rfl
theorem zi_15_34 : z_ins 15 34 = some (.imul, 1) := by decide +kernel
theorem ze_15_34 : z_T g d 15 34 ls (.int y :: .int x :: st) h P = z_T g d 15 35 ls (.int (x * y) :: st) h P := zt_bin (f := fun x y => x * y) zi_15_34 rfl (fun _ _ _ => rfl)
theorem zi_15_35 : z_ins 15 35 = some (.iload 4, 2) := by decide +kernel
theorem ze_15_35 : z_T g d 15 35 (v0 :: v1 :: v2 :: v3 :: .int x :: ls) st h P = z_T g d 15 37 (v0 :: v1 :: v2 :: v3 :: .int x :: ls) (.int x :: st) h P := zt_iload zi_15_35 rfl
theorem zi_15_37 : z_ins 15 37 = some (.iadd, 1) := by decide +kernel
theorem ze_15_37 : z_T g d 15 37 ls (.int y :: .int x :: st) h P = z_T g d 15 38 ls (.int (x + y) :: st) h P := zt_bin (f := fun x y => x + y) zi_15_37 rfl (fun _ _ _ => rfl)
theorem zi_15_38 : z_ins 15 38 = some (.istore 6, 2) := by decide +kernel
theorem ze_15_38 : z_T g d 15 38 (v0 :: v1 :: v2 :: v3 :: v4 :: v5 :: v6 :: ls) (.int x :: st) h P = z_T g d 15 40 (v0 :: v1 :: v2 :: v3 :: v4 :: v5 :: .int x :: ls) st h P := zt_istore zi_15_38 (Nat.le_add_left 7 _)
theorem zi_15_40 : z_ins 15 40 = some (.aload_n 0, 1) := by decide +kernel
theorem ze_15_40 : z_T g d 15 40 (.ref a :: ls) st h P = z_T g d 15 41 (.ref a :: ls) (.ref a :: st) h P := zt_aloadn zi_15_40 rfl rfl
theorem zi_15_41 : z_ins 15 41 = some (.getfield 15, 3) := by decide +kernel
theorem ze_15_41 : z_T g d 15 41 ls (.ref a :: st) h P = z_gR h.1 a 1 0 (fun x => z_T g d 15 44 ls (.ref x :: st) h P) := zt_getR zi_15_41 ((congrArg (fun o => z_fl o 15) zo_15).trans zf_LatinRectangles_Cycles_15)
theorem zi_15_44 : z_ins 15 44 = some (.getfield 63, 3) := by decide +kernel
theorem ze_15_44 : z_T g d 15 44 ls (.ref a :: st) h P = z_gR h.1 a 3 1 (fun x => z_T g d 15 47 ls (.ref x :: st) h P) := zt_getR zi_15_44 ((congrArg (fun o => z_fl o 63) zo_15).trans zf_LatinRectangles_Cycles_63)
theorem zi_15_47 : z_ins 15 47 = some (.iload 5, 2) := by decide +kernel
theorem ze_15_47 : z_T g d 15 47 (v0 :: v1 :: v2 :: v3 :: v4 :: .int x :: ls) st h P = z_T g d 15 49 (v0 :: v1 :: v2 :: v3 :: v4 :: .int x :: ls) (.int x :: st) h P := zt_iload zi_15_47 rfl
theorem zi_15_49 : z_ins 15 49 = some (.baload, 1) := by decide +kernel
theorem ze_15_49 : z_T g d 15 49 ls (.int x :: .ref a :: st) h P = z_aL h.1 a z_tB x (fun v => z_T g d 15 50 ls (.int v :: st) h P) := zt_baload zi_15_49
theorem zi_15_50 : z_ins 15 50 = some (.ifCond .ne 16, 3) := by decide +kernel
theorem ze_15_50 : z_T g d 15 50 ls (.int x :: st) h P = (if x = nI 0 then z_T g d 15 53 ls st h P else z_T g d 15 66 ls st h P) := zt_ifne zi_15_50 (by decide)
theorem zi_15_53 : z_ins 15 53 = some (.aload_n 0, 1) := by decide +kernel
theorem ze_15_53 : z_T g d 15 53 (.ref a :: ls) st h P = z_T g d 15 54 (.ref a :: ls) (.ref a :: st) h P := zt_aloadn zi_15_53 rfl rfl
theorem zi_15_54 : z_ins 15 54 = some (.getfield 15, 3) := by decide +kernel
theorem ze_15_54 : z_T g d 15 54 ls (.ref a :: st) h P = z_gR h.1 a 1 0 (fun x => z_T g d 15 57 ls (.ref x :: st) h P) := zt_getR zi_15_54 ((congrArg (fun o => z_fl o 15) zo_15).trans zf_LatinRectangles_Cycles_15)
theorem zi_15_57 : z_ins 15 57 = some (.getfield 63, 3) := by decide +kernel
theorem ze_15_57 : z_T g d 15 57 ls (.ref a :: st) h P = z_gR h.1 a 3 1 (fun x => z_T g d 15 60 ls (.ref x :: st) h P) := zt_getR zi_15_57 ((congrArg (fun o => z_fl o 63) zo_15).trans zf_LatinRectangles_Cycles_63)
theorem zi_15_60 : z_ins 15 60 = some (.iload 6, 2) := by decide +kernel
theorem ze_15_60 : z_T g d 15 60 (v0 :: v1 :: v2 :: v3 :: v4 :: v5 :: .int x :: ls) st h P = z_T g d 15 62 (v0 :: v1 :: v2 :: v3 :: v4 :: v5 :: .int x :: ls) (.int x :: st) h P := zt_iload zi_15_60 rfl
theorem zi_15_62 : z_ins 15 62 = some (.baload, 1) := by decide +kernel
theorem ze_15_62 : z_T g d 15 62 ls (.int x :: .ref a :: st) h P = z_aL h.1 a z_tB x (fun v => z_T g d 15 63 ls (.int v :: st) h P) := zt_baload zi_15_62
theorem zi_15_63 : z_ins 15 63 = some (.ifCond .eq 5, 3) := by decide +kernel
theorem ze_15_63 : z_T g d 15 63 ls (.int x :: st) h P = (if x = nI 0 then z_T g d 15 68 ls st h P else z_T g d 15 66 ls st h P) := zt_ifeq zi_15_63 (by decide)
theorem zi_15_66 : z_ins 15 66 = some (.iconst 0, 1) := by decide +kernel
theorem ze_15_66 : z_T g d 15 66 ls st h P = z_T g d 15 67 ls (.int (nI 0) :: st) h P := zt_iconst zi_15_66 rfl
theorem zi_15_67 : z_ins 15 67 = some (.ireturn, 1) := by decide +kernel
theorem ze_15_67 : z_T g d 15 67 ls [.int x] h P = ((x = nI 0 ∨ x = nI 1) ∧ P (.inr (some (.int x)), h)) := zt_zreturn zi_15_67 zr_15
theorem zi_15_68 : z_ins 15 68 = some (.aload_n 0, 1) := by decide +kernel
theorem ze_15_68 : z_T g d 15 68 (.ref a :: ls) st h P = z_T g d 15 69 (.ref a :: ls) (.ref a :: st) h P := zt_aloadn zi_15_68 rfl rfl
theorem zi_15_69 : z_ins 15 69 = some (.getfield 15, 3) := by decide +kernel
theorem ze_15_69 : z_T g d 15 69 ls (.ref a :: st) h P = z_gR h.1 a 1 0 (fun x => z_T g d 15 72 ls (.ref x :: st) h P) := zt_getR zi_15_69 ((congrArg (fun o => z_fl o 15) zo_15).trans zf_LatinRectangles_Cycles_15)
theorem zi_15_72 : z_ins 15 72 = some (.iload 5, 2) := by decide +kernel
theorem ze_15_72 : z_T g d 15 72 (v0 :: v1 :: v2 :: v3 :: v4 :: .int x :: ls) st h P = z_T g d 15 74 (v0 :: v1 :: v2 :: v3 :: v4 :: .int x :: ls) (.int x :: st) h P := zt_iload zi_15_72 rfl
theorem zi_15_74 : z_ins 15 74 = some (.aload_n 0, 1) := by decide +kernel
theorem ze_15_74 : z_T g d 15 74 (.ref a :: ls) st h P = z_T g d 15 75 (.ref a :: ls) (.ref a :: st) h P := zt_aloadn zi_15_74 rfl rfl
theorem zi_15_75 : z_ins 15 75 = some (.getfield 15, 3) := by decide +kernel
theorem ze_15_75 : z_T g d 15 75 ls (.ref a :: st) h P = z_gR h.1 a 1 0 (fun x => z_T g d 15 78 ls (.ref x :: st) h P) := zt_getR zi_15_75 ((congrArg (fun o => z_fl o 15) zo_15).trans zf_LatinRectangles_Cycles_15)
theorem zi_15_78 : z_ins 15 78 = some (.getfield 25, 3) := by decide +kernel
theorem ze_15_78 : z_T g d 15 78 ls (.ref a :: st) h P = z_gR h.1 a 3 0 (fun x => z_T g d 15 81 ls (.ref x :: st) h P) := zt_getR zi_15_78 ((congrArg (fun o => z_fl o 25) zo_15).trans zf_LatinRectangles_Cycles_25)
theorem zi_15_81 : z_ins 15 81 = some (.iload 6, 2) := by decide +kernel
theorem ze_15_81 : z_T g d 15 81 (v0 :: v1 :: v2 :: v3 :: v4 :: v5 :: .int x :: ls) st h P = z_T g d 15 83 (v0 :: v1 :: v2 :: v3 :: v4 :: v5 :: .int x :: ls) (.int x :: st) h P := zt_iload zi_15_81 rfl
theorem zi_15_83 : z_ins 15 83 = some (.iaload, 1) := by decide +kernel
theorem ze_15_83 : z_T g d 15 83 ls (.int x :: .ref a :: st) h P = z_aL h.1 a z_tI x (fun v => z_T g d 15 84 ls (.int v :: st) h P) := zt_iaload zi_15_83
theorem zi_15_84 : z_ins 15 84 = some (.invokevirtual 67, 3) := by decide +kernel
theorem ze_15_84 : z_T g d 15 84 ls (.int x1 :: .int x0 :: .ref a :: st) h P = ((z_okS 8 st = true ∧ z_gO h.1 a 3 ∧ 0 < d) ∧ z_Ca g (d - 1) 37 [.ref a, .int x0, .int x1] h (fun r => z_k r (fun v h' => z_T g d 15 87 ls (z_push v st) h' P) P)) := zt_callV (as := [.int x0, .int x1]) zi_15_84 ((congrArg (fun o => z_lookup z_prs (o, 67)) zo_15).trans zp_LatinRectangles_Cycles_67) ((congrArg (fun o => z_clk o 67) zo_15).trans zk_LatinRectangles_Cycles_67) zh_15 zc_37 rfl rfl rfl
theorem zi_15_87 : z_ins 15 87 = some (.ifCond .ne 25, 3) := by decide +kernel
theorem ze_15_87 : z_T g d 15 87 ls (.int x :: st) h P = (if x = nI 0 then z_T g d 15 90 ls st h P else z_T g d 15 112 ls st h P) := zt_ifne zi_15_87 (by decide)
theorem zi_15_90 : z_ins 15 90 = some (.aload_n 0, 1) := by decide +kernel
theorem ze_15_90 : z_T g d 15 90 (.ref a :: ls) st h P = z_T g d 15 91 (.ref a :: ls) (.ref a :: st) h P := zt_aloadn zi_15_90 rfl rfl
theorem zi_15_91 : z_ins 15 91 = some (.getfield 15, 3) := by decide +kernel
theorem ze_15_91 : z_T g d 15 91 ls (.ref a :: st) h P = z_gR h.1 a 1 0 (fun x => z_T g d 15 94 ls (.ref x :: st) h P) := zt_getR zi_15_91 ((congrArg (fun o => z_fl o 15) zo_15).trans zf_LatinRectangles_Cycles_15)
theorem zi_15_94 : z_ins 15 94 = some (.iload 6, 2) := by decide +kernel
theorem ze_15_94 : z_T g d 15 94 (v0 :: v1 :: v2 :: v3 :: v4 :: v5 :: .int x :: ls) st h P = z_T g d 15 96 (v0 :: v1 :: v2 :: v3 :: v4 :: v5 :: .int x :: ls) (.int x :: st) h P := zt_iload zi_15_94 rfl
theorem zi_15_96 : z_ins 15 96 = some (.aload_n 0, 1) := by decide +kernel
theorem ze_15_96 : z_T g d 15 96 (.ref a :: ls) st h P = z_T g d 15 97 (.ref a :: ls) (.ref a :: st) h P := zt_aloadn zi_15_96 rfl rfl
theorem zi_15_97 : z_ins 15 97 = some (.getfield 15, 3) := by decide +kernel
theorem ze_15_97 : z_T g d 15 97 ls (.ref a :: st) h P = z_gR h.1 a 1 0 (fun x => z_T g d 15 100 ls (.ref x :: st) h P) := zt_getR zi_15_97 ((congrArg (fun o => z_fl o 15) zo_15).trans zf_LatinRectangles_Cycles_15)
theorem zi_15_100 : z_ins 15 100 = some (.getfield 25, 3) := by decide +kernel
theorem ze_15_100 : z_T g d 15 100 ls (.ref a :: st) h P = z_gR h.1 a 3 0 (fun x => z_T g d 15 103 ls (.ref x :: st) h P) := zt_getR zi_15_100 ((congrArg (fun o => z_fl o 25) zo_15).trans zf_LatinRectangles_Cycles_25)
theorem zi_15_103 : z_ins 15 103 = some (.iload 5, 2) := by decide +kernel
theorem ze_15_103 : z_T g d 15 103 (v0 :: v1 :: v2 :: v3 :: v4 :: .int x :: ls) st h P = z_T g d 15 105 (v0 :: v1 :: v2 :: v3 :: v4 :: .int x :: ls) (.int x :: st) h P := zt_iload zi_15_103 rfl
theorem zi_15_105 : z_ins 15 105 = some (.iaload, 1) := by decide +kernel
theorem ze_15_105 : z_T g d 15 105 ls (.int x :: .ref a :: st) h P = z_aL h.1 a z_tI x (fun v => z_T g d 15 106 ls (.int v :: st) h P) := zt_iaload zi_15_105
theorem zi_15_106 : z_ins 15 106 = some (.invokevirtual 67, 3) := by decide +kernel
theorem ze_15_106 : z_T g d 15 106 ls (.int x1 :: .int x0 :: .ref a :: st) h P = ((z_okS 8 st = true ∧ z_gO h.1 a 3 ∧ 0 < d) ∧ z_Ca g (d - 1) 37 [.ref a, .int x0, .int x1] h (fun r => z_k r (fun v h' => z_T g d 15 109 ls (z_push v st) h' P) P)) := zt_callV (as := [.int x0, .int x1]) zi_15_106 ((congrArg (fun o => z_lookup z_prs (o, 67)) zo_15).trans zp_LatinRectangles_Cycles_67) ((congrArg (fun o => z_clk o 67) zo_15).trans zk_LatinRectangles_Cycles_67) zh_15 zc_37 rfl rfl rfl
theorem zi_15_109 : z_ins 15 109 = some (.ifCond .eq 5, 3) := by decide +kernel
theorem ze_15_109 : z_T g d 15 109 ls (.int x :: st) h P = (if x = nI 0 then z_T g d 15 114 ls st h P else z_T g d 15 112 ls st h P) := zt_ifeq zi_15_109 (by decide)
theorem zi_15_112 : z_ins 15 112 = some (.iconst 0, 1) := by decide +kernel
theorem ze_15_112 : z_T g d 15 112 ls st h P = z_T g d 15 113 ls (.int (nI 0) :: st) h P := zt_iconst zi_15_112 rfl
theorem zi_15_113 : z_ins 15 113 = some (.ireturn, 1) := by decide +kernel
theorem ze_15_113 : z_T g d 15 113 ls [.int x] h P = ((x = nI 0 ∨ x = nI 1) ∧ P (.inr (some (.int x)), h)) := zt_zreturn zi_15_113 zr_15
theorem zi_15_114 : z_ins 15 114 = some (.iinc 4 1, 3) := by decide +kernel
theorem ze_15_114 : z_T g d 15 114 (v0 :: v1 :: v2 :: v3 :: .int x :: ls) st h P = z_T g d 15 117 (v0 :: v1 :: v2 :: v3 :: .int (x + (nI 1)) :: ls) st h P := zt_iinc zi_15_114 rfl rfl
theorem zi_15_117 : z_ins 15 117 = some (.goto (-114), 3) := by decide +kernel
theorem ze_15_117 : z_T g d 15 117 ls st h P = z_T g d 15 3 ls st h P := zt_goto zi_15_117 (by decide)
theorem zi_15_120 : z_ins 15 120 = some (.iconst 1, 1) := by decide +kernel
theorem ze_15_120 : z_T g d 15 120 ls st h P = z_T g d 15 121 ls (.int (nI 1) :: st) h P := zt_iconst zi_15_120 rfl
theorem zi_15_121 : z_ins 15 121 = some (.ireturn, 1) := by decide +kernel
theorem ze_15_121 : z_T g d 15 121 ls [.int x] h P = ((x = nI 0 ∨ x = nI 1) ∧ P (.inr (some (.int x)), h)) := zt_zreturn zi_15_121 zr_15
-- LatinRectangles$Cycles.exchange(III)V
theorem zo_16 : z_own 16 = "LatinRectangles$Cycles" := by decide +kernel
theorem zm_16 : z_maxL 16 = 6 := by decide +kernel
theorem zh_16 : z_hds 16 = [] := by decide +kernel
theorem zr_16 : z_rt 16 = none := by decide +kernel
theorem zn_16 : z_Ca g d 16 [.ref a0, .int x1, .int x2, .int x3] h P = z_T g d 16 0 [.ref a0, .int x1, .int x2, .int x3, z_un, z_un] [] h P := z_Ca_ent zm_16 rfl rfl
theorem zi_16_0 : z_ins 16 0 = some (.iconst 0, 1) := by decide +kernel
theorem ze_16_0 : z_T g d 16 0 ls st h P = z_T g d 16 1 ls (.int (nI 0) :: st) h P := zt_iconst zi_16_0 rfl
theorem zi_16_1 : z_ins 16 1 = some (.istore 4, 2) := by decide +kernel
theorem ze_16_1 : z_T g d 16 1 (v0 :: v1 :: v2 :: v3 :: v4 :: ls) (.int x :: st) h P = z_T g d 16 3 (v0 :: v1 :: v2 :: v3 :: .int x :: ls) st h P := zt_istore zi_16_1 (Nat.le_add_left 5 _)
theorem zi_16_3 : z_ins 16 3 = some (.iload 4, 2) := by decide +kernel
theorem ze_16_3 : z_T g d 16 3 (v0 :: v1 :: v2 :: v3 :: .int x :: ls) st h P = z_T g d 16 5 (v0 :: v1 :: v2 :: v3 :: .int x :: ls) (.int x :: st) h P := zt_iload zi_16_3 rfl
theorem zi_16_5 : z_ins 16 5 = some (.aload_n 0, 1) := by decide +kernel
theorem ze_16_5 : z_T g d 16 5 (.ref a :: ls) st h P = z_T g d 16 6 (.ref a :: ls) (.ref a :: st) h P := zt_aloadn zi_16_5 rfl rfl
theorem zi_16_6 : z_ins 16 6 = some (.getfield 15, 3) := by decide +kernel
theorem ze_16_6 : z_T g d 16 6 ls (.ref a :: st) h P = z_gR h.1 a 1 0 (fun x => z_T g d 16 9 ls (.ref x :: st) h P) := zt_getR zi_16_6 ((congrArg (fun o => z_fl o 15) zo_16).trans zf_LatinRectangles_Cycles_15)
theorem zi_16_9 : z_ins 16 9 = some (.getfield 19, 3) := by decide +kernel
theorem ze_16_9 : z_T g d 16 9 ls (.ref a :: st) h P = z_gI h.1 a 3 6 (fun x => z_T g d 16 12 ls (.int x :: st) h P) := zt_getI zi_16_9 ((congrArg (fun o => z_fl o 19) zo_16).trans zf_LatinRectangles_Cycles_19)
theorem zi_16_12 : z_ins 16 12 = some (.if_icmp .ge 78, 3) := by decide +kernel
theorem ze_16_12 : z_T g d 16 12 ls (.int y :: .int x :: st) h P = (if x < y then z_T g d 16 15 ls st h P else z_T g d 16 90 ls st h P) := zt_icmpge zi_16_12 (by decide)
theorem zi_16_15 : z_ins 16 15 = some (.iload_n 3, 1) := by decide +kernel
theorem ze_16_15 : z_T g d 16 15 (v0 :: v1 :: v2 :: .int x :: ls) st h P = z_T g d 16 16 (v0 :: v1 :: v2 :: .int x :: ls) (.int x :: st) h P := zt_iloadn zi_16_15 rfl rfl
theorem zi_16_16 : z_ins 16 16 = some (.iload 4, 2) := by decide +kernel
theorem ze_16_16 : z_T g d 16 16 (v0 :: v1 :: v2 :: v3 :: .int x :: ls) st h P = z_T g d 16 18 (v0 :: v1 :: v2 :: v3 :: .int x :: ls) (.int x :: st) h P := zt_iload zi_16_16 rfl
theorem zi_16_18 : z_ins 16 18 = some (.ishr, 1) := by decide +kernel
theorem ze_16_18 : z_T g d 16 18 ls (.int y :: .int x :: st) h P = z_T g d 16 19 ls (.int (x >>> (y &&& 31)) :: st) h P := zt_bin (f := fun x y => x >>> (y &&& 31)) zi_16_18 rfl (fun _ _ _ => rfl)
theorem zi_16_19 : z_ins 16 19 = some (.iconst 1, 1) := by decide +kernel
theorem ze_16_19 : z_T g d 16 19 ls st h P = z_T g d 16 20 ls (.int (nI 1) :: st) h P := zt_iconst zi_16_19 rfl
theorem zi_16_20 : z_ins 16 20 = some (.iand, 1) := by decide +kernel
theorem ze_16_20 : z_T g d 16 20 ls (.int y :: .int x :: st) h P = z_T g d 16 21 ls (.int (x &&& y) :: st) h P := zt_bin (f := fun x y => x &&& y) zi_16_20 rfl (fun _ _ _ => rfl)
theorem zi_16_21 : z_ins 16 21 = some (.ifCond .eq 63, 3) := by decide +kernel
theorem ze_16_21 : z_T g d 16 21 ls (.int x :: st) h P = (if x = nI 0 then z_T g d 16 84 ls st h P else z_T g d 16 24 ls st h P) := zt_ifeq zi_16_21 (by decide)
theorem zi_16_24 : z_ins 16 24 = some (.aload_n 0, 1) := by decide +kernel
theorem ze_16_24 : z_T g d 16 24 (.ref a :: ls) st h P = z_T g d 16 25 (.ref a :: ls) (.ref a :: st) h P := zt_aloadn zi_16_24 rfl rfl
theorem zi_16_25 : z_ins 16 25 = some (.getfield 15, 3) := by decide +kernel
theorem ze_16_25 : z_T g d 16 25 ls (.ref a :: st) h P = z_gR h.1 a 1 0 (fun x => z_T g d 16 28 ls (.ref x :: st) h P) := zt_getR zi_16_25 ((congrArg (fun o => z_fl o 15) zo_16).trans zf_LatinRectangles_Cycles_15)
theorem zi_16_28 : z_ins 16 28 = some (.getfield 25, 3) := by decide +kernel
theorem ze_16_28 : z_T g d 16 28 ls (.ref a :: st) h P = z_gR h.1 a 3 0 (fun x => z_T g d 16 31 ls (.ref x :: st) h P) := zt_getR zi_16_28 ((congrArg (fun o => z_fl o 25) zo_16).trans zf_LatinRectangles_Cycles_25)
theorem zi_16_31 : z_ins 16 31 = some (.iload_n 1, 1) := by decide +kernel
theorem ze_16_31 : z_T g d 16 31 (v0 :: .int x :: ls) st h P = z_T g d 16 32 (v0 :: .int x :: ls) (.int x :: st) h P := zt_iloadn zi_16_31 rfl rfl
theorem zi_16_32 : z_ins 16 32 = some (.iconst 5, 1) := by decide +kernel
theorem ze_16_32 : z_T g d 16 32 ls st h P = z_T g d 16 33 ls (.int (nI 5) :: st) h P := zt_iconst zi_16_32 rfl
theorem zi_16_33 : z_ins 16 33 = some (.imul, 1) := by decide +kernel
theorem ze_16_33 : z_T g d 16 33 ls (.int y :: .int x :: st) h P = z_T g d 16 34 ls (.int (x * y) :: st) h P := zt_bin (f := fun x y => x * y) zi_16_33 rfl (fun _ _ _ => rfl)
theorem zi_16_34 : z_ins 16 34 = some (.iload 4, 2) := by decide +kernel
theorem ze_16_34 : z_T g d 16 34 (v0 :: v1 :: v2 :: v3 :: .int x :: ls) st h P = z_T g d 16 36 (v0 :: v1 :: v2 :: v3 :: .int x :: ls) (.int x :: st) h P := zt_iload zi_16_34 rfl
theorem zi_16_36 : z_ins 16 36 = some (.iadd, 1) := by decide +kernel
theorem ze_16_36 : z_T g d 16 36 ls (.int y :: .int x :: st) h P = z_T g d 16 37 ls (.int (x + y) :: st) h P := zt_bin (f := fun x y => x + y) zi_16_36 rfl (fun _ _ _ => rfl)
theorem zi_16_37 : z_ins 16 37 = some (.iaload, 1) := by decide +kernel
theorem ze_16_37 : z_T g d 16 37 ls (.int x :: .ref a :: st) h P = z_aL h.1 a z_tI x (fun v => z_T g d 16 38 ls (.int v :: st) h P) := zt_iaload zi_16_37
theorem zi_16_38 : z_ins 16 38 = some (.istore 5, 2) := by decide +kernel
theorem ze_16_38 : z_T g d 16 38 (v0 :: v1 :: v2 :: v3 :: v4 :: v5 :: ls) (.int x :: st) h P = z_T g d 16 40 (v0 :: v1 :: v2 :: v3 :: v4 :: .int x :: ls) st h P := zt_istore zi_16_38 (Nat.le_add_left 6 _)
theorem zi_16_40 : z_ins 16 40 = some (.aload_n 0, 1) := by decide +kernel
theorem ze_16_40 : z_T g d 16 40 (.ref a :: ls) st h P = z_T g d 16 41 (.ref a :: ls) (.ref a :: st) h P := zt_aloadn zi_16_40 rfl rfl
theorem zi_16_41 : z_ins 16 41 = some (.getfield 15, 3) := by decide +kernel
theorem ze_16_41 : z_T g d 16 41 ls (.ref a :: st) h P = z_gR h.1 a 1 0 (fun x => z_T g d 16 44 ls (.ref x :: st) h P) := zt_getR zi_16_41 ((congrArg (fun o => z_fl o 15) zo_16).trans zf_LatinRectangles_Cycles_15)
theorem zi_16_44 : z_ins 16 44 = some (.getfield 25, 3) := by decide +kernel
theorem ze_16_44 : z_T g d 16 44 ls (.ref a :: st) h P = z_gR h.1 a 3 0 (fun x => z_T g d 16 47 ls (.ref x :: st) h P) := zt_getR zi_16_44 ((congrArg (fun o => z_fl o 25) zo_16).trans zf_LatinRectangles_Cycles_25)
theorem zi_16_47 : z_ins 16 47 = some (.iload_n 1, 1) := by decide +kernel
theorem ze_16_47 : z_T g d 16 47 (v0 :: .int x :: ls) st h P = z_T g d 16 48 (v0 :: .int x :: ls) (.int x :: st) h P := zt_iloadn zi_16_47 rfl rfl
theorem zi_16_48 : z_ins 16 48 = some (.iconst 5, 1) := by decide +kernel
theorem ze_16_48 : z_T g d 16 48 ls st h P = z_T g d 16 49 ls (.int (nI 5) :: st) h P := zt_iconst zi_16_48 rfl
theorem zi_16_49 : z_ins 16 49 = some (.imul, 1) := by decide +kernel
theorem ze_16_49 : z_T g d 16 49 ls (.int y :: .int x :: st) h P = z_T g d 16 50 ls (.int (x * y) :: st) h P := zt_bin (f := fun x y => x * y) zi_16_49 rfl (fun _ _ _ => rfl)
theorem zi_16_50 : z_ins 16 50 = some (.iload 4, 2) := by decide +kernel
theorem ze_16_50 : z_T g d 16 50 (v0 :: v1 :: v2 :: v3 :: .int x :: ls) st h P = z_T g d 16 52 (v0 :: v1 :: v2 :: v3 :: .int x :: ls) (.int x :: st) h P := zt_iload zi_16_50 rfl
theorem zi_16_52 : z_ins 16 52 = some (.iadd, 1) := by decide +kernel
theorem ze_16_52 : z_T g d 16 52 ls (.int y :: .int x :: st) h P = z_T g d 16 53 ls (.int (x + y) :: st) h P := zt_bin (f := fun x y => x + y) zi_16_52 rfl (fun _ _ _ => rfl)
theorem zi_16_53 : z_ins 16 53 = some (.aload_n 0, 1) := by decide +kernel
theorem ze_16_53 : z_T g d 16 53 (.ref a :: ls) st h P = z_T g d 16 54 (.ref a :: ls) (.ref a :: st) h P := zt_aloadn zi_16_53 rfl rfl
theorem zi_16_54 : z_ins 16 54 = some (.getfield 15, 3) := by decide +kernel
theorem ze_16_54 : z_T g d 16 54 ls (.ref a :: st) h P = z_gR h.1 a 1 0 (fun x => z_T g d 16 57 ls (.ref x :: st) h P) := zt_getR zi_16_54 ((congrArg (fun o => z_fl o 15) zo_16).trans zf_LatinRectangles_Cycles_15)
theorem zi_16_57 : z_ins 16 57 = some (.getfield 25, 3) := by decide +kernel
theorem ze_16_57 : z_T g d 16 57 ls (.ref a :: st) h P = z_gR h.1 a 3 0 (fun x => z_T g d 16 60 ls (.ref x :: st) h P) := zt_getR zi_16_57 ((congrArg (fun o => z_fl o 25) zo_16).trans zf_LatinRectangles_Cycles_25)
theorem zi_16_60 : z_ins 16 60 = some (.iload_n 2, 1) := by decide +kernel
theorem ze_16_60 : z_T g d 16 60 (v0 :: v1 :: .int x :: ls) st h P = z_T g d 16 61 (v0 :: v1 :: .int x :: ls) (.int x :: st) h P := zt_iloadn zi_16_60 rfl rfl
theorem zi_16_61 : z_ins 16 61 = some (.iconst 5, 1) := by decide +kernel
theorem ze_16_61 : z_T g d 16 61 ls st h P = z_T g d 16 62 ls (.int (nI 5) :: st) h P := zt_iconst zi_16_61 rfl
theorem zi_16_62 : z_ins 16 62 = some (.imul, 1) := by decide +kernel
theorem ze_16_62 : z_T g d 16 62 ls (.int y :: .int x :: st) h P = z_T g d 16 63 ls (.int (x * y) :: st) h P := zt_bin (f := fun x y => x * y) zi_16_62 rfl (fun _ _ _ => rfl)
theorem zi_16_63 : z_ins 16 63 = some (.iload 4, 2) := by decide +kernel
theorem ze_16_63 : z_T g d 16 63 (v0 :: v1 :: v2 :: v3 :: .int x :: ls) st h P = z_T g d 16 65 (v0 :: v1 :: v2 :: v3 :: .int x :: ls) (.int x :: st) h P := zt_iload zi_16_63 rfl
theorem zi_16_65 : z_ins 16 65 = some (.iadd, 1) := by decide +kernel
theorem ze_16_65 : z_T g d 16 65 ls (.int y :: .int x :: st) h P = z_T g d 16 66 ls (.int (x + y) :: st) h P := zt_bin (f := fun x y => x + y) zi_16_65 rfl (fun _ _ _ => rfl)
theorem zi_16_66 : z_ins 16 66 = some (.iaload, 1) := by decide +kernel
theorem ze_16_66 : z_T g d 16 66 ls (.int x :: .ref a :: st) h P = z_aL h.1 a z_tI x (fun v => z_T g d 16 67 ls (.int v :: st) h P) := zt_iaload zi_16_66
theorem zi_16_67 : z_ins 16 67 = some (.iastore, 1) := by decide +kernel
theorem ze_16_67 : z_T g d 16 67 ls (.int y :: .int x :: .ref a :: st) h P = z_aS h.1 a z_tI x y (fun f => z_T g d 16 68 ls st (f, h.2) P) := zt_iastore zi_16_67
theorem zi_16_68 : z_ins 16 68 = some (.aload_n 0, 1) := by decide +kernel
theorem ze_16_68 : z_T g d 16 68 (.ref a :: ls) st h P = z_T g d 16 69 (.ref a :: ls) (.ref a :: st) h P := zt_aloadn zi_16_68 rfl rfl
theorem zi_16_69 : z_ins 16 69 = some (.getfield 15, 3) := by decide +kernel
theorem ze_16_69 : z_T g d 16 69 ls (.ref a :: st) h P = z_gR h.1 a 1 0 (fun x => z_T g d 16 72 ls (.ref x :: st) h P) := zt_getR zi_16_69 ((congrArg (fun o => z_fl o 15) zo_16).trans zf_LatinRectangles_Cycles_15)
theorem zi_16_72 : z_ins 16 72 = some (.getfield 25, 3) := by decide +kernel
theorem ze_16_72 : z_T g d 16 72 ls (.ref a :: st) h P = z_gR h.1 a 3 0 (fun x => z_T g d 16 75 ls (.ref x :: st) h P) := zt_getR zi_16_72 ((congrArg (fun o => z_fl o 25) zo_16).trans zf_LatinRectangles_Cycles_25)
theorem zi_16_75 : z_ins 16 75 = some (.iload_n 2, 1) := by decide +kernel
theorem ze_16_75 : z_T g d 16 75 (v0 :: v1 :: .int x :: ls) st h P = z_T g d 16 76 (v0 :: v1 :: .int x :: ls) (.int x :: st) h P := zt_iloadn zi_16_75 rfl rfl
theorem zi_16_76 : z_ins 16 76 = some (.iconst 5, 1) := by decide +kernel
theorem ze_16_76 : z_T g d 16 76 ls st h P = z_T g d 16 77 ls (.int (nI 5) :: st) h P := zt_iconst zi_16_76 rfl
theorem zi_16_77 : z_ins 16 77 = some (.imul, 1) := by decide +kernel
theorem ze_16_77 : z_T g d 16 77 ls (.int y :: .int x :: st) h P = z_T g d 16 78 ls (.int (x * y) :: st) h P := zt_bin (f := fun x y => x * y) zi_16_77 rfl (fun _ _ _ => rfl)
theorem zi_16_78 : z_ins 16 78 = some (.iload 4, 2) := by decide +kernel
theorem ze_16_78 : z_T g d 16 78 (v0 :: v1 :: v2 :: v3 :: .int x :: ls) st h P = z_T g d 16 80 (v0 :: v1 :: v2 :: v3 :: .int x :: ls) (.int x :: st) h P := zt_iload zi_16_78 rfl
theorem zi_16_80 : z_ins 16 80 = some (.iadd, 1) := by decide +kernel
theorem ze_16_80 : z_T g d 16 80 ls (.int y :: .int x :: st) h P = z_T g d 16 81 ls (.int (x + y) :: st) h P := zt_bin (f := fun x y => x + y) zi_16_80 rfl (fun _ _ _ => rfl)
theorem zi_16_81 : z_ins 16 81 = some (.iload 5, 2) := by decide +kernel
theorem ze_16_81 : z_T g d 16 81 (v0 :: v1 :: v2 :: v3 :: v4 :: .int x :: ls) st h P = z_T g d 16 83 (v0 :: v1 :: v2 :: v3 :: v4 :: .int x :: ls) (.int x :: st) h P := zt_iload zi_16_81 rfl
theorem zi_16_83 : z_ins 16 83 = some (.iastore, 1) := by decide +kernel
theorem ze_16_83 : z_T g d 16 83 ls (.int y :: .int x :: .ref a :: st) h P = z_aS h.1 a z_tI x y (fun f => z_T g d 16 84 ls st (f, h.2) P) := zt_iastore zi_16_83
theorem zi_16_84 : z_ins 16 84 = some (.iinc 4 1, 3) := by decide +kernel
theorem ze_16_84 : z_T g d 16 84 (v0 :: v1 :: v2 :: v3 :: .int x :: ls) st h P = z_T g d 16 87 (v0 :: v1 :: v2 :: v3 :: .int (x + (nI 1)) :: ls) st h P := zt_iinc zi_16_84 rfl rfl
theorem zi_16_87 : z_ins 16 87 = some (.goto (-84), 3) := by decide +kernel
theorem ze_16_87 : z_T g d 16 87 ls st h P = z_T g d 16 3 ls st h P := zt_goto zi_16_87 (by decide)
theorem zi_16_90 : z_ins 16 90 = some (.return_, 1) := by decide +kernel
theorem ze_16_90 : z_T g d 16 90 ls [] h P = P (.inr none, h) := zt_return zi_16_90 zr_16
-- LatinRectangles$Cycles.countIntercalates()I
theorem zo_17 : z_own 17 = "LatinRectangles$Cycles" := by decide +kernel
theorem zm_17 : z_maxL 17 = 6 := by decide +kernel
theorem zh_17 : z_hds 17 = [] := by decide +kernel
theorem zr_17 : z_rt 17 = (some .int) := by decide +kernel
theorem zn_17 : z_Ca g d 17 [.ref a0] h P = z_T g d 17 0 [.ref a0, z_un, z_un, z_un, z_un, z_un] [] h P := z_Ca_ent zm_17 rfl rfl
theorem zi_17_0 : z_ins 17 0 = some (.iconst 0, 1) := by decide +kernel
theorem ze_17_0 : z_T g d 17 0 ls st h P = z_T g d 17 1 ls (.int (nI 0) :: st) h P := zt_iconst zi_17_0 rfl
theorem zi_17_1 : z_ins 17 1 = some (.istore_n 1, 1) := by decide +kernel
theorem ze_17_1 : z_T g d 17 1 (v0 :: v1 :: ls) (.int x :: st) h P = z_T g d 17 2 (v0 :: .int x :: ls) st h P := zt_istoren zi_17_1 rfl (Nat.le_add_left 2 _)
theorem zi_17_2 : z_ins 17 2 = some (.iconst 0, 1) := by decide +kernel
theorem ze_17_2 : z_T g d 17 2 ls st h P = z_T g d 17 3 ls (.int (nI 0) :: st) h P := zt_iconst zi_17_2 rfl
theorem zi_17_3 : z_ins 17 3 = some (.istore_n 2, 1) := by decide +kernel
theorem ze_17_3 : z_T g d 17 3 (v0 :: v1 :: v2 :: ls) (.int x :: st) h P = z_T g d 17 4 (v0 :: v1 :: .int x :: ls) st h P := zt_istoren zi_17_3 rfl (Nat.le_add_left 3 _)
theorem zi_17_4 : z_ins 17 4 = some (.iload_n 2, 1) := by decide +kernel
theorem ze_17_4 : z_T g d 17 4 (v0 :: v1 :: .int x :: ls) st h P = z_T g d 17 5 (v0 :: v1 :: .int x :: ls) (.int x :: st) h P := zt_iloadn zi_17_4 rfl rfl
theorem zi_17_5 : z_ins 17 5 = some (.aload_n 0, 1) := by decide +kernel
theorem ze_17_5 : z_T g d 17 5 (.ref a :: ls) st h P = z_T g d 17 6 (.ref a :: ls) (.ref a :: st) h P := zt_aloadn zi_17_5 rfl rfl
theorem zi_17_6 : z_ins 17 6 = some (.getfield 15, 3) := by decide +kernel
theorem ze_17_6 : z_T g d 17 6 ls (.ref a :: st) h P = z_gR h.1 a 1 0 (fun x => z_T g d 17 9 ls (.ref x :: st) h P) := zt_getR zi_17_6 ((congrArg (fun o => z_fl o 15) zo_17).trans zf_LatinRectangles_Cycles_15)
theorem zi_17_9 : z_ins 17 9 = some (.getfield 38, 3) := by decide +kernel
theorem ze_17_9 : z_T g d 17 9 ls (.ref a :: st) h P = z_gI h.1 a 3 5 (fun x => z_T g d 17 12 ls (.int x :: st) h P) := zt_getI zi_17_9 ((congrArg (fun o => z_fl o 38) zo_17).trans zf_LatinRectangles_Cycles_38)
theorem zi_17_12 : z_ins 17 12 = some (.if_icmp .ge 91, 3) := by decide +kernel
theorem ze_17_12 : z_T g d 17 12 ls (.int y :: .int x :: st) h P = (if x < y then z_T g d 17 15 ls st h P else z_T g d 17 103 ls st h P) := zt_icmpge zi_17_12 (by decide)
theorem zi_17_15 : z_ins 17 15 = some (.iload_n 2, 1) := by decide +kernel
theorem ze_17_15 : z_T g d 17 15 (v0 :: v1 :: .int x :: ls) st h P = z_T g d 17 16 (v0 :: v1 :: .int x :: ls) (.int x :: st) h P := zt_iloadn zi_17_15 rfl rfl
theorem zi_17_16 : z_ins 17 16 = some (.iconst 1, 1) := by decide +kernel
theorem ze_17_16 : z_T g d 17 16 ls st h P = z_T g d 17 17 ls (.int (nI 1) :: st) h P := zt_iconst zi_17_16 rfl
theorem zi_17_17 : z_ins 17 17 = some (.iadd, 1) := by decide +kernel
theorem ze_17_17 : z_T g d 17 17 ls (.int y :: .int x :: st) h P = z_T g d 17 18 ls (.int (x + y) :: st) h P := zt_bin (f := fun x y => x + y) zi_17_17 rfl (fun _ _ _ => rfl)
theorem zi_17_18 : z_ins 17 18 = some (.istore_n 3, 1) := by decide +kernel
theorem ze_17_18 : z_T g d 17 18 (v0 :: v1 :: v2 :: v3 :: ls) (.int x :: st) h P = z_T g d 17 19 (v0 :: v1 :: v2 :: .int x :: ls) st h P := zt_istoren zi_17_18 rfl (Nat.le_add_left 4 _)
theorem zi_17_19 : z_ins 17 19 = some (.iload_n 3, 1) := by decide +kernel
theorem ze_17_19 : z_T g d 17 19 (v0 :: v1 :: v2 :: .int x :: ls) st h P = z_T g d 17 20 (v0 :: v1 :: v2 :: .int x :: ls) (.int x :: st) h P := zt_iloadn zi_17_19 rfl rfl
theorem zi_17_20 : z_ins 17 20 = some (.aload_n 0, 1) := by decide +kernel
theorem ze_17_20 : z_T g d 17 20 (.ref a :: ls) st h P = z_T g d 17 21 (.ref a :: ls) (.ref a :: st) h P := zt_aloadn zi_17_20 rfl rfl
theorem zi_17_21 : z_ins 17 21 = some (.getfield 15, 3) := by decide +kernel
theorem ze_17_21 : z_T g d 17 21 ls (.ref a :: st) h P = z_gR h.1 a 1 0 (fun x => z_T g d 17 24 ls (.ref x :: st) h P) := zt_getR zi_17_21 ((congrArg (fun o => z_fl o 15) zo_17).trans zf_LatinRectangles_Cycles_15)
theorem zi_17_24 : z_ins 17 24 = some (.getfield 38, 3) := by decide +kernel
theorem ze_17_24 : z_T g d 17 24 ls (.ref a :: st) h P = z_gI h.1 a 3 5 (fun x => z_T g d 17 27 ls (.int x :: st) h P) := zt_getI zi_17_24 ((congrArg (fun o => z_fl o 38) zo_17).trans zf_LatinRectangles_Cycles_38)
theorem zi_17_27 : z_ins 17 27 = some (.if_icmp .ge 70, 3) := by decide +kernel
theorem ze_17_27 : z_T g d 17 27 ls (.int y :: .int x :: st) h P = (if x < y then z_T g d 17 30 ls st h P else z_T g d 17 97 ls st h P) := zt_icmpge zi_17_27 (by decide)
theorem zi_17_30 : z_ins 17 30 = some (.iconst 0, 1) := by decide +kernel
theorem ze_17_30 : z_T g d 17 30 ls st h P = z_T g d 17 31 ls (.int (nI 0) :: st) h P := zt_iconst zi_17_30 rfl
theorem zi_17_31 : z_ins 17 31 = some (.istore 4, 2) := by decide +kernel
theorem ze_17_31 : z_T g d 17 31 (v0 :: v1 :: v2 :: v3 :: v4 :: ls) (.int x :: st) h P = z_T g d 17 33 (v0 :: v1 :: v2 :: v3 :: .int x :: ls) st h P := zt_istore zi_17_31 (Nat.le_add_left 5 _)
theorem zi_17_33 : z_ins 17 33 = some (.iload 4, 2) := by decide +kernel
theorem ze_17_33 : z_T g d 17 33 (v0 :: v1 :: v2 :: v3 :: .int x :: ls) st h P = z_T g d 17 35 (v0 :: v1 :: v2 :: v3 :: .int x :: ls) (.int x :: st) h P := zt_iload zi_17_33 rfl
theorem zi_17_35 : z_ins 17 35 = some (.aload_n 0, 1) := by decide +kernel
theorem ze_17_35 : z_T g d 17 35 (.ref a :: ls) st h P = z_T g d 17 36 (.ref a :: ls) (.ref a :: st) h P := zt_aloadn zi_17_35 rfl rfl
theorem zi_17_36 : z_ins 17 36 = some (.getfield 15, 3) := by decide +kernel
theorem ze_17_36 : z_T g d 17 36 ls (.ref a :: st) h P = z_gR h.1 a 1 0 (fun x => z_T g d 17 39 ls (.ref x :: st) h P) := zt_getR zi_17_36 ((congrArg (fun o => z_fl o 15) zo_17).trans zf_LatinRectangles_Cycles_15)
theorem zi_17_39 : z_ins 17 39 = some (.getfield 19, 3) := by decide +kernel
theorem ze_17_39 : z_T g d 17 39 ls (.ref a :: st) h P = z_gI h.1 a 3 6 (fun x => z_T g d 17 42 ls (.int x :: st) h P) := zt_getI zi_17_39 ((congrArg (fun o => z_fl o 19) zo_17).trans zf_LatinRectangles_Cycles_19)
theorem zi_17_42 : z_ins 17 42 = some (.if_icmp .ge 49, 3) := by decide +kernel
theorem ze_17_42 : z_T g d 17 42 ls (.int y :: .int x :: st) h P = (if x < y then z_T g d 17 45 ls st h P else z_T g d 17 91 ls st h P) := zt_icmpge zi_17_42 (by decide)
theorem zi_17_45 : z_ins 17 45 = some (.iload 4, 2) := by decide +kernel
theorem ze_17_45 : z_T g d 17 45 (v0 :: v1 :: v2 :: v3 :: .int x :: ls) st h P = z_T g d 17 47 (v0 :: v1 :: v2 :: v3 :: .int x :: ls) (.int x :: st) h P := zt_iload zi_17_45 rfl
theorem zi_17_47 : z_ins 17 47 = some (.iconst 1, 1) := by decide +kernel
theorem ze_17_47 : z_T g d 17 47 ls st h P = z_T g d 17 48 ls (.int (nI 1) :: st) h P := zt_iconst zi_17_47 rfl
theorem zi_17_48 : z_ins 17 48 = some (.iadd, 1) := by decide +kernel
theorem ze_17_48 : z_T g d 17 48 ls (.int y :: .int x :: st) h P = z_T g d 17 49 ls (.int (x + y) :: st) h P := zt_bin (f := fun x y => x + y) zi_17_48 rfl (fun _ _ _ => rfl)
theorem zi_17_49 : z_ins 17 49 = some (.istore 5, 2) := by decide +kernel
theorem ze_17_49 : z_T g d 17 49 (v0 :: v1 :: v2 :: v3 :: v4 :: v5 :: ls) (.int x :: st) h P = z_T g d 17 51 (v0 :: v1 :: v2 :: v3 :: v4 :: .int x :: ls) st h P := zt_istore zi_17_49 (Nat.le_add_left 6 _)
theorem zi_17_51 : z_ins 17 51 = some (.iload 5, 2) := by decide +kernel
theorem ze_17_51 : z_T g d 17 51 (v0 :: v1 :: v2 :: v3 :: v4 :: .int x :: ls) st h P = z_T g d 17 53 (v0 :: v1 :: v2 :: v3 :: v4 :: .int x :: ls) (.int x :: st) h P := zt_iload zi_17_51 rfl
theorem zi_17_53 : z_ins 17 53 = some (.aload_n 0, 1) := by decide +kernel
theorem ze_17_53 : z_T g d 17 53 (.ref a :: ls) st h P = z_T g d 17 54 (.ref a :: ls) (.ref a :: st) h P := zt_aloadn zi_17_53 rfl rfl
theorem zi_17_54 : z_ins 17 54 = some (.getfield 15, 3) := by decide +kernel
theorem ze_17_54 : z_T g d 17 54 ls (.ref a :: st) h P = z_gR h.1 a 1 0 (fun x => z_T g d 17 57 ls (.ref x :: st) h P) := zt_getR zi_17_54 ((congrArg (fun o => z_fl o 15) zo_17).trans zf_LatinRectangles_Cycles_15)
theorem zi_17_57 : z_ins 17 57 = some (.getfield 19, 3) := by decide +kernel
theorem ze_17_57 : z_T g d 17 57 ls (.ref a :: st) h P = z_gI h.1 a 3 6 (fun x => z_T g d 17 60 ls (.int x :: st) h P) := zt_getI zi_17_57 ((congrArg (fun o => z_fl o 19) zo_17).trans zf_LatinRectangles_Cycles_19)
theorem zi_17_60 : z_ins 17 60 = some (.if_icmp .ge 25, 3) := by decide +kernel
theorem ze_17_60 : z_T g d 17 60 ls (.int y :: .int x :: st) h P = (if x < y then z_T g d 17 63 ls st h P else z_T g d 17 85 ls st h P) := zt_icmpge zi_17_60 (by decide)
theorem zi_17_63 : z_ins 17 63 = some (.aload_n 0, 1) := by decide +kernel
theorem ze_17_63 : z_T g d 17 63 (.ref a :: ls) st h P = z_T g d 17 64 (.ref a :: ls) (.ref a :: st) h P := zt_aloadn zi_17_63 rfl rfl
theorem zi_17_64 : z_ins 17 64 = some (.iload_n 2, 1) := by decide +kernel
theorem ze_17_64 : z_T g d 17 64 (v0 :: v1 :: .int x :: ls) st h P = z_T g d 17 65 (v0 :: v1 :: .int x :: ls) (.int x :: st) h P := zt_iloadn zi_17_64 rfl rfl
theorem zi_17_65 : z_ins 17 65 = some (.iload_n 3, 1) := by decide +kernel
theorem ze_17_65 : z_T g d 17 65 (v0 :: v1 :: v2 :: .int x :: ls) st h P = z_T g d 17 66 (v0 :: v1 :: v2 :: .int x :: ls) (.int x :: st) h P := zt_iloadn zi_17_65 rfl rfl
theorem zi_17_66 : z_ins 17 66 = some (.iload 4, 2) := by decide +kernel
theorem ze_17_66 : z_T g d 17 66 (v0 :: v1 :: v2 :: v3 :: .int x :: ls) st h P = z_T g d 17 68 (v0 :: v1 :: v2 :: v3 :: .int x :: ls) (.int x :: st) h P := zt_iload zi_17_66 rfl
theorem zi_17_68 : z_ins 17 68 = some (.iload 5, 2) := by decide +kernel
theorem ze_17_68 : z_T g d 17 68 (v0 :: v1 :: v2 :: v3 :: v4 :: .int x :: ls) st h P = z_T g d 17 70 (v0 :: v1 :: v2 :: v3 :: v4 :: .int x :: ls) (.int x :: st) h P := zt_iload zi_17_68 rfl
theorem zi_17_70 : z_ins 17 70 = some (.invokevirtual 71, 3) := by decide +kernel
theorem ze_17_70 : z_T g d 17 70 ls (.int x3 :: .int x2 :: .int x1 :: .int x0 :: .ref a :: st) h P = ((z_okS 8 st = true ∧ z_gO h.1 a 1 ∧ 0 < d) ∧ z_Ca g (d - 1) 18 [.ref a, .int x0, .int x1, .int x2, .int x3] h (fun r => z_k r (fun v h' => z_T g d 17 73 ls (z_push v st) h' P) P)) := zt_callV (as := [.int x0, .int x1, .int x2, .int x3]) zi_17_70 ((congrArg (fun o => z_lookup z_prs (o, 71)) zo_17).trans zp_LatinRectangles_Cycles_71) ((congrArg (fun o => z_clk o 71) zo_17).trans zk_LatinRectangles_Cycles_71) zh_17 zc_18 rfl rfl rfl
theorem zi_17_73 : z_ins 17 73 = some (.ifCond .eq 6, 3) := by decide +kernel
theorem ze_17_73 : z_T g d 17 73 ls (.int x :: st) h P = (if x = nI 0 then z_T g d 17 79 ls st h P else z_T g d 17 76 ls st h P) := zt_ifeq zi_17_73 (by decide)
theorem zi_17_76 : z_ins 17 76 = some (.iinc 1 1, 3) := by decide +kernel
theorem ze_17_76 : z_T g d 17 76 (v0 :: .int x :: ls) st h P = z_T g d 17 79 (v0 :: .int (x + (nI 1)) :: ls) st h P := zt_iinc zi_17_76 rfl rfl
theorem zi_17_79 : z_ins 17 79 = some (.iinc 5 1, 3) := by decide +kernel
theorem ze_17_79 : z_T g d 17 79 (v0 :: v1 :: v2 :: v3 :: v4 :: .int x :: ls) st h P = z_T g d 17 82 (v0 :: v1 :: v2 :: v3 :: v4 :: .int (x + (nI 1)) :: ls) st h P := zt_iinc zi_17_79 rfl rfl
theorem zi_17_82 : z_ins 17 82 = some (.goto (-31), 3) := by decide +kernel
theorem ze_17_82 : z_T g d 17 82 ls st h P = z_T g d 17 51 ls st h P := zt_goto zi_17_82 (by decide)
theorem zi_17_85 : z_ins 17 85 = some (.iinc 4 1, 3) := by decide +kernel
theorem ze_17_85 : z_T g d 17 85 (v0 :: v1 :: v2 :: v3 :: .int x :: ls) st h P = z_T g d 17 88 (v0 :: v1 :: v2 :: v3 :: .int (x + (nI 1)) :: ls) st h P := zt_iinc zi_17_85 rfl rfl
theorem zi_17_88 : z_ins 17 88 = some (.goto (-55), 3) := by decide +kernel
theorem ze_17_88 : z_T g d 17 88 ls st h P = z_T g d 17 33 ls st h P := zt_goto zi_17_88 (by decide)
theorem zi_17_91 : z_ins 17 91 = some (.iinc 3 1, 3) := by decide +kernel
theorem ze_17_91 : z_T g d 17 91 (v0 :: v1 :: v2 :: .int x :: ls) st h P = z_T g d 17 94 (v0 :: v1 :: v2 :: .int (x + (nI 1)) :: ls) st h P := zt_iinc zi_17_91 rfl rfl
theorem zi_17_94 : z_ins 17 94 = some (.goto (-75), 3) := by decide +kernel
theorem ze_17_94 : z_T g d 17 94 ls st h P = z_T g d 17 19 ls st h P := zt_goto zi_17_94 (by decide)
theorem zi_17_97 : z_ins 17 97 = some (.iinc 2 1, 3) := by decide +kernel
theorem ze_17_97 : z_T g d 17 97 (v0 :: v1 :: .int x :: ls) st h P = z_T g d 17 100 (v0 :: v1 :: .int (x + (nI 1)) :: ls) st h P := zt_iinc zi_17_97 rfl rfl
theorem zi_17_100 : z_ins 17 100 = some (.goto (-96), 3) := by decide +kernel
theorem ze_17_100 : z_T g d 17 100 ls st h P = z_T g d 17 4 ls st h P := zt_goto zi_17_100 (by decide)
theorem zi_17_103 : z_ins 17 103 = some (.iload_n 1, 1) := by decide +kernel
theorem ze_17_103 : z_T g d 17 103 (v0 :: .int x :: ls) st h P = z_T g d 17 104 (v0 :: .int x :: ls) (.int x :: st) h P := zt_iloadn zi_17_103 rfl rfl
theorem zi_17_104 : z_ins 17 104 = some (.ireturn, 1) := by decide +kernel
theorem ze_17_104 : z_T g d 17 104 ls [.int x] h P = P (.inr (some (.int x)), h) := zt_ireturn zi_17_104 zr_17
-- LatinRectangles$Cycles.isIntercalate(IIII)Z
theorem zo_18 : z_own 18 = "LatinRectangles$Cycles" := by decide +kernel
theorem zm_18 : z_maxL 18 = 7 := by decide +kernel
theorem zh_18 : z_hds 18 = [] := by decide +kernel
theorem zr_18 : z_rt 18 = (some .boolean) := by decide +kernel
theorem zn_18 : z_Ca g d 18 [.ref a0, .int x1, .int x2, .int x3, .int x4] h P = z_T g d 18 0 [.ref a0, .int x1, .int x2, .int x3, .int x4, z_un, z_un] [] h P := z_Ca_ent zm_18 rfl rfl
theorem zi_18_0 : z_ins 18 0 = some (.aload_n 0, 1) := by decide +kernel
theorem ze_18_0 : z_T g d 18 0 (.ref a :: ls) st h P = z_T g d 18 1 (.ref a :: ls) (.ref a :: st) h P := zt_aloadn zi_18_0 rfl rfl
theorem zi_18_1 : z_ins 18 1 = some (.getfield 15, 3) := by decide +kernel
theorem ze_18_1 : z_T g d 18 1 ls (.ref a :: st) h P = z_gR h.1 a 1 0 (fun x => z_T g d 18 4 ls (.ref x :: st) h P) := zt_getR zi_18_1 ((congrArg (fun o => z_fl o 15) zo_18).trans zf_LatinRectangles_Cycles_15)
theorem zi_18_4 : z_ins 18 4 = some (.getfield 25, 3) := by decide +kernel
theorem ze_18_4 : z_T g d 18 4 ls (.ref a :: st) h P = z_gR h.1 a 3 0 (fun x => z_T g d 18 7 ls (.ref x :: st) h P) := zt_getR zi_18_4 ((congrArg (fun o => z_fl o 25) zo_18).trans zf_LatinRectangles_Cycles_25)
theorem zi_18_7 : z_ins 18 7 = some (.iload_n 1, 1) := by decide +kernel
theorem ze_18_7 : z_T g d 18 7 (v0 :: .int x :: ls) st h P = z_T g d 18 8 (v0 :: .int x :: ls) (.int x :: st) h P := zt_iloadn zi_18_7 rfl rfl
theorem zi_18_8 : z_ins 18 8 = some (.iconst 5, 1) := by decide +kernel
theorem ze_18_8 : z_T g d 18 8 ls st h P = z_T g d 18 9 ls (.int (nI 5) :: st) h P := zt_iconst zi_18_8 rfl
theorem zi_18_9 : z_ins 18 9 = some (.imul, 1) := by decide +kernel
theorem ze_18_9 : z_T g d 18 9 ls (.int y :: .int x :: st) h P = z_T g d 18 10 ls (.int (x * y) :: st) h P := zt_bin (f := fun x y => x * y) zi_18_9 rfl (fun _ _ _ => rfl)
theorem zi_18_10 : z_ins 18 10 = some (.iload_n 3, 1) := by decide +kernel
theorem ze_18_10 : z_T g d 18 10 (v0 :: v1 :: v2 :: .int x :: ls) st h P = z_T g d 18 11 (v0 :: v1 :: v2 :: .int x :: ls) (.int x :: st) h P := zt_iloadn zi_18_10 rfl rfl
theorem zi_18_11 : z_ins 18 11 = some (.iadd, 1) := by decide +kernel
theorem ze_18_11 : z_T g d 18 11 ls (.int y :: .int x :: st) h P = z_T g d 18 12 ls (.int (x + y) :: st) h P := zt_bin (f := fun x y => x + y) zi_18_11 rfl (fun _ _ _ => rfl)
theorem zi_18_12 : z_ins 18 12 = some (.iaload, 1) := by decide +kernel
theorem ze_18_12 : z_T g d 18 12 ls (.int x :: .ref a :: st) h P = z_aL h.1 a z_tI x (fun v => z_T g d 18 13 ls (.int v :: st) h P) := zt_iaload zi_18_12
theorem zi_18_13 : z_ins 18 13 = some (.istore 5, 2) := by decide +kernel
theorem ze_18_13 : z_T g d 18 13 (v0 :: v1 :: v2 :: v3 :: v4 :: v5 :: ls) (.int x :: st) h P = z_T g d 18 15 (v0 :: v1 :: v2 :: v3 :: v4 :: .int x :: ls) st h P := zt_istore zi_18_13 (Nat.le_add_left 6 _)
theorem zi_18_15 : z_ins 18 15 = some (.aload_n 0, 1) := by decide +kernel
theorem ze_18_15 : z_T g d 18 15 (.ref a :: ls) st h P = z_T g d 18 16 (.ref a :: ls) (.ref a :: st) h P := zt_aloadn zi_18_15 rfl rfl
theorem zi_18_16 : z_ins 18 16 = some (.getfield 15, 3) := by decide +kernel
theorem ze_18_16 : z_T g d 18 16 ls (.ref a :: st) h P = z_gR h.1 a 1 0 (fun x => z_T g d 18 19 ls (.ref x :: st) h P) := zt_getR zi_18_16 ((congrArg (fun o => z_fl o 15) zo_18).trans zf_LatinRectangles_Cycles_15)
theorem zi_18_19 : z_ins 18 19 = some (.getfield 25, 3) := by decide +kernel
theorem ze_18_19 : z_T g d 18 19 ls (.ref a :: st) h P = z_gR h.1 a 3 0 (fun x => z_T g d 18 22 ls (.ref x :: st) h P) := zt_getR zi_18_19 ((congrArg (fun o => z_fl o 25) zo_18).trans zf_LatinRectangles_Cycles_25)
theorem zi_18_22 : z_ins 18 22 = some (.iload_n 1, 1) := by decide +kernel
theorem ze_18_22 : z_T g d 18 22 (v0 :: .int x :: ls) st h P = z_T g d 18 23 (v0 :: .int x :: ls) (.int x :: st) h P := zt_iloadn zi_18_22 rfl rfl
theorem zi_18_23 : z_ins 18 23 = some (.iconst 5, 1) := by decide +kernel
theorem ze_18_23 : z_T g d 18 23 ls st h P = z_T g d 18 24 ls (.int (nI 5) :: st) h P := zt_iconst zi_18_23 rfl
theorem zi_18_24 : z_ins 18 24 = some (.imul, 1) := by decide +kernel
theorem ze_18_24 : z_T g d 18 24 ls (.int y :: .int x :: st) h P = z_T g d 18 25 ls (.int (x * y) :: st) h P := zt_bin (f := fun x y => x * y) zi_18_24 rfl (fun _ _ _ => rfl)
theorem zi_18_25 : z_ins 18 25 = some (.iload 4, 2) := by decide +kernel
theorem ze_18_25 : z_T g d 18 25 (v0 :: v1 :: v2 :: v3 :: .int x :: ls) st h P = z_T g d 18 27 (v0 :: v1 :: v2 :: v3 :: .int x :: ls) (.int x :: st) h P := zt_iload zi_18_25 rfl
theorem zi_18_27 : z_ins 18 27 = some (.iadd, 1) := by decide +kernel
theorem ze_18_27 : z_T g d 18 27 ls (.int y :: .int x :: st) h P = z_T g d 18 28 ls (.int (x + y) :: st) h P := zt_bin (f := fun x y => x + y) zi_18_27 rfl (fun _ _ _ => rfl)
theorem zi_18_28 : z_ins 18 28 = some (.iaload, 1) := by decide +kernel
theorem ze_18_28 : z_T g d 18 28 ls (.int x :: .ref a :: st) h P = z_aL h.1 a z_tI x (fun v => z_T g d 18 29 ls (.int v :: st) h P) := zt_iaload zi_18_28
theorem zi_18_29 : z_ins 18 29 = some (.istore 6, 2) := by decide +kernel
theorem ze_18_29 : z_T g d 18 29 (v0 :: v1 :: v2 :: v3 :: v4 :: v5 :: v6 :: ls) (.int x :: st) h P = z_T g d 18 31 (v0 :: v1 :: v2 :: v3 :: v4 :: v5 :: .int x :: ls) st h P := zt_istore zi_18_29 (Nat.le_add_left 7 _)
theorem zi_18_31 : z_ins 18 31 = some (.iload 5, 2) := by decide +kernel
theorem ze_18_31 : z_T g d 18 31 (v0 :: v1 :: v2 :: v3 :: v4 :: .int x :: ls) st h P = z_T g d 18 33 (v0 :: v1 :: v2 :: v3 :: v4 :: .int x :: ls) (.int x :: st) h P := zt_iload zi_18_31 rfl
theorem zi_18_33 : z_ins 18 33 = some (.iconst (-1), 1) := by decide +kernel
theorem ze_18_33 : z_T g d 18 33 ls st h P = z_T g d 18 34 ls (.int (-1) :: st) h P := zt_iconst zi_18_33 rfl
theorem zi_18_34 : z_ins 18 34 = some (.if_icmp .eq 50, 3) := by decide +kernel
theorem ze_18_34 : z_T g d 18 34 ls (.int y :: .int x :: st) h P = (if x = y then z_T g d 18 84 ls st h P else z_T g d 18 37 ls st h P) := zt_icmpeq zi_18_34 (by decide)
theorem zi_18_37 : z_ins 18 37 = some (.iload 6, 2) := by decide +kernel
theorem ze_18_37 : z_T g d 18 37 (v0 :: v1 :: v2 :: v3 :: v4 :: v5 :: .int x :: ls) st h P = z_T g d 18 39 (v0 :: v1 :: v2 :: v3 :: v4 :: v5 :: .int x :: ls) (.int x :: st) h P := zt_iload zi_18_37 rfl
theorem zi_18_39 : z_ins 18 39 = some (.iconst (-1), 1) := by decide +kernel
theorem ze_18_39 : z_T g d 18 39 ls st h P = z_T g d 18 40 ls (.int (-1) :: st) h P := zt_iconst zi_18_39 rfl
theorem zi_18_40 : z_ins 18 40 = some (.if_icmp .eq 44, 3) := by decide +kernel
theorem ze_18_40 : z_T g d 18 40 ls (.int y :: .int x :: st) h P = (if x = y then z_T g d 18 84 ls st h P else z_T g d 18 43 ls st h P) := zt_icmpeq zi_18_40 (by decide)
theorem zi_18_43 : z_ins 18 43 = some (.iload 5, 2) := by decide +kernel
theorem ze_18_43 : z_T g d 18 43 (v0 :: v1 :: v2 :: v3 :: v4 :: .int x :: ls) st h P = z_T g d 18 45 (v0 :: v1 :: v2 :: v3 :: v4 :: .int x :: ls) (.int x :: st) h P := zt_iload zi_18_43 rfl
theorem zi_18_45 : z_ins 18 45 = some (.aload_n 0, 1) := by decide +kernel
theorem ze_18_45 : z_T g d 18 45 (.ref a :: ls) st h P = z_T g d 18 46 (.ref a :: ls) (.ref a :: st) h P := zt_aloadn zi_18_45 rfl rfl
theorem zi_18_46 : z_ins 18 46 = some (.getfield 15, 3) := by decide +kernel
theorem ze_18_46 : z_T g d 18 46 ls (.ref a :: st) h P = z_gR h.1 a 1 0 (fun x => z_T g d 18 49 ls (.ref x :: st) h P) := zt_getR zi_18_46 ((congrArg (fun o => z_fl o 15) zo_18).trans zf_LatinRectangles_Cycles_15)
theorem zi_18_49 : z_ins 18 49 = some (.getfield 25, 3) := by decide +kernel
theorem ze_18_49 : z_T g d 18 49 ls (.ref a :: st) h P = z_gR h.1 a 3 0 (fun x => z_T g d 18 52 ls (.ref x :: st) h P) := zt_getR zi_18_49 ((congrArg (fun o => z_fl o 25) zo_18).trans zf_LatinRectangles_Cycles_25)
theorem zi_18_52 : z_ins 18 52 = some (.iload_n 2, 1) := by decide +kernel
theorem ze_18_52 : z_T g d 18 52 (v0 :: v1 :: .int x :: ls) st h P = z_T g d 18 53 (v0 :: v1 :: .int x :: ls) (.int x :: st) h P := zt_iloadn zi_18_52 rfl rfl
theorem zi_18_53 : z_ins 18 53 = some (.iconst 5, 1) := by decide +kernel
theorem ze_18_53 : z_T g d 18 53 ls st h P = z_T g d 18 54 ls (.int (nI 5) :: st) h P := zt_iconst zi_18_53 rfl
theorem zi_18_54 : z_ins 18 54 = some (.imul, 1) := by decide +kernel
theorem ze_18_54 : z_T g d 18 54 ls (.int y :: .int x :: st) h P = z_T g d 18 55 ls (.int (x * y) :: st) h P := zt_bin (f := fun x y => x * y) zi_18_54 rfl (fun _ _ _ => rfl)
theorem zi_18_55 : z_ins 18 55 = some (.iload 4, 2) := by decide +kernel
theorem ze_18_55 : z_T g d 18 55 (v0 :: v1 :: v2 :: v3 :: .int x :: ls) st h P = z_T g d 18 57 (v0 :: v1 :: v2 :: v3 :: .int x :: ls) (.int x :: st) h P := zt_iload zi_18_55 rfl
theorem zi_18_57 : z_ins 18 57 = some (.iadd, 1) := by decide +kernel
theorem ze_18_57 : z_T g d 18 57 ls (.int y :: .int x :: st) h P = z_T g d 18 58 ls (.int (x + y) :: st) h P := zt_bin (f := fun x y => x + y) zi_18_57 rfl (fun _ _ _ => rfl)
theorem zi_18_58 : z_ins 18 58 = some (.iaload, 1) := by decide +kernel
theorem ze_18_58 : z_T g d 18 58 ls (.int x :: .ref a :: st) h P = z_aL h.1 a z_tI x (fun v => z_T g d 18 59 ls (.int v :: st) h P) := zt_iaload zi_18_58
theorem zi_18_59 : z_ins 18 59 = some (.if_icmp .ne 25, 3) := by decide +kernel
theorem ze_18_59 : z_T g d 18 59 ls (.int y :: .int x :: st) h P = (if x = y then z_T g d 18 62 ls st h P else z_T g d 18 84 ls st h P) := zt_icmpne zi_18_59 (by decide)
theorem zi_18_62 : z_ins 18 62 = some (.iload 6, 2) := by decide +kernel
theorem ze_18_62 : z_T g d 18 62 (v0 :: v1 :: v2 :: v3 :: v4 :: v5 :: .int x :: ls) st h P = z_T g d 18 64 (v0 :: v1 :: v2 :: v3 :: v4 :: v5 :: .int x :: ls) (.int x :: st) h P := zt_iload zi_18_62 rfl
theorem zi_18_64 : z_ins 18 64 = some (.aload_n 0, 1) := by decide +kernel
theorem ze_18_64 : z_T g d 18 64 (.ref a :: ls) st h P = z_T g d 18 65 (.ref a :: ls) (.ref a :: st) h P := zt_aloadn zi_18_64 rfl rfl
theorem zi_18_65 : z_ins 18 65 = some (.getfield 15, 3) := by decide +kernel
theorem ze_18_65 : z_T g d 18 65 ls (.ref a :: st) h P = z_gR h.1 a 1 0 (fun x => z_T g d 18 68 ls (.ref x :: st) h P) := zt_getR zi_18_65 ((congrArg (fun o => z_fl o 15) zo_18).trans zf_LatinRectangles_Cycles_15)
theorem zi_18_68 : z_ins 18 68 = some (.getfield 25, 3) := by decide +kernel
theorem ze_18_68 : z_T g d 18 68 ls (.ref a :: st) h P = z_gR h.1 a 3 0 (fun x => z_T g d 18 71 ls (.ref x :: st) h P) := zt_getR zi_18_68 ((congrArg (fun o => z_fl o 25) zo_18).trans zf_LatinRectangles_Cycles_25)
theorem zi_18_71 : z_ins 18 71 = some (.iload_n 2, 1) := by decide +kernel
theorem ze_18_71 : z_T g d 18 71 (v0 :: v1 :: .int x :: ls) st h P = z_T g d 18 72 (v0 :: v1 :: .int x :: ls) (.int x :: st) h P := zt_iloadn zi_18_71 rfl rfl
theorem zi_18_72 : z_ins 18 72 = some (.iconst 5, 1) := by decide +kernel
theorem ze_18_72 : z_T g d 18 72 ls st h P = z_T g d 18 73 ls (.int (nI 5) :: st) h P := zt_iconst zi_18_72 rfl
theorem zi_18_73 : z_ins 18 73 = some (.imul, 1) := by decide +kernel
theorem ze_18_73 : z_T g d 18 73 ls (.int y :: .int x :: st) h P = z_T g d 18 74 ls (.int (x * y) :: st) h P := zt_bin (f := fun x y => x * y) zi_18_73 rfl (fun _ _ _ => rfl)
theorem zi_18_74 : z_ins 18 74 = some (.iload_n 3, 1) := by decide +kernel
theorem ze_18_74 : z_T g d 18 74 (v0 :: v1 :: v2 :: .int x :: ls) st h P = z_T g d 18 75 (v0 :: v1 :: v2 :: .int x :: ls) (.int x :: st) h P := zt_iloadn zi_18_74 rfl rfl
theorem zi_18_75 : z_ins 18 75 = some (.iadd, 1) := by decide +kernel
theorem ze_18_75 : z_T g d 18 75 ls (.int y :: .int x :: st) h P = z_T g d 18 76 ls (.int (x + y) :: st) h P := zt_bin (f := fun x y => x + y) zi_18_75 rfl (fun _ _ _ => rfl)
theorem zi_18_76 : z_ins 18 76 = some (.iaload, 1) := by decide +kernel
theorem ze_18_76 : z_T g d 18 76 ls (.int x :: .ref a :: st) h P = z_aL h.1 a z_tI x (fun v => z_T g d 18 77 ls (.int v :: st) h P) := zt_iaload zi_18_76
theorem zi_18_77 : z_ins 18 77 = some (.if_icmp .ne 7, 3) := by decide +kernel
theorem ze_18_77 : z_T g d 18 77 ls (.int y :: .int x :: st) h P = (if x = y then z_T g d 18 80 ls st h P else z_T g d 18 84 ls st h P) := zt_icmpne zi_18_77 (by decide)
theorem zi_18_80 : z_ins 18 80 = some (.iconst 1, 1) := by decide +kernel
theorem ze_18_80 : z_T g d 18 80 ls st h P = z_T g d 18 81 ls (.int (nI 1) :: st) h P := zt_iconst zi_18_80 rfl
theorem zi_18_81 : z_ins 18 81 = some (.goto 4, 3) := by decide +kernel
theorem ze_18_81 : z_T g d 18 81 ls st h P = z_T g d 18 85 ls st h P := zt_goto zi_18_81 (by decide)
theorem zi_18_84 : z_ins 18 84 = some (.iconst 0, 1) := by decide +kernel
theorem ze_18_84 : z_T g d 18 84 ls st h P = z_T g d 18 85 ls (.int (nI 0) :: st) h P := zt_iconst zi_18_84 rfl
theorem zi_18_85 : z_ins 18 85 = some (.ireturn, 1) := by decide +kernel
theorem ze_18_85 : z_T g d 18 85 ls [.int x] h P = ((x = nI 0 ∨ x = nI 1) ∧ P (.inr (some (.int x)), h)) := zt_zreturn zi_18_85 zr_18
-- LatinRectangles$Transversals.<init>(LLatinRectangles$Grid;)V
theorem zo_70 : z_own 70 = "LatinRectangles$Transversals" := by decide +kernel
theorem zm_70 : z_maxL 70 = 2 := by decide +kernel
theorem zh_70 : z_hds 70 = [] := by decide +kernel
theorem zr_70 : z_rt 70 = none := by decide +kernel
theorem zn_70 : z_Ca g d 70 [.ref a0, .ref a1] h P = z_T g d 70 0 [.ref a0, .ref a1] [] h P := z_Ca_ent zm_70 rfl rfl
theorem zi_70_0 : z_ins 70 0 = some (.aload_n 0, 1) := by decide +kernel
theorem ze_70_0 : z_T g d 70 0 (.ref a :: ls) st h P = z_T g d 70 1 (.ref a :: ls) (.ref a :: st) h P := zt_aloadn zi_70_0 rfl rfl
theorem zi_70_1 : z_ins 70 1 = some (.invokespecial 3, 3) := by decide +kernel
theorem ze_70_1 : z_T g d 70 1 ls (.ref a :: st) h P = (z_okS 8 st = true ∧ z_T g d 70 4 ls st h P) := zt_objInit zi_70_1 ((congrArg (fun o => z_lookup z_ois (o, 3)) zo_70).trans zq_LatinRectangles_Transversals_3)
theorem zi_70_4 : z_ins 70 4 = some (.aload_n 0, 1) := by decide +kernel
theorem ze_70_4 : z_T g d 70 4 (.ref a :: ls) st h P = z_T g d 70 5 (.ref a :: ls) (.ref a :: st) h P := zt_aloadn zi_70_4 rfl rfl
theorem zi_70_5 : z_ins 70 5 = some (.iconst 5, 1) := by decide +kernel
theorem ze_70_5 : z_T g d 70 5 ls st h P = z_T g d 70 6 ls (.int (nI 5) :: st) h P := zt_iconst zi_70_5 rfl
theorem zi_70_6 : z_ins 70 6 = some (.newarray .int, 2) := by decide +kernel
theorem ze_70_6 : z_T g d 70 6 ls (.int x :: st) h P = z_nA h .int x (fun q h' => z_T g d 70 8 ls (.ref q :: st) h' P) := zt_newarray zi_70_6
theorem zi_70_8 : z_ins 70 8 = some (.putfield 9, 3) := by decide +kernel
theorem ze_70_8 : z_T g d 70 8 ls (.ref b :: .ref a :: st) h P = z_pF h.1 a 8 1 (.ref b) (fun f => z_T g d 70 11 ls st (f, h.2) P) := zt_putR zi_70_8 ((congrArg (fun o => z_fl o 9) zo_70).trans zf_LatinRectangles_Transversals_9) (by decide +kernel)
theorem zi_70_11 : z_ins 70 11 = some (.aload_n 0, 1) := by decide +kernel
theorem ze_70_11 : z_T g d 70 11 (.ref a :: ls) st h P = z_T g d 70 12 (.ref a :: ls) (.ref a :: st) h P := zt_aloadn zi_70_11 rfl rfl
theorem zi_70_12 : z_ins 70 12 = some (.aload_n 1, 1) := by decide +kernel
theorem ze_70_12 : z_T g d 70 12 (v0 :: .ref a :: ls) st h P = z_T g d 70 13 (v0 :: .ref a :: ls) (.ref a :: st) h P := zt_aloadn zi_70_12 rfl rfl
theorem zi_70_13 : z_ins 70 13 = some (.putfield 15, 3) := by decide +kernel
theorem ze_70_13 : z_T g d 70 13 ls (.ref b :: .ref a :: st) h P = z_pF h.1 a 8 0 (.ref b) (fun f => z_T g d 70 16 ls st (f, h.2) P) := zt_putR zi_70_13 ((congrArg (fun o => z_fl o 15) zo_70).trans zf_LatinRectangles_Transversals_15) (by decide +kernel)
theorem zi_70_16 : z_ins 70 16 = some (.return_, 1) := by decide +kernel
theorem ze_70_16 : z_T g d 70 16 ls [] h P = P (.inr none, h) := zt_return zi_70_16 zr_70
-- LatinRectangles$Transversals.count(II)I
theorem zo_71 : z_own 71 = "LatinRectangles$Transversals" := by decide +kernel
theorem zm_71 : z_maxL 71 = 3 := by decide +kernel
theorem zh_71 : z_hds 71 = [] := by decide +kernel
theorem zr_71 : z_rt 71 = (some .int) := by decide +kernel
theorem zn_71 : z_Ca g d 71 [.ref a0, .int x1, .int x2] h P = z_T g d 71 0 [.ref a0, .int x1, .int x2] [] h P := z_Ca_ent zm_71 rfl rfl
theorem zi_71_0 : z_ins 71 0 = some (.aload_n 0, 1) := by decide +kernel
theorem ze_71_0 : z_T g d 71 0 (.ref a :: ls) st h P = z_T g d 71 1 (.ref a :: ls) (.ref a :: st) h P := zt_aloadn zi_71_0 rfl rfl
theorem zi_71_1 : z_ins 71 1 = some (.iload_n 1, 1) := by decide +kernel
theorem ze_71_1 : z_T g d 71 1 (v0 :: .int x :: ls) st h P = z_T g d 71 2 (v0 :: .int x :: ls) (.int x :: st) h P := zt_iloadn zi_71_1 rfl rfl
theorem zi_71_2 : z_ins 71 2 = some (.putfield 19, 3) := by decide +kernel
theorem ze_71_2 : z_T g d 71 2 ls (.int x :: .ref a :: st) h P = z_pF h.1 a 8 2 (.int x) (fun f => z_T g d 71 5 ls st (f, h.2) P) := zt_putI zi_71_2 ((congrArg (fun o => z_fl o 19) zo_71).trans zf_LatinRectangles_Transversals_19)
theorem zi_71_5 : z_ins 71 5 = some (.aload_n 0, 1) := by decide +kernel
theorem ze_71_5 : z_T g d 71 5 (.ref a :: ls) st h P = z_T g d 71 6 (.ref a :: ls) (.ref a :: st) h P := zt_aloadn zi_71_5 rfl rfl
theorem zi_71_6 : z_ins 71 6 = some (.iload_n 2, 1) := by decide +kernel
theorem ze_71_6 : z_T g d 71 6 (v0 :: v1 :: .int x :: ls) st h P = z_T g d 71 7 (v0 :: v1 :: .int x :: ls) (.int x :: st) h P := zt_iloadn zi_71_6 rfl rfl
theorem zi_71_7 : z_ins 71 7 = some (.putfield 23, 3) := by decide +kernel
theorem ze_71_7 : z_T g d 71 7 ls (.int x :: .ref a :: st) h P = z_pF h.1 a 8 3 (.int x) (fun f => z_T g d 71 10 ls st (f, h.2) P) := zt_putI zi_71_7 ((congrArg (fun o => z_fl o 23) zo_71).trans zf_LatinRectangles_Transversals_23)
theorem zi_71_10 : z_ins 71 10 = some (.aload_n 0, 1) := by decide +kernel
theorem ze_71_10 : z_T g d 71 10 (.ref a :: ls) st h P = z_T g d 71 11 (.ref a :: ls) (.ref a :: st) h P := zt_aloadn zi_71_10 rfl rfl
theorem zi_71_11 : z_ins 71 11 = some (.iconst 0, 1) := by decide +kernel
theorem ze_71_11 : z_T g d 71 11 ls st h P = z_T g d 71 12 ls (.int (nI 0) :: st) h P := zt_iconst zi_71_11 rfl
theorem zi_71_12 : z_ins 71 12 = some (.iconst 0, 1) := by decide +kernel
theorem ze_71_12 : z_T g d 71 12 ls st h P = z_T g d 71 13 ls (.int (nI 0) :: st) h P := zt_iconst zi_71_12 rfl
theorem zi_71_13 : z_ins 71 13 = some (.iconst 0, 1) := by decide +kernel
theorem ze_71_13 : z_T g d 71 13 ls st h P = z_T g d 71 14 ls (.int (nI 0) :: st) h P := zt_iconst zi_71_13 rfl
theorem zi_71_14 : z_ins 71 14 = some (.invokestatic 26, 3) := by decide +kernel
theorem ze_71_14 : z_T g d 71 14 ls (.int x3 :: .int x2 :: .int x1 :: .ref a0 :: st) h P = ((z_okS 8 st = true ∧ 0 < d) ∧ z_Ca g (d - 1) 74 [.ref a0, .int x1, .int x2, .int x3] h (fun r => z_k r (fun v h' => z_T g d 71 17 ls (z_push v st) h' P) P)) := zt_callS0 (as := [.ref a0, .int x1, .int x2, .int x3]) zi_71_14 ((congrArg (fun o => z_lookup z_prs (o, 26)) zo_71).trans zp_LatinRectangles_Transversals_26) ((congrArg (fun o => z_clk o 26) zo_71).trans zk_LatinRectangles_Transversals_26) zh_71 rfl rfl rfl
theorem zi_71_17 : z_ins 71 17 = some (.ireturn, 1) := by decide +kernel
theorem ze_71_17 : z_T g d 71 17 ls [.int x] h P = P (.inr (some (.int x)), h) := zt_ireturn zi_71_17 zr_71
-- LatinRectangles$Transversals.firstColumn(I)I
theorem zo_72 : z_own 72 = "LatinRectangles$Transversals" := by decide +kernel
theorem zm_72 : z_maxL 72 = 2 := by decide +kernel
theorem zh_72 : z_hds 72 = [] := by decide +kernel
theorem zr_72 : z_rt 72 = (some .int) := by decide +kernel
theorem zn_72 : z_Ca g d 72 [.ref a0, .int x1] h P = z_T g d 72 0 [.ref a0, .int x1] [] h P := z_Ca_ent zm_72 rfl rfl
theorem zi_72_0 : z_ins 72 0 = some (.aload_n 0, 1) := by decide +kernel
theorem ze_72_0 : z_T g d 72 0 (.ref a :: ls) st h P = z_T g d 72 1 (.ref a :: ls) (.ref a :: st) h P := zt_aloadn zi_72_0 rfl rfl
theorem zi_72_1 : z_ins 72 1 = some (.iconst 0, 1) := by decide +kernel
theorem ze_72_1 : z_T g d 72 1 ls st h P = z_T g d 72 2 ls (.int (nI 0) :: st) h P := zt_iconst zi_72_1 rfl
theorem zi_72_2 : z_ins 72 2 = some (.iconst 0, 1) := by decide +kernel
theorem ze_72_2 : z_T g d 72 2 ls st h P = z_T g d 72 3 ls (.int (nI 0) :: st) h P := zt_iconst zi_72_2 rfl
theorem zi_72_3 : z_ins 72 3 = some (.iconst 0, 1) := by decide +kernel
theorem ze_72_3 : z_T g d 72 3 ls st h P = z_T g d 72 4 ls (.int (nI 0) :: st) h P := zt_iconst zi_72_3 rfl
theorem zi_72_4 : z_ins 72 4 = some (.invokestatic 30, 3) := by decide +kernel
theorem ze_72_4 : z_T g d 72 4 ls (.int x3 :: .int x2 :: .int x1 :: .ref a0 :: st) h P = ((z_okS 8 st = true ∧ 0 < d) ∧ z_Ca g (d - 1) 75 [.ref a0, .int x1, .int x2, .int x3] h (fun r => z_k r (fun v h' => z_T g d 72 7 ls (z_push v st) h' P) P)) := zt_callS0 (as := [.ref a0, .int x1, .int x2, .int x3]) zi_72_4 ((congrArg (fun o => z_lookup z_prs (o, 30)) zo_72).trans zp_LatinRectangles_Transversals_30) ((congrArg (fun o => z_clk o 30) zo_72).trans zk_LatinRectangles_Transversals_30) zh_72 rfl rfl rfl
theorem zi_72_7 : z_ins 72 7 = some (.ifCond .eq 12, 3) := by decide +kernel
theorem ze_72_7 : z_T g d 72 7 ls (.int x :: st) h P = (if x = nI 0 then z_T g d 72 19 ls st h P else z_T g d 72 10 ls st h P) := zt_ifeq zi_72_7 (by decide)
theorem zi_72_10 : z_ins 72 10 = some (.aload_n 0, 1) := by decide +kernel
theorem ze_72_10 : z_T g d 72 10 (.ref a :: ls) st h P = z_T g d 72 11 (.ref a :: ls) (.ref a :: st) h P := zt_aloadn zi_72_10 rfl rfl
theorem zi_72_11 : z_ins 72 11 = some (.getfield 9, 3) := by decide +kernel
theorem ze_72_11 : z_T g d 72 11 ls (.ref a :: st) h P = z_gR h.1 a 8 1 (fun x => z_T g d 72 14 ls (.ref x :: st) h P) := zt_getR zi_72_11 ((congrArg (fun o => z_fl o 9) zo_72).trans zf_LatinRectangles_Transversals_9)
theorem zi_72_14 : z_ins 72 14 = some (.iload_n 1, 1) := by decide +kernel
theorem ze_72_14 : z_T g d 72 14 (v0 :: .int x :: ls) st h P = z_T g d 72 15 (v0 :: .int x :: ls) (.int x :: st) h P := zt_iloadn zi_72_14 rfl rfl
theorem zi_72_15 : z_ins 72 15 = some (.iaload, 1) := by decide +kernel
theorem ze_72_15 : z_T g d 72 15 ls (.int x :: .ref a :: st) h P = z_aL h.1 a z_tI x (fun v => z_T g d 72 16 ls (.int v :: st) h P) := zt_iaload zi_72_15
theorem zi_72_16 : z_ins 72 16 = some (.goto 4, 3) := by decide +kernel
theorem ze_72_16 : z_T g d 72 16 ls st h P = z_T g d 72 20 ls st h P := zt_goto zi_72_16 (by decide)
theorem zi_72_19 : z_ins 72 19 = some (.iconst (-1), 1) := by decide +kernel
theorem ze_72_19 : z_T g d 72 19 ls st h P = z_T g d 72 20 ls (.int (-1) :: st) h P := zt_iconst zi_72_19 rfl
theorem zi_72_20 : z_ins 72 20 = some (.ireturn, 1) := by decide +kernel
theorem ze_72_20 : z_T g d 72 20 ls [.int x] h P = P (.inr (some (.int x)), h) := zt_ireturn zi_72_20 zr_72
-- LatinRectangles$Transversals.longest()I
theorem zo_73 : z_own 73 = "LatinRectangles$Transversals" := by decide +kernel
theorem zm_73 : z_maxL 73 = 1 := by decide +kernel
theorem zh_73 : z_hds 73 = [] := by decide +kernel
theorem zr_73 : z_rt 73 = (some .int) := by decide +kernel
theorem zn_73 : z_Ca g d 73 [.ref a0] h P = z_T g d 73 0 [.ref a0] [] h P := z_Ca_ent zm_73 rfl rfl
theorem zi_73_0 : z_ins 73 0 = some (.aload_n 0, 1) := by decide +kernel
theorem ze_73_0 : z_T g d 73 0 (.ref a :: ls) st h P = z_T g d 73 1 (.ref a :: ls) (.ref a :: st) h P := zt_aloadn zi_73_0 rfl rfl
theorem zi_73_1 : z_ins 73 1 = some (.iconst 0, 1) := by decide +kernel
theorem ze_73_1 : z_T g d 73 1 ls st h P = z_T g d 73 2 ls (.int (nI 0) :: st) h P := zt_iconst zi_73_1 rfl
theorem zi_73_2 : z_ins 73 2 = some (.iconst 0, 1) := by decide +kernel
theorem ze_73_2 : z_T g d 73 2 ls st h P = z_T g d 73 3 ls (.int (nI 0) :: st) h P := zt_iconst zi_73_2 rfl
theorem zi_73_3 : z_ins 73 3 = some (.iconst 0, 1) := by decide +kernel
theorem ze_73_3 : z_T g d 73 3 ls st h P = z_T g d 73 4 ls (.int (nI 0) :: st) h P := zt_iconst zi_73_3 rfl
theorem zi_73_4 : z_ins 73 4 = some (.invokestatic 34, 3) := by decide +kernel
theorem ze_73_4 : z_T g d 73 4 ls (.int x3 :: .int x2 :: .int x1 :: .ref a0 :: st) h P = ((z_okS 8 st = true ∧ 0 < d) ∧ z_Ca g (d - 1) 76 [.ref a0, .int x1, .int x2, .int x3] h (fun r => z_k r (fun v h' => z_T g d 73 7 ls (z_push v st) h' P) P)) := zt_callS0 (as := [.ref a0, .int x1, .int x2, .int x3]) zi_73_4 ((congrArg (fun o => z_lookup z_prs (o, 34)) zo_73).trans zp_LatinRectangles_Transversals_34) ((congrArg (fun o => z_clk o 34) zo_73).trans zk_LatinRectangles_Transversals_34) zh_73 rfl rfl rfl
theorem zi_73_7 : z_ins 73 7 = some (.ireturn, 1) := by decide +kernel
theorem ze_73_7 : z_T g d 73 7 ls [.int x] h P = P (.inr (some (.int x)), h) := zt_ireturn zi_73_7 zr_73
-- LatinRectangles$Transversals.countFrom(LLatinRectangles$Transversals;III)I
theorem zo_74 : z_own 74 = "LatinRectangles$Transversals" := by decide +kernel
theorem zm_74 : z_maxL 74 = 7 := by decide +kernel
theorem zh_74 : z_hds 74 = [] := by decide +kernel
theorem zr_74 : z_rt 74 = (some .int) := by decide +kernel
theorem zn_74 : z_Ca g d 74 [.ref a0, .int x1, .int x2, .int x3] h P = z_T g d 74 0 [.ref a0, .int x1, .int x2, .int x3, z_un, z_un, z_un] [] h P := z_Ca_ent zm_74 rfl rfl
theorem zi_74_0 : z_ins 74 0 = some (.iload_n 1, 1) := by decide +kernel
theorem ze_74_0 : z_T g d 74 0 (v0 :: .int x :: ls) st h P = z_T g d 74 1 (v0 :: .int x :: ls) (.int x :: st) h P := zt_iloadn zi_74_0 rfl rfl
theorem zi_74_1 : z_ins 74 1 = some (.aload_n 0, 1) := by decide +kernel
theorem ze_74_1 : z_T g d 74 1 (.ref a :: ls) st h P = z_T g d 74 2 (.ref a :: ls) (.ref a :: st) h P := zt_aloadn zi_74_1 rfl rfl
theorem zi_74_2 : z_ins 74 2 = some (.getfield 15, 3) := by decide +kernel
theorem ze_74_2 : z_T g d 74 2 ls (.ref a :: st) h P = z_gR h.1 a 8 0 (fun x => z_T g d 74 5 ls (.ref x :: st) h P) := zt_getR zi_74_2 ((congrArg (fun o => z_fl o 15) zo_74).trans zf_LatinRectangles_Transversals_15)
theorem zi_74_5 : z_ins 74 5 = some (.getfield 37, 3) := by decide +kernel
theorem ze_74_5 : z_T g d 74 5 ls (.ref a :: st) h P = z_gI h.1 a 3 5 (fun x => z_T g d 74 8 ls (.int x :: st) h P) := zt_getI zi_74_5 ((congrArg (fun o => z_fl o 37) zo_74).trans zf_LatinRectangles_Transversals_37)
theorem zi_74_8 : z_ins 74 8 = some (.if_icmp .lt 5, 3) := by decide +kernel
theorem ze_74_8 : z_T g d 74 8 ls (.int y :: .int x :: st) h P = (if x < y then z_T g d 74 13 ls st h P else z_T g d 74 11 ls st h P) := zt_icmplt zi_74_8 (by decide)
theorem zi_74_11 : z_ins 74 11 = some (.iconst 1, 1) := by decide +kernel
theorem ze_74_11 : z_T g d 74 11 ls st h P = z_T g d 74 12 ls (.int (nI 1) :: st) h P := zt_iconst zi_74_11 rfl
theorem zi_74_12 : z_ins 74 12 = some (.ireturn, 1) := by decide +kernel
theorem ze_74_12 : z_T g d 74 12 ls [.int x] h P = P (.inr (some (.int x)), h) := zt_ireturn zi_74_12 zr_74
theorem zi_74_13 : z_ins 74 13 = some (.iconst 0, 1) := by decide +kernel
theorem ze_74_13 : z_T g d 74 13 ls st h P = z_T g d 74 14 ls (.int (nI 0) :: st) h P := zt_iconst zi_74_13 rfl
theorem zi_74_14 : z_ins 74 14 = some (.istore 4, 2) := by decide +kernel
theorem ze_74_14 : z_T g d 74 14 (v0 :: v1 :: v2 :: v3 :: v4 :: ls) (.int x :: st) h P = z_T g d 74 16 (v0 :: v1 :: v2 :: v3 :: .int x :: ls) st h P := zt_istore zi_74_14 (Nat.le_add_left 5 _)
theorem zi_74_16 : z_ins 74 16 = some (.iconst 0, 1) := by decide +kernel
theorem ze_74_16 : z_T g d 74 16 ls st h P = z_T g d 74 17 ls (.int (nI 0) :: st) h P := zt_iconst zi_74_16 rfl
theorem zi_74_17 : z_ins 74 17 = some (.istore 5, 2) := by decide +kernel
theorem ze_74_17 : z_T g d 74 17 (v0 :: v1 :: v2 :: v3 :: v4 :: v5 :: ls) (.int x :: st) h P = z_T g d 74 19 (v0 :: v1 :: v2 :: v3 :: v4 :: .int x :: ls) st h P := zt_istore zi_74_17 (Nat.le_add_left 6 _)
theorem zi_74_19 : z_ins 74 19 = some (.iload 5, 2) := by decide +kernel
theorem ze_74_19 : z_T g d 74 19 (v0 :: v1 :: v2 :: v3 :: v4 :: .int x :: ls) st h P = z_T g d 74 21 (v0 :: v1 :: v2 :: v3 :: v4 :: .int x :: ls) (.int x :: st) h P := zt_iload zi_74_19 rfl
theorem zi_74_21 : z_ins 74 21 = some (.aload_n 0, 1) := by decide +kernel
theorem ze_74_21 : z_T g d 74 21 (.ref a :: ls) st h P = z_T g d 74 22 (.ref a :: ls) (.ref a :: st) h P := zt_aloadn zi_74_21 rfl rfl
theorem zi_74_22 : z_ins 74 22 = some (.getfield 15, 3) := by decide +kernel
theorem ze_74_22 : z_T g d 74 22 ls (.ref a :: st) h P = z_gR h.1 a 8 0 (fun x => z_T g d 74 25 ls (.ref x :: st) h P) := zt_getR zi_74_22 ((congrArg (fun o => z_fl o 15) zo_74).trans zf_LatinRectangles_Transversals_15)
theorem zi_74_25 : z_ins 74 25 = some (.getfield 42, 3) := by decide +kernel
theorem ze_74_25 : z_T g d 74 25 ls (.ref a :: st) h P = z_gI h.1 a 3 6 (fun x => z_T g d 74 28 ls (.int x :: st) h P) := zt_getI zi_74_25 ((congrArg (fun o => z_fl o 42) zo_74).trans zf_LatinRectangles_Transversals_42)
theorem zi_74_28 : z_ins 74 28 = some (.if_icmp .ge 77, 3) := by decide +kernel
theorem ze_74_28 : z_T g d 74 28 ls (.int y :: .int x :: st) h P = (if x < y then z_T g d 74 31 ls st h P else z_T g d 74 105 ls st h P) := zt_icmpge zi_74_28 (by decide)
theorem zi_74_31 : z_ins 74 31 = some (.iload_n 1, 1) := by decide +kernel
theorem ze_74_31 : z_T g d 74 31 (v0 :: .int x :: ls) st h P = z_T g d 74 32 (v0 :: .int x :: ls) (.int x :: st) h P := zt_iloadn zi_74_31 rfl rfl
theorem zi_74_32 : z_ins 74 32 = some (.aload_n 0, 1) := by decide +kernel
theorem ze_74_32 : z_T g d 74 32 (.ref a :: ls) st h P = z_T g d 74 33 (.ref a :: ls) (.ref a :: st) h P := zt_aloadn zi_74_32 rfl rfl
theorem zi_74_33 : z_ins 74 33 = some (.getfield 19, 3) := by decide +kernel
theorem ze_74_33 : z_T g d 74 33 ls (.ref a :: st) h P = z_gI h.1 a 8 2 (fun x => z_T g d 74 36 ls (.int x :: st) h P) := zt_getI zi_74_33 ((congrArg (fun o => z_fl o 19) zo_74).trans zf_LatinRectangles_Transversals_19)
theorem zi_74_36 : z_ins 74 36 = some (.if_icmp .ne 12, 3) := by decide +kernel
theorem ze_74_36 : z_T g d 74 36 ls (.int y :: .int x :: st) h P = (if x = y then z_T g d 74 39 ls st h P else z_T g d 74 48 ls st h P) := zt_icmpne zi_74_36 (by decide)
theorem zi_74_39 : z_ins 74 39 = some (.iload 5, 2) := by decide +kernel
theorem ze_74_39 : z_T g d 74 39 (v0 :: v1 :: v2 :: v3 :: v4 :: .int x :: ls) st h P = z_T g d 74 41 (v0 :: v1 :: v2 :: v3 :: v4 :: .int x :: ls) (.int x :: st) h P := zt_iload zi_74_39 rfl
theorem zi_74_41 : z_ins 74 41 = some (.aload_n 0, 1) := by decide +kernel
theorem ze_74_41 : z_T g d 74 41 (.ref a :: ls) st h P = z_T g d 74 42 (.ref a :: ls) (.ref a :: st) h P := zt_aloadn zi_74_41 rfl rfl
theorem zi_74_42 : z_ins 74 42 = some (.getfield 23, 3) := by decide +kernel
theorem ze_74_42 : z_T g d 74 42 ls (.ref a :: st) h P = z_gI h.1 a 8 3 (fun x => z_T g d 74 45 ls (.int x :: st) h P) := zt_getI zi_74_42 ((congrArg (fun o => z_fl o 23) zo_74).trans zf_LatinRectangles_Transversals_23)
theorem zi_74_45 : z_ins 74 45 = some (.if_icmp .ne 7, 3) := by decide +kernel
theorem ze_74_45 : z_T g d 74 45 ls (.int y :: .int x :: st) h P = (if x = y then z_T g d 74 48 ls st h P else z_T g d 74 52 ls st h P) := zt_icmpne zi_74_45 (by decide)
theorem zi_74_48 : z_ins 74 48 = some (.iconst 1, 1) := by decide +kernel
theorem ze_74_48 : z_T g d 74 48 ls st h P = z_T g d 74 49 ls (.int (nI 1) :: st) h P := zt_iconst zi_74_48 rfl
theorem zi_74_49 : z_ins 74 49 = some (.goto 4, 3) := by decide +kernel
theorem ze_74_49 : z_T g d 74 49 ls st h P = z_T g d 74 53 ls st h P := zt_goto zi_74_49 (by decide)
theorem zi_74_52 : z_ins 74 52 = some (.iconst 0, 1) := by decide +kernel
theorem ze_74_52 : z_T g d 74 52 ls st h P = z_T g d 74 53 ls (.int (nI 0) :: st) h P := zt_iconst zi_74_52 rfl
theorem zi_74_53 : z_ins 74 53 = some (.istore 6, 2) := by decide +kernel
theorem ze_74_53 : z_T g d 74 53 (v0 :: v1 :: v2 :: v3 :: v4 :: v5 :: v6 :: ls) (.int x :: st) h P = z_T g d 74 55 (v0 :: v1 :: v2 :: v3 :: v4 :: v5 :: .int x :: ls) st h P := zt_istore zi_74_53 (Nat.le_add_left 7 _)
theorem zi_74_55 : z_ins 74 55 = some (.iload 6, 2) := by decide +kernel
theorem ze_74_55 : z_T g d 74 55 (v0 :: v1 :: v2 :: v3 :: v4 :: v5 :: .int x :: ls) st h P = z_T g d 74 57 (v0 :: v1 :: v2 :: v3 :: v4 :: v5 :: .int x :: ls) (.int x :: st) h P := zt_iload zi_74_55 rfl
theorem zi_74_57 : z_ins 74 57 = some (.ifCond .eq 42, 3) := by decide +kernel
theorem ze_74_57 : z_T g d 74 57 ls (.int x :: st) h P = (if x = nI 0 then z_T g d 74 99 ls st h P else z_T g d 74 60 ls st h P) := zt_ifeq zi_74_57 (by decide)
theorem zi_74_60 : z_ins 74 60 = some (.aload_n 0, 1) := by decide +kernel
theorem ze_74_60 : z_T g d 74 60 (.ref a :: ls) st h P = z_T g d 74 61 (.ref a :: ls) (.ref a :: st) h P := zt_aloadn zi_74_60 rfl rfl
theorem zi_74_61 : z_ins 74 61 = some (.iload_n 1, 1) := by decide +kernel
theorem ze_74_61 : z_T g d 74 61 (v0 :: .int x :: ls) st h P = z_T g d 74 62 (v0 :: .int x :: ls) (.int x :: st) h P := zt_iloadn zi_74_61 rfl rfl
theorem zi_74_62 : z_ins 74 62 = some (.iload 5, 2) := by decide +kernel
theorem ze_74_62 : z_T g d 74 62 (v0 :: v1 :: v2 :: v3 :: v4 :: .int x :: ls) st h P = z_T g d 74 64 (v0 :: v1 :: v2 :: v3 :: v4 :: .int x :: ls) (.int x :: st) h P := zt_iload zi_74_62 rfl
theorem zi_74_64 : z_ins 74 64 = some (.iload_n 2, 1) := by decide +kernel
theorem ze_74_64 : z_T g d 74 64 (v0 :: v1 :: .int x :: ls) st h P = z_T g d 74 65 (v0 :: v1 :: .int x :: ls) (.int x :: st) h P := zt_iloadn zi_74_64 rfl rfl
theorem zi_74_65 : z_ins 74 65 = some (.iload_n 3, 1) := by decide +kernel
theorem ze_74_65 : z_T g d 74 65 (v0 :: v1 :: v2 :: .int x :: ls) st h P = z_T g d 74 66 (v0 :: v1 :: v2 :: .int x :: ls) (.int x :: st) h P := zt_iloadn zi_74_65 rfl rfl
theorem zi_74_66 : z_ins 74 66 = some (.invokevirtual 45, 3) := by decide +kernel
theorem ze_74_66 : z_T g d 74 66 ls (.int x3 :: .int x2 :: .int x1 :: .int x0 :: .ref a :: st) h P = ((z_okS 8 st = true ∧ z_gO h.1 a 8 ∧ 0 < d) ∧ z_Ca g (d - 1) 77 [.ref a, .int x0, .int x1, .int x2, .int x3] h (fun r => z_k r (fun v h' => z_T g d 74 69 ls (z_push v st) h' P) P)) := zt_callV (as := [.int x0, .int x1, .int x2, .int x3]) zi_74_66 ((congrArg (fun o => z_lookup z_prs (o, 45)) zo_74).trans zp_LatinRectangles_Transversals_45) ((congrArg (fun o => z_clk o 45) zo_74).trans zk_LatinRectangles_Transversals_45) zh_74 zc_77 rfl rfl rfl
theorem zi_74_69 : z_ins 74 69 = some (.ifCond .eq 30, 3) := by decide +kernel
theorem ze_74_69 : z_T g d 74 69 ls (.int x :: st) h P = (if x = nI 0 then z_T g d 74 99 ls st h P else z_T g d 74 72 ls st h P) := zt_ifeq zi_74_69 (by decide)
theorem zi_74_72 : z_ins 74 72 = some (.iload 4, 2) := by decide +kernel
theorem ze_74_72 : z_T g d 74 72 (v0 :: v1 :: v2 :: v3 :: .int x :: ls) st h P = z_T g d 74 74 (v0 :: v1 :: v2 :: v3 :: .int x :: ls) (.int x :: st) h P := zt_iload zi_74_72 rfl
theorem zi_74_74 : z_ins 74 74 = some (.aload_n 0, 1) := by decide +kernel
theorem ze_74_74 : z_T g d 74 74 (.ref a :: ls) st h P = z_T g d 74 75 (.ref a :: ls) (.ref a :: st) h P := zt_aloadn zi_74_74 rfl rfl
theorem zi_74_75 : z_ins 74 75 = some (.iload_n 1, 1) := by decide +kernel
theorem ze_74_75 : z_T g d 74 75 (v0 :: .int x :: ls) st h P = z_T g d 74 76 (v0 :: .int x :: ls) (.int x :: st) h P := zt_iloadn zi_74_75 rfl rfl
theorem zi_74_76 : z_ins 74 76 = some (.iconst 1, 1) := by decide +kernel
theorem ze_74_76 : z_T g d 74 76 ls st h P = z_T g d 74 77 ls (.int (nI 1) :: st) h P := zt_iconst zi_74_76 rfl
theorem zi_74_77 : z_ins 74 77 = some (.iadd, 1) := by decide +kernel
theorem ze_74_77 : z_T g d 74 77 ls (.int y :: .int x :: st) h P = z_T g d 74 78 ls (.int (x + y) :: st) h P := zt_bin (f := fun x y => x + y) zi_74_77 rfl (fun _ _ _ => rfl)
theorem zi_74_78 : z_ins 74 78 = some (.iload_n 2, 1) := by decide +kernel
theorem ze_74_78 : z_T g d 74 78 (v0 :: v1 :: .int x :: ls) st h P = z_T g d 74 79 (v0 :: v1 :: .int x :: ls) (.int x :: st) h P := zt_iloadn zi_74_78 rfl rfl
theorem zi_74_79 : z_ins 74 79 = some (.iconst 1, 1) := by decide +kernel
theorem ze_74_79 : z_T g d 74 79 ls st h P = z_T g d 74 80 ls (.int (nI 1) :: st) h P := zt_iconst zi_74_79 rfl
theorem zi_74_80 : z_ins 74 80 = some (.iload 5, 2) := by decide +kernel
theorem ze_74_80 : z_T g d 74 80 (v0 :: v1 :: v2 :: v3 :: v4 :: .int x :: ls) st h P = z_T g d 74 82 (v0 :: v1 :: v2 :: v3 :: v4 :: .int x :: ls) (.int x :: st) h P := zt_iload zi_74_80 rfl
theorem zi_74_82 : z_ins 74 82 = some (.ishl, 1) := by decide +kernel
theorem ze_74_82 : z_T g d 74 82 ls (.int y :: .int x :: st) h P = z_T g d 74 83 ls (.int (x <<< (y &&& 31)) :: st) h P := zt_bin (f := fun x y => x <<< (y &&& 31)) zi_74_82 rfl (fun _ _ _ => rfl)
theorem zi_74_83 : z_ins 74 83 = some (.ior, 1) := by decide +kernel
theorem ze_74_83 : z_T g d 74 83 ls (.int y :: .int x :: st) h P = z_T g d 74 84 ls (.int (x ||| y) :: st) h P := zt_bin (f := fun x y => x ||| y) zi_74_83 rfl (fun _ _ _ => rfl)
theorem zi_74_84 : z_ins 74 84 = some (.iload_n 3, 1) := by decide +kernel
theorem ze_74_84 : z_T g d 74 84 (v0 :: v1 :: v2 :: .int x :: ls) st h P = z_T g d 74 85 (v0 :: v1 :: v2 :: .int x :: ls) (.int x :: st) h P := zt_iloadn zi_74_84 rfl rfl
theorem zi_74_85 : z_ins 74 85 = some (.aload_n 0, 1) := by decide +kernel
theorem ze_74_85 : z_T g d 74 85 (.ref a :: ls) st h P = z_T g d 74 86 (.ref a :: ls) (.ref a :: st) h P := zt_aloadn zi_74_85 rfl rfl
theorem zi_74_86 : z_ins 74 86 = some (.iload_n 1, 1) := by decide +kernel
theorem ze_74_86 : z_T g d 74 86 (v0 :: .int x :: ls) st h P = z_T g d 74 87 (v0 :: .int x :: ls) (.int x :: st) h P := zt_iloadn zi_74_86 rfl rfl
theorem zi_74_87 : z_ins 74 87 = some (.iload 5, 2) := by decide +kernel
theorem ze_74_87 : z_T g d 74 87 (v0 :: v1 :: v2 :: v3 :: v4 :: .int x :: ls) st h P = z_T g d 74 89 (v0 :: v1 :: v2 :: v3 :: v4 :: .int x :: ls) (.int x :: st) h P := zt_iload zi_74_87 rfl
theorem zi_74_89 : z_ins 74 89 = some (.invokevirtual 49, 3) := by decide +kernel
theorem ze_74_89 : z_T g d 74 89 ls (.int x1 :: .int x0 :: .ref a :: st) h P = ((z_okS 8 st = true ∧ z_gO h.1 a 8 ∧ 0 < d) ∧ z_Ca g (d - 1) 78 [.ref a, .int x0, .int x1] h (fun r => z_k r (fun v h' => z_T g d 74 92 ls (z_push v st) h' P) P)) := zt_callV (as := [.int x0, .int x1]) zi_74_89 ((congrArg (fun o => z_lookup z_prs (o, 49)) zo_74).trans zp_LatinRectangles_Transversals_49) ((congrArg (fun o => z_clk o 49) zo_74).trans zk_LatinRectangles_Transversals_49) zh_74 zc_78 rfl rfl rfl
theorem zi_74_92 : z_ins 74 92 = some (.ior, 1) := by decide +kernel
theorem ze_74_92 : z_T g d 74 92 ls (.int y :: .int x :: st) h P = z_T g d 74 93 ls (.int (x ||| y) :: st) h P := zt_bin (f := fun x y => x ||| y) zi_74_92 rfl (fun _ _ _ => rfl)
theorem zi_74_93 : z_ins 74 93 = some (.invokestatic 26, 3) := by decide +kernel
theorem ze_74_93 : z_T g d 74 93 ls (.int x3 :: .int x2 :: .int x1 :: .ref a0 :: st) h P = ((z_okS 8 st = true ∧ 0 < d) ∧ z_Ca g (d - 1) 74 [.ref a0, .int x1, .int x2, .int x3] h (fun r => z_k r (fun v h' => z_T g d 74 96 ls (z_push v st) h' P) P)) := zt_callS0 (as := [.ref a0, .int x1, .int x2, .int x3]) zi_74_93 ((congrArg (fun o => z_lookup z_prs (o, 26)) zo_74).trans zp_LatinRectangles_Transversals_26) ((congrArg (fun o => z_clk o 26) zo_74).trans zk_LatinRectangles_Transversals_26) zh_74 rfl rfl rfl
theorem zi_74_96 : z_ins 74 96 = some (.iadd, 1) := by decide +kernel
theorem ze_74_96 : z_T g d 74 96 ls (.int y :: .int x :: st) h P = z_T g d 74 97 ls (.int (x + y) :: st) h P := zt_bin (f := fun x y => x + y) zi_74_96 rfl (fun _ _ _ => rfl)
theorem zi_74_97 : z_ins 74 97 = some (.istore 4, 2) := by decide +kernel
theorem ze_74_97 : z_T g d 74 97 (v0 :: v1 :: v2 :: v3 :: v4 :: ls) (.int x :: st) h P = z_T g d 74 99 (v0 :: v1 :: v2 :: v3 :: .int x :: ls) st h P := zt_istore zi_74_97 (Nat.le_add_left 5 _)
theorem zi_74_99 : z_ins 74 99 = some (.iinc 5 1, 3) := by decide +kernel
theorem ze_74_99 : z_T g d 74 99 (v0 :: v1 :: v2 :: v3 :: v4 :: .int x :: ls) st h P = z_T g d 74 102 (v0 :: v1 :: v2 :: v3 :: v4 :: .int (x + (nI 1)) :: ls) st h P := zt_iinc zi_74_99 rfl rfl
theorem zi_74_102 : z_ins 74 102 = some (.goto (-83), 3) := by decide +kernel
theorem ze_74_102 : z_T g d 74 102 ls st h P = z_T g d 74 19 ls st h P := zt_goto zi_74_102 (by decide)
theorem zi_74_105 : z_ins 74 105 = some (.iload 4, 2) := by decide +kernel
theorem ze_74_105 : z_T g d 74 105 (v0 :: v1 :: v2 :: v3 :: .int x :: ls) st h P = z_T g d 74 107 (v0 :: v1 :: v2 :: v3 :: .int x :: ls) (.int x :: st) h P := zt_iload zi_74_105 rfl
theorem zi_74_107 : z_ins 74 107 = some (.ireturn, 1) := by decide +kernel
theorem ze_74_107 : z_T g d 74 107 ls [.int x] h P = P (.inr (some (.int x)), h) := zt_ireturn zi_74_107 zr_74
-- LatinRectangles$Transversals.chooseFrom(LLatinRectangles$Transversals;III)Z
theorem zo_75 : z_own 75 = "LatinRectangles$Transversals" := by decide +kernel
theorem zm_75 : z_maxL 75 = 5 := by decide +kernel
theorem zh_75 : z_hds 75 = [] := by decide +kernel
theorem zr_75 : z_rt 75 = (some .boolean) := by decide +kernel
theorem zn_75 : z_Ca g d 75 [.ref a0, .int x1, .int x2, .int x3] h P = z_T g d 75 0 [.ref a0, .int x1, .int x2, .int x3, z_un] [] h P := z_Ca_ent zm_75 rfl rfl
theorem zi_75_0 : z_ins 75 0 = some (.iload_n 1, 1) := by decide +kernel
theorem ze_75_0 : z_T g d 75 0 (v0 :: .int x :: ls) st h P = z_T g d 75 1 (v0 :: .int x :: ls) (.int x :: st) h P := zt_iloadn zi_75_0 rfl rfl
theorem zi_75_1 : z_ins 75 1 = some (.aload_n 0, 1) := by decide +kernel
theorem ze_75_1 : z_T g d 75 1 (.ref a :: ls) st h P = z_T g d 75 2 (.ref a :: ls) (.ref a :: st) h P := zt_aloadn zi_75_1 rfl rfl
theorem zi_75_2 : z_ins 75 2 = some (.getfield 15, 3) := by decide +kernel
theorem ze_75_2 : z_T g d 75 2 ls (.ref a :: st) h P = z_gR h.1 a 8 0 (fun x => z_T g d 75 5 ls (.ref x :: st) h P) := zt_getR zi_75_2 ((congrArg (fun o => z_fl o 15) zo_75).trans zf_LatinRectangles_Transversals_15)
theorem zi_75_5 : z_ins 75 5 = some (.getfield 37, 3) := by decide +kernel
theorem ze_75_5 : z_T g d 75 5 ls (.ref a :: st) h P = z_gI h.1 a 3 5 (fun x => z_T g d 75 8 ls (.int x :: st) h P) := zt_getI zi_75_5 ((congrArg (fun o => z_fl o 37) zo_75).trans zf_LatinRectangles_Transversals_37)
theorem zi_75_8 : z_ins 75 8 = some (.if_icmp .lt 5, 3) := by decide +kernel
theorem ze_75_8 : z_T g d 75 8 ls (.int y :: .int x :: st) h P = (if x < y then z_T g d 75 13 ls st h P else z_T g d 75 11 ls st h P) := zt_icmplt zi_75_8 (by decide)
theorem zi_75_11 : z_ins 75 11 = some (.iconst 1, 1) := by decide +kernel
theorem ze_75_11 : z_T g d 75 11 ls st h P = z_T g d 75 12 ls (.int (nI 1) :: st) h P := zt_iconst zi_75_11 rfl
theorem zi_75_12 : z_ins 75 12 = some (.ireturn, 1) := by decide +kernel
theorem ze_75_12 : z_T g d 75 12 ls [.int x] h P = ((x = nI 0 ∨ x = nI 1) ∧ P (.inr (some (.int x)), h)) := zt_zreturn zi_75_12 zr_75
theorem zi_75_13 : z_ins 75 13 = some (.iconst 0, 1) := by decide +kernel
theorem ze_75_13 : z_T g d 75 13 ls st h P = z_T g d 75 14 ls (.int (nI 0) :: st) h P := zt_iconst zi_75_13 rfl
theorem zi_75_14 : z_ins 75 14 = some (.istore 4, 2) := by decide +kernel
theorem ze_75_14 : z_T g d 75 14 (v0 :: v1 :: v2 :: v3 :: v4 :: ls) (.int x :: st) h P = z_T g d 75 16 (v0 :: v1 :: v2 :: v3 :: .int x :: ls) st h P := zt_istore zi_75_14 (Nat.le_add_left 5 _)
theorem zi_75_16 : z_ins 75 16 = some (.iload 4, 2) := by decide +kernel
theorem ze_75_16 : z_T g d 75 16 (v0 :: v1 :: v2 :: v3 :: .int x :: ls) st h P = z_T g d 75 18 (v0 :: v1 :: v2 :: v3 :: .int x :: ls) (.int x :: st) h P := zt_iload zi_75_16 rfl
theorem zi_75_18 : z_ins 75 18 = some (.aload_n 0, 1) := by decide +kernel
theorem ze_75_18 : z_T g d 75 18 (.ref a :: ls) st h P = z_T g d 75 19 (.ref a :: ls) (.ref a :: st) h P := zt_aloadn zi_75_18 rfl rfl
theorem zi_75_19 : z_ins 75 19 = some (.getfield 15, 3) := by decide +kernel
theorem ze_75_19 : z_T g d 75 19 ls (.ref a :: st) h P = z_gR h.1 a 8 0 (fun x => z_T g d 75 22 ls (.ref x :: st) h P) := zt_getR zi_75_19 ((congrArg (fun o => z_fl o 15) zo_75).trans zf_LatinRectangles_Transversals_15)
theorem zi_75_22 : z_ins 75 22 = some (.getfield 42, 3) := by decide +kernel
theorem ze_75_22 : z_T g d 75 22 ls (.ref a :: st) h P = z_gI h.1 a 3 6 (fun x => z_T g d 75 25 ls (.int x :: st) h P) := zt_getI zi_75_22 ((congrArg (fun o => z_fl o 42) zo_75).trans zf_LatinRectangles_Transversals_42)
theorem zi_75_25 : z_ins 75 25 = some (.if_icmp .ge 56, 3) := by decide +kernel
theorem ze_75_25 : z_T g d 75 25 ls (.int y :: .int x :: st) h P = (if x < y then z_T g d 75 28 ls st h P else z_T g d 75 81 ls st h P) := zt_icmpge zi_75_25 (by decide)
theorem zi_75_28 : z_ins 75 28 = some (.aload_n 0, 1) := by decide +kernel
theorem ze_75_28 : z_T g d 75 28 (.ref a :: ls) st h P = z_T g d 75 29 (.ref a :: ls) (.ref a :: st) h P := zt_aloadn zi_75_28 rfl rfl
theorem zi_75_29 : z_ins 75 29 = some (.iload_n 1, 1) := by decide +kernel
theorem ze_75_29 : z_T g d 75 29 (v0 :: .int x :: ls) st h P = z_T g d 75 30 (v0 :: .int x :: ls) (.int x :: st) h P := zt_iloadn zi_75_29 rfl rfl
theorem zi_75_30 : z_ins 75 30 = some (.iload 4, 2) := by decide +kernel
theorem ze_75_30 : z_T g d 75 30 (v0 :: v1 :: v2 :: v3 :: .int x :: ls) st h P = z_T g d 75 32 (v0 :: v1 :: v2 :: v3 :: .int x :: ls) (.int x :: st) h P := zt_iload zi_75_30 rfl
theorem zi_75_32 : z_ins 75 32 = some (.iload_n 2, 1) := by decide +kernel
theorem ze_75_32 : z_T g d 75 32 (v0 :: v1 :: .int x :: ls) st h P = z_T g d 75 33 (v0 :: v1 :: .int x :: ls) (.int x :: st) h P := zt_iloadn zi_75_32 rfl rfl
theorem zi_75_33 : z_ins 75 33 = some (.iload_n 3, 1) := by decide +kernel
theorem ze_75_33 : z_T g d 75 33 (v0 :: v1 :: v2 :: .int x :: ls) st h P = z_T g d 75 34 (v0 :: v1 :: v2 :: .int x :: ls) (.int x :: st) h P := zt_iloadn zi_75_33 rfl rfl
theorem zi_75_34 : z_ins 75 34 = some (.invokevirtual 45, 3) := by decide +kernel
theorem ze_75_34 : z_T g d 75 34 ls (.int x3 :: .int x2 :: .int x1 :: .int x0 :: .ref a :: st) h P = ((z_okS 8 st = true ∧ z_gO h.1 a 8 ∧ 0 < d) ∧ z_Ca g (d - 1) 77 [.ref a, .int x0, .int x1, .int x2, .int x3] h (fun r => z_k r (fun v h' => z_T g d 75 37 ls (z_push v st) h' P) P)) := zt_callV (as := [.int x0, .int x1, .int x2, .int x3]) zi_75_34 ((congrArg (fun o => z_lookup z_prs (o, 45)) zo_75).trans zp_LatinRectangles_Transversals_45) ((congrArg (fun o => z_clk o 45) zo_75).trans zk_LatinRectangles_Transversals_45) zh_75 zc_77 rfl rfl rfl
theorem zi_75_37 : z_ins 75 37 = some (.ifCond .eq 38, 3) := by decide +kernel
theorem ze_75_37 : z_T g d 75 37 ls (.int x :: st) h P = (if x = nI 0 then z_T g d 75 75 ls st h P else z_T g d 75 40 ls st h P) := zt_ifeq zi_75_37 (by decide)
theorem zi_75_40 : z_ins 75 40 = some (.aload_n 0, 1) := by decide +kernel
theorem ze_75_40 : z_T g d 75 40 (.ref a :: ls) st h P = z_T g d 75 41 (.ref a :: ls) (.ref a :: st) h P := zt_aloadn zi_75_40 rfl rfl
theorem zi_75_41 : z_ins 75 41 = some (.getfield 9, 3) := by decide +kernel
theorem ze_75_41 : z_T g d 75 41 ls (.ref a :: st) h P = z_gR h.1 a 8 1 (fun x => z_T g d 75 44 ls (.ref x :: st) h P) := zt_getR zi_75_41 ((congrArg (fun o => z_fl o 9) zo_75).trans zf_LatinRectangles_Transversals_9)
theorem zi_75_44 : z_ins 75 44 = some (.iload_n 1, 1) := by decide +kernel
theorem ze_75_44 : z_T g d 75 44 (v0 :: .int x :: ls) st h P = z_T g d 75 45 (v0 :: .int x :: ls) (.int x :: st) h P := zt_iloadn zi_75_44 rfl rfl
theorem zi_75_45 : z_ins 75 45 = some (.iload 4, 2) := by decide +kernel
theorem ze_75_45 : z_T g d 75 45 (v0 :: v1 :: v2 :: v3 :: .int x :: ls) st h P = z_T g d 75 47 (v0 :: v1 :: v2 :: v3 :: .int x :: ls) (.int x :: st) h P := zt_iload zi_75_45 rfl
theorem zi_75_47 : z_ins 75 47 = some (.iastore, 1) := by decide +kernel
theorem ze_75_47 : z_T g d 75 47 ls (.int y :: .int x :: .ref a :: st) h P = z_aS h.1 a z_tI x y (fun f => z_T g d 75 48 ls st (f, h.2) P) := zt_iastore zi_75_47
theorem zi_75_48 : z_ins 75 48 = some (.aload_n 0, 1) := by decide +kernel
theorem ze_75_48 : z_T g d 75 48 (.ref a :: ls) st h P = z_T g d 75 49 (.ref a :: ls) (.ref a :: st) h P := zt_aloadn zi_75_48 rfl rfl
theorem zi_75_49 : z_ins 75 49 = some (.iload_n 1, 1) := by decide +kernel
theorem ze_75_49 : z_T g d 75 49 (v0 :: .int x :: ls) st h P = z_T g d 75 50 (v0 :: .int x :: ls) (.int x :: st) h P := zt_iloadn zi_75_49 rfl rfl
theorem zi_75_50 : z_ins 75 50 = some (.iconst 1, 1) := by decide +kernel
theorem ze_75_50 : z_T g d 75 50 ls st h P = z_T g d 75 51 ls (.int (nI 1) :: st) h P := zt_iconst zi_75_50 rfl
theorem zi_75_51 : z_ins 75 51 = some (.iadd, 1) := by decide +kernel
theorem ze_75_51 : z_T g d 75 51 ls (.int y :: .int x :: st) h P = z_T g d 75 52 ls (.int (x + y) :: st) h P := zt_bin (f := fun x y => x + y) zi_75_51 rfl (fun _ _ _ => rfl)
theorem zi_75_52 : z_ins 75 52 = some (.iload_n 2, 1) := by decide +kernel
theorem ze_75_52 : z_T g d 75 52 (v0 :: v1 :: .int x :: ls) st h P = z_T g d 75 53 (v0 :: v1 :: .int x :: ls) (.int x :: st) h P := zt_iloadn zi_75_52 rfl rfl
theorem zi_75_53 : z_ins 75 53 = some (.iconst 1, 1) := by decide +kernel
theorem ze_75_53 : z_T g d 75 53 ls st h P = z_T g d 75 54 ls (.int (nI 1) :: st) h P := zt_iconst zi_75_53 rfl
theorem zi_75_54 : z_ins 75 54 = some (.iload 4, 2) := by decide +kernel
theorem ze_75_54 : z_T g d 75 54 (v0 :: v1 :: v2 :: v3 :: .int x :: ls) st h P = z_T g d 75 56 (v0 :: v1 :: v2 :: v3 :: .int x :: ls) (.int x :: st) h P := zt_iload zi_75_54 rfl
theorem zi_75_56 : z_ins 75 56 = some (.ishl, 1) := by decide +kernel
theorem ze_75_56 : z_T g d 75 56 ls (.int y :: .int x :: st) h P = z_T g d 75 57 ls (.int (x <<< (y &&& 31)) :: st) h P := zt_bin (f := fun x y => x <<< (y &&& 31)) zi_75_56 rfl (fun _ _ _ => rfl)
theorem zi_75_57 : z_ins 75 57 = some (.ior, 1) := by decide +kernel
theorem ze_75_57 : z_T g d 75 57 ls (.int y :: .int x :: st) h P = z_T g d 75 58 ls (.int (x ||| y) :: st) h P := zt_bin (f := fun x y => x ||| y) zi_75_57 rfl (fun _ _ _ => rfl)
theorem zi_75_58 : z_ins 75 58 = some (.iload_n 3, 1) := by decide +kernel
theorem ze_75_58 : z_T g d 75 58 (v0 :: v1 :: v2 :: .int x :: ls) st h P = z_T g d 75 59 (v0 :: v1 :: v2 :: .int x :: ls) (.int x :: st) h P := zt_iloadn zi_75_58 rfl rfl
theorem zi_75_59 : z_ins 75 59 = some (.aload_n 0, 1) := by decide +kernel
theorem ze_75_59 : z_T g d 75 59 (.ref a :: ls) st h P = z_T g d 75 60 (.ref a :: ls) (.ref a :: st) h P := zt_aloadn zi_75_59 rfl rfl
theorem zi_75_60 : z_ins 75 60 = some (.iload_n 1, 1) := by decide +kernel
theorem ze_75_60 : z_T g d 75 60 (v0 :: .int x :: ls) st h P = z_T g d 75 61 (v0 :: .int x :: ls) (.int x :: st) h P := zt_iloadn zi_75_60 rfl rfl
theorem zi_75_61 : z_ins 75 61 = some (.iload 4, 2) := by decide +kernel
theorem ze_75_61 : z_T g d 75 61 (v0 :: v1 :: v2 :: v3 :: .int x :: ls) st h P = z_T g d 75 63 (v0 :: v1 :: v2 :: v3 :: .int x :: ls) (.int x :: st) h P := zt_iload zi_75_61 rfl
theorem zi_75_63 : z_ins 75 63 = some (.invokevirtual 49, 3) := by decide +kernel
theorem ze_75_63 : z_T g d 75 63 ls (.int x1 :: .int x0 :: .ref a :: st) h P = ((z_okS 8 st = true ∧ z_gO h.1 a 8 ∧ 0 < d) ∧ z_Ca g (d - 1) 78 [.ref a, .int x0, .int x1] h (fun r => z_k r (fun v h' => z_T g d 75 66 ls (z_push v st) h' P) P)) := zt_callV (as := [.int x0, .int x1]) zi_75_63 ((congrArg (fun o => z_lookup z_prs (o, 49)) zo_75).trans zp_LatinRectangles_Transversals_49) ((congrArg (fun o => z_clk o 49) zo_75).trans zk_LatinRectangles_Transversals_49) zh_75 zc_78 rfl rfl rfl
theorem zi_75_66 : z_ins 75 66 = some (.ior, 1) := by decide +kernel
theorem ze_75_66 : z_T g d 75 66 ls (.int y :: .int x :: st) h P = z_T g d 75 67 ls (.int (x ||| y) :: st) h P := zt_bin (f := fun x y => x ||| y) zi_75_66 rfl (fun _ _ _ => rfl)
theorem zi_75_67 : z_ins 75 67 = some (.invokestatic 30, 3) := by decide +kernel
theorem ze_75_67 : z_T g d 75 67 ls (.int x3 :: .int x2 :: .int x1 :: .ref a0 :: st) h P = ((z_okS 8 st = true ∧ 0 < d) ∧ z_Ca g (d - 1) 75 [.ref a0, .int x1, .int x2, .int x3] h (fun r => z_k r (fun v h' => z_T g d 75 70 ls (z_push v st) h' P) P)) := zt_callS0 (as := [.ref a0, .int x1, .int x2, .int x3]) zi_75_67 ((congrArg (fun o => z_lookup z_prs (o, 30)) zo_75).trans zp_LatinRectangles_Transversals_30) ((congrArg (fun o => z_clk o 30) zo_75).trans zk_LatinRectangles_Transversals_30) zh_75 rfl rfl rfl
theorem zi_75_70 : z_ins 75 70 = some (.ifCond .eq 5, 3) := by decide +kernel
theorem ze_75_70 : z_T g d 75 70 ls (.int x :: st) h P = (if x = nI 0 then z_T g d 75 75 ls st h P else z_T g d 75 73 ls st h P) := zt_ifeq zi_75_70 (by decide)
theorem zi_75_73 : z_ins 75 73 = some (.iconst 1, 1) := by decide +kernel
theorem ze_75_73 : z_T g d 75 73 ls st h P = z_T g d 75 74 ls (.int (nI 1) :: st) h P := zt_iconst zi_75_73 rfl
theorem zi_75_74 : z_ins 75 74 = some (.ireturn, 1) := by decide +kernel
theorem ze_75_74 : z_T g d 75 74 ls [.int x] h P = ((x = nI 0 ∨ x = nI 1) ∧ P (.inr (some (.int x)), h)) := zt_zreturn zi_75_74 zr_75
theorem zi_75_75 : z_ins 75 75 = some (.iinc 4 1, 3) := by decide +kernel
theorem ze_75_75 : z_T g d 75 75 (v0 :: v1 :: v2 :: v3 :: .int x :: ls) st h P = z_T g d 75 78 (v0 :: v1 :: v2 :: v3 :: .int (x + (nI 1)) :: ls) st h P := zt_iinc zi_75_75 rfl rfl
theorem zi_75_78 : z_ins 75 78 = some (.goto (-62), 3) := by decide +kernel
theorem ze_75_78 : z_T g d 75 78 ls st h P = z_T g d 75 16 ls st h P := zt_goto zi_75_78 (by decide)
theorem zi_75_81 : z_ins 75 81 = some (.iconst 0, 1) := by decide +kernel
theorem ze_75_81 : z_T g d 75 81 ls st h P = z_T g d 75 82 ls (.int (nI 0) :: st) h P := zt_iconst zi_75_81 rfl
theorem zi_75_82 : z_ins 75 82 = some (.ireturn, 1) := by decide +kernel
theorem ze_75_82 : z_T g d 75 82 ls [.int x] h P = ((x = nI 0 ∨ x = nI 1) ∧ P (.inr (some (.int x)), h)) := zt_zreturn zi_75_82 zr_75
-- LatinRectangles$Transversals.longestFrom(LLatinRectangles$Transversals;III)I
theorem zo_76 : z_own 76 = "LatinRectangles$Transversals" := by decide +kernel
theorem zm_76 : z_maxL 76 = 7 := by decide +kernel
theorem zh_76 : z_hds 76 = [] := by decide +kernel
theorem zr_76 : z_rt 76 = (some .int) := by decide +kernel
theorem zn_76 : z_Ca g d 76 [.ref a0, .int x1, .int x2, .int x3] h P = z_T g d 76 0 [.ref a0, .int x1, .int x2, .int x3, z_un, z_un, z_un] [] h P := z_Ca_ent zm_76 rfl rfl
theorem zi_76_0 : z_ins 76 0 = some (.iload_n 1, 1) := by decide +kernel
theorem ze_76_0 : z_T g d 76 0 (v0 :: .int x :: ls) st h P = z_T g d 76 1 (v0 :: .int x :: ls) (.int x :: st) h P := zt_iloadn zi_76_0 rfl rfl
theorem zi_76_1 : z_ins 76 1 = some (.aload_n 0, 1) := by decide +kernel
theorem ze_76_1 : z_T g d 76 1 (.ref a :: ls) st h P = z_T g d 76 2 (.ref a :: ls) (.ref a :: st) h P := zt_aloadn zi_76_1 rfl rfl
theorem zi_76_2 : z_ins 76 2 = some (.getfield 15, 3) := by decide +kernel
theorem ze_76_2 : z_T g d 76 2 ls (.ref a :: st) h P = z_gR h.1 a 8 0 (fun x => z_T g d 76 5 ls (.ref x :: st) h P) := zt_getR zi_76_2 ((congrArg (fun o => z_fl o 15) zo_76).trans zf_LatinRectangles_Transversals_15)
theorem zi_76_5 : z_ins 76 5 = some (.getfield 37, 3) := by decide +kernel
theorem ze_76_5 : z_T g d 76 5 ls (.ref a :: st) h P = z_gI h.1 a 3 5 (fun x => z_T g d 76 8 ls (.int x :: st) h P) := zt_getI zi_76_5 ((congrArg (fun o => z_fl o 37) zo_76).trans zf_LatinRectangles_Transversals_37)
theorem zi_76_8 : z_ins 76 8 = some (.if_icmp .lt 5, 3) := by decide +kernel
theorem ze_76_8 : z_T g d 76 8 ls (.int y :: .int x :: st) h P = (if x < y then z_T g d 76 13 ls st h P else z_T g d 76 11 ls st h P) := zt_icmplt zi_76_8 (by decide)
theorem zi_76_11 : z_ins 76 11 = some (.iconst 0, 1) := by decide +kernel
theorem ze_76_11 : z_T g d 76 11 ls st h P = z_T g d 76 12 ls (.int (nI 0) :: st) h P := zt_iconst zi_76_11 rfl
theorem zi_76_12 : z_ins 76 12 = some (.ireturn, 1) := by decide +kernel
theorem ze_76_12 : z_T g d 76 12 ls [.int x] h P = P (.inr (some (.int x)), h) := zt_ireturn zi_76_12 zr_76
theorem zi_76_13 : z_ins 76 13 = some (.aload_n 0, 1) := by decide +kernel
theorem ze_76_13 : z_T g d 76 13 (.ref a :: ls) st h P = z_T g d 76 14 (.ref a :: ls) (.ref a :: st) h P := zt_aloadn zi_76_13 rfl rfl
theorem zi_76_14 : z_ins 76 14 = some (.iload_n 1, 1) := by decide +kernel
theorem ze_76_14 : z_T g d 76 14 (v0 :: .int x :: ls) st h P = z_T g d 76 15 (v0 :: .int x :: ls) (.int x :: st) h P := zt_iloadn zi_76_14 rfl rfl
theorem zi_76_15 : z_ins 76 15 = some (.iconst 1, 1) := by decide +kernel
theorem ze_76_15 : z_T g d 76 15 ls st h P = z_T g d 76 16 ls (.int (nI 1) :: st) h P := zt_iconst zi_76_15 rfl
theorem zi_76_16 : z_ins 76 16 = some (.iadd, 1) := by decide +kernel
theorem ze_76_16 : z_T g d 76 16 ls (.int y :: .int x :: st) h P = z_T g d 76 17 ls (.int (x + y) :: st) h P := zt_bin (f := fun x y => x + y) zi_76_16 rfl (fun _ _ _ => rfl)
theorem zi_76_17 : z_ins 76 17 = some (.iload_n 2, 1) := by decide +kernel
theorem ze_76_17 : z_T g d 76 17 (v0 :: v1 :: .int x :: ls) st h P = z_T g d 76 18 (v0 :: v1 :: .int x :: ls) (.int x :: st) h P := zt_iloadn zi_76_17 rfl rfl
theorem zi_76_18 : z_ins 76 18 = some (.iload_n 3, 1) := by decide +kernel
theorem ze_76_18 : z_T g d 76 18 (v0 :: v1 :: v2 :: .int x :: ls) st h P = z_T g d 76 19 (v0 :: v1 :: v2 :: .int x :: ls) (.int x :: st) h P := zt_iloadn zi_76_18 rfl rfl
theorem zi_76_19 : z_ins 76 19 = some (.invokestatic 34, 3) := by decide +kernel
theorem ze_76_19 : z_T g d 76 19 ls (.int x3 :: .int x2 :: .int x1 :: .ref a0 :: st) h P = ((z_okS 8 st = true ∧ 0 < d) ∧ z_Ca g (d - 1) 76 [.ref a0, .int x1, .int x2, .int x3] h (fun r => z_k r (fun v h' => z_T g d 76 22 ls (z_push v st) h' P) P)) := zt_callS0 (as := [.ref a0, .int x1, .int x2, .int x3]) zi_76_19 ((congrArg (fun o => z_lookup z_prs (o, 34)) zo_76).trans zp_LatinRectangles_Transversals_34) ((congrArg (fun o => z_clk o 34) zo_76).trans zk_LatinRectangles_Transversals_34) zh_76 rfl rfl rfl
theorem zi_76_22 : z_ins 76 22 = some (.istore 4, 2) := by decide +kernel
theorem ze_76_22 : z_T g d 76 22 (v0 :: v1 :: v2 :: v3 :: v4 :: ls) (.int x :: st) h P = z_T g d 76 24 (v0 :: v1 :: v2 :: v3 :: .int x :: ls) st h P := zt_istore zi_76_22 (Nat.le_add_left 5 _)
theorem zi_76_24 : z_ins 76 24 = some (.iconst 0, 1) := by decide +kernel
theorem ze_76_24 : z_T g d 76 24 ls st h P = z_T g d 76 25 ls (.int (nI 0) :: st) h P := zt_iconst zi_76_24 rfl
theorem zi_76_25 : z_ins 76 25 = some (.istore 5, 2) := by decide +kernel
theorem ze_76_25 : z_T g d 76 25 (v0 :: v1 :: v2 :: v3 :: v4 :: v5 :: ls) (.int x :: st) h P = z_T g d 76 27 (v0 :: v1 :: v2 :: v3 :: v4 :: .int x :: ls) st h P := zt_istore zi_76_25 (Nat.le_add_left 6 _)
theorem zi_76_27 : z_ins 76 27 = some (.iload 5, 2) := by decide +kernel
theorem ze_76_27 : z_T g d 76 27 (v0 :: v1 :: v2 :: v3 :: v4 :: .int x :: ls) st h P = z_T g d 76 29 (v0 :: v1 :: v2 :: v3 :: v4 :: .int x :: ls) (.int x :: st) h P := zt_iload zi_76_27 rfl
theorem zi_76_29 : z_ins 76 29 = some (.aload_n 0, 1) := by decide +kernel
theorem ze_76_29 : z_T g d 76 29 (.ref a :: ls) st h P = z_T g d 76 30 (.ref a :: ls) (.ref a :: st) h P := zt_aloadn zi_76_29 rfl rfl
theorem zi_76_30 : z_ins 76 30 = some (.getfield 15, 3) := by decide +kernel
theorem ze_76_30 : z_T g d 76 30 ls (.ref a :: st) h P = z_gR h.1 a 8 0 (fun x => z_T g d 76 33 ls (.ref x :: st) h P) := zt_getR zi_76_30 ((congrArg (fun o => z_fl o 15) zo_76).trans zf_LatinRectangles_Transversals_15)
theorem zi_76_33 : z_ins 76 33 = some (.getfield 42, 3) := by decide +kernel
theorem ze_76_33 : z_T g d 76 33 ls (.ref a :: st) h P = z_gI h.1 a 3 6 (fun x => z_T g d 76 36 ls (.int x :: st) h P) := zt_getI zi_76_33 ((congrArg (fun o => z_fl o 42) zo_76).trans zf_LatinRectangles_Transversals_42)
theorem zi_76_36 : z_ins 76 36 = some (.if_icmp .ge 56, 3) := by decide +kernel
theorem ze_76_36 : z_T g d 76 36 ls (.int y :: .int x :: st) h P = (if x < y then z_T g d 76 39 ls st h P else z_T g d 76 92 ls st h P) := zt_icmpge zi_76_36 (by decide)
theorem zi_76_39 : z_ins 76 39 = some (.aload_n 0, 1) := by decide +kernel
theorem ze_76_39 : z_T g d 76 39 (.ref a :: ls) st h P = z_T g d 76 40 (.ref a :: ls) (.ref a :: st) h P := zt_aloadn zi_76_39 rfl rfl
theorem zi_76_40 : z_ins 76 40 = some (.iload_n 1, 1) := by decide +kernel
theorem ze_76_40 : z_T g d 76 40 (v0 :: .int x :: ls) st h P = z_T g d 76 41 (v0 :: .int x :: ls) (.int x :: st) h P := zt_iloadn zi_76_40 rfl rfl
theorem zi_76_41 : z_ins 76 41 = some (.iload 5, 2) := by decide +kernel
theorem ze_76_41 : z_T g d 76 41 (v0 :: v1 :: v2 :: v3 :: v4 :: .int x :: ls) st h P = z_T g d 76 43 (v0 :: v1 :: v2 :: v3 :: v4 :: .int x :: ls) (.int x :: st) h P := zt_iload zi_76_41 rfl
theorem zi_76_43 : z_ins 76 43 = some (.iload_n 2, 1) := by decide +kernel
theorem ze_76_43 : z_T g d 76 43 (v0 :: v1 :: .int x :: ls) st h P = z_T g d 76 44 (v0 :: v1 :: .int x :: ls) (.int x :: st) h P := zt_iloadn zi_76_43 rfl rfl
theorem zi_76_44 : z_ins 76 44 = some (.iload_n 3, 1) := by decide +kernel
theorem ze_76_44 : z_T g d 76 44 (v0 :: v1 :: v2 :: .int x :: ls) st h P = z_T g d 76 45 (v0 :: v1 :: v2 :: .int x :: ls) (.int x :: st) h P := zt_iloadn zi_76_44 rfl rfl
theorem zi_76_45 : z_ins 76 45 = some (.invokevirtual 45, 3) := by decide +kernel
theorem ze_76_45 : z_T g d 76 45 ls (.int x3 :: .int x2 :: .int x1 :: .int x0 :: .ref a :: st) h P = ((z_okS 8 st = true ∧ z_gO h.1 a 8 ∧ 0 < d) ∧ z_Ca g (d - 1) 77 [.ref a, .int x0, .int x1, .int x2, .int x3] h (fun r => z_k r (fun v h' => z_T g d 76 48 ls (z_push v st) h' P) P)) := zt_callV (as := [.int x0, .int x1, .int x2, .int x3]) zi_76_45 ((congrArg (fun o => z_lookup z_prs (o, 45)) zo_76).trans zp_LatinRectangles_Transversals_45) ((congrArg (fun o => z_clk o 45) zo_76).trans zk_LatinRectangles_Transversals_45) zh_76 zc_77 rfl rfl rfl
theorem zi_76_48 : z_ins 76 48 = some (.ifCond .eq 38, 3) := by decide +kernel
theorem ze_76_48 : z_T g d 76 48 ls (.int x :: st) h P = (if x = nI 0 then z_T g d 76 86 ls st h P else z_T g d 76 51 ls st h P) := zt_ifeq zi_76_48 (by decide)
theorem zi_76_51 : z_ins 76 51 = some (.aload_n 0, 1) := by decide +kernel
theorem ze_76_51 : z_T g d 76 51 (.ref a :: ls) st h P = z_T g d 76 52 (.ref a :: ls) (.ref a :: st) h P := zt_aloadn zi_76_51 rfl rfl
theorem zi_76_52 : z_ins 76 52 = some (.iload_n 1, 1) := by decide +kernel
theorem ze_76_52 : z_T g d 76 52 (v0 :: .int x :: ls) st h P = z_T g d 76 53 (v0 :: .int x :: ls) (.int x :: st) h P := zt_iloadn zi_76_52 rfl rfl
theorem zi_76_53 : z_ins 76 53 = some (.iconst 1, 1) := by decide +kernel
theorem ze_76_53 : z_T g d 76 53 ls st h P = z_T g d 76 54 ls (.int (nI 1) :: st) h P := zt_iconst zi_76_53 rfl
theorem zi_76_54 : z_ins 76 54 = some (.iadd, 1) := by decide +kernel
theorem ze_76_54 : z_T g d 76 54 ls (.int y :: .int x :: st) h P = z_T g d 76 55 ls (.int (x + y) :: st) h P := zt_bin (f := fun x y => x + y) zi_76_54 rfl (fun _ _ _ => rfl)
theorem zi_76_55 : z_ins 76 55 = some (.iload_n 2, 1) := by decide +kernel
theorem ze_76_55 : z_T g d 76 55 (v0 :: v1 :: .int x :: ls) st h P = z_T g d 76 56 (v0 :: v1 :: .int x :: ls) (.int x :: st) h P := zt_iloadn zi_76_55 rfl rfl
theorem zi_76_56 : z_ins 76 56 = some (.iconst 1, 1) := by decide +kernel
theorem ze_76_56 : z_T g d 76 56 ls st h P = z_T g d 76 57 ls (.int (nI 1) :: st) h P := zt_iconst zi_76_56 rfl
theorem zi_76_57 : z_ins 76 57 = some (.iload 5, 2) := by decide +kernel
theorem ze_76_57 : z_T g d 76 57 (v0 :: v1 :: v2 :: v3 :: v4 :: .int x :: ls) st h P = z_T g d 76 59 (v0 :: v1 :: v2 :: v3 :: v4 :: .int x :: ls) (.int x :: st) h P := zt_iload zi_76_57 rfl
theorem zi_76_59 : z_ins 76 59 = some (.ishl, 1) := by decide +kernel
theorem ze_76_59 : z_T g d 76 59 ls (.int y :: .int x :: st) h P = z_T g d 76 60 ls (.int (x <<< (y &&& 31)) :: st) h P := zt_bin (f := fun x y => x <<< (y &&& 31)) zi_76_59 rfl (fun _ _ _ => rfl)
theorem zi_76_60 : z_ins 76 60 = some (.ior, 1) := by decide +kernel
theorem ze_76_60 : z_T g d 76 60 ls (.int y :: .int x :: st) h P = z_T g d 76 61 ls (.int (x ||| y) :: st) h P := zt_bin (f := fun x y => x ||| y) zi_76_60 rfl (fun _ _ _ => rfl)
theorem zi_76_61 : z_ins 76 61 = some (.iload_n 3, 1) := by decide +kernel
theorem ze_76_61 : z_T g d 76 61 (v0 :: v1 :: v2 :: .int x :: ls) st h P = z_T g d 76 62 (v0 :: v1 :: v2 :: .int x :: ls) (.int x :: st) h P := zt_iloadn zi_76_61 rfl rfl
theorem zi_76_62 : z_ins 76 62 = some (.aload_n 0, 1) := by decide +kernel
theorem ze_76_62 : z_T g d 76 62 (.ref a :: ls) st h P = z_T g d 76 63 (.ref a :: ls) (.ref a :: st) h P := zt_aloadn zi_76_62 rfl rfl
theorem zi_76_63 : z_ins 76 63 = some (.iload_n 1, 1) := by decide +kernel
theorem ze_76_63 : z_T g d 76 63 (v0 :: .int x :: ls) st h P = z_T g d 76 64 (v0 :: .int x :: ls) (.int x :: st) h P := zt_iloadn zi_76_63 rfl rfl
theorem zi_76_64 : z_ins 76 64 = some (.iload 5, 2) := by decide +kernel
theorem ze_76_64 : z_T g d 76 64 (v0 :: v1 :: v2 :: v3 :: v4 :: .int x :: ls) st h P = z_T g d 76 66 (v0 :: v1 :: v2 :: v3 :: v4 :: .int x :: ls) (.int x :: st) h P := zt_iload zi_76_64 rfl
theorem zi_76_66 : z_ins 76 66 = some (.invokevirtual 49, 3) := by decide +kernel
theorem ze_76_66 : z_T g d 76 66 ls (.int x1 :: .int x0 :: .ref a :: st) h P = ((z_okS 8 st = true ∧ z_gO h.1 a 8 ∧ 0 < d) ∧ z_Ca g (d - 1) 78 [.ref a, .int x0, .int x1] h (fun r => z_k r (fun v h' => z_T g d 76 69 ls (z_push v st) h' P) P)) := zt_callV (as := [.int x0, .int x1]) zi_76_66 ((congrArg (fun o => z_lookup z_prs (o, 49)) zo_76).trans zp_LatinRectangles_Transversals_49) ((congrArg (fun o => z_clk o 49) zo_76).trans zk_LatinRectangles_Transversals_49) zh_76 zc_78 rfl rfl rfl
theorem zi_76_69 : z_ins 76 69 = some (.ior, 1) := by decide +kernel
theorem ze_76_69 : z_T g d 76 69 ls (.int y :: .int x :: st) h P = z_T g d 76 70 ls (.int (x ||| y) :: st) h P := zt_bin (f := fun x y => x ||| y) zi_76_69 rfl (fun _ _ _ => rfl)
theorem zi_76_70 : z_ins 76 70 = some (.invokestatic 34, 3) := by decide +kernel
theorem ze_76_70 : z_T g d 76 70 ls (.int x3 :: .int x2 :: .int x1 :: .ref a0 :: st) h P = ((z_okS 8 st = true ∧ 0 < d) ∧ z_Ca g (d - 1) 76 [.ref a0, .int x1, .int x2, .int x3] h (fun r => z_k r (fun v h' => z_T g d 76 73 ls (z_push v st) h' P) P)) := zt_callS0 (as := [.ref a0, .int x1, .int x2, .int x3]) zi_76_70 ((congrArg (fun o => z_lookup z_prs (o, 34)) zo_76).trans zp_LatinRectangles_Transversals_34) ((congrArg (fun o => z_clk o 34) zo_76).trans zk_LatinRectangles_Transversals_34) zh_76 rfl rfl rfl
theorem zi_76_73 : z_ins 76 73 = some (.istore 6, 2) := by decide +kernel
theorem ze_76_73 : z_T g d 76 73 (v0 :: v1 :: v2 :: v3 :: v4 :: v5 :: v6 :: ls) (.int x :: st) h P = z_T g d 76 75 (v0 :: v1 :: v2 :: v3 :: v4 :: v5 :: .int x :: ls) st h P := zt_istore zi_76_73 (Nat.le_add_left 7 _)
theorem zi_76_75 : z_ins 76 75 = some (.iload 4, 2) := by decide +kernel
theorem ze_76_75 : z_T g d 76 75 (v0 :: v1 :: v2 :: v3 :: .int x :: ls) st h P = z_T g d 76 77 (v0 :: v1 :: v2 :: v3 :: .int x :: ls) (.int x :: st) h P := zt_iload zi_76_75 rfl
theorem zi_76_77 : z_ins 76 77 = some (.iconst 1, 1) := by decide +kernel
theorem ze_76_77 : z_T g d 76 77 ls st h P = z_T g d 76 78 ls (.int (nI 1) :: st) h P := zt_iconst zi_76_77 rfl
theorem zi_76_78 : z_ins 76 78 = some (.iload 6, 2) := by decide +kernel
theorem ze_76_78 : z_T g d 76 78 (v0 :: v1 :: v2 :: v3 :: v4 :: v5 :: .int x :: ls) st h P = z_T g d 76 80 (v0 :: v1 :: v2 :: v3 :: v4 :: v5 :: .int x :: ls) (.int x :: st) h P := zt_iload zi_76_78 rfl
theorem zi_76_80 : z_ins 76 80 = some (.iadd, 1) := by decide +kernel
theorem ze_76_80 : z_T g d 76 80 ls (.int y :: .int x :: st) h P = z_T g d 76 81 ls (.int (x + y) :: st) h P := zt_bin (f := fun x y => x + y) zi_76_80 rfl (fun _ _ _ => rfl)
theorem zi_76_81 : z_ins 76 81 = some (.invokestatic 53, 3) := by decide +kernel
theorem ze_76_81 (hok : z_okS 8 (.int y :: .int x :: st) = true) : z_T g d 76 81 ls (.int y :: .int x :: st) h P = z_T g d 76 84 ls (.int (if x < y then y else x) :: st) h P := zt_primS zi_76_81 ((congrArg (fun o => z_lookup z_prs (o, 53)) zo_76).trans zq_LatinRectangles_Transversals_53) (by decide) hok rfl
theorem zi_76_84 : z_ins 76 84 = some (.istore 4, 2) := by decide +kernel
theorem ze_76_84 : z_T g d 76 84 (v0 :: v1 :: v2 :: v3 :: v4 :: ls) (.int x :: st) h P = z_T g d 76 86 (v0 :: v1 :: v2 :: v3 :: .int x :: ls) st h P := zt_istore zi_76_84 (Nat.le_add_left 5 _)
theorem zi_76_86 : z_ins 76 86 = some (.iinc 5 1, 3) := by decide +kernel
theorem ze_76_86 : z_T g d 76 86 (v0 :: v1 :: v2 :: v3 :: v4 :: .int x :: ls) st h P = z_T g d 76 89 (v0 :: v1 :: v2 :: v3 :: v4 :: .int (x + (nI 1)) :: ls) st h P := zt_iinc zi_76_86 rfl rfl
theorem zi_76_89 : z_ins 76 89 = some (.goto (-62), 3) := by decide +kernel
theorem ze_76_89 : z_T g d 76 89 ls st h P = z_T g d 76 27 ls st h P := zt_goto zi_76_89 (by decide)
theorem zi_76_92 : z_ins 76 92 = some (.iload 4, 2) := by decide +kernel
theorem ze_76_92 : z_T g d 76 92 (v0 :: v1 :: v2 :: v3 :: .int x :: ls) st h P = z_T g d 76 94 (v0 :: v1 :: v2 :: v3 :: .int x :: ls) (.int x :: st) h P := zt_iload zi_76_92 rfl
theorem zi_76_94 : z_ins 76 94 = some (.ireturn, 1) := by decide +kernel
theorem ze_76_94 : z_T g d 76 94 ls [.int x] h P = P (.inr (some (.int x)), h) := zt_ireturn zi_76_94 zr_76
-- LatinRectangles$Transversals.isFree(IIII)Z
theorem zo_77 : z_own 77 = "LatinRectangles$Transversals" := by decide +kernel
theorem zm_77 : z_maxL 77 = 6 := by decide +kernel
theorem zh_77 : z_hds 77 = [] := by decide +kernel
theorem zr_77 : z_rt 77 = (some .boolean) := by decide +kernel
theorem zn_77 : z_Ca g d 77 [.ref a0, .int x1, .int x2, .int x3, .int x4] h P = z_T g d 77 0 [.ref a0, .int x1, .int x2, .int x3, .int x4, z_un] [] h P := z_Ca_ent zm_77 rfl rfl
theorem zi_77_0 : z_ins 77 0 = some (.aload_n 0, 1) := by decide +kernel
theorem ze_77_0 : z_T g d 77 0 (.ref a :: ls) st h P = z_T g d 77 1 (.ref a :: ls) (.ref a :: st) h P := zt_aloadn zi_77_0 rfl rfl
theorem zi_77_1 : z_ins 77 1 = some (.iload_n 1, 1) := by decide +kernel
theorem ze_77_1 : z_T g d 77 1 (v0 :: .int x :: ls) st h P = z_T g d 77 2 (v0 :: .int x :: ls) (.int x :: st) h P := zt_iloadn zi_77_1 rfl rfl
theorem zi_77_2 : z_ins 77 2 = some (.iload_n 2, 1) := by decide +kernel
theorem ze_77_2 : z_T g d 77 2 (v0 :: v1 :: .int x :: ls) st h P = z_T g d 77 3 (v0 :: v1 :: .int x :: ls) (.int x :: st) h P := zt_iloadn zi_77_2 rfl rfl
theorem zi_77_3 : z_ins 77 3 = some (.invokevirtual 49, 3) := by decide +kernel
theorem ze_77_3 : z_T g d 77 3 ls (.int x1 :: .int x0 :: .ref a :: st) h P = ((z_okS 8 st = true ∧ z_gO h.1 a 8 ∧ 0 < d) ∧ z_Ca g (d - 1) 78 [.ref a, .int x0, .int x1] h (fun r => z_k r (fun v h' => z_T g d 77 6 ls (z_push v st) h' P) P)) := zt_callV (as := [.int x0, .int x1]) zi_77_3 ((congrArg (fun o => z_lookup z_prs (o, 49)) zo_77).trans zp_LatinRectangles_Transversals_49) ((congrArg (fun o => z_clk o 49) zo_77).trans zk_LatinRectangles_Transversals_49) zh_77 zc_78 rfl rfl rfl
theorem zi_77_6 : z_ins 77 6 = some (.istore 5, 2) := by decide +kernel
theorem ze_77_6 : z_T g d 77 6 (v0 :: v1 :: v2 :: v3 :: v4 :: v5 :: ls) (.int x :: st) h P = z_T g d 77 8 (v0 :: v1 :: v2 :: v3 :: v4 :: .int x :: ls) st h P := zt_istore zi_77_6 (Nat.le_add_left 6 _)
theorem zi_77_8 : z_ins 77 8 = some (.iload 5, 2) := by decide +kernel
theorem ze_77_8 : z_T g d 77 8 (v0 :: v1 :: v2 :: v3 :: v4 :: .int x :: ls) st h P = z_T g d 77 10 (v0 :: v1 :: v2 :: v3 :: v4 :: .int x :: ls) (.int x :: st) h P := zt_iload zi_77_8 rfl
theorem zi_77_10 : z_ins 77 10 = some (.ifCond .eq 23, 3) := by decide +kernel
theorem ze_77_10 : z_T g d 77 10 ls (.int x :: st) h P = (if x = nI 0 then z_T g d 77 33 ls st h P else z_T g d 77 13 ls st h P) := zt_ifeq zi_77_10 (by decide)
theorem zi_77_13 : z_ins 77 13 = some (.iload_n 3, 1) := by decide +kernel
theorem ze_77_13 : z_T g d 77 13 (v0 :: v1 :: v2 :: .int x :: ls) st h P = z_T g d 77 14 (v0 :: v1 :: v2 :: .int x :: ls) (.int x :: st) h P := zt_iloadn zi_77_13 rfl rfl
theorem zi_77_14 : z_ins 77 14 = some (.iload_n 2, 1) := by decide +kernel
theorem ze_77_14 : z_T g d 77 14 (v0 :: v1 :: .int x :: ls) st h P = z_T g d 77 15 (v0 :: v1 :: .int x :: ls) (.int x :: st) h P := zt_iloadn zi_77_14 rfl rfl
theorem zi_77_15 : z_ins 77 15 = some (.ishr, 1) := by decide +kernel
theorem ze_77_15 : z_T g d 77 15 ls (.int y :: .int x :: st) h P = z_T g d 77 16 ls (.int (x >>> (y &&& 31)) :: st) h P := zt_bin (f := fun x y => x >>> (y &&& 31)) zi_77_15 rfl (fun _ _ _ => rfl)
theorem zi_77_16 : z_ins 77 16 = some (.iconst 1, 1) := by decide +kernel
theorem ze_77_16 : z_T g d 77 16 ls st h P = z_T g d 77 17 ls (.int (nI 1) :: st) h P := zt_iconst zi_77_16 rfl
theorem zi_77_17 : z_ins 77 17 = some (.iand, 1) := by decide +kernel
theorem ze_77_17 : z_T g d 77 17 ls (.int y :: .int x :: st) h P = z_T g d 77 18 ls (.int (x &&& y) :: st) h P := zt_bin (f := fun x y => x &&& y) zi_77_17 rfl (fun _ _ _ => rfl)
theorem zi_77_18 : z_ins 77 18 = some (.ifCond .ne 15, 3) := by decide +kernel
theorem ze_77_18 : z_T g d 77 18 ls (.int x :: st) h P = (if x = nI 0 then z_T g d 77 21 ls st h P else z_T g d 77 33 ls st h P) := zt_ifne zi_77_18 (by decide)
theorem zi_77_21 : z_ins 77 21 = some (.iload 4, 2) := by decide +kernel
theorem ze_77_21 : z_T g d 77 21 (v0 :: v1 :: v2 :: v3 :: .int x :: ls) st h P = z_T g d 77 23 (v0 :: v1 :: v2 :: v3 :: .int x :: ls) (.int x :: st) h P := zt_iload zi_77_21 rfl
theorem zi_77_23 : z_ins 77 23 = some (.iload 5, 2) := by decide +kernel
theorem ze_77_23 : z_T g d 77 23 (v0 :: v1 :: v2 :: v3 :: v4 :: .int x :: ls) st h P = z_T g d 77 25 (v0 :: v1 :: v2 :: v3 :: v4 :: .int x :: ls) (.int x :: st) h P := zt_iload zi_77_23 rfl
theorem zi_77_25 : z_ins 77 25 = some (.iand, 1) := by decide +kernel
theorem ze_77_25 : z_T g d 77 25 ls (.int y :: .int x :: st) h P = z_T g d 77 26 ls (.int (x &&& y) :: st) h P := zt_bin (f := fun x y => x &&& y) zi_77_25 rfl (fun _ _ _ => rfl)
theorem zi_77_26 : z_ins 77 26 = some (.ifCond .ne 7, 3) := by decide +kernel
theorem ze_77_26 : z_T g d 77 26 ls (.int x :: st) h P = (if x = nI 0 then z_T g d 77 29 ls st h P else z_T g d 77 33 ls st h P) := zt_ifne zi_77_26 (by decide)
theorem zi_77_29 : z_ins 77 29 = some (.iconst 1, 1) := by decide +kernel
theorem ze_77_29 : z_T g d 77 29 ls st h P = z_T g d 77 30 ls (.int (nI 1) :: st) h P := zt_iconst zi_77_29 rfl
theorem zi_77_30 : z_ins 77 30 = some (.goto 4, 3) := by decide +kernel
theorem ze_77_30 : z_T g d 77 30 ls st h P = z_T g d 77 34 ls st h P := zt_goto zi_77_30 (by decide)
theorem zi_77_33 : z_ins 77 33 = some (.iconst 0, 1) := by decide +kernel
theorem ze_77_33 : z_T g d 77 33 ls st h P = z_T g d 77 34 ls (.int (nI 0) :: st) h P := zt_iconst zi_77_33 rfl
theorem zi_77_34 : z_ins 77 34 = some (.ireturn, 1) := by decide +kernel
theorem ze_77_34 : z_T g d 77 34 ls [.int x] h P = ((x = nI 0 ∨ x = nI 1) ∧ P (.inr (some (.int x)), h)) := zt_zreturn zi_77_34 zr_77
-- LatinRectangles$Transversals.symbolBit(II)I
theorem zo_78 : z_own 78 = "LatinRectangles$Transversals" := by decide +kernel
theorem zm_78 : z_maxL 78 = 4 := by decide +kernel
theorem zh_78 : z_hds 78 = [] := by decide +kernel
theorem zr_78 : z_rt 78 = (some .int) := by decide +kernel
theorem zn_78 : z_Ca g d 78 [.ref a0, .int x1, .int x2] h P = z_T g d 78 0 [.ref a0, .int x1, .int x2, z_un] [] h P := z_Ca_ent zm_78 rfl rfl
theorem zi_78_0 : z_ins 78 0 = some (.aload_n 0, 1) := by decide +kernel
theorem ze_78_0 : z_T g d 78 0 (.ref a :: ls) st h P = z_T g d 78 1 (.ref a :: ls) (.ref a :: st) h P := zt_aloadn zi_78_0 rfl rfl
theorem zi_78_1 : z_ins 78 1 = some (.getfield 15, 3) := by decide +kernel
theorem ze_78_1 : z_T g d 78 1 ls (.ref a :: st) h P = z_gR h.1 a 8 0 (fun x => z_T g d 78 4 ls (.ref x :: st) h P) := zt_getR zi_78_1 ((congrArg (fun o => z_fl o 15) zo_78).trans zf_LatinRectangles_Transversals_15)
theorem zi_78_4 : z_ins 78 4 = some (.getfield 58, 3) := by decide +kernel
theorem ze_78_4 : z_T g d 78 4 ls (.ref a :: st) h P = z_gR h.1 a 3 0 (fun x => z_T g d 78 7 ls (.ref x :: st) h P) := zt_getR zi_78_4 ((congrArg (fun o => z_fl o 58) zo_78).trans zf_LatinRectangles_Transversals_58)
theorem zi_78_7 : z_ins 78 7 = some (.iload_n 1, 1) := by decide +kernel
theorem ze_78_7 : z_T g d 78 7 (v0 :: .int x :: ls) st h P = z_T g d 78 8 (v0 :: .int x :: ls) (.int x :: st) h P := zt_iloadn zi_78_7 rfl rfl
theorem zi_78_8 : z_ins 78 8 = some (.iconst 5, 1) := by decide +kernel
theorem ze_78_8 : z_T g d 78 8 ls st h P = z_T g d 78 9 ls (.int (nI 5) :: st) h P := zt_iconst zi_78_8 rfl
theorem zi_78_9 : z_ins 78 9 = some (.imul, 1) := by decide +kernel
theorem ze_78_9 : z_T g d 78 9 ls (.int y :: .int x :: st) h P = z_T g d 78 10 ls (.int (x * y) :: st) h P := zt_bin (f := fun x y => x * y) zi_78_9 rfl (fun _ _ _ => rfl)
theorem zi_78_10 : z_ins 78 10 = some (.iload_n 2, 1) := by decide +kernel
theorem ze_78_10 : z_T g d 78 10 (v0 :: v1 :: .int x :: ls) st h P = z_T g d 78 11 (v0 :: v1 :: .int x :: ls) (.int x :: st) h P := zt_iloadn zi_78_10 rfl rfl
theorem zi_78_11 : z_ins 78 11 = some (.iadd, 1) := by decide +kernel
theorem ze_78_11 : z_T g d 78 11 ls (.int y :: .int x :: st) h P = z_T g d 78 12 ls (.int (x + y) :: st) h P := zt_bin (f := fun x y => x + y) zi_78_11 rfl (fun _ _ _ => rfl)
theorem zi_78_12 : z_ins 78 12 = some (.iaload, 1) := by decide +kernel
theorem ze_78_12 : z_T g d 78 12 ls (.int x :: .ref a :: st) h P = z_aL h.1 a z_tI x (fun v => z_T g d 78 13 ls (.int v :: st) h P) := zt_iaload zi_78_12
theorem zi_78_13 : z_ins 78 13 = some (.istore_n 3, 1) := by decide +kernel
theorem ze_78_13 : z_T g d 78 13 (v0 :: v1 :: v2 :: v3 :: ls) (.int x :: st) h P = z_T g d 78 14 (v0 :: v1 :: v2 :: .int x :: ls) st h P := zt_istoren zi_78_13 rfl (Nat.le_add_left 4 _)
theorem zi_78_14 : z_ins 78 14 = some (.iload_n 3, 1) := by decide +kernel
theorem ze_78_14 : z_T g d 78 14 (v0 :: v1 :: v2 :: .int x :: ls) st h P = z_T g d 78 15 (v0 :: v1 :: v2 :: .int x :: ls) (.int x :: st) h P := zt_iloadn zi_78_14 rfl rfl
theorem zi_78_15 : z_ins 78 15 = some (.iconst (-1), 1) := by decide +kernel
theorem ze_78_15 : z_T g d 78 15 ls st h P = z_T g d 78 16 ls (.int (-1) :: st) h P := zt_iconst zi_78_15 rfl
theorem zi_78_16 : z_ins 78 16 = some (.if_icmp .ne 7, 3) := by decide +kernel
theorem ze_78_16 : z_T g d 78 16 ls (.int y :: .int x :: st) h P = (if x = y then z_T g d 78 19 ls st h P else z_T g d 78 23 ls st h P) := zt_icmpne zi_78_16 (by decide)
theorem zi_78_19 : z_ins 78 19 = some (.iconst 0, 1) := by decide +kernel
theorem ze_78_19 : z_T g d 78 19 ls st h P = z_T g d 78 20 ls (.int (nI 0) :: st) h P := zt_iconst zi_78_19 rfl
theorem zi_78_20 : z_ins 78 20 = some (.goto 6, 3) := by decide +kernel
theorem ze_78_20 : z_T g d 78 20 ls st h P = z_T g d 78 26 ls st h P := zt_goto zi_78_20 (by decide)
theorem zi_78_23 : z_ins 78 23 = some (.iconst 1, 1) := by decide +kernel
theorem ze_78_23 : z_T g d 78 23 ls st h P = z_T g d 78 24 ls (.int (nI 1) :: st) h P := zt_iconst zi_78_23 rfl
theorem zi_78_24 : z_ins 78 24 = some (.iload_n 3, 1) := by decide +kernel
theorem ze_78_24 : z_T g d 78 24 (v0 :: v1 :: v2 :: .int x :: ls) st h P = z_T g d 78 25 (v0 :: v1 :: v2 :: .int x :: ls) (.int x :: st) h P := zt_iloadn zi_78_24 rfl rfl
theorem zi_78_25 : z_ins 78 25 = some (.ishl, 1) := by decide +kernel
theorem ze_78_25 : z_T g d 78 25 ls (.int y :: .int x :: st) h P = z_T g d 78 26 ls (.int (x <<< (y &&& 31)) :: st) h P := zt_bin (f := fun x y => x <<< (y &&& 31)) zi_78_25 rfl (fun _ _ _ => rfl)
theorem zi_78_26 : z_ins 78 26 = some (.ireturn, 1) := by decide +kernel
theorem ze_78_26 : z_T g d 78 26 ls [.int x] h P = P (.inr (some (.int x)), h) := zt_ireturn zi_78_26 zr_78
end
