section
variable {g : z_G} {d : Nat} {h : z_H} {P : z_Res → Prop} {ls st : List Value} {v0 v1 v2 v3 v4 v5 v6 v7 v8 v9 v10 v11 vw : Value} {x y x0 x1 x2 x3 x4 x5 x6 : Int32} {a b a0 a1 a2 a3 a4 a5 k0 k1 k2 : Nat}
-- LatinRectangles$Completions.<init>(LLatinRectangles$Grid;)V
theorem zm_0 : z_maxL 0 = 2 := by decide +kernel
theorem zh_0 : z_hds 0 = [] := by decide +kernel
theorem zj_0 : z_jdk 0 = false := by decide +kernel
theorem zr_0 : z_rt 0 = none := by decide +kernel
theorem zn_0 : z_Ca g d 0 [.ref a0, .ref a1] h P = z_T g d 0 0 [.ref a0, .ref a1] [] h P := z_Ca_ent zm_0 rfl rfl
theorem zi_0_0 : z_ins 0 0 = some (.aload_n 0, 1) := by decide +kernel
theorem ze_0_0 : z_T g d 0 0 (.ref a :: ls) st h P = z_T g d 0 1 (.ref a :: ls) (.ref a :: st) h P := zt_aloadn zi_0_0 rfl rfl
theorem zi_0_1 : z_ins 0 1 = some (.invokespecial 3, 3) := by decide +kernel
theorem ze_0_1 : z_T g d 0 1 ls (.ref a :: st) h P = (z_okS 8 st = true ∧ z_T g d 0 4 ls st h P) := zt_objInit zi_0_1 ((congrArg (fun o => z_lookup z_ois (o, 3)) zo_0).trans zq_ois_LatinRectangles_Completions_3)
theorem zi_0_4 : z_ins 0 4 = some (.aload_n 0, 1) := by decide +kernel
theorem ze_0_4 : z_T g d 0 4 (.ref a :: ls) st h P = z_T g d 0 5 (.ref a :: ls) (.ref a :: st) h P := zt_aloadn zi_0_4 rfl rfl
theorem zi_0_5 : z_ins 0 5 = some (.new 9, 3) := by decide +kernel
theorem ze_0_5 : z_T g d 0 5 ls st h P = z_nO h 3 10 [.null, .null, .null, .null, .null, .int 0, .int 0, .int 0, .int 0, .int 0] (fun q h' => z_T g d 0 8 ls (.ref q :: st) h' P) := zt_new zi_0_5 (by decide +kernel)
theorem zi_0_8 : z_ins 0 8 = some (.dup, 1) := by decide +kernel
theorem ze_0_8 : z_T g d 0 8 ls (.ref a :: st) h P = z_T g d 0 9 ls (.ref a :: .ref a :: st) h P := zt_dup rfl zi_0_8
theorem ze_0_8_i : z_T g d 0 8 ls (.int x :: st) h P = z_T g d 0 9 ls (.int x :: .int x :: st) h P := zt_dup rfl zi_0_8
theorem zi_0_9 : z_ins 0 9 = some (.invokespecial 11, 3) := by decide +kernel
theorem ze_0_9 : z_T g d 0 9 ls (.ref a :: st) h P = ((z_okS 8 st = true ∧ 0 < d) ∧ z_Ca g (d - 1) 23 [.ref a] h (fun r => z_k r (fun v h' => z_T g d 0 12 ls (z_push v st) h' P) P)) := zt_cS (as := [.ref a]) (kk := 2) zi_0_9 rfl (zt_call zj_0 zh_0) (z_opI ((congrArg (fun o => z_lookup z_ois (o, 11)) zo_0).trans zq_ois_LatinRectangles_Completions_11)) ((congrArg (fun o => z_clk o 11) zo_0).trans zk_LatinRectangles_Completions_11) rfl rfl rfl rfl rfl
theorem zi_0_12 : z_ins 0 12 = some (.putfield 12, 3) := by decide +kernel
theorem ze_0_12 : z_T g d 0 12 ls (.ref b :: .ref a :: st) h P = z_pF h.1 a 0 1 (.ref b) (fun f => z_T g d 0 15 ls st (f, h.2) P) := zt_put zi_0_12 ((congrArg (fun o => z_fl o 12) zo_0).trans zf_LatinRectangles_Completions_12) (by decide +kernel) rfl rfl
theorem zi_0_15 : z_ins 0 15 = some (.aload_n 0, 1) := by decide +kernel
theorem ze_0_15 : z_T g d 0 15 (.ref a :: ls) st h P = z_T g d 0 16 (.ref a :: ls) (.ref a :: st) h P := zt_aloadn zi_0_15 rfl rfl
theorem zi_0_16 : z_ins 0 16 = some (.bipush 25, 2) := by decide +kernel
theorem ze_0_16 : z_T g d 0 16 ls st h P = z_T g d 0 18 ls (.int (nI 25) :: st) h P := zt_bipush zi_0_16 rfl
theorem zi_0_18 : z_ins 0 18 = some (.newarray .int, 2) := by decide +kernel
theorem ze_0_18 : z_T g d 0 18 ls (.int x :: st) h P = z_nA h .int x (fun q h' => z_T g d 0 20 ls (.ref q :: st) h' P) := zt_newarray zi_0_18
theorem zi_0_20 : z_ins 0 20 = some (.putfield 18, 3) := by decide +kernel
theorem ze_0_20 : z_T g d 0 20 ls (.ref b :: .ref a :: st) h P = z_pF h.1 a 0 2 (.ref b) (fun f => z_T g d 0 23 ls st (f, h.2) P) := zt_put zi_0_20 ((congrArg (fun o => z_fl o 18) zo_0).trans zf_LatinRectangles_Completions_18) (by decide +kernel) rfl rfl
theorem zi_0_23 : z_ins 0 23 = some (.aload_n 0, 1) := by decide +kernel
theorem ze_0_23 : z_T g d 0 23 (.ref a :: ls) st h P = z_T g d 0 24 (.ref a :: ls) (.ref a :: st) h P := zt_aloadn zi_0_23 rfl rfl
theorem zi_0_24 : z_ins 0 24 = some (.aload_n 1, 1) := by decide +kernel
theorem ze_0_24 : z_T g d 0 24 (v0 :: .ref a :: ls) st h P = z_T g d 0 25 (v0 :: .ref a :: ls) (.ref a :: st) h P := zt_aloadn zi_0_24 rfl rfl
theorem zi_0_25 : z_ins 0 25 = some (.putfield 22, 3) := by decide +kernel
theorem ze_0_25 : z_T g d 0 25 ls (.ref b :: .ref a :: st) h P = z_pF h.1 a 0 0 (.ref b) (fun f => z_T g d 0 28 ls st (f, h.2) P) := zt_put zi_0_25 ((congrArg (fun o => z_fl o 22) zo_0).trans zf_LatinRectangles_Completions_22) (by decide +kernel) rfl rfl
theorem zi_0_28 : z_ins 0 28 = some (.return_, 1) := by decide +kernel
theorem ze_0_28 : z_T g d 0 28 ls [] h P = P (.inr none, h) := zt_return zi_0_28 zr_0
-- LatinRectangles$Completions.count(I)I
theorem zm_1 : z_maxL 1 = 2 := by decide +kernel
theorem zh_1 : z_hds 1 = [] := by decide +kernel
theorem zj_1 : z_jdk 1 = false := by decide +kernel
theorem zr_1 : z_rt 1 = (some .int) := by decide +kernel
theorem zn_1 : z_Ca g d 1 [.ref a0, .int x1] h P = z_T g d 1 0 [.ref a0, .int x1] [] h P := z_Ca_ent zm_1 rfl rfl
theorem zi_1_0 : z_ins 1 0 = some (.aload_n 0, 1) := by decide +kernel
theorem ze_1_0 : z_T g d 1 0 (.ref a :: ls) st h P = z_T g d 1 1 (.ref a :: ls) (.ref a :: st) h P := zt_aloadn zi_1_0 rfl rfl
theorem zi_1_1 : z_ins 1 1 = some (.getfield 12, 3) := by decide +kernel
theorem ze_1_1 : z_T g d 1 1 ls (.ref a :: st) h P = z_gR h.1 a 0 1 (fun x => z_T g d 1 4 ls (x :: st) h P) := zt_getR zi_1_1 ((congrArg (fun o => z_fl o 12) zo_1).trans zf_LatinRectangles_Completions_12)
theorem zi_1_4 : z_ins 1 4 = some (.aload_n 0, 1) := by decide +kernel
theorem ze_1_4 : z_T g d 1 4 (.ref a :: ls) st h P = z_T g d 1 5 (.ref a :: ls) (.ref a :: st) h P := zt_aloadn zi_1_4 rfl rfl
theorem zi_1_5 : z_ins 1 5 = some (.getfield 22, 3) := by decide +kernel
theorem ze_1_5 : z_T g d 1 5 ls (.ref a :: st) h P = z_gR h.1 a 0 0 (fun x => z_T g d 1 8 ls (x :: st) h P) := zt_getR zi_1_5 ((congrArg (fun o => z_fl o 22) zo_1).trans zf_LatinRectangles_Completions_22)
theorem zi_1_8 : z_ins 1 8 = some (.invokevirtual 25, 3) := by decide +kernel
theorem ze_1_8 : z_T g d 1 8 ls (.ref a0 :: .ref a :: st) h P = ((z_okS 8 st = true ∧ z_gO h.1 a 3 ∧ 0 < d) ∧ z_Ca g (d - 1) 26 [.ref a, .ref a0] h (fun r => z_k r (fun v h' => z_T g d 1 11 ls (z_push v st) h' P) P)) := zt_cV (as := [.ref a0]) (kk := 0) zi_1_8 rfl (zt_call zj_1 zh_1) (z_opV ((congrArg (fun o => z_lookup z_cns (o, 25)) zo_1).trans zq_cns_LatinRectangles_Completions_25) ((congrArg (fun o => z_lookup z_prs (o, 25)) zo_1).trans zq_prs_LatinRectangles_Completions_25)) ((congrArg (fun o => z_clk o 25) zo_1).trans zk_LatinRectangles_Completions_25) rfl rfl rfl rfl (z_rcv0 zc_26)
theorem zi_1_11 : z_ins 1 11 = some (.aload_n 0, 1) := by decide +kernel
theorem ze_1_11 : z_T g d 1 11 (.ref a :: ls) st h P = z_T g d 1 12 (.ref a :: ls) (.ref a :: st) h P := zt_aloadn zi_1_11 rfl rfl
theorem zi_1_12 : z_ins 1 12 = some (.iload_n 1, 1) := by decide +kernel
theorem ze_1_12 : z_T g d 1 12 (v0 :: .int x :: ls) st h P = z_T g d 1 13 (v0 :: .int x :: ls) (.int x :: st) h P := zt_iloadn zi_1_12 rfl rfl
theorem zi_1_13 : z_ins 1 13 = some (.invokevirtual 29, 3) := by decide +kernel
theorem ze_1_13 : z_T g d 1 13 ls (.int x0 :: .ref a :: st) h P = ((z_okS 8 st = true ∧ z_gO h.1 a 0 ∧ 0 < d) ∧ z_Ca g (d - 1) 5 [.ref a, .int x0] h (fun r => z_k r (fun v h' => z_T g d 1 16 ls (z_push v st) h' P) P)) := zt_cV (as := [.int x0]) (kk := 0) zi_1_13 rfl (zt_call zj_1 zh_1) (z_opV ((congrArg (fun o => z_lookup z_cns (o, 29)) zo_1).trans zq_cns_LatinRectangles_Completions_29) ((congrArg (fun o => z_lookup z_prs (o, 29)) zo_1).trans zq_prs_LatinRectangles_Completions_29)) ((congrArg (fun o => z_clk o 29) zo_1).trans zk_LatinRectangles_Completions_29) rfl rfl rfl rfl (z_rcv0 zc_5)
theorem zi_1_16 : z_ins 1 16 = some (.ireturn, 1) := by decide +kernel
theorem ze_1_16 : z_T g d 1 16 ls [.int x] h P = P (.inr (some (.int x)), h) := zt_ireturn zi_1_16 zr_1
-- LatinRectangles$Completions.firstSymbol(II)I
theorem zm_2 : z_maxL 2 = 5 := by decide +kernel
theorem zh_2 : z_hds 2 = [] := by decide +kernel
theorem zj_2 : z_jdk 2 = false := by decide +kernel
theorem zr_2 : z_rt 2 = (some .int) := by decide +kernel
theorem zn_2 : z_Ca g d 2 [.ref a0, .int x1, .int x2] h P = z_T g d 2 0 [.ref a0, .int x1, .int x2, z_un, z_un] [] h P := z_Ca_ent zm_2 rfl rfl
theorem zi_2_0 : z_ins 2 0 = some (.aload_n 0, 1) := by decide +kernel
theorem ze_2_0 : z_T g d 2 0 (.ref a :: ls) st h P = z_T g d 2 1 (.ref a :: ls) (.ref a :: st) h P := zt_aloadn zi_2_0 rfl rfl
theorem zi_2_1 : z_ins 2 1 = some (.getfield 12, 3) := by decide +kernel
theorem ze_2_1 : z_T g d 2 1 ls (.ref a :: st) h P = z_gR h.1 a 0 1 (fun x => z_T g d 2 4 ls (x :: st) h P) := zt_getR zi_2_1 ((congrArg (fun o => z_fl o 12) zo_2).trans zf_LatinRectangles_Completions_12)
theorem zi_2_4 : z_ins 2 4 = some (.aload_n 0, 1) := by decide +kernel
theorem ze_2_4 : z_T g d 2 4 (.ref a :: ls) st h P = z_T g d 2 5 (.ref a :: ls) (.ref a :: st) h P := zt_aloadn zi_2_4 rfl rfl
theorem zi_2_5 : z_ins 2 5 = some (.getfield 22, 3) := by decide +kernel
theorem ze_2_5 : z_T g d 2 5 ls (.ref a :: st) h P = z_gR h.1 a 0 0 (fun x => z_T g d 2 8 ls (x :: st) h P) := zt_getR zi_2_5 ((congrArg (fun o => z_fl o 22) zo_2).trans zf_LatinRectangles_Completions_22)
theorem zi_2_8 : z_ins 2 8 = some (.invokevirtual 25, 3) := by decide +kernel
theorem ze_2_8 : z_T g d 2 8 ls (.ref a0 :: .ref a :: st) h P = ((z_okS 8 st = true ∧ z_gO h.1 a 3 ∧ 0 < d) ∧ z_Ca g (d - 1) 26 [.ref a, .ref a0] h (fun r => z_k r (fun v h' => z_T g d 2 11 ls (z_push v st) h' P) P)) := zt_cV (as := [.ref a0]) (kk := 0) zi_2_8 rfl (zt_call zj_2 zh_2) (z_opV ((congrArg (fun o => z_lookup z_cns (o, 25)) zo_2).trans zq_cns_LatinRectangles_Completions_25) ((congrArg (fun o => z_lookup z_prs (o, 25)) zo_2).trans zq_prs_LatinRectangles_Completions_25)) ((congrArg (fun o => z_clk o 25) zo_2).trans zk_LatinRectangles_Completions_25) rfl rfl rfl rfl (z_rcv0 zc_26)
theorem zi_2_11 : z_ins 2 11 = some (.aload_n 0, 1) := by decide +kernel
theorem ze_2_11 : z_T g d 2 11 (.ref a :: ls) st h P = z_T g d 2 12 (.ref a :: ls) (.ref a :: st) h P := zt_aloadn zi_2_11 rfl rfl
theorem zi_2_12 : z_ins 2 12 = some (.iconst 1, 1) := by decide +kernel
theorem ze_2_12 : z_T g d 2 12 ls st h P = z_T g d 2 13 ls (.int (nI 1) :: st) h P := zt_iconst zi_2_12 rfl
theorem zi_2_13 : z_ins 2 13 = some (.invokevirtual 29, 3) := by decide +kernel
theorem ze_2_13 : z_T g d 2 13 ls (.int x0 :: .ref a :: st) h P = ((z_okS 8 st = true ∧ z_gO h.1 a 0 ∧ 0 < d) ∧ z_Ca g (d - 1) 5 [.ref a, .int x0] h (fun r => z_k r (fun v h' => z_T g d 2 16 ls (z_push v st) h' P) P)) := zt_cV (as := [.int x0]) (kk := 0) zi_2_13 rfl (zt_call zj_2 zh_2) (z_opV ((congrArg (fun o => z_lookup z_cns (o, 29)) zo_2).trans zq_cns_LatinRectangles_Completions_29) ((congrArg (fun o => z_lookup z_prs (o, 29)) zo_2).trans zq_prs_LatinRectangles_Completions_29)) ((congrArg (fun o => z_clk o 29) zo_2).trans zk_LatinRectangles_Completions_29) rfl rfl rfl rfl (z_rcv0 zc_5)
theorem zi_2_16 : z_ins 2 16 = some (.ifCond .ne 5, 3) := by decide +kernel
theorem ze_2_16 : z_T g d 2 16 ls (.int x :: st) h P = (if x = nI 0 then z_T g d 2 19 ls st h P else z_T g d 2 21 ls st h P) := zt_ifne zi_2_16 (by decide)
theorem zi_2_19 : z_ins 2 19 = some (.iconst (-1), 1) := by decide +kernel
theorem ze_2_19 : z_T g d 2 19 ls st h P = z_T g d 2 20 ls (.int (-1) :: st) h P := zt_iconst zi_2_19 rfl
theorem zi_2_20 : z_ins 2 20 = some (.ireturn, 1) := by decide +kernel
theorem ze_2_20 : z_T g d 2 20 ls [.int x] h P = P (.inr (some (.int x)), h) := zt_ireturn zi_2_20 zr_2
theorem zi_2_21 : z_ins 2 21 = some (.iload_n 1, 1) := by decide +kernel
theorem ze_2_21 : z_T g d 2 21 (v0 :: .int x :: ls) st h P = z_T g d 2 22 (v0 :: .int x :: ls) (.int x :: st) h P := zt_iloadn zi_2_21 rfl rfl
theorem zi_2_22 : z_ins 2 22 = some (.iconst 5, 1) := by decide +kernel
theorem ze_2_22 : z_T g d 2 22 ls st h P = z_T g d 2 23 ls (.int (nI 5) :: st) h P := zt_iconst zi_2_22 rfl
theorem zi_2_23 : z_ins 2 23 = some (.imul, 1) := by decide +kernel
theorem ze_2_23 : z_T g d 2 23 ls (.int y :: .int x :: st) h P = z_T g d 2 24 ls (.int (x * y) :: st) h P := zt_bin (f := fun x y => x * y) zi_2_23 rfl (fun _ _ _ => rfl)
theorem zi_2_24 : z_ins 2 24 = some (.iload_n 2, 1) := by decide +kernel
theorem ze_2_24 : z_T g d 2 24 (v0 :: v1 :: .int x :: ls) st h P = z_T g d 2 25 (v0 :: v1 :: .int x :: ls) (.int x :: st) h P := zt_iloadn zi_2_24 rfl rfl
theorem zi_2_25 : z_ins 2 25 = some (.iadd, 1) := by decide +kernel
theorem ze_2_25 : z_T g d 2 25 ls (.int y :: .int x :: st) h P = z_T g d 2 26 ls (.int (x + y) :: st) h P := zt_bin (f := fun x y => x + y) zi_2_25 rfl (fun _ _ _ => rfl)
theorem zi_2_26 : z_ins 2 26 = some (.istore_n 3, 1) := by decide +kernel
theorem ze_2_26 : z_T g d 2 26 (v0 :: v1 :: v2 :: v3 :: ls) (.int x :: st) h P = z_T g d 2 27 (v0 :: v1 :: v2 :: .int x :: ls) st h P := zt_istoren zi_2_26 rfl (Nat.le_add_left 4 _)
theorem zi_2_27 : z_ins 2 27 = some (.iconst 0, 1) := by decide +kernel
theorem ze_2_27 : z_T g d 2 27 ls st h P = z_T g d 2 28 ls (.int (nI 0) :: st) h P := zt_iconst zi_2_27 rfl
theorem zi_2_28 : z_ins 2 28 = some (.istore 4, 2) := by decide +kernel
theorem ze_2_28 : z_T g d 2 28 (v0 :: v1 :: v2 :: v3 :: v4 :: ls) (.int x :: st) h P = z_T g d 2 30 (v0 :: v1 :: v2 :: v3 :: .int x :: ls) st h P := zt_istore zi_2_28 (Nat.le_add_left 5 _)
theorem zi_2_30 : z_ins 2 30 = some (.iload 4, 2) := by decide +kernel
theorem ze_2_30 : z_T g d 2 30 (v0 :: v1 :: v2 :: v3 :: .int x :: ls) st h P = z_T g d 2 32 (v0 :: v1 :: v2 :: v3 :: .int x :: ls) (.int x :: st) h P := zt_iload zi_2_30 rfl
theorem zi_2_32 : z_ins 2 32 = some (.iload_n 3, 1) := by decide +kernel
theorem ze_2_32 : z_T g d 2 32 (v0 :: v1 :: v2 :: .int x :: ls) st h P = z_T g d 2 33 (v0 :: v1 :: v2 :: .int x :: ls) (.int x :: st) h P := zt_iloadn zi_2_32 rfl rfl
theorem zi_2_33 : z_ins 2 33 = some (.if_icmp .gt 49, 3) := by decide +kernel
theorem ze_2_33 : z_T g d 2 33 ls (.int y :: .int x :: st) h P = (if y < x then z_T g d 2 82 ls st h P else z_T g d 2 36 ls st h P) := zt_icmpgt zi_2_33 (by decide)
theorem zi_2_36 : z_ins 2 36 = some (.iload 4, 2) := by decide +kernel
theorem ze_2_36 : z_T g d 2 36 (v0 :: v1 :: v2 :: v3 :: .int x :: ls) st h P = z_T g d 2 38 (v0 :: v1 :: v2 :: v3 :: .int x :: ls) (.int x :: st) h P := zt_iload zi_2_36 rfl
theorem zi_2_38 : z_ins 2 38 = some (.iconst 5, 1) := by decide +kernel
theorem ze_2_38 : z_T g d 2 38 ls st h P = z_T g d 2 39 ls (.int (nI 5) :: st) h P := zt_iconst zi_2_38 rfl
theorem zi_2_39 : z_ins 2 39 = some (.irem, 1) := by decide +kernel
theorem ze_2_39 : z_T g d 2 39 ls (.int y :: .int x :: st) h P = (¬ y = nI 0 ∧ z_T g d 2 40 ls (.int (x - x / y * y) :: st) h P) := zt_irem zi_2_39
theorem zi_2_40 : z_ins 2 40 = some (.aload_n 0, 1) := by decide +kernel
theorem ze_2_40 : z_T g d 2 40 (.ref a :: ls) st h P = z_T g d 2 41 (.ref a :: ls) (.ref a :: st) h P := zt_aloadn zi_2_40 rfl rfl
theorem zi_2_41 : z_ins 2 41 = some (.getfield 12, 3) := by decide +kernel
theorem ze_2_41 : z_T g d 2 41 ls (.ref a :: st) h P = z_gR h.1 a 0 1 (fun x => z_T g d 2 44 ls (x :: st) h P) := zt_getR zi_2_41 ((congrArg (fun o => z_fl o 12) zo_2).trans zf_LatinRectangles_Completions_12)
theorem zi_2_44 : z_ins 2 44 = some (.getfield 33, 3) := by decide +kernel
theorem ze_2_44 : z_T g d 2 44 ls (.ref a :: st) h P = z_gI h.1 a 3 6 (fun x => z_T g d 2 47 ls (.int x :: st) h P) := zt_getI zi_2_44 ((congrArg (fun o => z_fl o 33) zo_2).trans zf_LatinRectangles_Completions_33)
theorem zi_2_47 : z_ins 2 47 = some (.if_icmp .ge 29, 3) := by decide +kernel
theorem ze_2_47 : z_T g d 2 47 ls (.int y :: .int x :: st) h P = (if x < y then z_T g d 2 50 ls st h P else z_T g d 2 76 ls st h P) := zt_icmpge zi_2_47 (by decide)
theorem zi_2_50 : z_ins 2 50 = some (.aload_n 0, 1) := by decide +kernel
theorem ze_2_50 : z_T g d 2 50 (.ref a :: ls) st h P = z_T g d 2 51 (.ref a :: ls) (.ref a :: st) h P := zt_aloadn zi_2_50 rfl rfl
theorem zi_2_51 : z_ins 2 51 = some (.getfield 12, 3) := by decide +kernel
theorem ze_2_51 : z_T g d 2 51 ls (.ref a :: st) h P = z_gR h.1 a 0 1 (fun x => z_T g d 2 54 ls (x :: st) h P) := zt_getR zi_2_51 ((congrArg (fun o => z_fl o 12) zo_2).trans zf_LatinRectangles_Completions_12)
theorem zi_2_54 : z_ins 2 54 = some (.getfield 37, 3) := by decide +kernel
theorem ze_2_54 : z_T g d 2 54 ls (.ref a :: st) h P = z_gR h.1 a 3 0 (fun x => z_T g d 2 57 ls (x :: st) h P) := zt_getR zi_2_54 ((congrArg (fun o => z_fl o 37) zo_2).trans zf_LatinRectangles_Completions_37)
theorem zi_2_57 : z_ins 2 57 = some (.iload 4, 2) := by decide +kernel
theorem ze_2_57 : z_T g d 2 57 (v0 :: v1 :: v2 :: v3 :: .int x :: ls) st h P = z_T g d 2 59 (v0 :: v1 :: v2 :: v3 :: .int x :: ls) (.int x :: st) h P := zt_iload zi_2_57 rfl
theorem zi_2_59 : z_ins 2 59 = some (.iaload, 1) := by decide +kernel
theorem ze_2_59 : z_T g d 2 59 ls (.int x :: .ref a :: st) h P = z_aL h.1 a z_tI x (fun v => z_T g d 2 60 ls (.int v :: st) h P) := zt_iaload zi_2_59
theorem zi_2_60 : z_ins 2 60 = some (.iconst (-1), 1) := by decide +kernel
theorem ze_2_60 : z_T g d 2 60 ls st h P = z_T g d 2 61 ls (.int (-1) :: st) h P := zt_iconst zi_2_60 rfl
theorem zi_2_61 : z_ins 2 61 = some (.if_icmp .ne 15, 3) := by decide +kernel
theorem ze_2_61 : z_T g d 2 61 ls (.int y :: .int x :: st) h P = (if x = y then z_T g d 2 64 ls st h P else z_T g d 2 76 ls st h P) := zt_icmpne zi_2_61 (by decide)
theorem zi_2_64 : z_ins 2 64 = some (.aload_n 0, 1) := by decide +kernel
theorem ze_2_64 : z_T g d 2 64 (.ref a :: ls) st h P = z_T g d 2 65 (.ref a :: ls) (.ref a :: st) h P := zt_aloadn zi_2_64 rfl rfl
theorem zi_2_65 : z_ins 2 65 = some (.iload 4, 2) := by decide +kernel
theorem ze_2_65 : z_T g d 2 65 (v0 :: v1 :: v2 :: v3 :: .int x :: ls) st h P = z_T g d 2 67 (v0 :: v1 :: v2 :: v3 :: .int x :: ls) (.int x :: st) h P := zt_iload zi_2_65 rfl
theorem zi_2_67 : z_ins 2 67 = some (.iconst 5, 1) := by decide +kernel
theorem ze_2_67 : z_T g d 2 67 ls st h P = z_T g d 2 68 ls (.int (nI 5) :: st) h P := zt_iconst zi_2_67 rfl
theorem zi_2_68 : z_ins 2 68 = some (.idiv, 1) := by decide +kernel
theorem ze_2_68 : z_T g d 2 68 ls (.int y :: .int x :: st) h P = (¬ y = nI 0 ∧ z_T g d 2 69 ls (.int (x / y) :: st) h P) := zt_idiv zi_2_68
theorem zi_2_69 : z_ins 2 69 = some (.iload 4, 2) := by decide +kernel
theorem ze_2_69 : z_T g d 2 69 (v0 :: v1 :: v2 :: v3 :: .int x :: ls) st h P = z_T g d 2 71 (v0 :: v1 :: v2 :: v3 :: .int x :: ls) (.int x :: st) h P := zt_iload zi_2_69 rfl
theorem zi_2_71 : z_ins 2 71 = some (.iconst 5, 1) := by decide +kernel
theorem ze_2_71 : z_T g d 2 71 ls st h P = z_T g d 2 72 ls (.int (nI 5) :: st) h P := zt_iconst zi_2_71 rfl
theorem zi_2_72 : z_ins 2 72 = some (.irem, 1) := by decide +kernel
theorem ze_2_72 : z_T g d 2 72 ls (.int y :: .int x :: st) h P = (¬ y = nI 0 ∧ z_T g d 2 73 ls (.int (x - x / y * y) :: st) h P) := zt_irem zi_2_72
theorem zi_2_73 : z_ins 2 73 = some (.invokevirtual 40, 3) := by decide +kernel
theorem ze_2_73 : z_T g d 2 73 ls (.int x1 :: .int x0 :: .ref a :: st) h P = ((z_okS 8 st = true ∧ z_gO h.1 a 0 ∧ 0 < d) ∧ z_Ca g (d - 1) 4 [.ref a, .int x0, .int x1] h (fun r => z_k r (fun v h' => z_T g d 2 76 ls (z_push v st) h' P) P)) := zt_cV (as := [.int x0, .int x1]) (kk := 0) zi_2_73 rfl (zt_call zj_2 zh_2) (z_opV ((congrArg (fun o => z_lookup z_cns (o, 40)) zo_2).trans zq_cns_LatinRectangles_Completions_40) ((congrArg (fun o => z_lookup z_prs (o, 40)) zo_2).trans zq_prs_LatinRectangles_Completions_40)) ((congrArg (fun o => z_clk o 40) zo_2).trans zk_LatinRectangles_Completions_40) rfl rfl rfl rfl (z_rcv0 zc_4)
theorem zi_2_76 : z_ins 2 76 = some (.iinc 4 1, 3) := by decide +kernel
theorem ze_2_76 : z_T g d 2 76 (v0 :: v1 :: v2 :: v3 :: .int x :: ls) st h P = z_T g d 2 79 (v0 :: v1 :: v2 :: v3 :: .int (x + (nI 1)) :: ls) st h P := zt_iinc zi_2_76 rfl rfl
theorem zi_2_79 : z_ins 2 79 = some (.goto (-49), 3) := by decide +kernel
theorem ze_2_79 : z_T g d 2 79 ls st h P = z_T g d 2 30 ls st h P := zt_goto zi_2_79 (by decide)
theorem zi_2_82 : z_ins 2 82 = some (.aload_n 0, 1) := by decide +kernel
theorem ze_2_82 : z_T g d 2 82 (.ref a :: ls) st h P = z_T g d 2 83 (.ref a :: ls) (.ref a :: st) h P := zt_aloadn zi_2_82 rfl rfl
theorem zi_2_83 : z_ins 2 83 = some (.getfield 12, 3) := by decide +kernel
theorem ze_2_83 : z_T g d 2 83 ls (.ref a :: st) h P = z_gR h.1 a 0 1 (fun x => z_T g d 2 86 ls (x :: st) h P) := zt_getR zi_2_83 ((congrArg (fun o => z_fl o 12) zo_2).trans zf_LatinRectangles_Completions_12)
theorem zi_2_86 : z_ins 2 86 = some (.getfield 37, 3) := by decide +kernel
theorem ze_2_86 : z_T g d 2 86 ls (.ref a :: st) h P = z_gR h.1 a 3 0 (fun x => z_T g d 2 89 ls (x :: st) h P) := zt_getR zi_2_86 ((congrArg (fun o => z_fl o 37) zo_2).trans zf_LatinRectangles_Completions_37)
theorem zi_2_89 : z_ins 2 89 = some (.iload_n 3, 1) := by decide +kernel
theorem ze_2_89 : z_T g d 2 89 (v0 :: v1 :: v2 :: .int x :: ls) st h P = z_T g d 2 90 (v0 :: v1 :: v2 :: .int x :: ls) (.int x :: st) h P := zt_iloadn zi_2_89 rfl rfl
theorem zi_2_90 : z_ins 2 90 = some (.iaload, 1) := by decide +kernel
theorem ze_2_90 : z_T g d 2 90 ls (.int x :: .ref a :: st) h P = z_aL h.1 a z_tI x (fun v => z_T g d 2 91 ls (.int v :: st) h P) := zt_iaload zi_2_90
theorem zi_2_91 : z_ins 2 91 = some (.ireturn, 1) := by decide +kernel
theorem ze_2_91 : z_T g d 2 91 ls [.int x] h P = P (.inr (some (.int x)), h) := zt_ireturn zi_2_91 zr_2
-- LatinRectangles$Completions.possibleBits(II)I
theorem zm_3 : z_maxL 3 = 7 := by decide +kernel
theorem zh_3 : z_hds 3 = [] := by decide +kernel
theorem zj_3 : z_jdk 3 = false := by decide +kernel
theorem zr_3 : z_rt 3 = (some .int) := by decide +kernel
theorem zn_3 : z_Ca g d 3 [.ref a0, .int x1, .int x2] h P = z_T g d 3 0 [.ref a0, .int x1, .int x2, z_un, z_un, z_un, z_un] [] h P := z_Ca_ent zm_3 rfl rfl
theorem zi_3_0 : z_ins 3 0 = some (.aload_n 0, 1) := by decide +kernel
theorem ze_3_0 : z_T g d 3 0 (.ref a :: ls) st h P = z_T g d 3 1 (.ref a :: ls) (.ref a :: st) h P := zt_aloadn zi_3_0 rfl rfl
theorem zi_3_1 : z_ins 3 1 = some (.getfield 12, 3) := by decide +kernel
theorem ze_3_1 : z_T g d 3 1 ls (.ref a :: st) h P = z_gR h.1 a 0 1 (fun x => z_T g d 3 4 ls (x :: st) h P) := zt_getR zi_3_1 ((congrArg (fun o => z_fl o 12) zo_3).trans zf_LatinRectangles_Completions_12)
theorem zi_3_4 : z_ins 3 4 = some (.aload_n 0, 1) := by decide +kernel
theorem ze_3_4 : z_T g d 3 4 (.ref a :: ls) st h P = z_T g d 3 5 (.ref a :: ls) (.ref a :: st) h P := zt_aloadn zi_3_4 rfl rfl
theorem zi_3_5 : z_ins 3 5 = some (.getfield 22, 3) := by decide +kernel
theorem ze_3_5 : z_T g d 3 5 ls (.ref a :: st) h P = z_gR h.1 a 0 0 (fun x => z_T g d 3 8 ls (x :: st) h P) := zt_getR zi_3_5 ((congrArg (fun o => z_fl o 22) zo_3).trans zf_LatinRectangles_Completions_22)
theorem zi_3_8 : z_ins 3 8 = some (.invokevirtual 25, 3) := by decide +kernel
theorem ze_3_8 : z_T g d 3 8 ls (.ref a0 :: .ref a :: st) h P = ((z_okS 8 st = true ∧ z_gO h.1 a 3 ∧ 0 < d) ∧ z_Ca g (d - 1) 26 [.ref a, .ref a0] h (fun r => z_k r (fun v h' => z_T g d 3 11 ls (z_push v st) h' P) P)) := zt_cV (as := [.ref a0]) (kk := 0) zi_3_8 rfl (zt_call zj_3 zh_3) (z_opV ((congrArg (fun o => z_lookup z_cns (o, 25)) zo_3).trans zq_cns_LatinRectangles_Completions_25) ((congrArg (fun o => z_lookup z_prs (o, 25)) zo_3).trans zq_prs_LatinRectangles_Completions_25)) ((congrArg (fun o => z_clk o 25) zo_3).trans zk_LatinRectangles_Completions_25) rfl rfl rfl rfl (z_rcv0 zc_26)
theorem zi_3_11 : z_ins 3 11 = some (.aload_n 0, 1) := by decide +kernel
theorem ze_3_11 : z_T g d 3 11 (.ref a :: ls) st h P = z_T g d 3 12 (.ref a :: ls) (.ref a :: st) h P := zt_aloadn zi_3_11 rfl rfl
theorem zi_3_12 : z_ins 3 12 = some (.getfield 12, 3) := by decide +kernel
theorem ze_3_12 : z_T g d 3 12 ls (.ref a :: st) h P = z_gR h.1 a 0 1 (fun x => z_T g d 3 15 ls (x :: st) h P) := zt_getR zi_3_12 ((congrArg (fun o => z_fl o 12) zo_3).trans zf_LatinRectangles_Completions_12)
theorem zi_3_15 : z_ins 3 15 = some (.getfield 37, 3) := by decide +kernel
theorem ze_3_15 : z_T g d 3 15 ls (.ref a :: st) h P = z_gR h.1 a 3 0 (fun x => z_T g d 3 18 ls (x :: st) h P) := zt_getR zi_3_15 ((congrArg (fun o => z_fl o 37) zo_3).trans zf_LatinRectangles_Completions_37)
theorem zi_3_18 : z_ins 3 18 = some (.iload_n 1, 1) := by decide +kernel
theorem ze_3_18 : z_T g d 3 18 (v0 :: .int x :: ls) st h P = z_T g d 3 19 (v0 :: .int x :: ls) (.int x :: st) h P := zt_iloadn zi_3_18 rfl rfl
theorem zi_3_19 : z_ins 3 19 = some (.iconst 5, 1) := by decide +kernel
theorem ze_3_19 : z_T g d 3 19 ls st h P = z_T g d 3 20 ls (.int (nI 5) :: st) h P := zt_iconst zi_3_19 rfl
theorem zi_3_20 : z_ins 3 20 = some (.imul, 1) := by decide +kernel
theorem ze_3_20 : z_T g d 3 20 ls (.int y :: .int x :: st) h P = z_T g d 3 21 ls (.int (x * y) :: st) h P := zt_bin (f := fun x y => x * y) zi_3_20 rfl (fun _ _ _ => rfl)
theorem zi_3_21 : z_ins 3 21 = some (.iload_n 2, 1) := by decide +kernel
theorem ze_3_21 : z_T g d 3 21 (v0 :: v1 :: .int x :: ls) st h P = z_T g d 3 22 (v0 :: v1 :: .int x :: ls) (.int x :: st) h P := zt_iloadn zi_3_21 rfl rfl
theorem zi_3_22 : z_ins 3 22 = some (.iadd, 1) := by decide +kernel
theorem ze_3_22 : z_T g d 3 22 ls (.int y :: .int x :: st) h P = z_T g d 3 23 ls (.int (x + y) :: st) h P := zt_bin (f := fun x y => x + y) zi_3_22 rfl (fun _ _ _ => rfl)
theorem zi_3_23 : z_ins 3 23 = some (.iaload, 1) := by decide +kernel
theorem ze_3_23 : z_T g d 3 23 ls (.int x :: .ref a :: st) h P = z_aL h.1 a z_tI x (fun v => z_T g d 3 24 ls (.int v :: st) h P) := zt_iaload zi_3_23
theorem zi_3_24 : z_ins 3 24 = some (.istore_n 3, 1) := by decide +kernel
theorem ze_3_24 : z_T g d 3 24 (v0 :: v1 :: v2 :: v3 :: ls) (.int x :: st) h P = z_T g d 3 25 (v0 :: v1 :: v2 :: .int x :: ls) st h P := zt_istoren zi_3_24 rfl (Nat.le_add_left 4 _)
theorem zi_3_25 : z_ins 3 25 = some (.iload_n 3, 1) := by decide +kernel
theorem ze_3_25 : z_T g d 3 25 (v0 :: v1 :: v2 :: .int x :: ls) st h P = z_T g d 3 26 (v0 :: v1 :: v2 :: .int x :: ls) (.int x :: st) h P := zt_iloadn zi_3_25 rfl rfl
theorem zi_3_26 : z_ins 3 26 = some (.iconst (-1), 1) := by decide +kernel
theorem ze_3_26 : z_T g d 3 26 ls st h P = z_T g d 3 27 ls (.int (-1) :: st) h P := zt_iconst zi_3_26 rfl
theorem zi_3_27 : z_ins 3 27 = some (.if_icmp .eq 19, 3) := by decide +kernel
theorem ze_3_27 : z_T g d 3 27 ls (.int y :: .int x :: st) h P = (if x = y then z_T g d 3 46 ls st h P else z_T g d 3 30 ls st h P) := zt_icmpeq zi_3_27 (by decide)
theorem zi_3_30 : z_ins 3 30 = some (.aload_n 0, 1) := by decide +kernel
theorem ze_3_30 : z_T g d 3 30 (.ref a :: ls) st h P = z_T g d 3 31 (.ref a :: ls) (.ref a :: st) h P := zt_aloadn zi_3_30 rfl rfl
theorem zi_3_31 : z_ins 3 31 = some (.iconst 1, 1) := by decide +kernel
theorem ze_3_31 : z_T g d 3 31 ls st h P = z_T g d 3 32 ls (.int (nI 1) :: st) h P := zt_iconst zi_3_31 rfl
theorem zi_3_32 : z_ins 3 32 = some (.invokevirtual 29, 3) := by decide +kernel
theorem ze_3_32 : z_T g d 3 32 ls (.int x0 :: .ref a :: st) h P = ((z_okS 8 st = true ∧ z_gO h.1 a 0 ∧ 0 < d) ∧ z_Ca g (d - 1) 5 [.ref a, .int x0] h (fun r => z_k r (fun v h' => z_T g d 3 35 ls (z_push v st) h' P) P)) := zt_cV (as := [.int x0]) (kk := 0) zi_3_32 rfl (zt_call zj_3 zh_3) (z_opV ((congrArg (fun o => z_lookup z_cns (o, 29)) zo_3).trans zq_cns_LatinRectangles_Completions_29) ((congrArg (fun o => z_lookup z_prs (o, 29)) zo_3).trans zq_prs_LatinRectangles_Completions_29)) ((congrArg (fun o => z_clk o 29) zo_3).trans zk_LatinRectangles_Completions_29) rfl rfl rfl rfl (z_rcv0 zc_5)
theorem zi_3_35 : z_ins 3 35 = some (.ifCond .ne 7, 3) := by decide +kernel
theorem ze_3_35 : z_T g d 3 35 ls (.int x :: st) h P = (if x = nI 0 then z_T g d 3 38 ls st h P else z_T g d 3 42 ls st h P) := zt_ifne zi_3_35 (by decide)
theorem zi_3_38 : z_ins 3 38 = some (.iconst 0, 1) := by decide +kernel
theorem ze_3_38 : z_T g d 3 38 ls st h P = z_T g d 3 39 ls (.int (nI 0) :: st) h P := zt_iconst zi_3_38 rfl
theorem zi_3_39 : z_ins 3 39 = some (.goto 6, 3) := by decide +kernel
theorem ze_3_39 : z_T g d 3 39 ls st h P = z_T g d 3 45 ls st h P := zt_goto zi_3_39 (by decide)
theorem zi_3_42 : z_ins 3 42 = some (.iconst 1, 1) := by decide +kernel
theorem ze_3_42 : z_T g d 3 42 ls st h P = z_T g d 3 43 ls (.int (nI 1) :: st) h P := zt_iconst zi_3_42 rfl
theorem zi_3_43 : z_ins 3 43 = some (.iload_n 3, 1) := by decide +kernel
theorem ze_3_43 : z_T g d 3 43 (v0 :: v1 :: v2 :: .int x :: ls) st h P = z_T g d 3 44 (v0 :: v1 :: v2 :: .int x :: ls) (.int x :: st) h P := zt_iloadn zi_3_43 rfl rfl
theorem zi_3_44 : z_ins 3 44 = some (.ishl, 1) := by decide +kernel
theorem ze_3_44 : z_T g d 3 44 ls (.int y :: .int x :: st) h P = z_T g d 3 45 ls (.int (x <<< (y &&& 31)) :: st) h P := zt_bin (f := fun x y => x <<< (y &&& 31)) zi_3_44 rfl (fun _ _ _ => rfl)
theorem zi_3_45 : z_ins 3 45 = some (.ireturn, 1) := by decide +kernel
theorem ze_3_45 : z_T g d 3 45 ls [.int x] h P = P (.inr (some (.int x)), h) := zt_ireturn zi_3_45 zr_3
theorem zi_3_46 : z_ins 3 46 = some (.iconst 0, 1) := by decide +kernel
theorem ze_3_46 : z_T g d 3 46 ls st h P = z_T g d 3 47 ls (.int (nI 0) :: st) h P := zt_iconst zi_3_46 rfl
theorem zi_3_47 : z_ins 3 47 = some (.istore 4, 2) := by decide +kernel
theorem ze_3_47 : z_T g d 3 47 (v0 :: v1 :: v2 :: v3 :: v4 :: ls) (.int x :: st) h P = z_T g d 3 49 (v0 :: v1 :: v2 :: v3 :: .int x :: ls) st h P := zt_istore zi_3_47 (Nat.le_add_left 5 _)
theorem zi_3_49 : z_ins 3 49 = some (.aload_n 0, 1) := by decide +kernel
theorem ze_3_49 : z_T g d 3 49 (.ref a :: ls) st h P = z_T g d 3 50 (.ref a :: ls) (.ref a :: st) h P := zt_aloadn zi_3_49 rfl rfl
theorem zi_3_50 : z_ins 3 50 = some (.getfield 12, 3) := by decide +kernel
theorem ze_3_50 : z_T g d 3 50 ls (.ref a :: st) h P = z_gR h.1 a 0 1 (fun x => z_T g d 3 53 ls (x :: st) h P) := zt_getR zi_3_50 ((congrArg (fun o => z_fl o 12) zo_3).trans zf_LatinRectangles_Completions_12)
theorem zi_3_53 : z_ins 3 53 = some (.iload_n 1, 1) := by decide +kernel
theorem ze_3_53 : z_T g d 3 53 (v0 :: .int x :: ls) st h P = z_T g d 3 54 (v0 :: .int x :: ls) (.int x :: st) h P := zt_iloadn zi_3_53 rfl rfl
theorem zi_3_54 : z_ins 3 54 = some (.iload_n 2, 1) := by decide +kernel
theorem ze_3_54 : z_T g d 3 54 (v0 :: v1 :: .int x :: ls) st h P = z_T g d 3 55 (v0 :: v1 :: .int x :: ls) (.int x :: st) h P := zt_iloadn zi_3_54 rfl rfl
theorem zi_3_55 : z_ins 3 55 = some (.invokevirtual 44, 3) := by decide +kernel
theorem ze_3_55 : z_T g d 3 55 ls (.int x1 :: .int x0 :: .ref a :: st) h P = ((z_okS 8 st = true ∧ z_gO h.1 a 3 ∧ 0 < d) ∧ z_Ca g (d - 1) 34 [.ref a, .int x0, .int x1] h (fun r => z_k r (fun v h' => z_T g d 3 58 ls (z_push v st) h' P) P)) := zt_cV (as := [.int x0, .int x1]) (kk := 0) zi_3_55 rfl (zt_call zj_3 zh_3) (z_opV ((congrArg (fun o => z_lookup z_cns (o, 44)) zo_3).trans zq_cns_LatinRectangles_Completions_44) ((congrArg (fun o => z_lookup z_prs (o, 44)) zo_3).trans zq_prs_LatinRectangles_Completions_44)) ((congrArg (fun o => z_clk o 44) zo_3).trans zk_LatinRectangles_Completions_44) rfl rfl rfl rfl (z_rcv0 zc_34)
theorem zi_3_58 : z_ins 3 58 = some (.istore 5, 2) := by decide +kernel
theorem ze_3_58 : z_T g d 3 58 (v0 :: v1 :: v2 :: v3 :: v4 :: v5 :: ls) (.int x :: st) h P = z_T g d 3 60 (v0 :: v1 :: v2 :: v3 :: v4 :: .int x :: ls) st h P := zt_istore zi_3_58 (Nat.le_add_left 6 _)
theorem zi_3_60 : z_ins 3 60 = some (.iconst 0, 1) := by decide +kernel
theorem ze_3_60 : z_T g d 3 60 ls st h P = z_T g d 3 61 ls (.int (nI 0) :: st) h P := zt_iconst zi_3_60 rfl
theorem zi_3_61 : z_ins 3 61 = some (.istore 6, 2) := by decide +kernel
theorem ze_3_61 : z_T g d 3 61 (v0 :: v1 :: v2 :: v3 :: v4 :: v5 :: v6 :: ls) (.int x :: st) h P = z_T g d 3 63 (v0 :: v1 :: v2 :: v3 :: v4 :: v5 :: .int x :: ls) st h P := zt_istore zi_3_61 (Nat.le_add_left 7 _)
theorem zi_3_63 : z_ins 3 63 = some (.iload 6, 2) := by decide +kernel
theorem ze_3_63 : z_T g d 3 63 (v0 :: v1 :: v2 :: v3 :: v4 :: v5 :: .int x :: ls) st h P = z_T g d 3 65 (v0 :: v1 :: v2 :: v3 :: v4 :: v5 :: .int x :: ls) (.int x :: st) h P := zt_iload zi_3_63 rfl
theorem zi_3_65 : z_ins 3 65 = some (.aload_n 0, 1) := by decide +kernel
theorem ze_3_65 : z_T g d 3 65 (.ref a :: ls) st h P = z_T g d 3 66 (.ref a :: ls) (.ref a :: st) h P := zt_aloadn zi_3_65 rfl rfl
theorem zi_3_66 : z_ins 3 66 = some (.getfield 12, 3) := by decide +kernel
theorem ze_3_66 : z_T g d 3 66 ls (.ref a :: st) h P = z_gR h.1 a 0 1 (fun x => z_T g d 3 69 ls (x :: st) h P) := zt_getR zi_3_66 ((congrArg (fun o => z_fl o 12) zo_3).trans zf_LatinRectangles_Completions_12)
theorem zi_3_69 : z_ins 3 69 = some (.getfield 33, 3) := by decide +kernel
theorem ze_3_69 : z_T g d 3 69 ls (.ref a :: st) h P = z_gI h.1 a 3 6 (fun x => z_T g d 3 72 ls (.int x :: st) h P) := zt_getI zi_3_69 ((congrArg (fun o => z_fl o 33) zo_3).trans zf_LatinRectangles_Completions_33)
theorem zi_3_72 : z_ins 3 72 = some (.if_icmp .ge 56, 3) := by decide +kernel
theorem ze_3_72 : z_T g d 3 72 ls (.int y :: .int x :: st) h P = (if x < y then z_T g d 3 75 ls st h P else z_T g d 3 128 ls st h P) := zt_icmpge zi_3_72 (by decide)
theorem zi_3_75 : z_ins 3 75 = some (.iload 5, 2) := by decide +kernel
theorem ze_3_75 : z_T g d 3 75 (v0 :: v1 :: v2 :: v3 :: v4 :: .int x :: ls) st h P = z_T g d 3 77 (v0 :: v1 :: v2 :: v3 :: v4 :: .int x :: ls) (.int x :: st) h P := zt_iload zi_3_75 rfl
theorem zi_3_77 : z_ins 3 77 = some (.iload 6, 2) := by decide +kernel
theorem ze_3_77 : z_T g d 3 77 (v0 :: v1 :: v2 :: v3 :: v4 :: v5 :: .int x :: ls) st h P = z_T g d 3 79 (v0 :: v1 :: v2 :: v3 :: v4 :: v5 :: .int x :: ls) (.int x :: st) h P := zt_iload zi_3_77 rfl
theorem zi_3_79 : z_ins 3 79 = some (.ishr, 1) := by decide +kernel
theorem ze_3_79 : z_T g d 3 79 ls (.int y :: .int x :: st) h P = z_T g d 3 80 ls (.int (x >>> (y &&& 31)) :: st) h P := zt_bin (f := fun x y => x >>> (y &&& 31)) zi_3_79 rfl (fun _ _ _ => rfl)
theorem zi_3_80 : z_ins 3 80 = some (.iconst 1, 1) := by decide +kernel
theorem ze_3_80 : z_T g d 3 80 ls st h P = z_T g d 3 81 ls (.int (nI 1) :: st) h P := zt_iconst zi_3_80 rfl
theorem zi_3_81 : z_ins 3 81 = some (.iand, 1) := by decide +kernel
theorem ze_3_81 : z_T g d 3 81 ls (.int y :: .int x :: st) h P = z_T g d 3 82 ls (.int (x &&& y) :: st) h P := zt_bin (f := fun x y => x &&& y) zi_3_81 rfl (fun _ _ _ => rfl)
theorem zi_3_82 : z_ins 3 82 = some (.ifCond .eq 40, 3) := by decide +kernel
theorem ze_3_82 : z_T g d 3 82 ls (.int x :: st) h P = (if x = nI 0 then z_T g d 3 122 ls st h P else z_T g d 3 85 ls st h P) := zt_ifeq zi_3_82 (by decide)
theorem zi_3_85 : z_ins 3 85 = some (.aload_n 0, 1) := by decide +kernel
theorem ze_3_85 : z_T g d 3 85 (.ref a :: ls) st h P = z_T g d 3 86 (.ref a :: ls) (.ref a :: st) h P := zt_aloadn zi_3_85 rfl rfl
theorem zi_3_86 : z_ins 3 86 = some (.getfield 12, 3) := by decide +kernel
theorem ze_3_86 : z_T g d 3 86 ls (.ref a :: st) h P = z_gR h.1 a 0 1 (fun x => z_T g d 3 89 ls (x :: st) h P) := zt_getR zi_3_86 ((congrArg (fun o => z_fl o 12) zo_3).trans zf_LatinRectangles_Completions_12)
theorem zi_3_89 : z_ins 3 89 = some (.iload_n 1, 1) := by decide +kernel
theorem ze_3_89 : z_T g d 3 89 (v0 :: .int x :: ls) st h P = z_T g d 3 90 (v0 :: .int x :: ls) (.int x :: st) h P := zt_iloadn zi_3_89 rfl rfl
theorem zi_3_90 : z_ins 3 90 = some (.iload_n 2, 1) := by decide +kernel
theorem ze_3_90 : z_T g d 3 90 (v0 :: v1 :: .int x :: ls) st h P = z_T g d 3 91 (v0 :: v1 :: .int x :: ls) (.int x :: st) h P := zt_iloadn zi_3_90 rfl rfl
theorem zi_3_91 : z_ins 3 91 = some (.iload 6, 2) := by decide +kernel
theorem ze_3_91 : z_T g d 3 91 (v0 :: v1 :: v2 :: v3 :: v4 :: v5 :: .int x :: ls) st h P = z_T g d 3 93 (v0 :: v1 :: v2 :: v3 :: v4 :: v5 :: .int x :: ls) (.int x :: st) h P := zt_iload zi_3_91 rfl
theorem zi_3_93 : z_ins 3 93 = some (.invokevirtual 48, 3) := by decide +kernel
theorem ze_3_93 : z_T g d 3 93 ls (.int x2 :: .int x1 :: .int x0 :: .ref a :: st) h P = ((z_okS 8 st = true ∧ z_gO h.1 a 3 ∧ 0 < d) ∧ z_Ca g (d - 1) 29 [.ref a, .int x0, .int x1, .int x2] h (fun r => z_k r (fun v h' => z_T g d 3 96 ls (z_push v st) h' P) P)) := zt_cV (as := [.int x0, .int x1, .int x2]) (kk := 0) zi_3_93 rfl (zt_call zj_3 zh_3) (z_opV ((congrArg (fun o => z_lookup z_cns (o, 48)) zo_3).trans zq_cns_LatinRectangles_Completions_48) ((congrArg (fun o => z_lookup z_prs (o, 48)) zo_3).trans zq_prs_LatinRectangles_Completions_48)) ((congrArg (fun o => z_clk o 48) zo_3).trans zk_LatinRectangles_Completions_48) rfl rfl rfl rfl (z_rcv0 zc_29)
theorem zi_3_96 : z_ins 3 96 = some (.aload_n 0, 1) := by decide +kernel
theorem ze_3_96 : z_T g d 3 96 (.ref a :: ls) st h P = z_T g d 3 97 (.ref a :: ls) (.ref a :: st) h P := zt_aloadn zi_3_96 rfl rfl
theorem zi_3_97 : z_ins 3 97 = some (.iconst 1, 1) := by decide +kernel
theorem ze_3_97 : z_T g d 3 97 ls st h P = z_T g d 3 98 ls (.int (nI 1) :: st) h P := zt_iconst zi_3_97 rfl
theorem zi_3_98 : z_ins 3 98 = some (.invokevirtual 29, 3) := by decide +kernel
theorem ze_3_98 : z_T g d 3 98 ls (.int x0 :: .ref a :: st) h P = ((z_okS 8 st = true ∧ z_gO h.1 a 0 ∧ 0 < d) ∧ z_Ca g (d - 1) 5 [.ref a, .int x0] h (fun r => z_k r (fun v h' => z_T g d 3 101 ls (z_push v st) h' P) P)) := zt_cV (as := [.int x0]) (kk := 0) zi_3_98 rfl (zt_call zj_3 zh_3) (z_opV ((congrArg (fun o => z_lookup z_cns (o, 29)) zo_3).trans zq_cns_LatinRectangles_Completions_29) ((congrArg (fun o => z_lookup z_prs (o, 29)) zo_3).trans zq_prs_LatinRectangles_Completions_29)) ((congrArg (fun o => z_clk o 29) zo_3).trans zk_LatinRectangles_Completions_29) rfl rfl rfl rfl (z_rcv0 zc_5)
theorem zi_3_101 : z_ins 3 101 = some (.ifCond .eq 12, 3) := by decide +kernel
theorem ze_3_101 : z_T g d 3 101 ls (.int x :: st) h P = (if x = nI 0 then z_T g d 3 113 ls st h P else z_T g d 3 104 ls st h P) := zt_ifeq zi_3_101 (by decide)
theorem zi_3_104 : z_ins 3 104 = some (.iload 4, 2) := by decide +kernel
theorem ze_3_104 : z_T g d 3 104 (v0 :: v1 :: v2 :: v3 :: .int x :: ls) st h P = z_T g d 3 106 (v0 :: v1 :: v2 :: v3 :: .int x :: ls) (.int x :: st) h P := zt_iload zi_3_104 rfl
theorem zi_3_106 : z_ins 3 106 = some (.iconst 1, 1) := by decide +kernel
theorem ze_3_106 : z_T g d 3 106 ls st h P = z_T g d 3 107 ls (.int (nI 1) :: st) h P := zt_iconst zi_3_106 rfl
theorem zi_3_107 : z_ins 3 107 = some (.iload 6, 2) := by decide +kernel
theorem ze_3_107 : z_T g d 3 107 (v0 :: v1 :: v2 :: v3 :: v4 :: v5 :: .int x :: ls) st h P = z_T g d 3 109 (v0 :: v1 :: v2 :: v3 :: v4 :: v5 :: .int x :: ls) (.int x :: st) h P := zt_iload zi_3_107 rfl
theorem zi_3_109 : z_ins 3 109 = some (.ishl, 1) := by decide +kernel
theorem ze_3_109 : z_T g d 3 109 ls (.int y :: .int x :: st) h P = z_T g d 3 110 ls (.int (x <<< (y &&& 31)) :: st) h P := zt_bin (f := fun x y => x <<< (y &&& 31)) zi_3_109 rfl (fun _ _ _ => rfl)
theorem zi_3_110 : z_ins 3 110 = some (.ior, 1) := by decide +kernel
theorem ze_3_110 : z_T g d 3 110 ls (.int y :: .int x :: st) h P = z_T g d 3 111 ls (.int (x ||| y) :: st) h P := zt_bin (f := fun x y => x ||| y) zi_3_110 rfl (fun _ _ _ => rfl)
theorem zi_3_111 : z_ins 3 111 = some (.istore 4, 2) := by decide +kernel
theorem ze_3_111 : z_T g d 3 111 (v0 :: v1 :: v2 :: v3 :: v4 :: ls) (.int x :: st) h P = z_T g d 3 113 (v0 :: v1 :: v2 :: v3 :: .int x :: ls) st h P := zt_istore zi_3_111 (Nat.le_add_left 5 _)
theorem zi_3_113 : z_ins 3 113 = some (.aload_n 0, 1) := by decide +kernel
theorem ze_3_113 : z_T g d 3 113 (.ref a :: ls) st h P = z_T g d 3 114 (.ref a :: ls) (.ref a :: st) h P := zt_aloadn zi_3_113 rfl rfl
theorem zi_3_114 : z_ins 3 114 = some (.getfield 12, 3) := by decide +kernel
theorem ze_3_114 : z_T g d 3 114 ls (.ref a :: st) h P = z_gR h.1 a 0 1 (fun x => z_T g d 3 117 ls (x :: st) h P) := zt_getR zi_3_114 ((congrArg (fun o => z_fl o 12) zo_3).trans zf_LatinRectangles_Completions_12)
theorem zi_3_117 : z_ins 3 117 = some (.iload_n 1, 1) := by decide +kernel
theorem ze_3_117 : z_T g d 3 117 (v0 :: .int x :: ls) st h P = z_T g d 3 118 (v0 :: .int x :: ls) (.int x :: st) h P := zt_iloadn zi_3_117 rfl rfl
theorem zi_3_118 : z_ins 3 118 = some (.iload_n 2, 1) := by decide +kernel
theorem ze_3_118 : z_T g d 3 118 (v0 :: v1 :: .int x :: ls) st h P = z_T g d 3 119 (v0 :: v1 :: .int x :: ls) (.int x :: st) h P := zt_iloadn zi_3_118 rfl rfl
theorem zi_3_119 : z_ins 3 119 = some (.invokevirtual 52, 3) := by decide +kernel
theorem ze_3_119 : z_T g d 3 119 ls (.int x1 :: .int x0 :: .ref a :: st) h P = ((z_okS 8 st = true ∧ z_gO h.1 a 3 ∧ 0 < d) ∧ z_Ca g (d - 1) 30 [.ref a, .int x0, .int x1] h (fun r => z_k r (fun v h' => z_T g d 3 122 ls (z_push v st) h' P) P)) := zt_cV (as := [.int x0, .int x1]) (kk := 0) zi_3_119 rfl (zt_call zj_3 zh_3) (z_opV ((congrArg (fun o => z_lookup z_cns (o, 52)) zo_3).trans zq_cns_LatinRectangles_Completions_52) ((congrArg (fun o => z_lookup z_prs (o, 52)) zo_3).trans zq_prs_LatinRectangles_Completions_52)) ((congrArg (fun o => z_clk o 52) zo_3).trans zk_LatinRectangles_Completions_52) rfl rfl rfl rfl (z_rcv0 zc_30)
theorem zi_3_122 : z_ins 3 122 = some (.iinc 6 1, 3) := by decide +kernel
theorem ze_3_122 : z_T g d 3 122 (v0 :: v1 :: v2 :: v3 :: v4 :: v5 :: .int x :: ls) st h P = z_T g d 3 125 (v0 :: v1 :: v2 :: v3 :: v4 :: v5 :: .int (x + (nI 1)) :: ls) st h P := zt_iinc zi_3_122 rfl rfl
theorem zi_3_125 : z_ins 3 125 = some (.goto (-62), 3) := by decide +kernel
theorem ze_3_125 : z_T g d 3 125 ls st h P = z_T g d 3 63 ls st h P := zt_goto zi_3_125 (by decide)
theorem zi_3_128 : z_ins 3 128 = some (.iload 4, 2) := by decide +kernel
theorem ze_3_128 : z_T g d 3 128 (v0 :: v1 :: v2 :: v3 :: .int x :: ls) st h P = z_T g d 3 130 (v0 :: v1 :: v2 :: v3 :: .int x :: ls) (.int x :: st) h P := zt_iload zi_3_128 rfl
theorem zi_3_130 : z_ins 3 130 = some (.ireturn, 1) := by decide +kernel
theorem ze_3_130 : z_T g d 3 130 ls [.int x] h P = P (.inr (some (.int x)), h) := zt_ireturn zi_3_130 zr_3
-- LatinRectangles$Completions.putLowest(II)V
theorem zm_4 : z_maxL 4 = 5 := by decide +kernel
theorem zh_4 : z_hds 4 = [] := by decide +kernel
theorem zj_4 : z_jdk 4 = false := by decide +kernel
theorem zr_4 : z_rt 4 = none := by decide +kernel
theorem zn_4 : z_Ca g d 4 [.ref a0, .int x1, .int x2] h P = z_T g d 4 0 [.ref a0, .int x1, .int x2, z_un, z_un] [] h P := z_Ca_ent zm_4 rfl rfl
theorem zi_4_0 : z_ins 4 0 = some (.aload_n 0, 1) := by decide +kernel
theorem ze_4_0 : z_T g d 4 0 (.ref a :: ls) st h P = z_T g d 4 1 (.ref a :: ls) (.ref a :: st) h P := zt_aloadn zi_4_0 rfl rfl
theorem zi_4_1 : z_ins 4 1 = some (.getfield 12, 3) := by decide +kernel
theorem ze_4_1 : z_T g d 4 1 ls (.ref a :: st) h P = z_gR h.1 a 0 1 (fun x => z_T g d 4 4 ls (x :: st) h P) := zt_getR zi_4_1 ((congrArg (fun o => z_fl o 12) zo_4).trans zf_LatinRectangles_Completions_12)
theorem zi_4_4 : z_ins 4 4 = some (.iload_n 1, 1) := by decide +kernel
theorem ze_4_4 : z_T g d 4 4 (v0 :: .int x :: ls) st h P = z_T g d 4 5 (v0 :: .int x :: ls) (.int x :: st) h P := zt_iloadn zi_4_4 rfl rfl
theorem zi_4_5 : z_ins 4 5 = some (.iload_n 2, 1) := by decide +kernel
theorem ze_4_5 : z_T g d 4 5 (v0 :: v1 :: .int x :: ls) st h P = z_T g d 4 6 (v0 :: v1 :: .int x :: ls) (.int x :: st) h P := zt_iloadn zi_4_5 rfl rfl
theorem zi_4_6 : z_ins 4 6 = some (.invokevirtual 44, 3) := by decide +kernel
theorem ze_4_6 : z_T g d 4 6 ls (.int x1 :: .int x0 :: .ref a :: st) h P = ((z_okS 8 st = true ∧ z_gO h.1 a 3 ∧ 0 < d) ∧ z_Ca g (d - 1) 34 [.ref a, .int x0, .int x1] h (fun r => z_k r (fun v h' => z_T g d 4 9 ls (z_push v st) h' P) P)) := zt_cV (as := [.int x0, .int x1]) (kk := 0) zi_4_6 rfl (zt_call zj_4 zh_4) (z_opV ((congrArg (fun o => z_lookup z_cns (o, 44)) zo_4).trans zq_cns_LatinRectangles_Completions_44) ((congrArg (fun o => z_lookup z_prs (o, 44)) zo_4).trans zq_prs_LatinRectangles_Completions_44)) ((congrArg (fun o => z_clk o 44) zo_4).trans zk_LatinRectangles_Completions_44) rfl rfl rfl rfl (z_rcv0 zc_34)
theorem zi_4_9 : z_ins 4 9 = some (.istore_n 3, 1) := by decide +kernel
theorem ze_4_9 : z_T g d 4 9 (v0 :: v1 :: v2 :: v3 :: ls) (.int x :: st) h P = z_T g d 4 10 (v0 :: v1 :: v2 :: .int x :: ls) st h P := zt_istoren zi_4_9 rfl (Nat.le_add_left 4 _)
theorem zi_4_10 : z_ins 4 10 = some (.iconst 0, 1) := by decide +kernel
theorem ze_4_10 : z_T g d 4 10 ls st h P = z_T g d 4 11 ls (.int (nI 0) :: st) h P := zt_iconst zi_4_10 rfl
theorem zi_4_11 : z_ins 4 11 = some (.istore 4, 2) := by decide +kernel
theorem ze_4_11 : z_T g d 4 11 (v0 :: v1 :: v2 :: v3 :: v4 :: ls) (.int x :: st) h P = z_T g d 4 13 (v0 :: v1 :: v2 :: v3 :: .int x :: ls) st h P := zt_istore zi_4_11 (Nat.le_add_left 5 _)
theorem zi_4_13 : z_ins 4 13 = some (.iload 4, 2) := by decide +kernel
theorem ze_4_13 : z_T g d 4 13 (v0 :: v1 :: v2 :: v3 :: .int x :: ls) st h P = z_T g d 4 15 (v0 :: v1 :: v2 :: v3 :: .int x :: ls) (.int x :: st) h P := zt_iload zi_4_13 rfl
theorem zi_4_15 : z_ins 4 15 = some (.aload_n 0, 1) := by decide +kernel
theorem ze_4_15 : z_T g d 4 15 (.ref a :: ls) st h P = z_T g d 4 16 (.ref a :: ls) (.ref a :: st) h P := zt_aloadn zi_4_15 rfl rfl
theorem zi_4_16 : z_ins 4 16 = some (.getfield 12, 3) := by decide +kernel
theorem ze_4_16 : z_T g d 4 16 ls (.ref a :: st) h P = z_gR h.1 a 0 1 (fun x => z_T g d 4 19 ls (x :: st) h P) := zt_getR zi_4_16 ((congrArg (fun o => z_fl o 12) zo_4).trans zf_LatinRectangles_Completions_12)
theorem zi_4_19 : z_ins 4 19 = some (.getfield 33, 3) := by decide +kernel
theorem ze_4_19 : z_T g d 4 19 ls (.ref a :: st) h P = z_gI h.1 a 3 6 (fun x => z_T g d 4 22 ls (.int x :: st) h P) := zt_getI zi_4_19 ((congrArg (fun o => z_fl o 33) zo_4).trans zf_LatinRectangles_Completions_33)
theorem zi_4_22 : z_ins 4 22 = some (.if_icmp .ge 47, 3) := by decide +kernel
theorem ze_4_22 : z_T g d 4 22 ls (.int y :: .int x :: st) h P = (if x < y then z_T g d 4 25 ls st h P else z_T g d 4 69 ls st h P) := zt_icmpge zi_4_22 (by decide)
theorem zi_4_25 : z_ins 4 25 = some (.iload_n 3, 1) := by decide +kernel
theorem ze_4_25 : z_T g d 4 25 (v0 :: v1 :: v2 :: .int x :: ls) st h P = z_T g d 4 26 (v0 :: v1 :: v2 :: .int x :: ls) (.int x :: st) h P := zt_iloadn zi_4_25 rfl rfl
theorem zi_4_26 : z_ins 4 26 = some (.iload 4, 2) := by decide +kernel
theorem ze_4_26 : z_T g d 4 26 (v0 :: v1 :: v2 :: v3 :: .int x :: ls) st h P = z_T g d 4 28 (v0 :: v1 :: v2 :: v3 :: .int x :: ls) (.int x :: st) h P := zt_iload zi_4_26 rfl
theorem zi_4_28 : z_ins 4 28 = some (.ishr, 1) := by decide +kernel
theorem ze_4_28 : z_T g d 4 28 ls (.int y :: .int x :: st) h P = z_T g d 4 29 ls (.int (x >>> (y &&& 31)) :: st) h P := zt_bin (f := fun x y => x >>> (y &&& 31)) zi_4_28 rfl (fun _ _ _ => rfl)
theorem zi_4_29 : z_ins 4 29 = some (.iconst 1, 1) := by decide +kernel
theorem ze_4_29 : z_T g d 4 29 ls st h P = z_T g d 4 30 ls (.int (nI 1) :: st) h P := zt_iconst zi_4_29 rfl
theorem zi_4_30 : z_ins 4 30 = some (.iand, 1) := by decide +kernel
theorem ze_4_30 : z_T g d 4 30 ls (.int y :: .int x :: st) h P = z_T g d 4 31 ls (.int (x &&& y) :: st) h P := zt_bin (f := fun x y => x &&& y) zi_4_30 rfl (fun _ _ _ => rfl)
theorem zi_4_31 : z_ins 4 31 = some (.ifCond .eq 32, 3) := by decide +kernel
theorem ze_4_31 : z_T g d 4 31 ls (.int x :: st) h P = (if x = nI 0 then z_T g d 4 63 ls st h P else z_T g d 4 34 ls st h P) := zt_ifeq zi_4_31 (by decide)
theorem zi_4_34 : z_ins 4 34 = some (.aload_n 0, 1) := by decide +kernel
theorem ze_4_34 : z_T g d 4 34 (.ref a :: ls) st h P = z_T g d 4 35 (.ref a :: ls) (.ref a :: st) h P := zt_aloadn zi_4_34 rfl rfl
theorem zi_4_35 : z_ins 4 35 = some (.getfield 12, 3) := by decide +kernel
theorem ze_4_35 : z_T g d 4 35 ls (.ref a :: st) h P = z_gR h.1 a 0 1 (fun x => z_T g d 4 38 ls (x :: st) h P) := zt_getR zi_4_35 ((congrArg (fun o => z_fl o 12) zo_4).trans zf_LatinRectangles_Completions_12)
theorem zi_4_38 : z_ins 4 38 = some (.iload_n 1, 1) := by decide +kernel
theorem ze_4_38 : z_T g d 4 38 (v0 :: .int x :: ls) st h P = z_T g d 4 39 (v0 :: .int x :: ls) (.int x :: st) h P := zt_iloadn zi_4_38 rfl rfl
theorem zi_4_39 : z_ins 4 39 = some (.iload_n 2, 1) := by decide +kernel
theorem ze_4_39 : z_T g d 4 39 (v0 :: v1 :: .int x :: ls) st h P = z_T g d 4 40 (v0 :: v1 :: .int x :: ls) (.int x :: st) h P := zt_iloadn zi_4_39 rfl rfl
theorem zi_4_40 : z_ins 4 40 = some (.iload 4, 2) := by decide +kernel
theorem ze_4_40 : z_T g d 4 40 (v0 :: v1 :: v2 :: v3 :: .int x :: ls) st h P = z_T g d 4 42 (v0 :: v1 :: v2 :: v3 :: .int x :: ls) (.int x :: st) h P := zt_iload zi_4_40 rfl
theorem zi_4_42 : z_ins 4 42 = some (.invokevirtual 48, 3) := by decide +kernel
theorem ze_4_42 : z_T g d 4 42 ls (.int x2 :: .int x1 :: .int x0 :: .ref a :: st) h P = ((z_okS 8 st = true ∧ z_gO h.1 a 3 ∧ 0 < d) ∧ z_Ca g (d - 1) 29 [.ref a, .int x0, .int x1, .int x2] h (fun r => z_k r (fun v h' => z_T g d 4 45 ls (z_push v st) h' P) P)) := zt_cV (as := [.int x0, .int x1, .int x2]) (kk := 0) zi_4_42 rfl (zt_call zj_4 zh_4) (z_opV ((congrArg (fun o => z_lookup z_cns (o, 48)) zo_4).trans zq_cns_LatinRectangles_Completions_48) ((congrArg (fun o => z_lookup z_prs (o, 48)) zo_4).trans zq_prs_LatinRectangles_Completions_48)) ((congrArg (fun o => z_clk o 48) zo_4).trans zk_LatinRectangles_Completions_48) rfl rfl rfl rfl (z_rcv0 zc_29)
theorem zi_4_45 : z_ins 4 45 = some (.aload_n 0, 1) := by decide +kernel
theorem ze_4_45 : z_T g d 4 45 (.ref a :: ls) st h P = z_T g d 4 46 (.ref a :: ls) (.ref a :: st) h P := zt_aloadn zi_4_45 rfl rfl
theorem zi_4_46 : z_ins 4 46 = some (.iconst 1, 1) := by decide +kernel
theorem ze_4_46 : z_T g d 4 46 ls st h P = z_T g d 4 47 ls (.int (nI 1) :: st) h P := zt_iconst zi_4_46 rfl
theorem zi_4_47 : z_ins 4 47 = some (.invokevirtual 29, 3) := by decide +kernel
theorem ze_4_47 : z_T g d 4 47 ls (.int x0 :: .ref a :: st) h P = ((z_okS 8 st = true ∧ z_gO h.1 a 0 ∧ 0 < d) ∧ z_Ca g (d - 1) 5 [.ref a, .int x0] h (fun r => z_k r (fun v h' => z_T g d 4 50 ls (z_push v st) h' P) P)) := zt_cV (as := [.int x0]) (kk := 0) zi_4_47 rfl (zt_call zj_4 zh_4) (z_opV ((congrArg (fun o => z_lookup z_cns (o, 29)) zo_4).trans zq_cns_LatinRectangles_Completions_29) ((congrArg (fun o => z_lookup z_prs (o, 29)) zo_4).trans zq_prs_LatinRectangles_Completions_29)) ((congrArg (fun o => z_clk o 29) zo_4).trans zk_LatinRectangles_Completions_29) rfl rfl rfl rfl (z_rcv0 zc_5)
theorem zi_4_50 : z_ins 4 50 = some (.ifCond .eq 4, 3) := by decide +kernel
theorem ze_4_50 : z_T g d 4 50 ls (.int x :: st) h P = (if x = nI 0 then z_T g d 4 54 ls st h P else z_T g d 4 53 ls st h P) := zt_ifeq zi_4_50 (by decide)
theorem zi_4_53 : z_ins 4 53 = some (.return_, 1) := by decide +kernel
theorem ze_4_53 : z_T g d 4 53 ls [] h P = P (.inr none, h) := zt_return zi_4_53 zr_4
theorem zi_4_54 : z_ins 4 54 = some (.aload_n 0, 1) := by decide +kernel
theorem ze_4_54 : z_T g d 4 54 (.ref a :: ls) st h P = z_T g d 4 55 (.ref a :: ls) (.ref a :: st) h P := zt_aloadn zi_4_54 rfl rfl
theorem zi_4_55 : z_ins 4 55 = some (.getfield 12, 3) := by decide +kernel
theorem ze_4_55 : z_T g d 4 55 ls (.ref a :: st) h P = z_gR h.1 a 0 1 (fun x => z_T g d 4 58 ls (x :: st) h P) := zt_getR zi_4_55 ((congrArg (fun o => z_fl o 12) zo_4).trans zf_LatinRectangles_Completions_12)
theorem zi_4_58 : z_ins 4 58 = some (.iload_n 1, 1) := by decide +kernel
theorem ze_4_58 : z_T g d 4 58 (v0 :: .int x :: ls) st h P = z_T g d 4 59 (v0 :: .int x :: ls) (.int x :: st) h P := zt_iloadn zi_4_58 rfl rfl
theorem zi_4_59 : z_ins 4 59 = some (.iload_n 2, 1) := by decide +kernel
theorem ze_4_59 : z_T g d 4 59 (v0 :: v1 :: .int x :: ls) st h P = z_T g d 4 60 (v0 :: v1 :: .int x :: ls) (.int x :: st) h P := zt_iloadn zi_4_59 rfl rfl
theorem zi_4_60 : z_ins 4 60 = some (.invokevirtual 52, 3) := by decide +kernel
theorem ze_4_60 : z_T g d 4 60 ls (.int x1 :: .int x0 :: .ref a :: st) h P = ((z_okS 8 st = true ∧ z_gO h.1 a 3 ∧ 0 < d) ∧ z_Ca g (d - 1) 30 [.ref a, .int x0, .int x1] h (fun r => z_k r (fun v h' => z_T g d 4 63 ls (z_push v st) h' P) P)) := zt_cV (as := [.int x0, .int x1]) (kk := 0) zi_4_60 rfl (zt_call zj_4 zh_4) (z_opV ((congrArg (fun o => z_lookup z_cns (o, 52)) zo_4).trans zq_cns_LatinRectangles_Completions_52) ((congrArg (fun o => z_lookup z_prs (o, 52)) zo_4).trans zq_prs_LatinRectangles_Completions_52)) ((congrArg (fun o => z_clk o 52) zo_4).trans zk_LatinRectangles_Completions_52) rfl rfl rfl rfl (z_rcv0 zc_30)
theorem zi_4_63 : z_ins 4 63 = some (.iinc 4 1, 3) := by decide +kernel
theorem ze_4_63 : z_T g d 4 63 (v0 :: v1 :: v2 :: v3 :: .int x :: ls) st h P = z_T g d 4 66 (v0 :: v1 :: v2 :: v3 :: .int (x + (nI 1)) :: ls) st h P := zt_iinc zi_4_63 rfl rfl
theorem zi_4_66 : z_ins 4 66 = some (.goto (-53), 3) := by decide +kernel
theorem ze_4_66 : z_T g d 4 66 ls st h P = z_T g d 4 13 ls st h P := zt_goto zi_4_66 (by decide)
theorem zi_4_69 : z_ins 4 69 = some (.return_, 1) := by decide +kernel
theorem ze_4_69 : z_T g d 4 69 ls [] h P = P (.inr none, h) := zt_return zi_4_69 zr_4
-- LatinRectangles$Completions.countInWork(I)I
theorem zm_5 : z_maxL 5 = 4 := by decide +kernel
theorem zh_5 : z_hds 5 = [] := by decide +kernel
theorem zj_5 : z_jdk 5 = false := by decide +kernel
theorem zr_5 : z_rt 5 = (some .int) := by decide +kernel
theorem zn_5 : z_Ca g d 5 [.ref a0, .int x1] h P = z_T g d 5 0 [.ref a0, .int x1, z_un, z_un] [] h P := z_Ca_ent zm_5 rfl rfl
theorem zi_5_0 : z_ins 5 0 = some (.aload_n 0, 1) := by decide +kernel
theorem ze_5_0 : z_T g d 5 0 (.ref a :: ls) st h P = z_T g d 5 1 (.ref a :: ls) (.ref a :: st) h P := zt_aloadn zi_5_0 rfl rfl
theorem zi_5_1 : z_ins 5 1 = some (.iconst 0, 1) := by decide +kernel
theorem ze_5_1 : z_T g d 5 1 ls st h P = z_T g d 5 2 ls (.int (nI 0) :: st) h P := zt_iconst zi_5_1 rfl
theorem zi_5_2 : z_ins 5 2 = some (.putfield 55, 3) := by decide +kernel
theorem ze_5_2 : z_T g d 5 2 ls (.int x :: .ref a :: st) h P = z_pF h.1 a 0 3 (.int x) (fun f => z_T g d 5 5 ls st (f, h.2) P) := zt_put zi_5_2 ((congrArg (fun o => z_fl o 55) zo_5).trans zf_LatinRectangles_Completions_55) (by decide +kernel) rfl rfl
theorem zi_5_5 : z_ins 5 5 = some (.iconst 0, 1) := by decide +kernel
theorem ze_5_5 : z_T g d 5 5 ls st h P = z_T g d 5 6 ls (.int (nI 0) :: st) h P := zt_iconst zi_5_5 rfl
theorem zi_5_6 : z_ins 5 6 = some (.istore_n 2, 1) := by decide +kernel
theorem ze_5_6 : z_T g d 5 6 (v0 :: v1 :: v2 :: ls) (.int x :: st) h P = z_T g d 5 7 (v0 :: v1 :: .int x :: ls) st h P := zt_istoren zi_5_6 rfl (Nat.le_add_left 3 _)
theorem zi_5_7 : z_ins 5 7 = some (.iload_n 2, 1) := by decide +kernel
theorem ze_5_7 : z_T g d 5 7 (v0 :: v1 :: .int x :: ls) st h P = z_T g d 5 8 (v0 :: v1 :: .int x :: ls) (.int x :: st) h P := zt_iloadn zi_5_7 rfl rfl
theorem zi_5_8 : z_ins 5 8 = some (.aload_n 0, 1) := by decide +kernel
theorem ze_5_8 : z_T g d 5 8 (.ref a :: ls) st h P = z_T g d 5 9 (.ref a :: ls) (.ref a :: st) h P := zt_aloadn zi_5_8 rfl rfl
theorem zi_5_9 : z_ins 5 9 = some (.getfield 12, 3) := by decide +kernel
theorem ze_5_9 : z_T g d 5 9 ls (.ref a :: st) h P = z_gR h.1 a 0 1 (fun x => z_T g d 5 12 ls (x :: st) h P) := zt_getR zi_5_9 ((congrArg (fun o => z_fl o 12) zo_5).trans zf_LatinRectangles_Completions_12)
theorem zi_5_12 : z_ins 5 12 = some (.getfield 58, 3) := by decide +kernel
theorem ze_5_12 : z_T g d 5 12 ls (.ref a :: st) h P = z_gI h.1 a 3 5 (fun x => z_T g d 5 15 ls (.int x :: st) h P) := zt_getI zi_5_12 ((congrArg (fun o => z_fl o 58) zo_5).trans zf_LatinRectangles_Completions_58)
theorem zi_5_15 : z_ins 5 15 = some (.if_icmp .ge 69, 3) := by decide +kernel
theorem ze_5_15 : z_T g d 5 15 ls (.int y :: .int x :: st) h P = (if x < y then z_T g d 5 18 ls st h P else z_T g d 5 84 ls st h P) := zt_icmpge zi_5_15 (by decide)
theorem zi_5_18 : z_ins 5 18 = some (.iconst 0, 1) := by decide +kernel
theorem ze_5_18 : z_T g d 5 18 ls st h P = z_T g d 5 19 ls (.int (nI 0) :: st) h P := zt_iconst zi_5_18 rfl
theorem zi_5_19 : z_ins 5 19 = some (.istore_n 3, 1) := by decide +kernel
theorem ze_5_19 : z_T g d 5 19 (v0 :: v1 :: v2 :: v3 :: ls) (.int x :: st) h P = z_T g d 5 20 (v0 :: v1 :: v2 :: .int x :: ls) st h P := zt_istoren zi_5_19 rfl (Nat.le_add_left 4 _)
theorem zi_5_20 : z_ins 5 20 = some (.iload_n 3, 1) := by decide +kernel
theorem ze_5_20 : z_T g d 5 20 (v0 :: v1 :: v2 :: .int x :: ls) st h P = z_T g d 5 21 (v0 :: v1 :: v2 :: .int x :: ls) (.int x :: st) h P := zt_iloadn zi_5_20 rfl rfl
theorem zi_5_21 : z_ins 5 21 = some (.aload_n 0, 1) := by decide +kernel
theorem ze_5_21 : z_T g d 5 21 (.ref a :: ls) st h P = z_T g d 5 22 (.ref a :: ls) (.ref a :: st) h P := zt_aloadn zi_5_21 rfl rfl
theorem zi_5_22 : z_ins 5 22 = some (.getfield 12, 3) := by decide +kernel
theorem ze_5_22 : z_T g d 5 22 ls (.ref a :: st) h P = z_gR h.1 a 0 1 (fun x => z_T g d 5 25 ls (x :: st) h P) := zt_getR zi_5_22 ((congrArg (fun o => z_fl o 12) zo_5).trans zf_LatinRectangles_Completions_12)
theorem zi_5_25 : z_ins 5 25 = some (.getfield 33, 3) := by decide +kernel
theorem ze_5_25 : z_T g d 5 25 ls (.ref a :: st) h P = z_gI h.1 a 3 6 (fun x => z_T g d 5 28 ls (.int x :: st) h P) := zt_getI zi_5_25 ((congrArg (fun o => z_fl o 33) zo_5).trans zf_LatinRectangles_Completions_33)
theorem zi_5_28 : z_ins 5 28 = some (.if_icmp .ge 50, 3) := by decide +kernel
theorem ze_5_28 : z_T g d 5 28 ls (.int y :: .int x :: st) h P = (if x < y then z_T g d 5 31 ls st h P else z_T g d 5 78 ls st h P) := zt_icmpge zi_5_28 (by decide)
theorem zi_5_31 : z_ins 5 31 = some (.aload_n 0, 1) := by decide +kernel
theorem ze_5_31 : z_T g d 5 31 (.ref a :: ls) st h P = z_T g d 5 32 (.ref a :: ls) (.ref a :: st) h P := zt_aloadn zi_5_31 rfl rfl
theorem zi_5_32 : z_ins 5 32 = some (.getfield 12, 3) := by decide +kernel
theorem ze_5_32 : z_T g d 5 32 ls (.ref a :: st) h P = z_gR h.1 a 0 1 (fun x => z_T g d 5 35 ls (x :: st) h P) := zt_getR zi_5_32 ((congrArg (fun o => z_fl o 12) zo_5).trans zf_LatinRectangles_Completions_12)
theorem zi_5_35 : z_ins 5 35 = some (.getfield 37, 3) := by decide +kernel
theorem ze_5_35 : z_T g d 5 35 ls (.ref a :: st) h P = z_gR h.1 a 3 0 (fun x => z_T g d 5 38 ls (x :: st) h P) := zt_getR zi_5_35 ((congrArg (fun o => z_fl o 37) zo_5).trans zf_LatinRectangles_Completions_37)
theorem zi_5_38 : z_ins 5 38 = some (.iload_n 2, 1) := by decide +kernel
theorem ze_5_38 : z_T g d 5 38 (v0 :: v1 :: .int x :: ls) st h P = z_T g d 5 39 (v0 :: v1 :: .int x :: ls) (.int x :: st) h P := zt_iloadn zi_5_38 rfl rfl
theorem zi_5_39 : z_ins 5 39 = some (.iconst 5, 1) := by decide +kernel
theorem ze_5_39 : z_T g d 5 39 ls st h P = z_T g d 5 40 ls (.int (nI 5) :: st) h P := zt_iconst zi_5_39 rfl
theorem zi_5_40 : z_ins 5 40 = some (.imul, 1) := by decide +kernel
theorem ze_5_40 : z_T g d 5 40 ls (.int y :: .int x :: st) h P = z_T g d 5 41 ls (.int (x * y) :: st) h P := zt_bin (f := fun x y => x * y) zi_5_40 rfl (fun _ _ _ => rfl)
theorem zi_5_41 : z_ins 5 41 = some (.iload_n 3, 1) := by decide +kernel
theorem ze_5_41 : z_T g d 5 41 (v0 :: v1 :: v2 :: .int x :: ls) st h P = z_T g d 5 42 (v0 :: v1 :: v2 :: .int x :: ls) (.int x :: st) h P := zt_iloadn zi_5_41 rfl rfl
theorem zi_5_42 : z_ins 5 42 = some (.iadd, 1) := by decide +kernel
theorem ze_5_42 : z_T g d 5 42 ls (.int y :: .int x :: st) h P = z_T g d 5 43 ls (.int (x + y) :: st) h P := zt_bin (f := fun x y => x + y) zi_5_42 rfl (fun _ _ _ => rfl)
theorem zi_5_43 : z_ins 5 43 = some (.iaload, 1) := by decide +kernel
theorem ze_5_43 : z_T g d 5 43 ls (.int x :: .ref a :: st) h P = z_aL h.1 a z_tI x (fun v => z_T g d 5 44 ls (.int v :: st) h P) := zt_iaload zi_5_43
theorem zi_5_44 : z_ins 5 44 = some (.iconst (-1), 1) := by decide +kernel
theorem ze_5_44 : z_T g d 5 44 ls st h P = z_T g d 5 45 ls (.int (-1) :: st) h P := zt_iconst zi_5_44 rfl
theorem zi_5_45 : z_ins 5 45 = some (.if_icmp .ne 27, 3) := by decide +kernel
theorem ze_5_45 : z_T g d 5 45 ls (.int y :: .int x :: st) h P = (if x = y then z_T g d 5 48 ls st h P else z_T g d 5 72 ls st h P) := zt_icmpne zi_5_45 (by decide)
theorem zi_5_48 : z_ins 5 48 = some (.aload_n 0, 1) := by decide +kernel
theorem ze_5_48 : z_T g d 5 48 (.ref a :: ls) st h P = z_T g d 5 49 (.ref a :: ls) (.ref a :: st) h P := zt_aloadn zi_5_48 rfl rfl
theorem zi_5_49 : z_ins 5 49 = some (.getfield 18, 3) := by decide +kernel
theorem ze_5_49 : z_T g d 5 49 ls (.ref a :: st) h P = z_gR h.1 a 0 2 (fun x => z_T g d 5 52 ls (x :: st) h P) := zt_getR zi_5_49 ((congrArg (fun o => z_fl o 18) zo_5).trans zf_LatinRectangles_Completions_18)
theorem zi_5_52 : z_ins 5 52 = some (.aload_n 0, 1) := by decide +kernel
theorem ze_5_52 : z_T g d 5 52 (.ref a :: ls) st h P = z_T g d 5 53 (.ref a :: ls) (.ref a :: st) h P := zt_aloadn zi_5_52 rfl rfl
theorem zi_5_53 : z_ins 5 53 = some (.getfield 55, 3) := by decide +kernel
theorem ze_5_53 : z_T g d 5 53 ls (.ref a :: st) h P = z_gI h.1 a 0 3 (fun x => z_T g d 5 56 ls (.int x :: st) h P) := zt_getI zi_5_53 ((congrArg (fun o => z_fl o 55) zo_5).trans zf_LatinRectangles_Completions_55)
theorem zi_5_56 : z_ins 5 56 = some (.iload_n 2, 1) := by decide +kernel
theorem ze_5_56 : z_T g d 5 56 (v0 :: v1 :: .int x :: ls) st h P = z_T g d 5 57 (v0 :: v1 :: .int x :: ls) (.int x :: st) h P := zt_iloadn zi_5_56 rfl rfl
theorem zi_5_57 : z_ins 5 57 = some (.iconst 5, 1) := by decide +kernel
theorem ze_5_57 : z_T g d 5 57 ls st h P = z_T g d 5 58 ls (.int (nI 5) :: st) h P := zt_iconst zi_5_57 rfl
theorem zi_5_58 : z_ins 5 58 = some (.imul, 1) := by decide +kernel
theorem ze_5_58 : z_T g d 5 58 ls (.int y :: .int x :: st) h P = z_T g d 5 59 ls (.int (x * y) :: st) h P := zt_bin (f := fun x y => x * y) zi_5_58 rfl (fun _ _ _ => rfl)
theorem zi_5_59 : z_ins 5 59 = some (.iload_n 3, 1) := by decide +kernel
theorem ze_5_59 : z_T g d 5 59 (v0 :: v1 :: v2 :: .int x :: ls) st h P = z_T g d 5 60 (v0 :: v1 :: v2 :: .int x :: ls) (.int x :: st) h P := zt_iloadn zi_5_59 rfl rfl
theorem zi_5_60 : z_ins 5 60 = some (.iadd, 1) := by decide +kernel
theorem ze_5_60 : z_T g d 5 60 ls (.int y :: .int x :: st) h P = z_T g d 5 61 ls (.int (x + y) :: st) h P := zt_bin (f := fun x y => x + y) zi_5_60 rfl (fun _ _ _ => rfl)
theorem zi_5_61 : z_ins 5 61 = some (.iastore, 1) := by decide +kernel
theorem ze_5_61 : z_T g d 5 61 ls (.int y :: .int x :: .ref a :: st) h P = z_aS h.1 a z_tI x y (fun f => z_T g d 5 62 ls st (f, h.2) P) := zt_iastore zi_5_61
theorem zi_5_62 : z_ins 5 62 = some (.aload_n 0, 1) := by decide +kernel
theorem ze_5_62 : z_T g d 5 62 (.ref a :: ls) st h P = z_T g d 5 63 (.ref a :: ls) (.ref a :: st) h P := zt_aloadn zi_5_62 rfl rfl
theorem zi_5_63 : z_ins 5 63 = some (.dup, 1) := by decide +kernel
theorem ze_5_63 : z_T g d 5 63 ls (.ref a :: st) h P = z_T g d 5 64 ls (.ref a :: .ref a :: st) h P := zt_dup rfl zi_5_63
theorem ze_5_63_i : z_T g d 5 63 ls (.int x :: st) h P = z_T g d 5 64 ls (.int x :: .int x :: st) h P := zt_dup rfl zi_5_63
theorem zi_5_64 : z_ins 5 64 = some (.getfield 55, 3) := by decide +kernel
theorem ze_5_64 : z_T g d 5 64 ls (.ref a :: st) h P = z_gI h.1 a 0 3 (fun x => z_T g d 5 67 ls (.int x :: st) h P) := zt_getI zi_5_64 ((congrArg (fun o => z_fl o 55) zo_5).trans zf_LatinRectangles_Completions_55)
theorem zi_5_67 : z_ins 5 67 = some (.iconst 1, 1) := by decide +kernel
theorem ze_5_67 : z_T g d 5 67 ls st h P = z_T g d 5 68 ls (.int (nI 1) :: st) h P := zt_iconst zi_5_67 rfl
theorem zi_5_68 : z_ins 5 68 = some (.iadd, 1) := by decide +kernel
theorem ze_5_68 : z_T g d 5 68 ls (.int y :: .int x :: st) h P = z_T g d 5 69 ls (.int (x + y) :: st) h P := zt_bin (f := fun x y => x + y) zi_5_68 rfl (fun _ _ _ => rfl)
theorem zi_5_69 : z_ins 5 69 = some (.putfield 55, 3) := by decide +kernel
theorem ze_5_69 : z_T g d 5 69 ls (.int x :: .ref a :: st) h P = z_pF h.1 a 0 3 (.int x) (fun f => z_T g d 5 72 ls st (f, h.2) P) := zt_put zi_5_69 ((congrArg (fun o => z_fl o 55) zo_5).trans zf_LatinRectangles_Completions_55) (by decide +kernel) rfl rfl
theorem zi_5_72 : z_ins 5 72 = some (.iinc 3 1, 3) := by decide +kernel
theorem ze_5_72 : z_T g d 5 72 (v0 :: v1 :: v2 :: .int x :: ls) st h P = z_T g d 5 75 (v0 :: v1 :: v2 :: .int (x + (nI 1)) :: ls) st h P := zt_iinc zi_5_72 rfl rfl
theorem zi_5_75 : z_ins 5 75 = some (.goto (-55), 3) := by decide +kernel
theorem ze_5_75 : z_T g d 5 75 ls st h P = z_T g d 5 20 ls st h P := zt_goto zi_5_75 (by decide)
theorem zi_5_78 : z_ins 5 78 = some (.iinc 2 1, 3) := by decide +kernel
theorem ze_5_78 : z_T g d 5 78 (v0 :: v1 :: .int x :: ls) st h P = z_T g d 5 81 (v0 :: v1 :: .int (x + (nI 1)) :: ls) st h P := zt_iinc zi_5_78 rfl rfl
theorem zi_5_81 : z_ins 5 81 = some (.goto (-74), 3) := by decide +kernel
theorem ze_5_81 : z_T g d 5 81 ls st h P = z_T g d 5 7 ls st h P := zt_goto zi_5_81 (by decide)
theorem zi_5_84 : z_ins 5 84 = some (.aload_n 0, 1) := by decide +kernel
theorem ze_5_84 : z_T g d 5 84 (.ref a :: ls) st h P = z_T g d 5 85 (.ref a :: ls) (.ref a :: st) h P := zt_aloadn zi_5_84 rfl rfl
theorem zi_5_85 : z_ins 5 85 = some (.iconst 0, 1) := by decide +kernel
theorem ze_5_85 : z_T g d 5 85 ls st h P = z_T g d 5 86 ls (.int (nI 0) :: st) h P := zt_iconst zi_5_85 rfl
theorem zi_5_86 : z_ins 5 86 = some (.iload_n 1, 1) := by decide +kernel
theorem ze_5_86 : z_T g d 5 86 (v0 :: .int x :: ls) st h P = z_T g d 5 87 (v0 :: .int x :: ls) (.int x :: st) h P := zt_iloadn zi_5_86 rfl rfl
theorem zi_5_87 : z_ins 5 87 = some (.invokestatic 61, 3) := by decide +kernel
theorem ze_5_87 : z_T g d 5 87 ls (.int x2 :: .int x1 :: .ref a0 :: st) h P = ((z_okS 8 st = true ∧ 0 < d) ∧ z_Ca g (d - 1) 6 [.ref a0, .int x1, .int x2] h (fun r => z_k r (fun v h' => z_T g d 5 90 ls (z_push v st) h' P) P)) := zt_cS (as := [.ref a0, .int x1, .int x2]) (kk := 1) zi_5_87 rfl (zt_call zj_5 zh_5) (z_opT ((congrArg (fun o => z_lookup z_cps (o, 61)) zo_5).trans zq_cps_LatinRectangles_Completions_61) ((congrArg (fun o => z_lookup z_prs (o, 61)) zo_5).trans zq_prs_LatinRectangles_Completions_61)) ((congrArg (fun o => z_clk o 61) zo_5).trans zk_LatinRectangles_Completions_61) rfl rfl rfl rfl rfl
theorem zi_5_90 : z_ins 5 90 = some (.ireturn, 1) := by decide +kernel
theorem ze_5_90 : z_T g d 5 90 ls [.int x] h P = P (.inr (some (.int x)), h) := zt_ireturn zi_5_90 zr_5
-- LatinRectangles$Completions.countFrom(LLatinRectangles$Completions;II)I
theorem zm_6 : z_maxL 6 = 9 := by decide +kernel
theorem zh_6 : z_hds 6 = [] := by decide +kernel
theorem zj_6 : z_jdk 6 = false := by decide +kernel
theorem zr_6 : z_rt 6 = (some .int) := by decide +kernel
theorem zn_6 : z_Ca g d 6 [.ref a0, .int x1, .int x2] h P = z_T g d 6 0 [.ref a0, .int x1, .int x2, z_un, z_un, z_un, z_un, z_un, z_un] [] h P := z_Ca_ent zm_6 rfl rfl
theorem zi_6_0 : z_ins 6 0 = some (.iload_n 1, 1) := by decide +kernel
theorem ze_6_0 : z_T g d 6 0 (v0 :: .int x :: ls) st h P = z_T g d 6 1 (v0 :: .int x :: ls) (.int x :: st) h P := zt_iloadn zi_6_0 rfl rfl
theorem zi_6_1 : z_ins 6 1 = some (.aload_n 0, 1) := by decide +kernel
theorem ze_6_1 : z_T g d 6 1 (.ref a :: ls) st h P = z_T g d 6 2 (.ref a :: ls) (.ref a :: st) h P := zt_aloadn zi_6_1 rfl rfl
theorem zi_6_2 : z_ins 6 2 = some (.getfield 55, 3) := by decide +kernel
theorem ze_6_2 : z_T g d 6 2 ls (.ref a :: st) h P = z_gI h.1 a 0 3 (fun x => z_T g d 6 5 ls (.int x :: st) h P) := zt_getI zi_6_2 ((congrArg (fun o => z_fl o 55) zo_6).trans zf_LatinRectangles_Completions_55)
theorem zi_6_5 : z_ins 6 5 = some (.if_icmp .lt 5, 3) := by decide +kernel
theorem ze_6_5 : z_T g d 6 5 ls (.int y :: .int x :: st) h P = (if x < y then z_T g d 6 10 ls st h P else z_T g d 6 8 ls st h P) := zt_icmplt zi_6_5 (by decide)
theorem zi_6_8 : z_ins 6 8 = some (.iconst 1, 1) := by decide +kernel
theorem ze_6_8 : z_T g d 6 8 ls st h P = z_T g d 6 9 ls (.int (nI 1) :: st) h P := zt_iconst zi_6_8 rfl
theorem zi_6_9 : z_ins 6 9 = some (.ireturn, 1) := by decide +kernel
theorem ze_6_9 : z_T g d 6 9 ls [.int x] h P = P (.inr (some (.int x)), h) := zt_ireturn zi_6_9 zr_6
theorem zi_6_10 : z_ins 6 10 = some (.aload_n 0, 1) := by decide +kernel
theorem ze_6_10 : z_T g d 6 10 (.ref a :: ls) st h P = z_T g d 6 11 (.ref a :: ls) (.ref a :: st) h P := zt_aloadn zi_6_10 rfl rfl
theorem zi_6_11 : z_ins 6 11 = some (.iload_n 1, 1) := by decide +kernel
theorem ze_6_11 : z_T g d 6 11 (v0 :: .int x :: ls) st h P = z_T g d 6 12 (v0 :: .int x :: ls) (.int x :: st) h P := zt_iloadn zi_6_11 rfl rfl
theorem zi_6_12 : z_ins 6 12 = some (.invokevirtual 65, 3) := by decide +kernel
theorem ze_6_12 : z_T g d 6 12 ls (.int x0 :: .ref a :: st) h P = ((z_okS 8 st = true ∧ z_gO h.1 a 0 ∧ 0 < d) ∧ z_Ca g (d - 1) 7 [.ref a, .int x0] h (fun r => z_k r (fun v h' => z_T g d 6 15 ls (z_push v st) h' P) P)) := zt_cV (as := [.int x0]) (kk := 0) zi_6_12 rfl (zt_call zj_6 zh_6) (z_opV ((congrArg (fun o => z_lookup z_cns (o, 65)) zo_6).trans zq_cns_LatinRectangles_Completions_65) ((congrArg (fun o => z_lookup z_prs (o, 65)) zo_6).trans zq_prs_LatinRectangles_Completions_65)) ((congrArg (fun o => z_clk o 65) zo_6).trans zk_LatinRectangles_Completions_65) rfl rfl rfl rfl (z_rcv0 zc_7)
theorem zi_6_15 : z_ins 6 15 = some (.istore_n 3, 1) := by decide +kernel
theorem ze_6_15 : z_T g d 6 15 (v0 :: v1 :: v2 :: v3 :: ls) (.int x :: st) h P = z_T g d 6 16 (v0 :: v1 :: v2 :: .int x :: ls) st h P := zt_istoren zi_6_15 rfl (Nat.le_add_left 4 _)
theorem zi_6_16 : z_ins 6 16 = some (.iload_n 3, 1) := by decide +kernel
theorem ze_6_16 : z_T g d 6 16 (v0 :: v1 :: v2 :: .int x :: ls) st h P = z_T g d 6 17 (v0 :: v1 :: v2 :: .int x :: ls) (.int x :: st) h P := zt_iloadn zi_6_16 rfl rfl
theorem zi_6_17 : z_ins 6 17 = some (.iconst 5, 1) := by decide +kernel
theorem ze_6_17 : z_T g d 6 17 ls st h P = z_T g d 6 18 ls (.int (nI 5) :: st) h P := zt_iconst zi_6_17 rfl
theorem zi_6_18 : z_ins 6 18 = some (.idiv, 1) := by decide +kernel
theorem ze_6_18 : z_T g d 6 18 ls (.int y :: .int x :: st) h P = (¬ y = nI 0 ∧ z_T g d 6 19 ls (.int (x / y) :: st) h P) := zt_idiv zi_6_18
theorem zi_6_19 : z_ins 6 19 = some (.istore 4, 2) := by decide +kernel
theorem ze_6_19 : z_T g d 6 19 (v0 :: v1 :: v2 :: v3 :: v4 :: ls) (.int x :: st) h P = z_T g d 6 21 (v0 :: v1 :: v2 :: v3 :: .int x :: ls) st h P := zt_istore zi_6_19 (Nat.le_add_left 5 _)
theorem zi_6_21 : z_ins 6 21 = some (.iload_n 3, 1) := by decide +kernel
theorem ze_6_21 : z_T g d 6 21 (v0 :: v1 :: v2 :: .int x :: ls) st h P = z_T g d 6 22 (v0 :: v1 :: v2 :: .int x :: ls) (.int x :: st) h P := zt_iloadn zi_6_21 rfl rfl
theorem zi_6_22 : z_ins 6 22 = some (.iconst 5, 1) := by decide +kernel
theorem ze_6_22 : z_T g d 6 22 ls st h P = z_T g d 6 23 ls (.int (nI 5) :: st) h P := zt_iconst zi_6_22 rfl
theorem zi_6_23 : z_ins 6 23 = some (.irem, 1) := by decide +kernel
theorem ze_6_23 : z_T g d 6 23 ls (.int y :: .int x :: st) h P = (¬ y = nI 0 ∧ z_T g d 6 24 ls (.int (x - x / y * y) :: st) h P) := zt_irem zi_6_23
theorem zi_6_24 : z_ins 6 24 = some (.istore 5, 2) := by decide +kernel
theorem ze_6_24 : z_T g d 6 24 (v0 :: v1 :: v2 :: v3 :: v4 :: v5 :: ls) (.int x :: st) h P = z_T g d 6 26 (v0 :: v1 :: v2 :: v3 :: v4 :: .int x :: ls) st h P := zt_istore zi_6_24 (Nat.le_add_left 6 _)
theorem zi_6_26 : z_ins 6 26 = some (.aload_n 0, 1) := by decide +kernel
theorem ze_6_26 : z_T g d 6 26 (.ref a :: ls) st h P = z_T g d 6 27 (.ref a :: ls) (.ref a :: st) h P := zt_aloadn zi_6_26 rfl rfl
theorem zi_6_27 : z_ins 6 27 = some (.getfield 12, 3) := by decide +kernel
theorem ze_6_27 : z_T g d 6 27 ls (.ref a :: st) h P = z_gR h.1 a 0 1 (fun x => z_T g d 6 30 ls (x :: st) h P) := zt_getR zi_6_27 ((congrArg (fun o => z_fl o 12) zo_6).trans zf_LatinRectangles_Completions_12)
theorem zi_6_30 : z_ins 6 30 = some (.iload 4, 2) := by decide +kernel
theorem ze_6_30 : z_T g d 6 30 (v0 :: v1 :: v2 :: v3 :: .int x :: ls) st h P = z_T g d 6 32 (v0 :: v1 :: v2 :: v3 :: .int x :: ls) (.int x :: st) h P := zt_iload zi_6_30 rfl
theorem zi_6_32 : z_ins 6 32 = some (.iload 5, 2) := by decide +kernel
theorem ze_6_32 : z_T g d 6 32 (v0 :: v1 :: v2 :: v3 :: v4 :: .int x :: ls) st h P = z_T g d 6 34 (v0 :: v1 :: v2 :: v3 :: v4 :: .int x :: ls) (.int x :: st) h P := zt_iload zi_6_32 rfl
theorem zi_6_34 : z_ins 6 34 = some (.invokevirtual 44, 3) := by decide +kernel
theorem ze_6_34 : z_T g d 6 34 ls (.int x1 :: .int x0 :: .ref a :: st) h P = ((z_okS 8 st = true ∧ z_gO h.1 a 3 ∧ 0 < d) ∧ z_Ca g (d - 1) 34 [.ref a, .int x0, .int x1] h (fun r => z_k r (fun v h' => z_T g d 6 37 ls (z_push v st) h' P) P)) := zt_cV (as := [.int x0, .int x1]) (kk := 0) zi_6_34 rfl (zt_call zj_6 zh_6) (z_opV ((congrArg (fun o => z_lookup z_cns (o, 44)) zo_6).trans zq_cns_LatinRectangles_Completions_44) ((congrArg (fun o => z_lookup z_prs (o, 44)) zo_6).trans zq_prs_LatinRectangles_Completions_44)) ((congrArg (fun o => z_clk o 44) zo_6).trans zk_LatinRectangles_Completions_44) rfl rfl rfl rfl (z_rcv0 zc_34)
theorem zi_6_37 : z_ins 6 37 = some (.istore 6, 2) := by decide +kernel
theorem ze_6_37 : z_T g d 6 37 (v0 :: v1 :: v2 :: v3 :: v4 :: v5 :: v6 :: ls) (.int x :: st) h P = z_T g d 6 39 (v0 :: v1 :: v2 :: v3 :: v4 :: v5 :: .int x :: ls) st h P := zt_istore zi_6_37 (Nat.le_add_left 7 _)
theorem zi_6_39 : z_ins 6 39 = some (.iconst 0, 1) := by decide +kernel
theorem ze_6_39 : z_T g d 6 39 ls st h P = z_T g d 6 40 ls (.int (nI 0) :: st) h P := zt_iconst zi_6_39 rfl
theorem zi_6_40 : z_ins 6 40 = some (.istore 7, 2) := by decide +kernel
theorem ze_6_40 : z_T g d 6 40 (v0 :: v1 :: v2 :: v3 :: v4 :: v5 :: v6 :: v7 :: ls) (.int x :: st) h P = z_T g d 6 42 (v0 :: v1 :: v2 :: v3 :: v4 :: v5 :: v6 :: .int x :: ls) st h P := zt_istore zi_6_40 (Nat.le_add_left 8 _)
theorem zi_6_42 : z_ins 6 42 = some (.iconst 0, 1) := by decide +kernel
theorem ze_6_42 : z_T g d 6 42 ls st h P = z_T g d 6 43 ls (.int (nI 0) :: st) h P := zt_iconst zi_6_42 rfl
theorem zi_6_43 : z_ins 6 43 = some (.istore 8, 2) := by decide +kernel
theorem ze_6_43 : z_T g d 6 43 (v0 :: v1 :: v2 :: v3 :: v4 :: v5 :: v6 :: v7 :: v8 :: ls) (.int x :: st) h P = z_T g d 6 45 (v0 :: v1 :: v2 :: v3 :: v4 :: v5 :: v6 :: v7 :: .int x :: ls) st h P := zt_istore zi_6_43 (Nat.le_add_left 9 _)
theorem zi_6_45 : z_ins 6 45 = some (.iload 8, 2) := by decide +kernel
theorem ze_6_45 : z_T g d 6 45 (v0 :: v1 :: v2 :: v3 :: v4 :: v5 :: v6 :: v7 :: .int x :: ls) st h P = z_T g d 6 47 (v0 :: v1 :: v2 :: v3 :: v4 :: v5 :: v6 :: v7 :: .int x :: ls) (.int x :: st) h P := zt_iload zi_6_45 rfl
theorem zi_6_47 : z_ins 6 47 = some (.aload_n 0, 1) := by decide +kernel
theorem ze_6_47 : z_T g d 6 47 (.ref a :: ls) st h P = z_T g d 6 48 (.ref a :: ls) (.ref a :: st) h P := zt_aloadn zi_6_47 rfl rfl
theorem zi_6_48 : z_ins 6 48 = some (.getfield 12, 3) := by decide +kernel
theorem ze_6_48 : z_T g d 6 48 ls (.ref a :: st) h P = z_gR h.1 a 0 1 (fun x => z_T g d 6 51 ls (x :: st) h P) := zt_getR zi_6_48 ((congrArg (fun o => z_fl o 12) zo_6).trans zf_LatinRectangles_Completions_12)
theorem zi_6_51 : z_ins 6 51 = some (.getfield 33, 3) := by decide +kernel
theorem ze_6_51 : z_T g d 6 51 ls (.ref a :: st) h P = z_gI h.1 a 3 6 (fun x => z_T g d 6 54 ls (.int x :: st) h P) := zt_getI zi_6_51 ((congrArg (fun o => z_fl o 33) zo_6).trans zf_LatinRectangles_Completions_33)
theorem zi_6_54 : z_ins 6 54 = some (.if_icmp .ge 65, 3) := by decide +kernel
theorem ze_6_54 : z_T g d 6 54 ls (.int y :: .int x :: st) h P = (if x < y then z_T g d 6 57 ls st h P else z_T g d 6 119 ls st h P) := zt_icmpge zi_6_54 (by decide)
theorem zi_6_57 : z_ins 6 57 = some (.iload 7, 2) := by decide +kernel
theorem ze_6_57 : z_T g d 6 57 (v0 :: v1 :: v2 :: v3 :: v4 :: v5 :: v6 :: .int x :: ls) st h P = z_T g d 6 59 (v0 :: v1 :: v2 :: v3 :: v4 :: v5 :: v6 :: .int x :: ls) (.int x :: st) h P := zt_iload zi_6_57 rfl
theorem zi_6_59 : z_ins 6 59 = some (.iload_n 2, 1) := by decide +kernel
theorem ze_6_59 : z_T g d 6 59 (v0 :: v1 :: .int x :: ls) st h P = z_T g d 6 60 (v0 :: v1 :: .int x :: ls) (.int x :: st) h P := zt_iloadn zi_6_59 rfl rfl
theorem zi_6_60 : z_ins 6 60 = some (.if_icmp .ge 59, 3) := by decide +kernel
theorem ze_6_60 : z_T g d 6 60 ls (.int y :: .int x :: st) h P = (if x < y then z_T g d 6 63 ls st h P else z_T g d 6 119 ls st h P) := zt_icmpge zi_6_60 (by decide)
theorem zi_6_63 : z_ins 6 63 = some (.iload 6, 2) := by decide +kernel
theorem ze_6_63 : z_T g d 6 63 (v0 :: v1 :: v2 :: v3 :: v4 :: v5 :: .int x :: ls) st h P = z_T g d 6 65 (v0 :: v1 :: v2 :: v3 :: v4 :: v5 :: .int x :: ls) (.int x :: st) h P := zt_iload zi_6_63 rfl
theorem zi_6_65 : z_ins 6 65 = some (.iload 8, 2) := by decide +kernel
theorem ze_6_65 : z_T g d 6 65 (v0 :: v1 :: v2 :: v3 :: v4 :: v5 :: v6 :: v7 :: .int x :: ls) st h P = z_T g d 6 67 (v0 :: v1 :: v2 :: v3 :: v4 :: v5 :: v6 :: v7 :: .int x :: ls) (.int x :: st) h P := zt_iload zi_6_65 rfl
theorem zi_6_67 : z_ins 6 67 = some (.ishr, 1) := by decide +kernel
theorem ze_6_67 : z_T g d 6 67 ls (.int y :: .int x :: st) h P = z_T g d 6 68 ls (.int (x >>> (y &&& 31)) :: st) h P := zt_bin (f := fun x y => x >>> (y &&& 31)) zi_6_67 rfl (fun _ _ _ => rfl)
theorem zi_6_68 : z_ins 6 68 = some (.iconst 1, 1) := by decide +kernel
theorem ze_6_68 : z_T g d 6 68 ls st h P = z_T g d 6 69 ls (.int (nI 1) :: st) h P := zt_iconst zi_6_68 rfl
theorem zi_6_69 : z_ins 6 69 = some (.iand, 1) := by decide +kernel
theorem ze_6_69 : z_T g d 6 69 ls (.int y :: .int x :: st) h P = z_T g d 6 70 ls (.int (x &&& y) :: st) h P := zt_bin (f := fun x y => x &&& y) zi_6_69 rfl (fun _ _ _ => rfl)
theorem zi_6_70 : z_ins 6 70 = some (.ifCond .eq 43, 3) := by decide +kernel
theorem ze_6_70 : z_T g d 6 70 ls (.int x :: st) h P = (if x = nI 0 then z_T g d 6 113 ls st h P else z_T g d 6 73 ls st h P) := zt_ifeq zi_6_70 (by decide)
theorem zi_6_73 : z_ins 6 73 = some (.aload_n 0, 1) := by decide +kernel
theorem ze_6_73 : z_T g d 6 73 (.ref a :: ls) st h P = z_T g d 6 74 (.ref a :: ls) (.ref a :: st) h P := zt_aloadn zi_6_73 rfl rfl
theorem zi_6_74 : z_ins 6 74 = some (.getfield 12, 3) := by decide +kernel
theorem ze_6_74 : z_T g d 6 74 ls (.ref a :: st) h P = z_gR h.1 a 0 1 (fun x => z_T g d 6 77 ls (x :: st) h P) := zt_getR zi_6_74 ((congrArg (fun o => z_fl o 12) zo_6).trans zf_LatinRectangles_Completions_12)
theorem zi_6_77 : z_ins 6 77 = some (.iload 4, 2) := by decide +kernel
theorem ze_6_77 : z_T g d 6 77 (v0 :: v1 :: v2 :: v3 :: .int x :: ls) st h P = z_T g d 6 79 (v0 :: v1 :: v2 :: v3 :: .int x :: ls) (.int x :: st) h P := zt_iload zi_6_77 rfl
theorem zi_6_79 : z_ins 6 79 = some (.iload 5, 2) := by decide +kernel
theorem ze_6_79 : z_T g d 6 79 (v0 :: v1 :: v2 :: v3 :: v4 :: .int x :: ls) st h P = z_T g d 6 81 (v0 :: v1 :: v2 :: v3 :: v4 :: .int x :: ls) (.int x :: st) h P := zt_iload zi_6_79 rfl
theorem zi_6_81 : z_ins 6 81 = some (.iload 8, 2) := by decide +kernel
theorem ze_6_81 : z_T g d 6 81 (v0 :: v1 :: v2 :: v3 :: v4 :: v5 :: v6 :: v7 :: .int x :: ls) st h P = z_T g d 6 83 (v0 :: v1 :: v2 :: v3 :: v4 :: v5 :: v6 :: v7 :: .int x :: ls) (.int x :: st) h P := zt_iload zi_6_81 rfl
theorem zi_6_83 : z_ins 6 83 = some (.invokevirtual 48, 3) := by decide +kernel
theorem ze_6_83 : z_T g d 6 83 ls (.int x2 :: .int x1 :: .int x0 :: .ref a :: st) h P = ((z_okS 8 st = true ∧ z_gO h.1 a 3 ∧ 0 < d) ∧ z_Ca g (d - 1) 29 [.ref a, .int x0, .int x1, .int x2] h (fun r => z_k r (fun v h' => z_T g d 6 86 ls (z_push v st) h' P) P)) := zt_cV (as := [.int x0, .int x1, .int x2]) (kk := 0) zi_6_83 rfl (zt_call zj_6 zh_6) (z_opV ((congrArg (fun o => z_lookup z_cns (o, 48)) zo_6).trans zq_cns_LatinRectangles_Completions_48) ((congrArg (fun o => z_lookup z_prs (o, 48)) zo_6).trans zq_prs_LatinRectangles_Completions_48)) ((congrArg (fun o => z_clk o 48) zo_6).trans zk_LatinRectangles_Completions_48) rfl rfl rfl rfl (z_rcv0 zc_29)
theorem zi_6_86 : z_ins 6 86 = some (.iload 7, 2) := by decide +kernel
theorem ze_6_86 : z_T g d 6 86 (v0 :: v1 :: v2 :: v3 :: v4 :: v5 :: v6 :: .int x :: ls) st h P = z_T g d 6 88 (v0 :: v1 :: v2 :: v3 :: v4 :: v5 :: v6 :: .int x :: ls) (.int x :: st) h P := zt_iload zi_6_86 rfl
theorem zi_6_88 : z_ins 6 88 = some (.aload_n 0, 1) := by decide +kernel
theorem ze_6_88 : z_T g d 6 88 (.ref a :: ls) st h P = z_T g d 6 89 (.ref a :: ls) (.ref a :: st) h P := zt_aloadn zi_6_88 rfl rfl
theorem zi_6_89 : z_ins 6 89 = some (.iload_n 1, 1) := by decide +kernel
theorem ze_6_89 : z_T g d 6 89 (v0 :: .int x :: ls) st h P = z_T g d 6 90 (v0 :: .int x :: ls) (.int x :: st) h P := zt_iloadn zi_6_89 rfl rfl
theorem zi_6_90 : z_ins 6 90 = some (.iconst 1, 1) := by decide +kernel
theorem ze_6_90 : z_T g d 6 90 ls st h P = z_T g d 6 91 ls (.int (nI 1) :: st) h P := zt_iconst zi_6_90 rfl
theorem zi_6_91 : z_ins 6 91 = some (.iadd, 1) := by decide +kernel
theorem ze_6_91 : z_T g d 6 91 ls (.int y :: .int x :: st) h P = z_T g d 6 92 ls (.int (x + y) :: st) h P := zt_bin (f := fun x y => x + y) zi_6_91 rfl (fun _ _ _ => rfl)
theorem zi_6_92 : z_ins 6 92 = some (.iload_n 2, 1) := by decide +kernel
theorem ze_6_92 : z_T g d 6 92 (v0 :: v1 :: .int x :: ls) st h P = z_T g d 6 93 (v0 :: v1 :: .int x :: ls) (.int x :: st) h P := zt_iloadn zi_6_92 rfl rfl
theorem zi_6_93 : z_ins 6 93 = some (.iload 7, 2) := by decide +kernel
theorem ze_6_93 : z_T g d 6 93 (v0 :: v1 :: v2 :: v3 :: v4 :: v5 :: v6 :: .int x :: ls) st h P = z_T g d 6 95 (v0 :: v1 :: v2 :: v3 :: v4 :: v5 :: v6 :: .int x :: ls) (.int x :: st) h P := zt_iload zi_6_93 rfl
theorem zi_6_95 : z_ins 6 95 = some (.isub, 1) := by decide +kernel
theorem ze_6_95 : z_T g d 6 95 ls (.int y :: .int x :: st) h P = z_T g d 6 96 ls (.int (x - y) :: st) h P := zt_bin (f := fun x y => x - y) zi_6_95 rfl (fun _ _ _ => rfl)
theorem zi_6_96 : z_ins 6 96 = some (.invokestatic 61, 3) := by decide +kernel
theorem ze_6_96 : z_T g d 6 96 ls (.int x2 :: .int x1 :: .ref a0 :: st) h P = ((z_okS 8 st = true ∧ 0 < d) ∧ z_Ca g (d - 1) 6 [.ref a0, .int x1, .int x2] h (fun r => z_k r (fun v h' => z_T g d 6 99 ls (z_push v st) h' P) P)) := zt_cS (as := [.ref a0, .int x1, .int x2]) (kk := 1) zi_6_96 rfl (zt_call zj_6 zh_6) (z_opT ((congrArg (fun o => z_lookup z_cps (o, 61)) zo_6).trans zq_cps_LatinRectangles_Completions_61) ((congrArg (fun o => z_lookup z_prs (o, 61)) zo_6).trans zq_prs_LatinRectangles_Completions_61)) ((congrArg (fun o => z_clk o 61) zo_6).trans zk_LatinRectangles_Completions_61) rfl rfl rfl rfl rfl
theorem zi_6_99 : z_ins 6 99 = some (.iadd, 1) := by decide +kernel
theorem ze_6_99 : z_T g d 6 99 ls (.int y :: .int x :: st) h P = z_T g d 6 100 ls (.int (x + y) :: st) h P := zt_bin (f := fun x y => x + y) zi_6_99 rfl (fun _ _ _ => rfl)
theorem zi_6_100 : z_ins 6 100 = some (.istore 7, 2) := by decide +kernel
theorem ze_6_100 : z_T g d 6 100 (v0 :: v1 :: v2 :: v3 :: v4 :: v5 :: v6 :: v7 :: ls) (.int x :: st) h P = z_T g d 6 102 (v0 :: v1 :: v2 :: v3 :: v4 :: v5 :: v6 :: .int x :: ls) st h P := zt_istore zi_6_100 (Nat.le_add_left 8 _)
theorem zi_6_102 : z_ins 6 102 = some (.aload_n 0, 1) := by decide +kernel
theorem ze_6_102 : z_T g d 6 102 (.ref a :: ls) st h P = z_T g d 6 103 (.ref a :: ls) (.ref a :: st) h P := zt_aloadn zi_6_102 rfl rfl
theorem zi_6_103 : z_ins 6 103 = some (.getfield 12, 3) := by decide +kernel
theorem ze_6_103 : z_T g d 6 103 ls (.ref a :: st) h P = z_gR h.1 a 0 1 (fun x => z_T g d 6 106 ls (x :: st) h P) := zt_getR zi_6_103 ((congrArg (fun o => z_fl o 12) zo_6).trans zf_LatinRectangles_Completions_12)
theorem zi_6_106 : z_ins 6 106 = some (.iload 4, 2) := by decide +kernel
theorem ze_6_106 : z_T g d 6 106 (v0 :: v1 :: v2 :: v3 :: .int x :: ls) st h P = z_T g d 6 108 (v0 :: v1 :: v2 :: v3 :: .int x :: ls) (.int x :: st) h P := zt_iload zi_6_106 rfl
theorem zi_6_108 : z_ins 6 108 = some (.iload 5, 2) := by decide +kernel
theorem ze_6_108 : z_T g d 6 108 (v0 :: v1 :: v2 :: v3 :: v4 :: .int x :: ls) st h P = z_T g d 6 110 (v0 :: v1 :: v2 :: v3 :: v4 :: .int x :: ls) (.int x :: st) h P := zt_iload zi_6_108 rfl
theorem zi_6_110 : z_ins 6 110 = some (.invokevirtual 52, 3) := by decide +kernel
theorem ze_6_110 : z_T g d 6 110 ls (.int x1 :: .int x0 :: .ref a :: st) h P = ((z_okS 8 st = true ∧ z_gO h.1 a 3 ∧ 0 < d) ∧ z_Ca g (d - 1) 30 [.ref a, .int x0, .int x1] h (fun r => z_k r (fun v h' => z_T g d 6 113 ls (z_push v st) h' P) P)) := zt_cV (as := [.int x0, .int x1]) (kk := 0) zi_6_110 rfl (zt_call zj_6 zh_6) (z_opV ((congrArg (fun o => z_lookup z_cns (o, 52)) zo_6).trans zq_cns_LatinRectangles_Completions_52) ((congrArg (fun o => z_lookup z_prs (o, 52)) zo_6).trans zq_prs_LatinRectangles_Completions_52)) ((congrArg (fun o => z_clk o 52) zo_6).trans zk_LatinRectangles_Completions_52) rfl rfl rfl rfl (z_rcv0 zc_30)
theorem zi_6_113 : z_ins 6 113 = some (.iinc 8 1, 3) := by decide +kernel
theorem ze_6_113 : z_T g d 6 113 (v0 :: v1 :: v2 :: v3 :: v4 :: v5 :: v6 :: v7 :: .int x :: ls) st h P = z_T g d 6 116 (v0 :: v1 :: v2 :: v3 :: v4 :: v5 :: v6 :: v7 :: .int (x + (nI 1)) :: ls) st h P := zt_iinc zi_6_113 rfl rfl
theorem zi_6_116 : z_ins 6 116 = some (.goto (-71), 3) := by decide +kernel
theorem ze_6_116 : z_T g d 6 116 ls st h P = z_T g d 6 45 ls st h P := zt_goto zi_6_116 (by decide)
theorem zi_6_119 : z_ins 6 119 = some (.iload 7, 2) := by decide +kernel
theorem ze_6_119 : z_T g d 6 119 (v0 :: v1 :: v2 :: v3 :: v4 :: v5 :: v6 :: .int x :: ls) st h P = z_T g d 6 121 (v0 :: v1 :: v2 :: v3 :: v4 :: v5 :: v6 :: .int x :: ls) (.int x :: st) h P := zt_iload zi_6_119 rfl
theorem zi_6_121 : z_ins 6 121 = some (.ireturn, 1) := by decide +kernel
theorem ze_6_121 : z_T g d 6 121 ls [.int x] h P = P (.inr (some (.int x)), h) := zt_ireturn zi_6_121 zr_6
-- LatinRectangles$Completions.bringTightest(I)I
theorem zm_7 : z_maxL 7 = 6 := by decide +kernel
theorem zh_7 : z_hds 7 = [] := by decide +kernel
theorem zj_7 : z_jdk 7 = false := by decide +kernel
theorem zr_7 : z_rt 7 = (some .int) := by decide +kernel
theorem zn_7 : z_Ca g d 7 [.ref a0, .int x1] h P = z_T g d 7 0 [.ref a0, .int x1, z_un, z_un, z_un, z_un] [] h P := z_Ca_ent zm_7 rfl rfl
theorem zi_7_0 : z_ins 7 0 = some (.iload_n 1, 1) := by decide +kernel
theorem ze_7_0 : z_T g d 7 0 (v0 :: .int x :: ls) st h P = z_T g d 7 1 (v0 :: .int x :: ls) (.int x :: st) h P := zt_iloadn zi_7_0 rfl rfl
theorem zi_7_1 : z_ins 7 1 = some (.istore_n 2, 1) := by decide +kernel
theorem ze_7_1 : z_T g d 7 1 (v0 :: v1 :: v2 :: ls) (.int x :: st) h P = z_T g d 7 2 (v0 :: v1 :: .int x :: ls) st h P := zt_istoren zi_7_1 rfl (Nat.le_add_left 3 _)
theorem zi_7_2 : z_ins 7 2 = some (.bipush 6, 2) := by decide +kernel
theorem ze_7_2 : z_T g d 7 2 ls st h P = z_T g d 7 4 ls (.int (nI 6) :: st) h P := zt_bipush zi_7_2 rfl
theorem zi_7_4 : z_ins 7 4 = some (.istore_n 3, 1) := by decide +kernel
theorem ze_7_4 : z_T g d 7 4 (v0 :: v1 :: v2 :: v3 :: ls) (.int x :: st) h P = z_T g d 7 5 (v0 :: v1 :: v2 :: .int x :: ls) st h P := zt_istoren zi_7_4 rfl (Nat.le_add_left 4 _)
theorem zi_7_5 : z_ins 7 5 = some (.iload_n 1, 1) := by decide +kernel
theorem ze_7_5 : z_T g d 7 5 (v0 :: .int x :: ls) st h P = z_T g d 7 6 (v0 :: .int x :: ls) (.int x :: st) h P := zt_iloadn zi_7_5 rfl rfl
theorem zi_7_6 : z_ins 7 6 = some (.istore 4, 2) := by decide +kernel
theorem ze_7_6 : z_T g d 7 6 (v0 :: v1 :: v2 :: v3 :: v4 :: ls) (.int x :: st) h P = z_T g d 7 8 (v0 :: v1 :: v2 :: v3 :: .int x :: ls) st h P := zt_istore zi_7_6 (Nat.le_add_left 5 _)
theorem zi_7_8 : z_ins 7 8 = some (.iload 4, 2) := by decide +kernel
theorem ze_7_8 : z_T g d 7 8 (v0 :: v1 :: v2 :: v3 :: .int x :: ls) st h P = z_T g d 7 10 (v0 :: v1 :: v2 :: v3 :: .int x :: ls) (.int x :: st) h P := zt_iload zi_7_8 rfl
theorem zi_7_10 : z_ins 7 10 = some (.aload_n 0, 1) := by decide +kernel
theorem ze_7_10 : z_T g d 7 10 (.ref a :: ls) st h P = z_T g d 7 11 (.ref a :: ls) (.ref a :: st) h P := zt_aloadn zi_7_10 rfl rfl
theorem zi_7_11 : z_ins 7 11 = some (.getfield 55, 3) := by decide +kernel
theorem ze_7_11 : z_T g d 7 11 ls (.ref a :: st) h P = z_gI h.1 a 0 3 (fun x => z_T g d 7 14 ls (.int x :: st) h P) := zt_getI zi_7_11 ((congrArg (fun o => z_fl o 55) zo_7).trans zf_LatinRectangles_Completions_55)
theorem zi_7_14 : z_ins 7 14 = some (.if_icmp .ge 56, 3) := by decide +kernel
theorem ze_7_14 : z_T g d 7 14 ls (.int y :: .int x :: st) h P = (if x < y then z_T g d 7 17 ls st h P else z_T g d 7 70 ls st h P) := zt_icmpge zi_7_14 (by decide)
theorem zi_7_17 : z_ins 7 17 = some (.iload_n 3, 1) := by decide +kernel
theorem ze_7_17 : z_T g d 7 17 (v0 :: v1 :: v2 :: .int x :: ls) st h P = z_T g d 7 18 (v0 :: v1 :: v2 :: .int x :: ls) (.int x :: st) h P := zt_iloadn zi_7_17 rfl rfl
theorem zi_7_18 : z_ins 7 18 = some (.iconst 1, 1) := by decide +kernel
theorem ze_7_18 : z_T g d 7 18 ls st h P = z_T g d 7 19 ls (.int (nI 1) :: st) h P := zt_iconst zi_7_18 rfl
theorem zi_7_19 : z_ins 7 19 = some (.if_icmp .le 51, 3) := by decide +kernel
theorem ze_7_19 : z_T g d 7 19 ls (.int y :: .int x :: st) h P = (if y < x then z_T g d 7 22 ls st h P else z_T g d 7 70 ls st h P) := zt_icmple zi_7_19 (by decide)
theorem zi_7_22 : z_ins 7 22 = some (.aload_n 0, 1) := by decide +kernel
theorem ze_7_22 : z_T g d 7 22 (.ref a :: ls) st h P = z_T g d 7 23 (.ref a :: ls) (.ref a :: st) h P := zt_aloadn zi_7_22 rfl rfl
theorem zi_7_23 : z_ins 7 23 = some (.getfield 12, 3) := by decide +kernel
theorem ze_7_23 : z_T g d 7 23 ls (.ref a :: st) h P = z_gR h.1 a 0 1 (fun x => z_T g d 7 26 ls (x :: st) h P) := zt_getR zi_7_23 ((congrArg (fun o => z_fl o 12) zo_7).trans zf_LatinRectangles_Completions_12)
theorem zi_7_26 : z_ins 7 26 = some (.aload_n 0, 1) := by decide +kernel
theorem ze_7_26 : z_T g d 7 26 (.ref a :: ls) st h P = z_T g d 7 27 (.ref a :: ls) (.ref a :: st) h P := zt_aloadn zi_7_26 rfl rfl
theorem zi_7_27 : z_ins 7 27 = some (.getfield 18, 3) := by decide +kernel
theorem ze_7_27 : z_T g d 7 27 ls (.ref a :: st) h P = z_gR h.1 a 0 2 (fun x => z_T g d 7 30 ls (x :: st) h P) := zt_getR zi_7_27 ((congrArg (fun o => z_fl o 18) zo_7).trans zf_LatinRectangles_Completions_18)
theorem zi_7_30 : z_ins 7 30 = some (.iload 4, 2) := by decide +kernel
theorem ze_7_30 : z_T g d 7 30 (v0 :: v1 :: v2 :: v3 :: .int x :: ls) st h P = z_T g d 7 32 (v0 :: v1 :: v2 :: v3 :: .int x :: ls) (.int x :: st) h P := zt_iload zi_7_30 rfl
theorem zi_7_32 : z_ins 7 32 = some (.iaload, 1) := by decide +kernel
theorem ze_7_32 : z_T g d 7 32 ls (.int x :: .ref a :: st) h P = z_aL h.1 a z_tI x (fun v => z_T g d 7 33 ls (.int v :: st) h P) := zt_iaload zi_7_32
theorem zi_7_33 : z_ins 7 33 = some (.iconst 5, 1) := by decide +kernel
theorem ze_7_33 : z_T g d 7 33 ls st h P = z_T g d 7 34 ls (.int (nI 5) :: st) h P := zt_iconst zi_7_33 rfl
theorem zi_7_34 : z_ins 7 34 = some (.idiv, 1) := by decide +kernel
theorem ze_7_34 : z_T g d 7 34 ls (.int y :: .int x :: st) h P = (¬ y = nI 0 ∧ z_T g d 7 35 ls (.int (x / y) :: st) h P) := zt_idiv zi_7_34
theorem zi_7_35 : z_ins 7 35 = some (.aload_n 0, 1) := by decide +kernel
theorem ze_7_35 : z_T g d 7 35 (.ref a :: ls) st h P = z_T g d 7 36 (.ref a :: ls) (.ref a :: st) h P := zt_aloadn zi_7_35 rfl rfl
theorem zi_7_36 : z_ins 7 36 = some (.getfield 18, 3) := by decide +kernel
theorem ze_7_36 : z_T g d 7 36 ls (.ref a :: st) h P = z_gR h.1 a 0 2 (fun x => z_T g d 7 39 ls (x :: st) h P) := zt_getR zi_7_36 ((congrArg (fun o => z_fl o 18) zo_7).trans zf_LatinRectangles_Completions_18)
theorem zi_7_39 : z_ins 7 39 = some (.iload 4, 2) := by decide +kernel
theorem ze_7_39 : z_T g d 7 39 (v0 :: v1 :: v2 :: v3 :: .int x :: ls) st h P = z_T g d 7 41 (v0 :: v1 :: v2 :: v3 :: .int x :: ls) (.int x :: st) h P := zt_iload zi_7_39 rfl
theorem zi_7_41 : z_ins 7 41 = some (.iaload, 1) := by decide +kernel
theorem ze_7_41 : z_T g d 7 41 ls (.int x :: .ref a :: st) h P = z_aL h.1 a z_tI x (fun v => z_T g d 7 42 ls (.int v :: st) h P) := zt_iaload zi_7_41
theorem zi_7_42 : z_ins 7 42 = some (.iconst 5, 1) := by decide +kernel
theorem ze_7_42 : z_T g d 7 42 ls st h P = z_T g d 7 43 ls (.int (nI 5) :: st) h P := zt_iconst zi_7_42 rfl
theorem zi_7_43 : z_ins 7 43 = some (.irem, 1) := by decide +kernel
theorem ze_7_43 : z_T g d 7 43 ls (.int y :: .int x :: st) h P = (¬ y = nI 0 ∧ z_T g d 7 44 ls (.int (x - x / y * y) :: st) h P) := zt_irem zi_7_43
theorem zi_7_44 : z_ins 7 44 = some (.invokevirtual 44, 3) := by decide +kernel
theorem ze_7_44 : z_T g d 7 44 ls (.int x1 :: .int x0 :: .ref a :: st) h P = ((z_okS 8 st = true ∧ z_gO h.1 a 3 ∧ 0 < d) ∧ z_Ca g (d - 1) 34 [.ref a, .int x0, .int x1] h (fun r => z_k r (fun v h' => z_T g d 7 47 ls (z_push v st) h' P) P)) := zt_cV (as := [.int x0, .int x1]) (kk := 0) zi_7_44 rfl (zt_call zj_7 zh_7) (z_opV ((congrArg (fun o => z_lookup z_cns (o, 44)) zo_7).trans zq_cns_LatinRectangles_Completions_44) ((congrArg (fun o => z_lookup z_prs (o, 44)) zo_7).trans zq_prs_LatinRectangles_Completions_44)) ((congrArg (fun o => z_clk o 44) zo_7).trans zk_LatinRectangles_Completions_44) rfl rfl rfl rfl (z_rcv0 zc_34)
theorem zi_7_47 : z_ins 7 47 = some (.invokestatic 68, 3) := by decide +kernel
theorem ze_7_47 : z_T g d 7 47 ls (.int x0 :: st) h P = ((z_okS 8 st = true ∧ 0 < d) ∧ z_Ca g (d - 1) 121 [.int x0] h (fun r => z_k r (fun v h' => z_T g d 7 50 ls (z_push v st) h' P) P)) := zt_cS (as := [.int x0]) (kk := 1) zi_7_47 rfl (zt_call zj_7 zh_7) (z_opT ((congrArg (fun o => z_lookup z_cps (o, 68)) zo_7).trans zq_cps_LatinRectangles_Completions_68) ((congrArg (fun o => z_lookup z_prs (o, 68)) zo_7).trans zq_prs_LatinRectangles_Completions_68)) ((congrArg (fun o => z_clk o 68) zo_7).trans zk_LatinRectangles_Completions_68) rfl rfl rfl rfl rfl
theorem zi_7_50 : z_ins 7 50 = some (.istore 5, 2) := by decide +kernel
theorem ze_7_50 : z_T g d 7 50 (v0 :: v1 :: v2 :: v3 :: v4 :: v5 :: ls) (.int x :: st) h P = z_T g d 7 52 (v0 :: v1 :: v2 :: v3 :: v4 :: .int x :: ls) st h P := zt_istore zi_7_50 (Nat.le_add_left 6 _)
theorem zi_7_52 : z_ins 7 52 = some (.iload 5, 2) := by decide +kernel
theorem ze_7_52 : z_T g d 7 52 (v0 :: v1 :: v2 :: v3 :: v4 :: .int x :: ls) st h P = z_T g d 7 54 (v0 :: v1 :: v2 :: v3 :: v4 :: .int x :: ls) (.int x :: st) h P := zt_iload zi_7_52 rfl
theorem zi_7_54 : z_ins 7 54 = some (.iload_n 3, 1) := by decide +kernel
theorem ze_7_54 : z_T g d 7 54 (v0 :: v1 :: v2 :: .int x :: ls) st h P = z_T g d 7 55 (v0 :: v1 :: v2 :: .int x :: ls) (.int x :: st) h P := zt_iloadn zi_7_54 rfl rfl
theorem zi_7_55 : z_ins 7 55 = some (.if_icmp .ge 9, 3) := by decide +kernel
theorem ze_7_55 : z_T g d 7 55 ls (.int y :: .int x :: st) h P = (if x < y then z_T g d 7 58 ls st h P else z_T g d 7 64 ls st h P) := zt_icmpge zi_7_55 (by decide)
theorem zi_7_58 : z_ins 7 58 = some (.iload 5, 2) := by decide +kernel
theorem ze_7_58 : z_T g d 7 58 (v0 :: v1 :: v2 :: v3 :: v4 :: .int x :: ls) st h P = z_T g d 7 60 (v0 :: v1 :: v2 :: v3 :: v4 :: .int x :: ls) (.int x :: st) h P := zt_iload zi_7_58 rfl
theorem zi_7_60 : z_ins 7 60 = some (.istore_n 3, 1) := by decide +kernel
theorem ze_7_60 : z_T g d 7 60 (v0 :: v1 :: v2 :: v3 :: ls) (.int x :: st) h P = z_T g d 7 61 (v0 :: v1 :: v2 :: .int x :: ls) st h P := zt_istoren zi_7_60 rfl (Nat.le_add_left 4 _)
theorem zi_7_61 : z_ins 7 61 = some (.iload 4, 2) := by decide +kernel
theorem ze_7_61 : z_T g d 7 61 (v0 :: v1 :: v2 :: v3 :: .int x :: ls) st h P = z_T g d 7 63 (v0 :: v1 :: v2 :: v3 :: .int x :: ls) (.int x :: st) h P := zt_iload zi_7_61 rfl
theorem zi_7_63 : z_ins 7 63 = some (.istore_n 2, 1) := by decide +kernel
theorem ze_7_63 : z_T g d 7 63 (v0 :: v1 :: v2 :: ls) (.int x :: st) h P = z_T g d 7 64 (v0 :: v1 :: .int x :: ls) st h P := zt_istoren zi_7_63 rfl (Nat.le_add_left 3 _)
theorem zi_7_64 : z_ins 7 64 = some (.iinc 4 1, 3) := by decide +kernel
theorem ze_7_64 : z_T g d 7 64 (v0 :: v1 :: v2 :: v3 :: .int x :: ls) st h P = z_T g d 7 67 (v0 :: v1 :: v2 :: v3 :: .int (x + (nI 1)) :: ls) st h P := zt_iinc zi_7_64 rfl rfl
theorem zi_7_67 : z_ins 7 67 = some (.goto (-59), 3) := by decide +kernel
theorem ze_7_67 : z_T g d 7 67 ls st h P = z_T g d 7 8 ls st h P := zt_goto zi_7_67 (by decide)
theorem zi_7_70 : z_ins 7 70 = some (.aload_n 0, 1) := by decide +kernel
theorem ze_7_70 : z_T g d 7 70 (.ref a :: ls) st h P = z_T g d 7 71 (.ref a :: ls) (.ref a :: st) h P := zt_aloadn zi_7_70 rfl rfl
theorem zi_7_71 : z_ins 7 71 = some (.getfield 18, 3) := by decide +kernel
theorem ze_7_71 : z_T g d 7 71 ls (.ref a :: st) h P = z_gR h.1 a 0 2 (fun x => z_T g d 7 74 ls (x :: st) h P) := zt_getR zi_7_71 ((congrArg (fun o => z_fl o 18) zo_7).trans zf_LatinRectangles_Completions_18)
theorem zi_7_74 : z_ins 7 74 = some (.iload_n 2, 1) := by decide +kernel
theorem ze_7_74 : z_T g d 7 74 (v0 :: v1 :: .int x :: ls) st h P = z_T g d 7 75 (v0 :: v1 :: .int x :: ls) (.int x :: st) h P := zt_iloadn zi_7_74 rfl rfl
theorem zi_7_75 : z_ins 7 75 = some (.iaload, 1) := by decide +kernel
theorem ze_7_75 : z_T g d 7 75 ls (.int x :: .ref a :: st) h P = z_aL h.1 a z_tI x (fun v => z_T g d 7 76 ls (.int v :: st) h P) := zt_iaload zi_7_75
theorem zi_7_76 : z_ins 7 76 = some (.istore 4, 2) := by decide +kernel
theorem ze_7_76 : z_T g d 7 76 (v0 :: v1 :: v2 :: v3 :: v4 :: ls) (.int x :: st) h P = z_T g d 7 78 (v0 :: v1 :: v2 :: v3 :: .int x :: ls) st h P := zt_istore zi_7_76 (Nat.le_add_left 5 _)
theorem zi_7_78 : z_ins 7 78 = some (.aload_n 0, 1) := by decide +kernel
theorem ze_7_78 : z_T g d 7 78 (.ref a :: ls) st h P = z_T g d 7 79 (.ref a :: ls) (.ref a :: st) h P := zt_aloadn zi_7_78 rfl rfl
theorem zi_7_79 : z_ins 7 79 = some (.getfield 18, 3) := by decide +kernel
theorem ze_7_79 : z_T g d 7 79 ls (.ref a :: st) h P = z_gR h.1 a 0 2 (fun x => z_T g d 7 82 ls (x :: st) h P) := zt_getR zi_7_79 ((congrArg (fun o => z_fl o 18) zo_7).trans zf_LatinRectangles_Completions_18)
theorem zi_7_82 : z_ins 7 82 = some (.iload_n 2, 1) := by decide +kernel
theorem ze_7_82 : z_T g d 7 82 (v0 :: v1 :: .int x :: ls) st h P = z_T g d 7 83 (v0 :: v1 :: .int x :: ls) (.int x :: st) h P := zt_iloadn zi_7_82 rfl rfl
theorem zi_7_83 : z_ins 7 83 = some (.aload_n 0, 1) := by decide +kernel
theorem ze_7_83 : z_T g d 7 83 (.ref a :: ls) st h P = z_T g d 7 84 (.ref a :: ls) (.ref a :: st) h P := zt_aloadn zi_7_83 rfl rfl
theorem zi_7_84 : z_ins 7 84 = some (.getfield 18, 3) := by decide +kernel
theorem ze_7_84 : z_T g d 7 84 ls (.ref a :: st) h P = z_gR h.1 a 0 2 (fun x => z_T g d 7 87 ls (x :: st) h P) := zt_getR zi_7_84 ((congrArg (fun o => z_fl o 18) zo_7).trans zf_LatinRectangles_Completions_18)
theorem zi_7_87 : z_ins 7 87 = some (.iload_n 1, 1) := by decide +kernel
theorem ze_7_87 : z_T g d 7 87 (v0 :: .int x :: ls) st h P = z_T g d 7 88 (v0 :: .int x :: ls) (.int x :: st) h P := zt_iloadn zi_7_87 rfl rfl
theorem zi_7_88 : z_ins 7 88 = some (.iaload, 1) := by decide +kernel
theorem ze_7_88 : z_T g d 7 88 ls (.int x :: .ref a :: st) h P = z_aL h.1 a z_tI x (fun v => z_T g d 7 89 ls (.int v :: st) h P) := zt_iaload zi_7_88
theorem zi_7_89 : z_ins 7 89 = some (.iastore, 1) := by decide +kernel
theorem ze_7_89 : z_T g d 7 89 ls (.int y :: .int x :: .ref a :: st) h P = z_aS h.1 a z_tI x y (fun f => z_T g d 7 90 ls st (f, h.2) P) := zt_iastore zi_7_89
theorem zi_7_90 : z_ins 7 90 = some (.aload_n 0, 1) := by decide +kernel
theorem ze_7_90 : z_T g d 7 90 (.ref a :: ls) st h P = z_T g d 7 91 (.ref a :: ls) (.ref a :: st) h P := zt_aloadn zi_7_90 rfl rfl
theorem zi_7_91 : z_ins 7 91 = some (.getfield 18, 3) := by decide +kernel
theorem ze_7_91 : z_T g d 7 91 ls (.ref a :: st) h P = z_gR h.1 a 0 2 (fun x => z_T g d 7 94 ls (x :: st) h P) := zt_getR zi_7_91 ((congrArg (fun o => z_fl o 18) zo_7).trans zf_LatinRectangles_Completions_18)
theorem zi_7_94 : z_ins 7 94 = some (.iload_n 1, 1) := by decide +kernel
theorem ze_7_94 : z_T g d 7 94 (v0 :: .int x :: ls) st h P = z_T g d 7 95 (v0 :: .int x :: ls) (.int x :: st) h P := zt_iloadn zi_7_94 rfl rfl
theorem zi_7_95 : z_ins 7 95 = some (.iload 4, 2) := by decide +kernel
theorem ze_7_95 : z_T g d 7 95 (v0 :: v1 :: v2 :: v3 :: .int x :: ls) st h P = z_T g d 7 97 (v0 :: v1 :: v2 :: v3 :: .int x :: ls) (.int x :: st) h P := zt_iload zi_7_95 rfl
theorem zi_7_97 : z_ins 7 97 = some (.iastore, 1) := by decide +kernel
theorem ze_7_97 : z_T g d 7 97 ls (.int y :: .int x :: .ref a :: st) h P = z_aS h.1 a z_tI x y (fun f => z_T g d 7 98 ls st (f, h.2) P) := zt_iastore zi_7_97
theorem zi_7_98 : z_ins 7 98 = some (.iload 4, 2) := by decide +kernel
theorem ze_7_98 : z_T g d 7 98 (v0 :: v1 :: v2 :: v3 :: .int x :: ls) st h P = z_T g d 7 100 (v0 :: v1 :: v2 :: v3 :: .int x :: ls) (.int x :: st) h P := zt_iload zi_7_98 rfl
theorem zi_7_100 : z_ins 7 100 = some (.ireturn, 1) := by decide +kernel
theorem ze_7_100 : z_T g d 7 100 ls [.int x] h P = P (.inr (some (.int x)), h) := zt_ireturn zi_7_100 zr_7
-- LatinRectangles$Cycles.<init>(LLatinRectangles$Grid;)V
theorem zm_8 : z_maxL 8 = 2 := by decide +kernel
theorem zh_8 : z_hds 8 = [] := by decide +kernel
theorem zj_8 : z_jdk 8 = false := by decide +kernel
theorem zr_8 : z_rt 8 = none := by decide +kernel
theorem zn_8 : z_Ca g d 8 [.ref a0, .ref a1] h P = z_T g d 8 0 [.ref a0, .ref a1] [] h P := z_Ca_ent zm_8 rfl rfl
theorem zi_8_0 : z_ins 8 0 = some (.aload_n 0, 1) := by decide +kernel
theorem ze_8_0 : z_T g d 8 0 (.ref a :: ls) st h P = z_T g d 8 1 (.ref a :: ls) (.ref a :: st) h P := zt_aloadn zi_8_0 rfl rfl
theorem zi_8_1 : z_ins 8 1 = some (.invokespecial 3, 3) := by decide +kernel
theorem ze_8_1 : z_T g d 8 1 ls (.ref a :: st) h P = (z_okS 8 st = true ∧ z_T g d 8 4 ls st h P) := zt_objInit zi_8_1 ((congrArg (fun o => z_lookup z_ois (o, 3)) zo_8).trans zq_ois_LatinRectangles_Cycles_3)
theorem zi_8_4 : z_ins 8 4 = some (.aload_n 0, 1) := by decide +kernel
theorem ze_8_4 : z_T g d 8 4 (.ref a :: ls) st h P = z_T g d 8 5 (.ref a :: ls) (.ref a :: st) h P := zt_aloadn zi_8_4 rfl rfl
theorem zi_8_5 : z_ins 8 5 = some (.bipush 20, 2) := by decide +kernel
theorem ze_8_5 : z_T g d 8 5 ls st h P = z_T g d 8 7 ls (.int (nI 20) :: st) h P := zt_bipush zi_8_5 rfl
theorem zi_8_7 : z_ins 8 7 = some (.newarray .int, 2) := by decide +kernel
theorem ze_8_7 : z_T g d 8 7 ls (.int x :: st) h P = z_nA h .int x (fun q h' => z_T g d 8 9 ls (.ref q :: st) h' P) := zt_newarray zi_8_7
theorem zi_8_9 : z_ins 8 9 = some (.putfield 9, 3) := by decide +kernel
theorem ze_8_9 : z_T g d 8 9 ls (.ref b :: .ref a :: st) h P = z_pF h.1 a 1 1 (.ref b) (fun f => z_T g d 8 12 ls st (f, h.2) P) := zt_put zi_8_9 ((congrArg (fun o => z_fl o 9) zo_8).trans zf_LatinRectangles_Cycles_9) (by decide +kernel) rfl rfl
theorem zi_8_12 : z_ins 8 12 = some (.aload_n 0, 1) := by decide +kernel
theorem ze_8_12 : z_T g d 8 12 (.ref a :: ls) st h P = z_T g d 8 13 (.ref a :: ls) (.ref a :: st) h P := zt_aloadn zi_8_12 rfl rfl
theorem zi_8_13 : z_ins 8 13 = some (.aload_n 1, 1) := by decide +kernel
theorem ze_8_13 : z_T g d 8 13 (v0 :: .ref a :: ls) st h P = z_T g d 8 14 (v0 :: .ref a :: ls) (.ref a :: st) h P := zt_aloadn zi_8_13 rfl rfl
theorem zi_8_14 : z_ins 8 14 = some (.putfield 15, 3) := by decide +kernel
theorem ze_8_14 : z_T g d 8 14 ls (.ref b :: .ref a :: st) h P = z_pF h.1 a 1 0 (.ref b) (fun f => z_T g d 8 17 ls st (f, h.2) P) := zt_put zi_8_14 ((congrArg (fun o => z_fl o 15) zo_8).trans zf_LatinRectangles_Cycles_15) (by decide +kernel) rfl rfl
theorem zi_8_17 : z_ins 8 17 = some (.return_, 1) := by decide +kernel
theorem ze_8_17 : z_T g d 8 17 ls [] h P = P (.inr none, h) := zt_return zi_8_17 zr_8
-- LatinRectangles$Cycles.columnBits(III)I
theorem zm_9 : z_maxL 9 = 7 := by decide +kernel
theorem zh_9 : z_hds 9 = [] := by decide +kernel
theorem zj_9 : z_jdk 9 = false := by decide +kernel
theorem zr_9 : z_rt 9 = (some .int) := by decide +kernel
theorem zn_9 : z_Ca g d 9 [.ref a0, .int x1, .int x2, .int x3] h P = z_T g d 9 0 [.ref a0, .int x1, .int x2, .int x3, z_un, z_un, z_un] [] h P := z_Ca_ent zm_9 rfl rfl
theorem zi_9_0 : z_ins 9 0 = some (.iconst 0, 1) := by decide +kernel
theorem ze_9_0 : z_T g d 9 0 ls st h P = z_T g d 9 1 ls (.int (nI 0) :: st) h P := zt_iconst zi_9_0 rfl
theorem zi_9_1 : z_ins 9 1 = some (.istore 4, 2) := by decide +kernel
theorem ze_9_1 : z_T g d 9 1 (v0 :: v1 :: v2 :: v3 :: v4 :: ls) (.int x :: st) h P = z_T g d 9 3 (v0 :: v1 :: v2 :: v3 :: .int x :: ls) st h P := zt_istore zi_9_1 (Nat.le_add_left 5 _)
theorem zi_9_3 : z_ins 9 3 = some (.iload_n 3, 1) := by decide +kernel
theorem ze_9_3 : z_T g d 9 3 (v0 :: v1 :: v2 :: .int x :: ls) st h P = z_T g d 9 4 (v0 :: v1 :: v2 :: .int x :: ls) (.int x :: st) h P := zt_iloadn zi_9_3 rfl rfl
theorem zi_9_4 : z_ins 9 4 = some (.istore 5, 2) := by decide +kernel
theorem ze_9_4 : z_T g d 9 4 (v0 :: v1 :: v2 :: v3 :: v4 :: v5 :: ls) (.int x :: st) h P = z_T g d 9 6 (v0 :: v1 :: v2 :: v3 :: v4 :: .int x :: ls) st h P := zt_istore zi_9_4 (Nat.le_add_left 6 _)
theorem zi_9_6 : z_ins 9 6 = some (.iconst 0, 1) := by decide +kernel
theorem ze_9_6 : z_T g d 9 6 ls st h P = z_T g d 9 7 ls (.int (nI 0) :: st) h P := zt_iconst zi_9_6 rfl
theorem zi_9_7 : z_ins 9 7 = some (.istore 6, 2) := by decide +kernel
theorem ze_9_7 : z_T g d 9 7 (v0 :: v1 :: v2 :: v3 :: v4 :: v5 :: v6 :: ls) (.int x :: st) h P = z_T g d 9 9 (v0 :: v1 :: v2 :: v3 :: v4 :: v5 :: .int x :: ls) st h P := zt_istore zi_9_7 (Nat.le_add_left 7 _)
theorem zi_9_9 : z_ins 9 9 = some (.iload 6, 2) := by decide +kernel
theorem ze_9_9 : z_T g d 9 9 (v0 :: v1 :: v2 :: v3 :: v4 :: v5 :: .int x :: ls) st h P = z_T g d 9 11 (v0 :: v1 :: v2 :: v3 :: v4 :: v5 :: .int x :: ls) (.int x :: st) h P := zt_iload zi_9_9 rfl
theorem zi_9_11 : z_ins 9 11 = some (.aload_n 0, 1) := by decide +kernel
theorem ze_9_11 : z_T g d 9 11 (.ref a :: ls) st h P = z_T g d 9 12 (.ref a :: ls) (.ref a :: st) h P := zt_aloadn zi_9_11 rfl rfl
theorem zi_9_12 : z_ins 9 12 = some (.getfield 15, 3) := by decide +kernel
theorem ze_9_12 : z_T g d 9 12 ls (.ref a :: st) h P = z_gR h.1 a 1 0 (fun x => z_T g d 9 15 ls (x :: st) h P) := zt_getR zi_9_12 ((congrArg (fun o => z_fl o 15) zo_9).trans zf_LatinRectangles_Cycles_15)
theorem zi_9_15 : z_ins 9 15 = some (.getfield 19, 3) := by decide +kernel
theorem ze_9_15 : z_T g d 9 15 ls (.ref a :: st) h P = z_gI h.1 a 3 6 (fun x => z_T g d 9 18 ls (.int x :: st) h P) := zt_getI zi_9_15 ((congrArg (fun o => z_fl o 19) zo_9).trans zf_LatinRectangles_Cycles_19)
theorem zi_9_18 : z_ins 9 18 = some (.if_icmp .ge 45, 3) := by decide +kernel
theorem ze_9_18 : z_T g d 9 18 ls (.int y :: .int x :: st) h P = (if x < y then z_T g d 9 21 ls st h P else z_T g d 9 63 ls st h P) := zt_icmpge zi_9_18 (by decide)
theorem zi_9_21 : z_ins 9 21 = some (.iload 5, 2) := by decide +kernel
theorem ze_9_21 : z_T g d 9 21 (v0 :: v1 :: v2 :: v3 :: v4 :: .int x :: ls) st h P = z_T g d 9 23 (v0 :: v1 :: v2 :: v3 :: v4 :: .int x :: ls) (.int x :: st) h P := zt_iload zi_9_21 rfl
theorem zi_9_23 : z_ins 9 23 = some (.iconst (-1), 1) := by decide +kernel
theorem ze_9_23 : z_T g d 9 23 ls st h P = z_T g d 9 24 ls (.int (-1) :: st) h P := zt_iconst zi_9_23 rfl
theorem zi_9_24 : z_ins 9 24 = some (.if_icmp .eq 39, 3) := by decide +kernel
theorem ze_9_24 : z_T g d 9 24 ls (.int y :: .int x :: st) h P = (if x = y then z_T g d 9 63 ls st h P else z_T g d 9 27 ls st h P) := zt_icmpeq zi_9_24 (by decide)
theorem zi_9_27 : z_ins 9 27 = some (.iload 4, 2) := by decide +kernel
theorem ze_9_27 : z_T g d 9 27 (v0 :: v1 :: v2 :: v3 :: .int x :: ls) st h P = z_T g d 9 29 (v0 :: v1 :: v2 :: v3 :: .int x :: ls) (.int x :: st) h P := zt_iload zi_9_27 rfl
theorem zi_9_29 : z_ins 9 29 = some (.iconst 1, 1) := by decide +kernel
theorem ze_9_29 : z_T g d 9 29 ls st h P = z_T g d 9 30 ls (.int (nI 1) :: st) h P := zt_iconst zi_9_29 rfl
theorem zi_9_30 : z_ins 9 30 = some (.iload 5, 2) := by decide +kernel
theorem ze_9_30 : z_T g d 9 30 (v0 :: v1 :: v2 :: v3 :: v4 :: .int x :: ls) st h P = z_T g d 9 32 (v0 :: v1 :: v2 :: v3 :: v4 :: .int x :: ls) (.int x :: st) h P := zt_iload zi_9_30 rfl
theorem zi_9_32 : z_ins 9 32 = some (.ishl, 1) := by decide +kernel
theorem ze_9_32 : z_T g d 9 32 ls (.int y :: .int x :: st) h P = z_T g d 9 33 ls (.int (x <<< (y &&& 31)) :: st) h P := zt_bin (f := fun x y => x <<< (y &&& 31)) zi_9_32 rfl (fun _ _ _ => rfl)
theorem zi_9_33 : z_ins 9 33 = some (.ior, 1) := by decide +kernel
theorem ze_9_33 : z_T g d 9 33 ls (.int y :: .int x :: st) h P = z_T g d 9 34 ls (.int (x ||| y) :: st) h P := zt_bin (f := fun x y => x ||| y) zi_9_33 rfl (fun _ _ _ => rfl)
theorem zi_9_34 : z_ins 9 34 = some (.istore 4, 2) := by decide +kernel
theorem ze_9_34 : z_T g d 9 34 (v0 :: v1 :: v2 :: v3 :: v4 :: ls) (.int x :: st) h P = z_T g d 9 36 (v0 :: v1 :: v2 :: v3 :: .int x :: ls) st h P := zt_istore zi_9_34 (Nat.le_add_left 5 _)
theorem zi_9_36 : z_ins 9 36 = some (.aload_n 0, 1) := by decide +kernel
theorem ze_9_36 : z_T g d 9 36 (.ref a :: ls) st h P = z_T g d 9 37 (.ref a :: ls) (.ref a :: st) h P := zt_aloadn zi_9_36 rfl rfl
theorem zi_9_37 : z_ins 9 37 = some (.iload_n 1, 1) := by decide +kernel
theorem ze_9_37 : z_T g d 9 37 (v0 :: .int x :: ls) st h P = z_T g d 9 38 (v0 :: .int x :: ls) (.int x :: st) h P := zt_iloadn zi_9_37 rfl rfl
theorem zi_9_38 : z_ins 9 38 = some (.aload_n 0, 1) := by decide +kernel
theorem ze_9_38 : z_T g d 9 38 (.ref a :: ls) st h P = z_T g d 9 39 (.ref a :: ls) (.ref a :: st) h P := zt_aloadn zi_9_38 rfl rfl
theorem zi_9_39 : z_ins 9 39 = some (.getfield 15, 3) := by decide +kernel
theorem ze_9_39 : z_T g d 9 39 ls (.ref a :: st) h P = z_gR h.1 a 1 0 (fun x => z_T g d 9 42 ls (x :: st) h P) := zt_getR zi_9_39 ((congrArg (fun o => z_fl o 15) zo_9).trans zf_LatinRectangles_Cycles_15)
theorem zi_9_42 : z_ins 9 42 = some (.getfield 25, 3) := by decide +kernel
theorem ze_9_42 : z_T g d 9 42 ls (.ref a :: st) h P = z_gR h.1 a 3 0 (fun x => z_T g d 9 45 ls (x :: st) h P) := zt_getR zi_9_42 ((congrArg (fun o => z_fl o 25) zo_9).trans zf_LatinRectangles_Cycles_25)
theorem zi_9_45 : z_ins 9 45 = some (.iload_n 2, 1) := by decide +kernel
theorem ze_9_45 : z_T g d 9 45 (v0 :: v1 :: .int x :: ls) st h P = z_T g d 9 46 (v0 :: v1 :: .int x :: ls) (.int x :: st) h P := zt_iloadn zi_9_45 rfl rfl
theorem zi_9_46 : z_ins 9 46 = some (.iconst 5, 1) := by decide +kernel
theorem ze_9_46 : z_T g d 9 46 ls st h P = z_T g d 9 47 ls (.int (nI 5) :: st) h P := zt_iconst zi_9_46 rfl
theorem zi_9_47 : z_ins 9 47 = some (.imul, 1) := by decide +kernel
theorem ze_9_47 : z_T g d 9 47 ls (.int y :: .int x :: st) h P = z_T g d 9 48 ls (.int (x * y) :: st) h P := zt_bin (f := fun x y => x * y) zi_9_47 rfl (fun _ _ _ => rfl)
theorem zi_9_48 : z_ins 9 48 = some (.iload 5, 2) := by decide +kernel
theorem ze_9_48 : z_T g d 9 48 (v0 :: v1 :: v2 :: v3 :: v4 :: .int x :: ls) st h P = z_T g d 9 50 (v0 :: v1 :: v2 :: v3 :: v4 :: .int x :: ls) (.int x :: st) h P := zt_iload zi_9_48 rfl
theorem zi_9_50 : z_ins 9 50 = some (.iadd, 1) := by decide +kernel
theorem ze_9_50 : z_T g d 9 50 ls (.int y :: .int x :: st) h P = z_T g d 9 51 ls (.int (x + y) :: st) h P := zt_bin (f := fun x y => x + y) zi_9_50 rfl (fun _ _ _ => rfl)
theorem zi_9_51 : z_ins 9 51 = some (.iaload, 1) := by decide +kernel
theorem ze_9_51 : z_T g d 9 51 ls (.int x :: .ref a :: st) h P = z_aL h.1 a z_tI x (fun v => z_T g d 9 52 ls (.int v :: st) h P) := zt_iaload zi_9_51
theorem zi_9_52 : z_ins 9 52 = some (.invokevirtual 28, 3) := by decide +kernel
theorem ze_9_52 : z_T g d 9 52 ls (.int x1 :: .int x0 :: .ref a :: st) h P = ((z_okS 8 st = true ∧ z_gO h.1 a 1 ∧ 0 < d) ∧ z_Ca g (d - 1) 10 [.ref a, .int x0, .int x1] h (fun r => z_k r (fun v h' => z_T g d 9 55 ls (z_push v st) h' P) P)) := zt_cV (as := [.int x0, .int x1]) (kk := 0) zi_9_52 rfl (zt_call zj_9 zh_9) (z_opV ((congrArg (fun o => z_lookup z_cns (o, 28)) zo_9).trans zq_cns_LatinRectangles_Cycles_28) ((congrArg (fun o => z_lookup z_prs (o, 28)) zo_9).trans zq_prs_LatinRectangles_Cycles_28)) ((congrArg (fun o => z_clk o 28) zo_9).trans zk_LatinRectangles_Cycles_28) rfl rfl rfl rfl (z_rcv0 zc_10)
theorem zi_9_55 : z_ins 9 55 = some (.istore 5, 2) := by decide +kernel
theorem ze_9_55 : z_T g d 9 55 (v0 :: v1 :: v2 :: v3 :: v4 :: v5 :: ls) (.int x :: st) h P = z_T g d 9 57 (v0 :: v1 :: v2 :: v3 :: v4 :: .int x :: ls) st h P := zt_istore zi_9_55 (Nat.le_add_left 6 _)
theorem zi_9_57 : z_ins 9 57 = some (.iinc 6 1, 3) := by decide +kernel
theorem ze_9_57 : z_T g d 9 57 (v0 :: v1 :: v2 :: v3 :: v4 :: v5 :: .int x :: ls) st h P = z_T g d 9 60 (v0 :: v1 :: v2 :: v3 :: v4 :: v5 :: .int (x + (nI 1)) :: ls) st h P := zt_iinc zi_9_57 rfl rfl
theorem zi_9_60 : z_ins 9 60 = some (.goto (-51), 3) := by decide +kernel
theorem ze_9_60 : z_T g d 9 60 ls st h P = z_T g d 9 9 ls st h P := zt_goto zi_9_60 (by decide)
theorem zi_9_63 : z_ins 9 63 = some (.iload 4, 2) := by decide +kernel
theorem ze_9_63 : z_T g d 9 63 (v0 :: v1 :: v2 :: v3 :: .int x :: ls) st h P = z_T g d 9 65 (v0 :: v1 :: v2 :: v3 :: .int x :: ls) (.int x :: st) h P := zt_iload zi_9_63 rfl
theorem zi_9_65 : z_ins 9 65 = some (.ireturn, 1) := by decide +kernel
theorem ze_9_65 : z_T g d 9 65 ls [.int x] h P = P (.inr (some (.int x)), h) := zt_ireturn zi_9_65 zr_9
-- LatinRectangles$Cycles.columnWith(II)I
theorem zm_10 : z_maxL 10 = 4 := by decide +kernel
theorem zh_10 : z_hds 10 = [] := by decide +kernel
theorem zj_10 : z_jdk 10 = false := by decide +kernel
theorem zr_10 : z_rt 10 = (some .int) := by decide +kernel
theorem zn_10 : z_Ca g d 10 [.ref a0, .int x1, .int x2] h P = z_T g d 10 0 [.ref a0, .int x1, .int x2, z_un] [] h P := z_Ca_ent zm_10 rfl rfl
theorem zi_10_0 : z_ins 10 0 = some (.iconst 0, 1) := by decide +kernel
theorem ze_10_0 : z_T g d 10 0 ls st h P = z_T g d 10 1 ls (.int (nI 0) :: st) h P := zt_iconst zi_10_0 rfl
theorem zi_10_1 : z_ins 10 1 = some (.istore_n 3, 1) := by decide +kernel
theorem ze_10_1 : z_T g d 10 1 (v0 :: v1 :: v2 :: v3 :: ls) (.int x :: st) h P = z_T g d 10 2 (v0 :: v1 :: v2 :: .int x :: ls) st h P := zt_istoren zi_10_1 rfl (Nat.le_add_left 4 _)
theorem zi_10_2 : z_ins 10 2 = some (.iload_n 3, 1) := by decide +kernel
theorem ze_10_2 : z_T g d 10 2 (v0 :: v1 :: v2 :: .int x :: ls) st h P = z_T g d 10 3 (v0 :: v1 :: v2 :: .int x :: ls) (.int x :: st) h P := zt_iloadn zi_10_2 rfl rfl
theorem zi_10_3 : z_ins 10 3 = some (.aload_n 0, 1) := by decide +kernel
theorem ze_10_3 : z_T g d 10 3 (.ref a :: ls) st h P = z_T g d 10 4 (.ref a :: ls) (.ref a :: st) h P := zt_aloadn zi_10_3 rfl rfl
theorem zi_10_4 : z_ins 10 4 = some (.getfield 15, 3) := by decide +kernel
theorem ze_10_4 : z_T g d 10 4 ls (.ref a :: st) h P = z_gR h.1 a 1 0 (fun x => z_T g d 10 7 ls (x :: st) h P) := zt_getR zi_10_4 ((congrArg (fun o => z_fl o 15) zo_10).trans zf_LatinRectangles_Cycles_15)
theorem zi_10_7 : z_ins 10 7 = some (.getfield 19, 3) := by decide +kernel
theorem ze_10_7 : z_T g d 10 7 ls (.ref a :: st) h P = z_gI h.1 a 3 6 (fun x => z_T g d 10 10 ls (.int x :: st) h P) := zt_getI zi_10_7 ((congrArg (fun o => z_fl o 19) zo_10).trans zf_LatinRectangles_Cycles_19)
theorem zi_10_10 : z_ins 10 10 = some (.if_icmp .ge 28, 3) := by decide +kernel
theorem ze_10_10 : z_T g d 10 10 ls (.int y :: .int x :: st) h P = (if x < y then z_T g d 10 13 ls st h P else z_T g d 10 38 ls st h P) := zt_icmpge zi_10_10 (by decide)
theorem zi_10_13 : z_ins 10 13 = some (.aload_n 0, 1) := by decide +kernel
theorem ze_10_13 : z_T g d 10 13 (.ref a :: ls) st h P = z_T g d 10 14 (.ref a :: ls) (.ref a :: st) h P := zt_aloadn zi_10_13 rfl rfl
theorem zi_10_14 : z_ins 10 14 = some (.getfield 15, 3) := by decide +kernel
theorem ze_10_14 : z_T g d 10 14 ls (.ref a :: st) h P = z_gR h.1 a 1 0 (fun x => z_T g d 10 17 ls (x :: st) h P) := zt_getR zi_10_14 ((congrArg (fun o => z_fl o 15) zo_10).trans zf_LatinRectangles_Cycles_15)
theorem zi_10_17 : z_ins 10 17 = some (.getfield 25, 3) := by decide +kernel
theorem ze_10_17 : z_T g d 10 17 ls (.ref a :: st) h P = z_gR h.1 a 3 0 (fun x => z_T g d 10 20 ls (x :: st) h P) := zt_getR zi_10_17 ((congrArg (fun o => z_fl o 25) zo_10).trans zf_LatinRectangles_Cycles_25)
theorem zi_10_20 : z_ins 10 20 = some (.iload_n 1, 1) := by decide +kernel
theorem ze_10_20 : z_T g d 10 20 (v0 :: .int x :: ls) st h P = z_T g d 10 21 (v0 :: .int x :: ls) (.int x :: st) h P := zt_iloadn zi_10_20 rfl rfl
theorem zi_10_21 : z_ins 10 21 = some (.iconst 5, 1) := by decide +kernel
theorem ze_10_21 : z_T g d 10 21 ls st h P = z_T g d 10 22 ls (.int (nI 5) :: st) h P := zt_iconst zi_10_21 rfl
theorem zi_10_22 : z_ins 10 22 = some (.imul, 1) := by decide +kernel
theorem ze_10_22 : z_T g d 10 22 ls (.int y :: .int x :: st) h P = z_T g d 10 23 ls (.int (x * y) :: st) h P := zt_bin (f := fun x y => x * y) zi_10_22 rfl (fun _ _ _ => rfl)
theorem zi_10_23 : z_ins 10 23 = some (.iload_n 3, 1) := by decide +kernel
theorem ze_10_23 : z_T g d 10 23 (v0 :: v1 :: v2 :: .int x :: ls) st h P = z_T g d 10 24 (v0 :: v1 :: v2 :: .int x :: ls) (.int x :: st) h P := zt_iloadn zi_10_23 rfl rfl
theorem zi_10_24 : z_ins 10 24 = some (.iadd, 1) := by decide +kernel
theorem ze_10_24 : z_T g d 10 24 ls (.int y :: .int x :: st) h P = z_T g d 10 25 ls (.int (x + y) :: st) h P := zt_bin (f := fun x y => x + y) zi_10_24 rfl (fun _ _ _ => rfl)
theorem zi_10_25 : z_ins 10 25 = some (.iaload, 1) := by decide +kernel
theorem ze_10_25 : z_T g d 10 25 ls (.int x :: .ref a :: st) h P = z_aL h.1 a z_tI x (fun v => z_T g d 10 26 ls (.int v :: st) h P) := zt_iaload zi_10_25
theorem zi_10_26 : z_ins 10 26 = some (.iload_n 2, 1) := by decide +kernel
theorem ze_10_26 : z_T g d 10 26 (v0 :: v1 :: .int x :: ls) st h P = z_T g d 10 27 (v0 :: v1 :: .int x :: ls) (.int x :: st) h P := zt_iloadn zi_10_26 rfl rfl
theorem zi_10_27 : z_ins 10 27 = some (.if_icmp .ne 5, 3) := by decide +kernel
theorem ze_10_27 : z_T g d 10 27 ls (.int y :: .int x :: st) h P = (if x = y then z_T g d 10 30 ls st h P else z_T g d 10 32 ls st h P) := zt_icmpne zi_10_27 (by decide)
theorem zi_10_30 : z_ins 10 30 = some (.iload_n 3, 1) := by decide +kernel
theorem ze_10_30 : z_T g d 10 30 (v0 :: v1 :: v2 :: .int x :: ls) st h P = z_T g d 10 31 (v0 :: v1 :: v2 :: .int x :: ls) (.int x :: st) h P := zt_iloadn zi_10_30 rfl rfl
theorem zi_10_31 : z_ins 10 31 = some (.ireturn, 1) := by decide +kernel
theorem ze_10_31 : z_T g d 10 31 ls [.int x] h P = P (.inr (some (.int x)), h) := zt_ireturn zi_10_31 zr_10
theorem zi_10_32 : z_ins 10 32 = some (.iinc 3 1, 3) := by decide +kernel
theorem ze_10_32 : z_T g d 10 32 (v0 :: v1 :: v2 :: .int x :: ls) st h P = z_T g d 10 35 (v0 :: v1 :: v2 :: .int (x + (nI 1)) :: ls) st h P := zt_iinc zi_10_32 rfl rfl
theorem zi_10_35 : z_ins 10 35 = some (.goto (-33), 3) := by decide +kernel
theorem ze_10_35 : z_T g d 10 35 ls st h P = z_T g d 10 2 ls st h P := zt_goto zi_10_35 (by decide)
theorem zi_10_38 : z_ins 10 38 = some (.iconst (-1), 1) := by decide +kernel
theorem ze_10_38 : z_T g d 10 38 ls st h P = z_T g d 10 39 ls (.int (-1) :: st) h P := zt_iconst zi_10_38 rfl
theorem zi_10_39 : z_ins 10 39 = some (.ireturn, 1) := by decide +kernel
theorem ze_10_39 : z_T g d 10 39 ls [.int x] h P = P (.inr (some (.int x)), h) := zt_ireturn zi_10_39 zr_10
-- LatinRectangles$Cycles.canSwitch(III)Z
theorem zm_11 : z_maxL 11 = 7 := by decide +kernel
theorem zh_11 : z_hds 11 = [] := by decide +kernel
theorem zj_11 : z_jdk 11 = false := by decide +kernel
theorem zr_11 : z_rt 11 = (some .boolean) := by decide +kernel
theorem zn_11 : z_Ca g d 11 [.ref a0, .int x1, .int x2, .int x3] h P = z_T g d 11 0 [.ref a0, .int x1, .int x2, .int x3, z_un, z_un, z_un] [] h P := z_Ca_ent zm_11 rfl rfl
theorem zi_11_0 : z_ins 11 0 = some (.iconst 0, 1) := by decide +kernel
theorem ze_11_0 : z_T g d 11 0 ls st h P = z_T g d 11 1 ls (.int (nI 0) :: st) h P := zt_iconst zi_11_0 rfl
theorem zi_11_1 : z_ins 11 1 = some (.istore 4, 2) := by decide +kernel
theorem ze_11_1 : z_T g d 11 1 (v0 :: v1 :: v2 :: v3 :: v4 :: ls) (.int x :: st) h P = z_T g d 11 3 (v0 :: v1 :: v2 :: v3 :: .int x :: ls) st h P := zt_istore zi_11_1 (Nat.le_add_left 5 _)
theorem zi_11_3 : z_ins 11 3 = some (.iload 4, 2) := by decide +kernel
theorem ze_11_3 : z_T g d 11 3 (v0 :: v1 :: v2 :: v3 :: .int x :: ls) st h P = z_T g d 11 5 (v0 :: v1 :: v2 :: v3 :: .int x :: ls) (.int x :: st) h P := zt_iload zi_11_3 rfl
theorem zi_11_5 : z_ins 11 5 = some (.aload_n 0, 1) := by decide +kernel
theorem ze_11_5 : z_T g d 11 5 (.ref a :: ls) st h P = z_T g d 11 6 (.ref a :: ls) (.ref a :: st) h P := zt_aloadn zi_11_5 rfl rfl
theorem zi_11_6 : z_ins 11 6 = some (.getfield 15, 3) := by decide +kernel
theorem ze_11_6 : z_T g d 11 6 ls (.ref a :: st) h P = z_gR h.1 a 1 0 (fun x => z_T g d 11 9 ls (x :: st) h P) := zt_getR zi_11_6 ((congrArg (fun o => z_fl o 15) zo_11).trans zf_LatinRectangles_Cycles_15)
theorem zi_11_9 : z_ins 11 9 = some (.getfield 19, 3) := by decide +kernel
theorem ze_11_9 : z_T g d 11 9 ls (.ref a :: st) h P = z_gI h.1 a 3 6 (fun x => z_T g d 11 12 ls (.int x :: st) h P) := zt_getI zi_11_9 ((congrArg (fun o => z_fl o 19) zo_11).trans zf_LatinRectangles_Cycles_19)
theorem zi_11_12 : z_ins 11 12 = some (.if_icmp .ge 108, 3) := by decide +kernel
theorem ze_11_12 : z_T g d 11 12 ls (.int y :: .int x :: st) h P = (if x < y then z_T g d 11 15 ls st h P else z_T g d 11 120 ls st h P) := zt_icmpge zi_11_12 (by decide)
theorem zi_11_15 : z_ins 11 15 = some (.iload_n 3, 1) := by decide +kernel
theorem ze_11_15 : z_T g d 11 15 (v0 :: v1 :: v2 :: .int x :: ls) st h P = z_T g d 11 16 (v0 :: v1 :: v2 :: .int x :: ls) (.int x :: st) h P := zt_iloadn zi_11_15 rfl rfl
theorem zi_11_16 : z_ins 11 16 = some (.iload 4, 2) := by decide +kernel
theorem ze_11_16 : z_T g d 11 16 (v0 :: v1 :: v2 :: v3 :: .int x :: ls) st h P = z_T g d 11 18 (v0 :: v1 :: v2 :: v3 :: .int x :: ls) (.int x :: st) h P := zt_iload zi_11_16 rfl
theorem zi_11_18 : z_ins 11 18 = some (.ishr, 1) := by decide +kernel
theorem ze_11_18 : z_T g d 11 18 ls (.int y :: .int x :: st) h P = z_T g d 11 19 ls (.int (x >>> (y &&& 31)) :: st) h P := zt_bin (f := fun x y => x >>> (y &&& 31)) zi_11_18 rfl (fun _ _ _ => rfl)
theorem zi_11_19 : z_ins 11 19 = some (.iconst 1, 1) := by decide +kernel
theorem ze_11_19 : z_T g d 11 19 ls st h P = z_T g d 11 20 ls (.int (nI 1) :: st) h P := zt_iconst zi_11_19 rfl
theorem zi_11_20 : z_ins 11 20 = some (.iand, 1) := by decide +kernel
theorem ze_11_20 : z_T g d 11 20 ls (.int y :: .int x :: st) h P = z_T g d 11 21 ls (.int (x &&& y) :: st) h P := zt_bin (f := fun x y => x &&& y) zi_11_20 rfl (fun _ _ _ => rfl)
theorem zi_11_21 : z_ins 11 21 = some (.ifCond .eq 93, 3) := by decide +kernel
theorem ze_11_21 : z_T g d 11 21 ls (.int x :: st) h P = (if x = nI 0 then z_T g d 11 114 ls st h P else z_T g d 11 24 ls st h P) := zt_ifeq zi_11_21 (by decide)
theorem zi_11_24 : z_ins 11 24 = some (.iload_n 1, 1) := by decide +kernel
theorem ze_11_24 : z_T g d 11 24 (v0 :: .int x :: ls) st h P = z_T g d 11 25 (v0 :: .int x :: ls) (.int x :: st) h P := zt_iloadn zi_11_24 rfl rfl
theorem zi_11_25 : z_ins 11 25 = some (.iconst 5, 1) := by decide +kernel
theorem ze_11_25 : z_T g d 11 25 ls st h P = z_T g d 11 26 ls (.int (nI 5) :: st) h P := zt_iconst zi_11_25 rfl
theorem zi_11_26 : z_ins 11 26 = some (.imul, 1) := by decide +kernel
theorem ze_11_26 : z_T g d 11 26 ls (.int y :: .int x :: st) h P = z_T g d 11 27 ls (.int (x * y) :: st) h P := zt_bin (f := fun x y => x * y) zi_11_26 rfl (fun _ _ _ => rfl)
theorem zi_11_27 : z_ins 11 27 = some (.iload 4, 2) := by decide +kernel
theorem ze_11_27 : z_T g d 11 27 (v0 :: v1 :: v2 :: v3 :: .int x :: ls) st h P = z_T g d 11 29 (v0 :: v1 :: v2 :: v3 :: .int x :: ls) (.int x :: st) h P := zt_iload zi_11_27 rfl
theorem zi_11_29 : z_ins 11 29 = some (.iadd, 1) := by decide +kernel
theorem ze_11_29 : z_T g d 11 29 ls (.int y :: .int x :: st) h P = z_T g d 11 30 ls (.int (x + y) :: st) h P := zt_bin (f := fun x y => x + y) zi_11_29 rfl (fun _ _ _ => rfl)
theorem zi_11_30 : z_ins 11 30 = some (.istore 5, 2) := by decide +kernel
theorem ze_11_30 : z_T g d 11 30 (v0 :: v1 :: v2 :: v3 :: v4 :: v5 :: ls) (.int x :: st) h P = z_T g d 11 32 (v0 :: v1 :: v2 :: v3 :: v4 :: .int x :: ls) st h P := zt_istore zi_11_30 (Nat.le_add_left 6 _)
theorem zi_11_32 : z_ins 11 32 = some (.iload_n 2, 1) := by decide +kernel
theorem ze_11_32 : z_T g d 11 32 (v0 :: v1 :: .int x :: ls) st h P = z_T g d 11 33 (v0 :: v1 :: .int x :: ls) (.int x :: st) h P := zt_iloadn zi_11_32 rfl rfl
theorem zi_11_33 : z_ins 11 33 = some (.iconst 5, 1) := by decide +kernel
theorem ze_11_33 : z_T g d 11 33 ls st h P = z_T g d 11 34 ls (.int (nI 5) :: st) h P := zt_iconst zi_11_33 rfl
theorem zi_11_34 : z_ins 11 34 = some (.imul, 1) := by decide +kernel
theorem ze_11_34 : z_T g d 11 34 ls (.int y :: .int x :: st) h P = z_T g d 11 35 ls (.int (x * y) :: st) h P := zt_bin (f := fun x y => x * y) zi_11_34 rfl (fun _ _ _ => rfl)
theorem zi_11_35 : z_ins 11 35 = some (.iload 4, 2) := by decide +kernel
theorem ze_11_35 : z_T g d 11 35 (v0 :: v1 :: v2 :: v3 :: .int x :: ls) st h P = z_T g d 11 37 (v0 :: v1 :: v2 :: v3 :: .int x :: ls) (.int x :: st) h P := zt_iload zi_11_35 rfl
theorem zi_11_37 : z_ins 11 37 = some (.iadd, 1) := by decide +kernel
theorem ze_11_37 : z_T g d 11 37 ls (.int y :: .int x :: st) h P = z_T g d 11 38 ls (.int (x + y) :: st) h P := zt_bin (f := fun x y => x + y) zi_11_37 rfl (fun _ _ _ => rfl)
theorem zi_11_38 : z_ins 11 38 = some (.istore 6, 2) := by decide +kernel
theorem ze_11_38 : z_T g d 11 38 (v0 :: v1 :: v2 :: v3 :: v4 :: v5 :: v6 :: ls) (.int x :: st) h P = z_T g d 11 40 (v0 :: v1 :: v2 :: v3 :: v4 :: v5 :: .int x :: ls) st h P := zt_istore zi_11_38 (Nat.le_add_left 7 _)
theorem zi_11_40 : z_ins 11 40 = some (.aload_n 0, 1) := by decide +kernel
theorem ze_11_40 : z_T g d 11 40 (.ref a :: ls) st h P = z_T g d 11 41 (.ref a :: ls) (.ref a :: st) h P := zt_aloadn zi_11_40 rfl rfl
theorem zi_11_41 : z_ins 11 41 = some (.getfield 15, 3) := by decide +kernel
theorem ze_11_41 : z_T g d 11 41 ls (.ref a :: st) h P = z_gR h.1 a 1 0 (fun x => z_T g d 11 44 ls (x :: st) h P) := zt_getR zi_11_41 ((congrArg (fun o => z_fl o 15) zo_11).trans zf_LatinRectangles_Cycles_15)
theorem zi_11_44 : z_ins 11 44 = some (.getfield 63, 3) := by decide +kernel
theorem ze_11_44 : z_T g d 11 44 ls (.ref a :: st) h P = z_gR h.1 a 3 1 (fun x => z_T g d 11 47 ls (x :: st) h P) := zt_getR zi_11_44 ((congrArg (fun o => z_fl o 63) zo_11).trans zf_LatinRectangles_Cycles_63)
theorem zi_11_47 : z_ins 11 47 = some (.iload 5, 2) := by decide +kernel
theorem ze_11_47 : z_T g d 11 47 (v0 :: v1 :: v2 :: v3 :: v4 :: .int x :: ls) st h P = z_T g d 11 49 (v0 :: v1 :: v2 :: v3 :: v4 :: .int x :: ls) (.int x :: st) h P := zt_iload zi_11_47 rfl
theorem zi_11_49 : z_ins 11 49 = some (.baload, 1) := by decide +kernel
theorem ze_11_49 : z_T g d 11 49 ls (.int x :: .ref a :: st) h P = z_aL h.1 a z_tB x (fun v => z_T g d 11 50 ls (.int v :: st) h P) := zt_baload zi_11_49
theorem zi_11_50 : z_ins 11 50 = some (.ifCond .ne 16, 3) := by decide +kernel
theorem ze_11_50 : z_T g d 11 50 ls (.int x :: st) h P = (if x = nI 0 then z_T g d 11 53 ls st h P else z_T g d 11 66 ls st h P) := zt_ifne zi_11_50 (by decide)
theorem zi_11_53 : z_ins 11 53 = some (.aload_n 0, 1) := by decide +kernel
theorem ze_11_53 : z_T g d 11 53 (.ref a :: ls) st h P = z_T g d 11 54 (.ref a :: ls) (.ref a :: st) h P := zt_aloadn zi_11_53 rfl rfl
theorem zi_11_54 : z_ins 11 54 = some (.getfield 15, 3) := by decide +kernel
theorem ze_11_54 : z_T g d 11 54 ls (.ref a :: st) h P = z_gR h.1 a 1 0 (fun x => z_T g d 11 57 ls (x :: st) h P) := zt_getR zi_11_54 ((congrArg (fun o => z_fl o 15) zo_11).trans zf_LatinRectangles_Cycles_15)
theorem zi_11_57 : z_ins 11 57 = some (.getfield 63, 3) := by decide +kernel
theorem ze_11_57 : z_T g d 11 57 ls (.ref a :: st) h P = z_gR h.1 a 3 1 (fun x => z_T g d 11 60 ls (x :: st) h P) := zt_getR zi_11_57 ((congrArg (fun o => z_fl o 63) zo_11).trans zf_LatinRectangles_Cycles_63)
theorem zi_11_60 : z_ins 11 60 = some (.iload 6, 2) := by decide +kernel
theorem ze_11_60 : z_T g d 11 60 (v0 :: v1 :: v2 :: v3 :: v4 :: v5 :: .int x :: ls) st h P = z_T g d 11 62 (v0 :: v1 :: v2 :: v3 :: v4 :: v5 :: .int x :: ls) (.int x :: st) h P := zt_iload zi_11_60 rfl
theorem zi_11_62 : z_ins 11 62 = some (.baload, 1) := by decide +kernel
theorem ze_11_62 : z_T g d 11 62 ls (.int x :: .ref a :: st) h P = z_aL h.1 a z_tB x (fun v => z_T g d 11 63 ls (.int v :: st) h P) := zt_baload zi_11_62
theorem zi_11_63 : z_ins 11 63 = some (.ifCond .eq 5, 3) := by decide +kernel
theorem ze_11_63 : z_T g d 11 63 ls (.int x :: st) h P = (if x = nI 0 then z_T g d 11 68 ls st h P else z_T g d 11 66 ls st h P) := zt_ifeq zi_11_63 (by decide)
theorem zi_11_66 : z_ins 11 66 = some (.iconst 0, 1) := by decide +kernel
theorem ze_11_66 : z_T g d 11 66 ls st h P = z_T g d 11 67 ls (.int (nI 0) :: st) h P := zt_iconst zi_11_66 rfl
theorem zi_11_67 : z_ins 11 67 = some (.ireturn, 1) := by decide +kernel
theorem ze_11_67 : z_T g d 11 67 ls [.int x] h P = ((x = nI 0 ∨ x = nI 1) ∧ P (.inr (some (.int x)), h)) := zt_zreturn zi_11_67 zr_11
theorem zi_11_68 : z_ins 11 68 = some (.aload_n 0, 1) := by decide +kernel
theorem ze_11_68 : z_T g d 11 68 (.ref a :: ls) st h P = z_T g d 11 69 (.ref a :: ls) (.ref a :: st) h P := zt_aloadn zi_11_68 rfl rfl
theorem zi_11_69 : z_ins 11 69 = some (.getfield 15, 3) := by decide +kernel
theorem ze_11_69 : z_T g d 11 69 ls (.ref a :: st) h P = z_gR h.1 a 1 0 (fun x => z_T g d 11 72 ls (x :: st) h P) := zt_getR zi_11_69 ((congrArg (fun o => z_fl o 15) zo_11).trans zf_LatinRectangles_Cycles_15)
theorem zi_11_72 : z_ins 11 72 = some (.iload 5, 2) := by decide +kernel
theorem ze_11_72 : z_T g d 11 72 (v0 :: v1 :: v2 :: v3 :: v4 :: .int x :: ls) st h P = z_T g d 11 74 (v0 :: v1 :: v2 :: v3 :: v4 :: .int x :: ls) (.int x :: st) h P := zt_iload zi_11_72 rfl
theorem zi_11_74 : z_ins 11 74 = some (.aload_n 0, 1) := by decide +kernel
theorem ze_11_74 : z_T g d 11 74 (.ref a :: ls) st h P = z_T g d 11 75 (.ref a :: ls) (.ref a :: st) h P := zt_aloadn zi_11_74 rfl rfl
theorem zi_11_75 : z_ins 11 75 = some (.getfield 15, 3) := by decide +kernel
theorem ze_11_75 : z_T g d 11 75 ls (.ref a :: st) h P = z_gR h.1 a 1 0 (fun x => z_T g d 11 78 ls (x :: st) h P) := zt_getR zi_11_75 ((congrArg (fun o => z_fl o 15) zo_11).trans zf_LatinRectangles_Cycles_15)
theorem zi_11_78 : z_ins 11 78 = some (.getfield 25, 3) := by decide +kernel
theorem ze_11_78 : z_T g d 11 78 ls (.ref a :: st) h P = z_gR h.1 a 3 0 (fun x => z_T g d 11 81 ls (x :: st) h P) := zt_getR zi_11_78 ((congrArg (fun o => z_fl o 25) zo_11).trans zf_LatinRectangles_Cycles_25)
theorem zi_11_81 : z_ins 11 81 = some (.iload 6, 2) := by decide +kernel
theorem ze_11_81 : z_T g d 11 81 (v0 :: v1 :: v2 :: v3 :: v4 :: v5 :: .int x :: ls) st h P = z_T g d 11 83 (v0 :: v1 :: v2 :: v3 :: v4 :: v5 :: .int x :: ls) (.int x :: st) h P := zt_iload zi_11_81 rfl
theorem zi_11_83 : z_ins 11 83 = some (.iaload, 1) := by decide +kernel
theorem ze_11_83 : z_T g d 11 83 ls (.int x :: .ref a :: st) h P = z_aL h.1 a z_tI x (fun v => z_T g d 11 84 ls (.int v :: st) h P) := zt_iaload zi_11_83
theorem zi_11_84 : z_ins 11 84 = some (.invokevirtual 67, 3) := by decide +kernel
theorem ze_11_84 : z_T g d 11 84 ls (.int x1 :: .int x0 :: .ref a :: st) h P = ((z_okS 8 st = true ∧ z_gO h.1 a 3 ∧ 0 < d) ∧ z_Ca g (d - 1) 33 [.ref a, .int x0, .int x1] h (fun r => z_k r (fun v h' => z_T g d 11 87 ls (z_push v st) h' P) P)) := zt_cV (as := [.int x0, .int x1]) (kk := 0) zi_11_84 rfl (zt_call zj_11 zh_11) (z_opV ((congrArg (fun o => z_lookup z_cns (o, 67)) zo_11).trans zq_cns_LatinRectangles_Cycles_67) ((congrArg (fun o => z_lookup z_prs (o, 67)) zo_11).trans zq_prs_LatinRectangles_Cycles_67)) ((congrArg (fun o => z_clk o 67) zo_11).trans zk_LatinRectangles_Cycles_67) rfl rfl rfl rfl (z_rcv0 zc_33)
theorem zi_11_87 : z_ins 11 87 = some (.ifCond .ne 25, 3) := by decide +kernel
theorem ze_11_87 : z_T g d 11 87 ls (.int x :: st) h P = (if x = nI 0 then z_T g d 11 90 ls st h P else z_T g d 11 112 ls st h P) := zt_ifne zi_11_87 (by decide)
theorem zi_11_90 : z_ins 11 90 = some (.aload_n 0, 1) := by decide +kernel
theorem ze_11_90 : z_T g d 11 90 (.ref a :: ls) st h P = z_T g d 11 91 (.ref a :: ls) (.ref a :: st) h P := zt_aloadn zi_11_90 rfl rfl
theorem zi_11_91 : z_ins 11 91 = some (.getfield 15, 3) := by decide +kernel
theorem ze_11_91 : z_T g d 11 91 ls (.ref a :: st) h P = z_gR h.1 a 1 0 (fun x => z_T g d 11 94 ls (x :: st) h P) := zt_getR zi_11_91 ((congrArg (fun o => z_fl o 15) zo_11).trans zf_LatinRectangles_Cycles_15)
theorem zi_11_94 : z_ins 11 94 = some (.iload 6, 2) := by decide +kernel
theorem ze_11_94 : z_T g d 11 94 (v0 :: v1 :: v2 :: v3 :: v4 :: v5 :: .int x :: ls) st h P = z_T g d 11 96 (v0 :: v1 :: v2 :: v3 :: v4 :: v5 :: .int x :: ls) (.int x :: st) h P := zt_iload zi_11_94 rfl
theorem zi_11_96 : z_ins 11 96 = some (.aload_n 0, 1) := by decide +kernel
theorem ze_11_96 : z_T g d 11 96 (.ref a :: ls) st h P = z_T g d 11 97 (.ref a :: ls) (.ref a :: st) h P := zt_aloadn zi_11_96 rfl rfl
theorem zi_11_97 : z_ins 11 97 = some (.getfield 15, 3) := by decide +kernel
theorem ze_11_97 : z_T g d 11 97 ls (.ref a :: st) h P = z_gR h.1 a 1 0 (fun x => z_T g d 11 100 ls (x :: st) h P) := zt_getR zi_11_97 ((congrArg (fun o => z_fl o 15) zo_11).trans zf_LatinRectangles_Cycles_15)
theorem zi_11_100 : z_ins 11 100 = some (.getfield 25, 3) := by decide +kernel
theorem ze_11_100 : z_T g d 11 100 ls (.ref a :: st) h P = z_gR h.1 a 3 0 (fun x => z_T g d 11 103 ls (x :: st) h P) := zt_getR zi_11_100 ((congrArg (fun o => z_fl o 25) zo_11).trans zf_LatinRectangles_Cycles_25)
theorem zi_11_103 : z_ins 11 103 = some (.iload 5, 2) := by decide +kernel
theorem ze_11_103 : z_T g d 11 103 (v0 :: v1 :: v2 :: v3 :: v4 :: .int x :: ls) st h P = z_T g d 11 105 (v0 :: v1 :: v2 :: v3 :: v4 :: .int x :: ls) (.int x :: st) h P := zt_iload zi_11_103 rfl
theorem zi_11_105 : z_ins 11 105 = some (.iaload, 1) := by decide +kernel
theorem ze_11_105 : z_T g d 11 105 ls (.int x :: .ref a :: st) h P = z_aL h.1 a z_tI x (fun v => z_T g d 11 106 ls (.int v :: st) h P) := zt_iaload zi_11_105
theorem zi_11_106 : z_ins 11 106 = some (.invokevirtual 67, 3) := by decide +kernel
theorem ze_11_106 : z_T g d 11 106 ls (.int x1 :: .int x0 :: .ref a :: st) h P = ((z_okS 8 st = true ∧ z_gO h.1 a 3 ∧ 0 < d) ∧ z_Ca g (d - 1) 33 [.ref a, .int x0, .int x1] h (fun r => z_k r (fun v h' => z_T g d 11 109 ls (z_push v st) h' P) P)) := zt_cV (as := [.int x0, .int x1]) (kk := 0) zi_11_106 rfl (zt_call zj_11 zh_11) (z_opV ((congrArg (fun o => z_lookup z_cns (o, 67)) zo_11).trans zq_cns_LatinRectangles_Cycles_67) ((congrArg (fun o => z_lookup z_prs (o, 67)) zo_11).trans zq_prs_LatinRectangles_Cycles_67)) ((congrArg (fun o => z_clk o 67) zo_11).trans zk_LatinRectangles_Cycles_67) rfl rfl rfl rfl (z_rcv0 zc_33)
theorem zi_11_109 : z_ins 11 109 = some (.ifCond .eq 5, 3) := by decide +kernel
theorem ze_11_109 : z_T g d 11 109 ls (.int x :: st) h P = (if x = nI 0 then z_T g d 11 114 ls st h P else z_T g d 11 112 ls st h P) := zt_ifeq zi_11_109 (by decide)
theorem zi_11_112 : z_ins 11 112 = some (.iconst 0, 1) := by decide +kernel
theorem ze_11_112 : z_T g d 11 112 ls st h P = z_T g d 11 113 ls (.int (nI 0) :: st) h P := zt_iconst zi_11_112 rfl
theorem zi_11_113 : z_ins 11 113 = some (.ireturn, 1) := by decide +kernel
theorem ze_11_113 : z_T g d 11 113 ls [.int x] h P = ((x = nI 0 ∨ x = nI 1) ∧ P (.inr (some (.int x)), h)) := zt_zreturn zi_11_113 zr_11
theorem zi_11_114 : z_ins 11 114 = some (.iinc 4 1, 3) := by decide +kernel
theorem ze_11_114 : z_T g d 11 114 (v0 :: v1 :: v2 :: v3 :: .int x :: ls) st h P = z_T g d 11 117 (v0 :: v1 :: v2 :: v3 :: .int (x + (nI 1)) :: ls) st h P := zt_iinc zi_11_114 rfl rfl
theorem zi_11_117 : z_ins 11 117 = some (.goto (-114), 3) := by decide +kernel
theorem ze_11_117 : z_T g d 11 117 ls st h P = z_T g d 11 3 ls st h P := zt_goto zi_11_117 (by decide)
theorem zi_11_120 : z_ins 11 120 = some (.iconst 1, 1) := by decide +kernel
theorem ze_11_120 : z_T g d 11 120 ls st h P = z_T g d 11 121 ls (.int (nI 1) :: st) h P := zt_iconst zi_11_120 rfl
theorem zi_11_121 : z_ins 11 121 = some (.ireturn, 1) := by decide +kernel
theorem ze_11_121 : z_T g d 11 121 ls [.int x] h P = ((x = nI 0 ∨ x = nI 1) ∧ P (.inr (some (.int x)), h)) := zt_zreturn zi_11_121 zr_11
-- LatinRectangles$Cycles.exchange(III)V
theorem zm_12 : z_maxL 12 = 6 := by decide +kernel
theorem zh_12 : z_hds 12 = [] := by decide +kernel
theorem zj_12 : z_jdk 12 = false := by decide +kernel
theorem zr_12 : z_rt 12 = none := by decide +kernel
theorem zn_12 : z_Ca g d 12 [.ref a0, .int x1, .int x2, .int x3] h P = z_T g d 12 0 [.ref a0, .int x1, .int x2, .int x3, z_un, z_un] [] h P := z_Ca_ent zm_12 rfl rfl
theorem zi_12_0 : z_ins 12 0 = some (.iconst 0, 1) := by decide +kernel
theorem ze_12_0 : z_T g d 12 0 ls st h P = z_T g d 12 1 ls (.int (nI 0) :: st) h P := zt_iconst zi_12_0 rfl
theorem zi_12_1 : z_ins 12 1 = some (.istore 4, 2) := by decide +kernel
theorem ze_12_1 : z_T g d 12 1 (v0 :: v1 :: v2 :: v3 :: v4 :: ls) (.int x :: st) h P = z_T g d 12 3 (v0 :: v1 :: v2 :: v3 :: .int x :: ls) st h P := zt_istore zi_12_1 (Nat.le_add_left 5 _)
theorem zi_12_3 : z_ins 12 3 = some (.iload 4, 2) := by decide +kernel
theorem ze_12_3 : z_T g d 12 3 (v0 :: v1 :: v2 :: v3 :: .int x :: ls) st h P = z_T g d 12 5 (v0 :: v1 :: v2 :: v3 :: .int x :: ls) (.int x :: st) h P := zt_iload zi_12_3 rfl
theorem zi_12_5 : z_ins 12 5 = some (.aload_n 0, 1) := by decide +kernel
theorem ze_12_5 : z_T g d 12 5 (.ref a :: ls) st h P = z_T g d 12 6 (.ref a :: ls) (.ref a :: st) h P := zt_aloadn zi_12_5 rfl rfl
theorem zi_12_6 : z_ins 12 6 = some (.getfield 15, 3) := by decide +kernel
theorem ze_12_6 : z_T g d 12 6 ls (.ref a :: st) h P = z_gR h.1 a 1 0 (fun x => z_T g d 12 9 ls (x :: st) h P) := zt_getR zi_12_6 ((congrArg (fun o => z_fl o 15) zo_12).trans zf_LatinRectangles_Cycles_15)
theorem zi_12_9 : z_ins 12 9 = some (.getfield 19, 3) := by decide +kernel
theorem ze_12_9 : z_T g d 12 9 ls (.ref a :: st) h P = z_gI h.1 a 3 6 (fun x => z_T g d 12 12 ls (.int x :: st) h P) := zt_getI zi_12_9 ((congrArg (fun o => z_fl o 19) zo_12).trans zf_LatinRectangles_Cycles_19)
theorem zi_12_12 : z_ins 12 12 = some (.if_icmp .ge 78, 3) := by decide +kernel
theorem ze_12_12 : z_T g d 12 12 ls (.int y :: .int x :: st) h P = (if x < y then z_T g d 12 15 ls st h P else z_T g d 12 90 ls st h P) := zt_icmpge zi_12_12 (by decide)
theorem zi_12_15 : z_ins 12 15 = some (.iload_n 3, 1) := by decide +kernel
theorem ze_12_15 : z_T g d 12 15 (v0 :: v1 :: v2 :: .int x :: ls) st h P = z_T g d 12 16 (v0 :: v1 :: v2 :: .int x :: ls) (.int x :: st) h P := zt_iloadn zi_12_15 rfl rfl
theorem zi_12_16 : z_ins 12 16 = some (.iload 4, 2) := by decide +kernel
theorem ze_12_16 : z_T g d 12 16 (v0 :: v1 :: v2 :: v3 :: .int x :: ls) st h P = z_T g d 12 18 (v0 :: v1 :: v2 :: v3 :: .int x :: ls) (.int x :: st) h P := zt_iload zi_12_16 rfl
theorem zi_12_18 : z_ins 12 18 = some (.ishr, 1) := by decide +kernel
theorem ze_12_18 : z_T g d 12 18 ls (.int y :: .int x :: st) h P = z_T g d 12 19 ls (.int (x >>> (y &&& 31)) :: st) h P := zt_bin (f := fun x y => x >>> (y &&& 31)) zi_12_18 rfl (fun _ _ _ => rfl)
theorem zi_12_19 : z_ins 12 19 = some (.iconst 1, 1) := by decide +kernel
theorem ze_12_19 : z_T g d 12 19 ls st h P = z_T g d 12 20 ls (.int (nI 1) :: st) h P := zt_iconst zi_12_19 rfl
theorem zi_12_20 : z_ins 12 20 = some (.iand, 1) := by decide +kernel
theorem ze_12_20 : z_T g d 12 20 ls (.int y :: .int x :: st) h P = z_T g d 12 21 ls (.int (x &&& y) :: st) h P := zt_bin (f := fun x y => x &&& y) zi_12_20 rfl (fun _ _ _ => rfl)
theorem zi_12_21 : z_ins 12 21 = some (.ifCond .eq 63, 3) := by decide +kernel
theorem ze_12_21 : z_T g d 12 21 ls (.int x :: st) h P = (if x = nI 0 then z_T g d 12 84 ls st h P else z_T g d 12 24 ls st h P) := zt_ifeq zi_12_21 (by decide)
theorem zi_12_24 : z_ins 12 24 = some (.aload_n 0, 1) := by decide +kernel
theorem ze_12_24 : z_T g d 12 24 (.ref a :: ls) st h P = z_T g d 12 25 (.ref a :: ls) (.ref a :: st) h P := zt_aloadn zi_12_24 rfl rfl
theorem zi_12_25 : z_ins 12 25 = some (.getfield 15, 3) := by decide +kernel
theorem ze_12_25 : z_T g d 12 25 ls (.ref a :: st) h P = z_gR h.1 a 1 0 (fun x => z_T g d 12 28 ls (x :: st) h P) := zt_getR zi_12_25 ((congrArg (fun o => z_fl o 15) zo_12).trans zf_LatinRectangles_Cycles_15)
theorem zi_12_28 : z_ins 12 28 = some (.getfield 25, 3) := by decide +kernel
theorem ze_12_28 : z_T g d 12 28 ls (.ref a :: st) h P = z_gR h.1 a 3 0 (fun x => z_T g d 12 31 ls (x :: st) h P) := zt_getR zi_12_28 ((congrArg (fun o => z_fl o 25) zo_12).trans zf_LatinRectangles_Cycles_25)
theorem zi_12_31 : z_ins 12 31 = some (.iload_n 1, 1) := by decide +kernel
theorem ze_12_31 : z_T g d 12 31 (v0 :: .int x :: ls) st h P = z_T g d 12 32 (v0 :: .int x :: ls) (.int x :: st) h P := zt_iloadn zi_12_31 rfl rfl
theorem zi_12_32 : z_ins 12 32 = some (.iconst 5, 1) := by decide +kernel
theorem ze_12_32 : z_T g d 12 32 ls st h P = z_T g d 12 33 ls (.int (nI 5) :: st) h P := zt_iconst zi_12_32 rfl
theorem zi_12_33 : z_ins 12 33 = some (.imul, 1) := by decide +kernel
theorem ze_12_33 : z_T g d 12 33 ls (.int y :: .int x :: st) h P = z_T g d 12 34 ls (.int (x * y) :: st) h P := zt_bin (f := fun x y => x * y) zi_12_33 rfl (fun _ _ _ => rfl)
theorem zi_12_34 : z_ins 12 34 = some (.iload 4, 2) := by decide +kernel
theorem ze_12_34 : z_T g d 12 34 (v0 :: v1 :: v2 :: v3 :: .int x :: ls) st h P = z_T g d 12 36 (v0 :: v1 :: v2 :: v3 :: .int x :: ls) (.int x :: st) h P := zt_iload zi_12_34 rfl
theorem zi_12_36 : z_ins 12 36 = some (.iadd, 1) := by decide +kernel
theorem ze_12_36 : z_T g d 12 36 ls (.int y :: .int x :: st) h P = z_T g d 12 37 ls (.int (x + y) :: st) h P := zt_bin (f := fun x y => x + y) zi_12_36 rfl (fun _ _ _ => rfl)
theorem zi_12_37 : z_ins 12 37 = some (.iaload, 1) := by decide +kernel
theorem ze_12_37 : z_T g d 12 37 ls (.int x :: .ref a :: st) h P = z_aL h.1 a z_tI x (fun v => z_T g d 12 38 ls (.int v :: st) h P) := zt_iaload zi_12_37
theorem zi_12_38 : z_ins 12 38 = some (.istore 5, 2) := by decide +kernel
theorem ze_12_38 : z_T g d 12 38 (v0 :: v1 :: v2 :: v3 :: v4 :: v5 :: ls) (.int x :: st) h P = z_T g d 12 40 (v0 :: v1 :: v2 :: v3 :: v4 :: .int x :: ls) st h P := zt_istore zi_12_38 (Nat.le_add_left 6 _)
theorem zi_12_40 : z_ins 12 40 = some (.aload_n 0, 1) := by decide +kernel
theorem ze_12_40 : z_T g d 12 40 (.ref a :: ls) st h P = z_T g d 12 41 (.ref a :: ls) (.ref a :: st) h P := zt_aloadn zi_12_40 rfl rfl
theorem zi_12_41 : z_ins 12 41 = some (.getfield 15, 3) := by decide +kernel
theorem ze_12_41 : z_T g d 12 41 ls (.ref a :: st) h P = z_gR h.1 a 1 0 (fun x => z_T g d 12 44 ls (x :: st) h P) := zt_getR zi_12_41 ((congrArg (fun o => z_fl o 15) zo_12).trans zf_LatinRectangles_Cycles_15)
theorem zi_12_44 : z_ins 12 44 = some (.getfield 25, 3) := by decide +kernel
theorem ze_12_44 : z_T g d 12 44 ls (.ref a :: st) h P = z_gR h.1 a 3 0 (fun x => z_T g d 12 47 ls (x :: st) h P) := zt_getR zi_12_44 ((congrArg (fun o => z_fl o 25) zo_12).trans zf_LatinRectangles_Cycles_25)
theorem zi_12_47 : z_ins 12 47 = some (.iload_n 1, 1) := by decide +kernel
theorem ze_12_47 : z_T g d 12 47 (v0 :: .int x :: ls) st h P = z_T g d 12 48 (v0 :: .int x :: ls) (.int x :: st) h P := zt_iloadn zi_12_47 rfl rfl
theorem zi_12_48 : z_ins 12 48 = some (.iconst 5, 1) := by decide +kernel
theorem ze_12_48 : z_T g d 12 48 ls st h P = z_T g d 12 49 ls (.int (nI 5) :: st) h P := zt_iconst zi_12_48 rfl
theorem zi_12_49 : z_ins 12 49 = some (.imul, 1) := by decide +kernel
theorem ze_12_49 : z_T g d 12 49 ls (.int y :: .int x :: st) h P = z_T g d 12 50 ls (.int (x * y) :: st) h P := zt_bin (f := fun x y => x * y) zi_12_49 rfl (fun _ _ _ => rfl)
theorem zi_12_50 : z_ins 12 50 = some (.iload 4, 2) := by decide +kernel
theorem ze_12_50 : z_T g d 12 50 (v0 :: v1 :: v2 :: v3 :: .int x :: ls) st h P = z_T g d 12 52 (v0 :: v1 :: v2 :: v3 :: .int x :: ls) (.int x :: st) h P := zt_iload zi_12_50 rfl
theorem zi_12_52 : z_ins 12 52 = some (.iadd, 1) := by decide +kernel
theorem ze_12_52 : z_T g d 12 52 ls (.int y :: .int x :: st) h P = z_T g d 12 53 ls (.int (x + y) :: st) h P := zt_bin (f := fun x y => x + y) zi_12_52 rfl (fun _ _ _ => rfl)
theorem zi_12_53 : z_ins 12 53 = some (.aload_n 0, 1) := by decide +kernel
theorem ze_12_53 : z_T g d 12 53 (.ref a :: ls) st h P = z_T g d 12 54 (.ref a :: ls) (.ref a :: st) h P := zt_aloadn zi_12_53 rfl rfl
theorem zi_12_54 : z_ins 12 54 = some (.getfield 15, 3) := by decide +kernel
theorem ze_12_54 : z_T g d 12 54 ls (.ref a :: st) h P = z_gR h.1 a 1 0 (fun x => z_T g d 12 57 ls (x :: st) h P) := zt_getR zi_12_54 ((congrArg (fun o => z_fl o 15) zo_12).trans zf_LatinRectangles_Cycles_15)
theorem zi_12_57 : z_ins 12 57 = some (.getfield 25, 3) := by decide +kernel
theorem ze_12_57 : z_T g d 12 57 ls (.ref a :: st) h P = z_gR h.1 a 3 0 (fun x => z_T g d 12 60 ls (x :: st) h P) := zt_getR zi_12_57 ((congrArg (fun o => z_fl o 25) zo_12).trans zf_LatinRectangles_Cycles_25)
theorem zi_12_60 : z_ins 12 60 = some (.iload_n 2, 1) := by decide +kernel
theorem ze_12_60 : z_T g d 12 60 (v0 :: v1 :: .int x :: ls) st h P = z_T g d 12 61 (v0 :: v1 :: .int x :: ls) (.int x :: st) h P := zt_iloadn zi_12_60 rfl rfl
theorem zi_12_61 : z_ins 12 61 = some (.iconst 5, 1) := by decide +kernel
theorem ze_12_61 : z_T g d 12 61 ls st h P = z_T g d 12 62 ls (.int (nI 5) :: st) h P := zt_iconst zi_12_61 rfl
theorem zi_12_62 : z_ins 12 62 = some (.imul, 1) := by decide +kernel
theorem ze_12_62 : z_T g d 12 62 ls (.int y :: .int x :: st) h P = z_T g d 12 63 ls (.int (x * y) :: st) h P := zt_bin (f := fun x y => x * y) zi_12_62 rfl (fun _ _ _ => rfl)
theorem zi_12_63 : z_ins 12 63 = some (.iload 4, 2) := by decide +kernel
theorem ze_12_63 : z_T g d 12 63 (v0 :: v1 :: v2 :: v3 :: .int x :: ls) st h P = z_T g d 12 65 (v0 :: v1 :: v2 :: v3 :: .int x :: ls) (.int x :: st) h P := zt_iload zi_12_63 rfl
theorem zi_12_65 : z_ins 12 65 = some (.iadd, 1) := by decide +kernel
theorem ze_12_65 : z_T g d 12 65 ls (.int y :: .int x :: st) h P = z_T g d 12 66 ls (.int (x + y) :: st) h P := zt_bin (f := fun x y => x + y) zi_12_65 rfl (fun _ _ _ => rfl)
theorem zi_12_66 : z_ins 12 66 = some (.iaload, 1) := by decide +kernel
theorem ze_12_66 : z_T g d 12 66 ls (.int x :: .ref a :: st) h P = z_aL h.1 a z_tI x (fun v => z_T g d 12 67 ls (.int v :: st) h P) := zt_iaload zi_12_66
theorem zi_12_67 : z_ins 12 67 = some (.iastore, 1) := by decide +kernel
theorem ze_12_67 : z_T g d 12 67 ls (.int y :: .int x :: .ref a :: st) h P = z_aS h.1 a z_tI x y (fun f => z_T g d 12 68 ls st (f, h.2) P) := zt_iastore zi_12_67
theorem zi_12_68 : z_ins 12 68 = some (.aload_n 0, 1) := by decide +kernel
theorem ze_12_68 : z_T g d 12 68 (.ref a :: ls) st h P = z_T g d 12 69 (.ref a :: ls) (.ref a :: st) h P := zt_aloadn zi_12_68 rfl rfl
theorem zi_12_69 : z_ins 12 69 = some (.getfield 15, 3) := by decide +kernel
theorem ze_12_69 : z_T g d 12 69 ls (.ref a :: st) h P = z_gR h.1 a 1 0 (fun x => z_T g d 12 72 ls (x :: st) h P) := zt_getR zi_12_69 ((congrArg (fun o => z_fl o 15) zo_12).trans zf_LatinRectangles_Cycles_15)
theorem zi_12_72 : z_ins 12 72 = some (.getfield 25, 3) := by decide +kernel
theorem ze_12_72 : z_T g d 12 72 ls (.ref a :: st) h P = z_gR h.1 a 3 0 (fun x => z_T g d 12 75 ls (x :: st) h P) := zt_getR zi_12_72 ((congrArg (fun o => z_fl o 25) zo_12).trans zf_LatinRectangles_Cycles_25)
theorem zi_12_75 : z_ins 12 75 = some (.iload_n 2, 1) := by decide +kernel
theorem ze_12_75 : z_T g d 12 75 (v0 :: v1 :: .int x :: ls) st h P = z_T g d 12 76 (v0 :: v1 :: .int x :: ls) (.int x :: st) h P := zt_iloadn zi_12_75 rfl rfl
theorem zi_12_76 : z_ins 12 76 = some (.iconst 5, 1) := by decide +kernel
theorem ze_12_76 : z_T g d 12 76 ls st h P = z_T g d 12 77 ls (.int (nI 5) :: st) h P := zt_iconst zi_12_76 rfl
theorem zi_12_77 : z_ins 12 77 = some (.imul, 1) := by decide +kernel
theorem ze_12_77 : z_T g d 12 77 ls (.int y :: .int x :: st) h P = z_T g d 12 78 ls (.int (x * y) :: st) h P := zt_bin (f := fun x y => x * y) zi_12_77 rfl (fun _ _ _ => rfl)
theorem zi_12_78 : z_ins 12 78 = some (.iload 4, 2) := by decide +kernel
theorem ze_12_78 : z_T g d 12 78 (v0 :: v1 :: v2 :: v3 :: .int x :: ls) st h P = z_T g d 12 80 (v0 :: v1 :: v2 :: v3 :: .int x :: ls) (.int x :: st) h P := zt_iload zi_12_78 rfl
theorem zi_12_80 : z_ins 12 80 = some (.iadd, 1) := by decide +kernel
theorem ze_12_80 : z_T g d 12 80 ls (.int y :: .int x :: st) h P = z_T g d 12 81 ls (.int (x + y) :: st) h P := zt_bin (f := fun x y => x + y) zi_12_80 rfl (fun _ _ _ => rfl)
theorem zi_12_81 : z_ins 12 81 = some (.iload 5, 2) := by decide +kernel
theorem ze_12_81 : z_T g d 12 81 (v0 :: v1 :: v2 :: v3 :: v4 :: .int x :: ls) st h P = z_T g d 12 83 (v0 :: v1 :: v2 :: v3 :: v4 :: .int x :: ls) (.int x :: st) h P := zt_iload zi_12_81 rfl
theorem zi_12_83 : z_ins 12 83 = some (.iastore, 1) := by decide +kernel
theorem ze_12_83 : z_T g d 12 83 ls (.int y :: .int x :: .ref a :: st) h P = z_aS h.1 a z_tI x y (fun f => z_T g d 12 84 ls st (f, h.2) P) := zt_iastore zi_12_83
theorem zi_12_84 : z_ins 12 84 = some (.iinc 4 1, 3) := by decide +kernel
theorem ze_12_84 : z_T g d 12 84 (v0 :: v1 :: v2 :: v3 :: .int x :: ls) st h P = z_T g d 12 87 (v0 :: v1 :: v2 :: v3 :: .int (x + (nI 1)) :: ls) st h P := zt_iinc zi_12_84 rfl rfl
theorem zi_12_87 : z_ins 12 87 = some (.goto (-84), 3) := by decide +kernel
theorem ze_12_87 : z_T g d 12 87 ls st h P = z_T g d 12 3 ls st h P := zt_goto zi_12_87 (by decide)
theorem zi_12_90 : z_ins 12 90 = some (.return_, 1) := by decide +kernel
theorem ze_12_90 : z_T g d 12 90 ls [] h P = P (.inr none, h) := zt_return zi_12_90 zr_12
-- LatinRectangles$Cycles.countIntercalates()I
theorem zm_13 : z_maxL 13 = 6 := by decide +kernel
theorem zh_13 : z_hds 13 = [] := by decide +kernel
theorem zj_13 : z_jdk 13 = false := by decide +kernel
theorem zr_13 : z_rt 13 = (some .int) := by decide +kernel
theorem zn_13 : z_Ca g d 13 [.ref a0] h P = z_T g d 13 0 [.ref a0, z_un, z_un, z_un, z_un, z_un] [] h P := z_Ca_ent zm_13 rfl rfl
theorem zi_13_0 : z_ins 13 0 = some (.iconst 0, 1) := by decide +kernel
theorem ze_13_0 : z_T g d 13 0 ls st h P = z_T g d 13 1 ls (.int (nI 0) :: st) h P := zt_iconst zi_13_0 rfl
theorem zi_13_1 : z_ins 13 1 = some (.istore_n 1, 1) := by decide +kernel
theorem ze_13_1 : z_T g d 13 1 (v0 :: v1 :: ls) (.int x :: st) h P = z_T g d 13 2 (v0 :: .int x :: ls) st h P := zt_istoren zi_13_1 rfl (Nat.le_add_left 2 _)
theorem zi_13_2 : z_ins 13 2 = some (.iconst 0, 1) := by decide +kernel
theorem ze_13_2 : z_T g d 13 2 ls st h P = z_T g d 13 3 ls (.int (nI 0) :: st) h P := zt_iconst zi_13_2 rfl
theorem zi_13_3 : z_ins 13 3 = some (.istore_n 2, 1) := by decide +kernel
theorem ze_13_3 : z_T g d 13 3 (v0 :: v1 :: v2 :: ls) (.int x :: st) h P = z_T g d 13 4 (v0 :: v1 :: .int x :: ls) st h P := zt_istoren zi_13_3 rfl (Nat.le_add_left 3 _)
theorem zi_13_4 : z_ins 13 4 = some (.iload_n 2, 1) := by decide +kernel
theorem ze_13_4 : z_T g d 13 4 (v0 :: v1 :: .int x :: ls) st h P = z_T g d 13 5 (v0 :: v1 :: .int x :: ls) (.int x :: st) h P := zt_iloadn zi_13_4 rfl rfl
theorem zi_13_5 : z_ins 13 5 = some (.aload_n 0, 1) := by decide +kernel
theorem ze_13_5 : z_T g d 13 5 (.ref a :: ls) st h P = z_T g d 13 6 (.ref a :: ls) (.ref a :: st) h P := zt_aloadn zi_13_5 rfl rfl
theorem zi_13_6 : z_ins 13 6 = some (.getfield 15, 3) := by decide +kernel
theorem ze_13_6 : z_T g d 13 6 ls (.ref a :: st) h P = z_gR h.1 a 1 0 (fun x => z_T g d 13 9 ls (x :: st) h P) := zt_getR zi_13_6 ((congrArg (fun o => z_fl o 15) zo_13).trans zf_LatinRectangles_Cycles_15)
theorem zi_13_9 : z_ins 13 9 = some (.getfield 38, 3) := by decide +kernel
theorem ze_13_9 : z_T g d 13 9 ls (.ref a :: st) h P = z_gI h.1 a 3 5 (fun x => z_T g d 13 12 ls (.int x :: st) h P) := zt_getI zi_13_9 ((congrArg (fun o => z_fl o 38) zo_13).trans zf_LatinRectangles_Cycles_38)
theorem zi_13_12 : z_ins 13 12 = some (.if_icmp .ge 91, 3) := by decide +kernel
theorem ze_13_12 : z_T g d 13 12 ls (.int y :: .int x :: st) h P = (if x < y then z_T g d 13 15 ls st h P else z_T g d 13 103 ls st h P) := zt_icmpge zi_13_12 (by decide)
theorem zi_13_15 : z_ins 13 15 = some (.iload_n 2, 1) := by decide +kernel
theorem ze_13_15 : z_T g d 13 15 (v0 :: v1 :: .int x :: ls) st h P = z_T g d 13 16 (v0 :: v1 :: .int x :: ls) (.int x :: st) h P := zt_iloadn zi_13_15 rfl rfl
theorem zi_13_16 : z_ins 13 16 = some (.iconst 1, 1) := by decide +kernel
theorem ze_13_16 : z_T g d 13 16 ls st h P = z_T g d 13 17 ls (.int (nI 1) :: st) h P := zt_iconst zi_13_16 rfl
theorem zi_13_17 : z_ins 13 17 = some (.iadd, 1) := by decide +kernel
theorem ze_13_17 : z_T g d 13 17 ls (.int y :: .int x :: st) h P = z_T g d 13 18 ls (.int (x + y) :: st) h P := zt_bin (f := fun x y => x + y) zi_13_17 rfl (fun _ _ _ => rfl)
theorem zi_13_18 : z_ins 13 18 = some (.istore_n 3, 1) := by decide +kernel
theorem ze_13_18 : z_T g d 13 18 (v0 :: v1 :: v2 :: v3 :: ls) (.int x :: st) h P = z_T g d 13 19 (v0 :: v1 :: v2 :: .int x :: ls) st h P := zt_istoren zi_13_18 rfl (Nat.le_add_left 4 _)
theorem zi_13_19 : z_ins 13 19 = some (.iload_n 3, 1) := by decide +kernel
theorem ze_13_19 : z_T g d 13 19 (v0 :: v1 :: v2 :: .int x :: ls) st h P = z_T g d 13 20 (v0 :: v1 :: v2 :: .int x :: ls) (.int x :: st) h P := zt_iloadn zi_13_19 rfl rfl
theorem zi_13_20 : z_ins 13 20 = some (.aload_n 0, 1) := by decide +kernel
theorem ze_13_20 : z_T g d 13 20 (.ref a :: ls) st h P = z_T g d 13 21 (.ref a :: ls) (.ref a :: st) h P := zt_aloadn zi_13_20 rfl rfl
theorem zi_13_21 : z_ins 13 21 = some (.getfield 15, 3) := by decide +kernel
theorem ze_13_21 : z_T g d 13 21 ls (.ref a :: st) h P = z_gR h.1 a 1 0 (fun x => z_T g d 13 24 ls (x :: st) h P) := zt_getR zi_13_21 ((congrArg (fun o => z_fl o 15) zo_13).trans zf_LatinRectangles_Cycles_15)
theorem zi_13_24 : z_ins 13 24 = some (.getfield 38, 3) := by decide +kernel
theorem ze_13_24 : z_T g d 13 24 ls (.ref a :: st) h P = z_gI h.1 a 3 5 (fun x => z_T g d 13 27 ls (.int x :: st) h P) := zt_getI zi_13_24 ((congrArg (fun o => z_fl o 38) zo_13).trans zf_LatinRectangles_Cycles_38)
theorem zi_13_27 : z_ins 13 27 = some (.if_icmp .ge 70, 3) := by decide +kernel
theorem ze_13_27 : z_T g d 13 27 ls (.int y :: .int x :: st) h P = (if x < y then z_T g d 13 30 ls st h P else z_T g d 13 97 ls st h P) := zt_icmpge zi_13_27 (by decide)
theorem zi_13_30 : z_ins 13 30 = some (.iconst 0, 1) := by decide +kernel
theorem ze_13_30 : z_T g d 13 30 ls st h P = z_T g d 13 31 ls (.int (nI 0) :: st) h P := zt_iconst zi_13_30 rfl
theorem zi_13_31 : z_ins 13 31 = some (.istore 4, 2) := by decide +kernel
theorem ze_13_31 : z_T g d 13 31 (v0 :: v1 :: v2 :: v3 :: v4 :: ls) (.int x :: st) h P = z_T g d 13 33 (v0 :: v1 :: v2 :: v3 :: .int x :: ls) st h P := zt_istore zi_13_31 (Nat.le_add_left 5 _)
theorem zi_13_33 : z_ins 13 33 = some (.iload 4, 2) := by decide +kernel
theorem ze_13_33 : z_T g d 13 33 (v0 :: v1 :: v2 :: v3 :: .int x :: ls) st h P = z_T g d 13 35 (v0 :: v1 :: v2 :: v3 :: .int x :: ls) (.int x :: st) h P := zt_iload zi_13_33 rfl
theorem zi_13_35 : z_ins 13 35 = some (.aload_n 0, 1) := by decide +kernel
theorem ze_13_35 : z_T g d 13 35 (.ref a :: ls) st h P = z_T g d 13 36 (.ref a :: ls) (.ref a :: st) h P := zt_aloadn zi_13_35 rfl rfl
theorem zi_13_36 : z_ins 13 36 = some (.getfield 15, 3) := by decide +kernel
theorem ze_13_36 : z_T g d 13 36 ls (.ref a :: st) h P = z_gR h.1 a 1 0 (fun x => z_T g d 13 39 ls (x :: st) h P) := zt_getR zi_13_36 ((congrArg (fun o => z_fl o 15) zo_13).trans zf_LatinRectangles_Cycles_15)
theorem zi_13_39 : z_ins 13 39 = some (.getfield 19, 3) := by decide +kernel
theorem ze_13_39 : z_T g d 13 39 ls (.ref a :: st) h P = z_gI h.1 a 3 6 (fun x => z_T g d 13 42 ls (.int x :: st) h P) := zt_getI zi_13_39 ((congrArg (fun o => z_fl o 19) zo_13).trans zf_LatinRectangles_Cycles_19)
theorem zi_13_42 : z_ins 13 42 = some (.if_icmp .ge 49, 3) := by decide +kernel
theorem ze_13_42 : z_T g d 13 42 ls (.int y :: .int x :: st) h P = (if x < y then z_T g d 13 45 ls st h P else z_T g d 13 91 ls st h P) := zt_icmpge zi_13_42 (by decide)
theorem zi_13_45 : z_ins 13 45 = some (.iload 4, 2) := by decide +kernel
theorem ze_13_45 : z_T g d 13 45 (v0 :: v1 :: v2 :: v3 :: .int x :: ls) st h P = z_T g d 13 47 (v0 :: v1 :: v2 :: v3 :: .int x :: ls) (.int x :: st) h P := zt_iload zi_13_45 rfl
theorem zi_13_47 : z_ins 13 47 = some (.iconst 1, 1) := by decide +kernel
theorem ze_13_47 : z_T g d 13 47 ls st h P = z_T g d 13 48 ls (.int (nI 1) :: st) h P := zt_iconst zi_13_47 rfl
theorem zi_13_48 : z_ins 13 48 = some (.iadd, 1) := by decide +kernel
theorem ze_13_48 : z_T g d 13 48 ls (.int y :: .int x :: st) h P = z_T g d 13 49 ls (.int (x + y) :: st) h P := zt_bin (f := fun x y => x + y) zi_13_48 rfl (fun _ _ _ => rfl)
theorem zi_13_49 : z_ins 13 49 = some (.istore 5, 2) := by decide +kernel
theorem ze_13_49 : z_T g d 13 49 (v0 :: v1 :: v2 :: v3 :: v4 :: v5 :: ls) (.int x :: st) h P = z_T g d 13 51 (v0 :: v1 :: v2 :: v3 :: v4 :: .int x :: ls) st h P := zt_istore zi_13_49 (Nat.le_add_left 6 _)
theorem zi_13_51 : z_ins 13 51 = some (.iload 5, 2) := by decide +kernel
theorem ze_13_51 : z_T g d 13 51 (v0 :: v1 :: v2 :: v3 :: v4 :: .int x :: ls) st h P = z_T g d 13 53 (v0 :: v1 :: v2 :: v3 :: v4 :: .int x :: ls) (.int x :: st) h P := zt_iload zi_13_51 rfl
theorem zi_13_53 : z_ins 13 53 = some (.aload_n 0, 1) := by decide +kernel
theorem ze_13_53 : z_T g d 13 53 (.ref a :: ls) st h P = z_T g d 13 54 (.ref a :: ls) (.ref a :: st) h P := zt_aloadn zi_13_53 rfl rfl
theorem zi_13_54 : z_ins 13 54 = some (.getfield 15, 3) := by decide +kernel
theorem ze_13_54 : z_T g d 13 54 ls (.ref a :: st) h P = z_gR h.1 a 1 0 (fun x => z_T g d 13 57 ls (x :: st) h P) := zt_getR zi_13_54 ((congrArg (fun o => z_fl o 15) zo_13).trans zf_LatinRectangles_Cycles_15)
theorem zi_13_57 : z_ins 13 57 = some (.getfield 19, 3) := by decide +kernel
theorem ze_13_57 : z_T g d 13 57 ls (.ref a :: st) h P = z_gI h.1 a 3 6 (fun x => z_T g d 13 60 ls (.int x :: st) h P) := zt_getI zi_13_57 ((congrArg (fun o => z_fl o 19) zo_13).trans zf_LatinRectangles_Cycles_19)
theorem zi_13_60 : z_ins 13 60 = some (.if_icmp .ge 25, 3) := by decide +kernel
theorem ze_13_60 : z_T g d 13 60 ls (.int y :: .int x :: st) h P = (if x < y then z_T g d 13 63 ls st h P else z_T g d 13 85 ls st h P) := zt_icmpge zi_13_60 (by decide)
theorem zi_13_63 : z_ins 13 63 = some (.aload_n 0, 1) := by decide +kernel
theorem ze_13_63 : z_T g d 13 63 (.ref a :: ls) st h P = z_T g d 13 64 (.ref a :: ls) (.ref a :: st) h P := zt_aloadn zi_13_63 rfl rfl
theorem zi_13_64 : z_ins 13 64 = some (.iload_n 2, 1) := by decide +kernel
theorem ze_13_64 : z_T g d 13 64 (v0 :: v1 :: .int x :: ls) st h P = z_T g d 13 65 (v0 :: v1 :: .int x :: ls) (.int x :: st) h P := zt_iloadn zi_13_64 rfl rfl
theorem zi_13_65 : z_ins 13 65 = some (.iload_n 3, 1) := by decide +kernel
theorem ze_13_65 : z_T g d 13 65 (v0 :: v1 :: v2 :: .int x :: ls) st h P = z_T g d 13 66 (v0 :: v1 :: v2 :: .int x :: ls) (.int x :: st) h P := zt_iloadn zi_13_65 rfl rfl
theorem zi_13_66 : z_ins 13 66 = some (.iload 4, 2) := by decide +kernel
theorem ze_13_66 : z_T g d 13 66 (v0 :: v1 :: v2 :: v3 :: .int x :: ls) st h P = z_T g d 13 68 (v0 :: v1 :: v2 :: v3 :: .int x :: ls) (.int x :: st) h P := zt_iload zi_13_66 rfl
theorem zi_13_68 : z_ins 13 68 = some (.iload 5, 2) := by decide +kernel
theorem ze_13_68 : z_T g d 13 68 (v0 :: v1 :: v2 :: v3 :: v4 :: .int x :: ls) st h P = z_T g d 13 70 (v0 :: v1 :: v2 :: v3 :: v4 :: .int x :: ls) (.int x :: st) h P := zt_iload zi_13_68 rfl
theorem zi_13_70 : z_ins 13 70 = some (.invokevirtual 71, 3) := by decide +kernel
theorem ze_13_70 : z_T g d 13 70 ls (.int x3 :: .int x2 :: .int x1 :: .int x0 :: .ref a :: st) h P = ((z_okS 8 st = true ∧ z_gO h.1 a 1 ∧ 0 < d) ∧ z_Ca g (d - 1) 14 [.ref a, .int x0, .int x1, .int x2, .int x3] h (fun r => z_k r (fun v h' => z_T g d 13 73 ls (z_push v st) h' P) P)) := zt_cV (as := [.int x0, .int x1, .int x2, .int x3]) (kk := 0) zi_13_70 rfl (zt_call zj_13 zh_13) (z_opV ((congrArg (fun o => z_lookup z_cns (o, 71)) zo_13).trans zq_cns_LatinRectangles_Cycles_71) ((congrArg (fun o => z_lookup z_prs (o, 71)) zo_13).trans zq_prs_LatinRectangles_Cycles_71)) ((congrArg (fun o => z_clk o 71) zo_13).trans zk_LatinRectangles_Cycles_71) rfl rfl rfl rfl (z_rcv0 zc_14)
theorem zi_13_73 : z_ins 13 73 = some (.ifCond .eq 6, 3) := by decide +kernel
theorem ze_13_73 : z_T g d 13 73 ls (.int x :: st) h P = (if x = nI 0 then z_T g d 13 79 ls st h P else z_T g d 13 76 ls st h P) := zt_ifeq zi_13_73 (by decide)
theorem zi_13_76 : z_ins 13 76 = some (.iinc 1 1, 3) := by decide +kernel
theorem ze_13_76 : z_T g d 13 76 (v0 :: .int x :: ls) st h P = z_T g d 13 79 (v0 :: .int (x + (nI 1)) :: ls) st h P := zt_iinc zi_13_76 rfl rfl
theorem zi_13_79 : z_ins 13 79 = some (.iinc 5 1, 3) := by decide +kernel
theorem ze_13_79 : z_T g d 13 79 (v0 :: v1 :: v2 :: v3 :: v4 :: .int x :: ls) st h P = z_T g d 13 82 (v0 :: v1 :: v2 :: v3 :: v4 :: .int (x + (nI 1)) :: ls) st h P := zt_iinc zi_13_79 rfl rfl
theorem zi_13_82 : z_ins 13 82 = some (.goto (-31), 3) := by decide +kernel
theorem ze_13_82 : z_T g d 13 82 ls st h P = z_T g d 13 51 ls st h P := zt_goto zi_13_82 (by decide)
theorem zi_13_85 : z_ins 13 85 = some (.iinc 4 1, 3) := by decide +kernel
theorem ze_13_85 : z_T g d 13 85 (v0 :: v1 :: v2 :: v3 :: .int x :: ls) st h P = z_T g d 13 88 (v0 :: v1 :: v2 :: v3 :: .int (x + (nI 1)) :: ls) st h P := zt_iinc zi_13_85 rfl rfl
theorem zi_13_88 : z_ins 13 88 = some (.goto (-55), 3) := by decide +kernel
theorem ze_13_88 : z_T g d 13 88 ls st h P = z_T g d 13 33 ls st h P := zt_goto zi_13_88 (by decide)
theorem zi_13_91 : z_ins 13 91 = some (.iinc 3 1, 3) := by decide +kernel
theorem ze_13_91 : z_T g d 13 91 (v0 :: v1 :: v2 :: .int x :: ls) st h P = z_T g d 13 94 (v0 :: v1 :: v2 :: .int (x + (nI 1)) :: ls) st h P := zt_iinc zi_13_91 rfl rfl
theorem zi_13_94 : z_ins 13 94 = some (.goto (-75), 3) := by decide +kernel
theorem ze_13_94 : z_T g d 13 94 ls st h P = z_T g d 13 19 ls st h P := zt_goto zi_13_94 (by decide)
theorem zi_13_97 : z_ins 13 97 = some (.iinc 2 1, 3) := by decide +kernel
theorem ze_13_97 : z_T g d 13 97 (v0 :: v1 :: .int x :: ls) st h P = z_T g d 13 100 (v0 :: v1 :: .int (x + (nI 1)) :: ls) st h P := zt_iinc zi_13_97 rfl rfl
theorem zi_13_100 : z_ins 13 100 = some (.goto (-96), 3) := by decide +kernel
theorem ze_13_100 : z_T g d 13 100 ls st h P = z_T g d 13 4 ls st h P := zt_goto zi_13_100 (by decide)
theorem zi_13_103 : z_ins 13 103 = some (.iload_n 1, 1) := by decide +kernel
theorem ze_13_103 : z_T g d 13 103 (v0 :: .int x :: ls) st h P = z_T g d 13 104 (v0 :: .int x :: ls) (.int x :: st) h P := zt_iloadn zi_13_103 rfl rfl
theorem zi_13_104 : z_ins 13 104 = some (.ireturn, 1) := by decide +kernel
theorem ze_13_104 : z_T g d 13 104 ls [.int x] h P = P (.inr (some (.int x)), h) := zt_ireturn zi_13_104 zr_13
-- LatinRectangles$Cycles.isIntercalate(IIII)Z
theorem zm_14 : z_maxL 14 = 7 := by decide +kernel
theorem zh_14 : z_hds 14 = [] := by decide +kernel
theorem zj_14 : z_jdk 14 = false := by decide +kernel
theorem zr_14 : z_rt 14 = (some .boolean) := by decide +kernel
theorem zn_14 : z_Ca g d 14 [.ref a0, .int x1, .int x2, .int x3, .int x4] h P = z_T g d 14 0 [.ref a0, .int x1, .int x2, .int x3, .int x4, z_un, z_un] [] h P := z_Ca_ent zm_14 rfl rfl
theorem zi_14_0 : z_ins 14 0 = some (.aload_n 0, 1) := by decide +kernel
theorem ze_14_0 : z_T g d 14 0 (.ref a :: ls) st h P = z_T g d 14 1 (.ref a :: ls) (.ref a :: st) h P := zt_aloadn zi_14_0 rfl rfl
theorem zi_14_1 : z_ins 14 1 = some (.getfield 15, 3) := by decide +kernel
theorem ze_14_1 : z_T g d 14 1 ls (.ref a :: st) h P = z_gR h.1 a 1 0 (fun x => z_T g d 14 4 ls (x :: st) h P) := zt_getR zi_14_1 ((congrArg (fun o => z_fl o 15) zo_14).trans zf_LatinRectangles_Cycles_15)
theorem zi_14_4 : z_ins 14 4 = some (.getfield 25, 3) := by decide +kernel
theorem ze_14_4 : z_T g d 14 4 ls (.ref a :: st) h P = z_gR h.1 a 3 0 (fun x => z_T g d 14 7 ls (x :: st) h P) := zt_getR zi_14_4 ((congrArg (fun o => z_fl o 25) zo_14).trans zf_LatinRectangles_Cycles_25)
theorem zi_14_7 : z_ins 14 7 = some (.iload_n 1, 1) := by decide +kernel
theorem ze_14_7 : z_T g d 14 7 (v0 :: .int x :: ls) st h P = z_T g d 14 8 (v0 :: .int x :: ls) (.int x :: st) h P := zt_iloadn zi_14_7 rfl rfl
theorem zi_14_8 : z_ins 14 8 = some (.iconst 5, 1) := by decide +kernel
theorem ze_14_8 : z_T g d 14 8 ls st h P = z_T g d 14 9 ls (.int (nI 5) :: st) h P := zt_iconst zi_14_8 rfl
theorem zi_14_9 : z_ins 14 9 = some (.imul, 1) := by decide +kernel
theorem ze_14_9 : z_T g d 14 9 ls (.int y :: .int x :: st) h P = z_T g d 14 10 ls (.int (x * y) :: st) h P := zt_bin (f := fun x y => x * y) zi_14_9 rfl (fun _ _ _ => rfl)
theorem zi_14_10 : z_ins 14 10 = some (.iload_n 3, 1) := by decide +kernel
theorem ze_14_10 : z_T g d 14 10 (v0 :: v1 :: v2 :: .int x :: ls) st h P = z_T g d 14 11 (v0 :: v1 :: v2 :: .int x :: ls) (.int x :: st) h P := zt_iloadn zi_14_10 rfl rfl
theorem zi_14_11 : z_ins 14 11 = some (.iadd, 1) := by decide +kernel
theorem ze_14_11 : z_T g d 14 11 ls (.int y :: .int x :: st) h P = z_T g d 14 12 ls (.int (x + y) :: st) h P := zt_bin (f := fun x y => x + y) zi_14_11 rfl (fun _ _ _ => rfl)
theorem zi_14_12 : z_ins 14 12 = some (.iaload, 1) := by decide +kernel
theorem ze_14_12 : z_T g d 14 12 ls (.int x :: .ref a :: st) h P = z_aL h.1 a z_tI x (fun v => z_T g d 14 13 ls (.int v :: st) h P) := zt_iaload zi_14_12
theorem zi_14_13 : z_ins 14 13 = some (.istore 5, 2) := by decide +kernel
theorem ze_14_13 : z_T g d 14 13 (v0 :: v1 :: v2 :: v3 :: v4 :: v5 :: ls) (.int x :: st) h P = z_T g d 14 15 (v0 :: v1 :: v2 :: v3 :: v4 :: .int x :: ls) st h P := zt_istore zi_14_13 (Nat.le_add_left 6 _)
theorem zi_14_15 : z_ins 14 15 = some (.aload_n 0, 1) := by decide +kernel
theorem ze_14_15 : z_T g d 14 15 (.ref a :: ls) st h P = z_T g d 14 16 (.ref a :: ls) (.ref a :: st) h P := zt_aloadn zi_14_15 rfl rfl
theorem zi_14_16 : z_ins 14 16 = some (.getfield 15, 3) := by decide +kernel
theorem ze_14_16 : z_T g d 14 16 ls (.ref a :: st) h P = z_gR h.1 a 1 0 (fun x => z_T g d 14 19 ls (x :: st) h P) := zt_getR zi_14_16 ((congrArg (fun o => z_fl o 15) zo_14).trans zf_LatinRectangles_Cycles_15)
theorem zi_14_19 : z_ins 14 19 = some (.getfield 25, 3) := by decide +kernel
theorem ze_14_19 : z_T g d 14 19 ls (.ref a :: st) h P = z_gR h.1 a 3 0 (fun x => z_T g d 14 22 ls (x :: st) h P) := zt_getR zi_14_19 ((congrArg (fun o => z_fl o 25) zo_14).trans zf_LatinRectangles_Cycles_25)
theorem zi_14_22 : z_ins 14 22 = some (.iload_n 1, 1) := by decide +kernel
theorem ze_14_22 : z_T g d 14 22 (v0 :: .int x :: ls) st h P = z_T g d 14 23 (v0 :: .int x :: ls) (.int x :: st) h P := zt_iloadn zi_14_22 rfl rfl
theorem zi_14_23 : z_ins 14 23 = some (.iconst 5, 1) := by decide +kernel
theorem ze_14_23 : z_T g d 14 23 ls st h P = z_T g d 14 24 ls (.int (nI 5) :: st) h P := zt_iconst zi_14_23 rfl
theorem zi_14_24 : z_ins 14 24 = some (.imul, 1) := by decide +kernel
theorem ze_14_24 : z_T g d 14 24 ls (.int y :: .int x :: st) h P = z_T g d 14 25 ls (.int (x * y) :: st) h P := zt_bin (f := fun x y => x * y) zi_14_24 rfl (fun _ _ _ => rfl)
theorem zi_14_25 : z_ins 14 25 = some (.iload 4, 2) := by decide +kernel
theorem ze_14_25 : z_T g d 14 25 (v0 :: v1 :: v2 :: v3 :: .int x :: ls) st h P = z_T g d 14 27 (v0 :: v1 :: v2 :: v3 :: .int x :: ls) (.int x :: st) h P := zt_iload zi_14_25 rfl
theorem zi_14_27 : z_ins 14 27 = some (.iadd, 1) := by decide +kernel
theorem ze_14_27 : z_T g d 14 27 ls (.int y :: .int x :: st) h P = z_T g d 14 28 ls (.int (x + y) :: st) h P := zt_bin (f := fun x y => x + y) zi_14_27 rfl (fun _ _ _ => rfl)
theorem zi_14_28 : z_ins 14 28 = some (.iaload, 1) := by decide +kernel
theorem ze_14_28 : z_T g d 14 28 ls (.int x :: .ref a :: st) h P = z_aL h.1 a z_tI x (fun v => z_T g d 14 29 ls (.int v :: st) h P) := zt_iaload zi_14_28
theorem zi_14_29 : z_ins 14 29 = some (.istore 6, 2) := by decide +kernel
theorem ze_14_29 : z_T g d 14 29 (v0 :: v1 :: v2 :: v3 :: v4 :: v5 :: v6 :: ls) (.int x :: st) h P = z_T g d 14 31 (v0 :: v1 :: v2 :: v3 :: v4 :: v5 :: .int x :: ls) st h P := zt_istore zi_14_29 (Nat.le_add_left 7 _)
theorem zi_14_31 : z_ins 14 31 = some (.iload 5, 2) := by decide +kernel
theorem ze_14_31 : z_T g d 14 31 (v0 :: v1 :: v2 :: v3 :: v4 :: .int x :: ls) st h P = z_T g d 14 33 (v0 :: v1 :: v2 :: v3 :: v4 :: .int x :: ls) (.int x :: st) h P := zt_iload zi_14_31 rfl
theorem zi_14_33 : z_ins 14 33 = some (.iconst (-1), 1) := by decide +kernel
theorem ze_14_33 : z_T g d 14 33 ls st h P = z_T g d 14 34 ls (.int (-1) :: st) h P := zt_iconst zi_14_33 rfl
theorem zi_14_34 : z_ins 14 34 = some (.if_icmp .eq 50, 3) := by decide +kernel
theorem ze_14_34 : z_T g d 14 34 ls (.int y :: .int x :: st) h P = (if x = y then z_T g d 14 84 ls st h P else z_T g d 14 37 ls st h P) := zt_icmpeq zi_14_34 (by decide)
theorem zi_14_37 : z_ins 14 37 = some (.iload 6, 2) := by decide +kernel
theorem ze_14_37 : z_T g d 14 37 (v0 :: v1 :: v2 :: v3 :: v4 :: v5 :: .int x :: ls) st h P = z_T g d 14 39 (v0 :: v1 :: v2 :: v3 :: v4 :: v5 :: .int x :: ls) (.int x :: st) h P := zt_iload zi_14_37 rfl
theorem zi_14_39 : z_ins 14 39 = some (.iconst (-1), 1) := by decide +kernel
theorem ze_14_39 : z_T g d 14 39 ls st h P = z_T g d 14 40 ls (.int (-1) :: st) h P := zt_iconst zi_14_39 rfl
theorem zi_14_40 : z_ins 14 40 = some (.if_icmp .eq 44, 3) := by decide +kernel
theorem ze_14_40 : z_T g d 14 40 ls (.int y :: .int x :: st) h P = (if x = y then z_T g d 14 84 ls st h P else z_T g d 14 43 ls st h P) := zt_icmpeq zi_14_40 (by decide)
theorem zi_14_43 : z_ins 14 43 = some (.iload 5, 2) := by decide +kernel
theorem ze_14_43 : z_T g d 14 43 (v0 :: v1 :: v2 :: v3 :: v4 :: .int x :: ls) st h P = z_T g d 14 45 (v0 :: v1 :: v2 :: v3 :: v4 :: .int x :: ls) (.int x :: st) h P := zt_iload zi_14_43 rfl
theorem zi_14_45 : z_ins 14 45 = some (.aload_n 0, 1) := by decide +kernel
theorem ze_14_45 : z_T g d 14 45 (.ref a :: ls) st h P = z_T g d 14 46 (.ref a :: ls) (.ref a :: st) h P := zt_aloadn zi_14_45 rfl rfl
theorem zi_14_46 : z_ins 14 46 = some (.getfield 15, 3) := by decide +kernel
theorem ze_14_46 : z_T g d 14 46 ls (.ref a :: st) h P = z_gR h.1 a 1 0 (fun x => z_T g d 14 49 ls (x :: st) h P) := zt_getR zi_14_46 ((congrArg (fun o => z_fl o 15) zo_14).trans zf_LatinRectangles_Cycles_15)
theorem zi_14_49 : z_ins 14 49 = some (.getfield 25, 3) := by decide +kernel
theorem ze_14_49 : z_T g d 14 49 ls (.ref a :: st) h P = z_gR h.1 a 3 0 (fun x => z_T g d 14 52 ls (x :: st) h P) := zt_getR zi_14_49 ((congrArg (fun o => z_fl o 25) zo_14).trans zf_LatinRectangles_Cycles_25)
theorem zi_14_52 : z_ins 14 52 = some (.iload_n 2, 1) := by decide +kernel
theorem ze_14_52 : z_T g d 14 52 (v0 :: v1 :: .int x :: ls) st h P = z_T g d 14 53 (v0 :: v1 :: .int x :: ls) (.int x :: st) h P := zt_iloadn zi_14_52 rfl rfl
theorem zi_14_53 : z_ins 14 53 = some (.iconst 5, 1) := by decide +kernel
theorem ze_14_53 : z_T g d 14 53 ls st h P = z_T g d 14 54 ls (.int (nI 5) :: st) h P := zt_iconst zi_14_53 rfl
theorem zi_14_54 : z_ins 14 54 = some (.imul, 1) := by decide +kernel
theorem ze_14_54 : z_T g d 14 54 ls (.int y :: .int x :: st) h P = z_T g d 14 55 ls (.int (x * y) :: st) h P := zt_bin (f := fun x y => x * y) zi_14_54 rfl (fun _ _ _ => rfl)
theorem zi_14_55 : z_ins 14 55 = some (.iload 4, 2) := by decide +kernel
theorem ze_14_55 : z_T g d 14 55 (v0 :: v1 :: v2 :: v3 :: .int x :: ls) st h P = z_T g d 14 57 (v0 :: v1 :: v2 :: v3 :: .int x :: ls) (.int x :: st) h P := zt_iload zi_14_55 rfl
theorem zi_14_57 : z_ins 14 57 = some (.iadd, 1) := by decide +kernel
theorem ze_14_57 : z_T g d 14 57 ls (.int y :: .int x :: st) h P = z_T g d 14 58 ls (.int (x + y) :: st) h P := zt_bin (f := fun x y => x + y) zi_14_57 rfl (fun _ _ _ => rfl)
theorem zi_14_58 : z_ins 14 58 = some (.iaload, 1) := by decide +kernel
theorem ze_14_58 : z_T g d 14 58 ls (.int x :: .ref a :: st) h P = z_aL h.1 a z_tI x (fun v => z_T g d 14 59 ls (.int v :: st) h P) := zt_iaload zi_14_58
theorem zi_14_59 : z_ins 14 59 = some (.if_icmp .ne 25, 3) := by decide +kernel
theorem ze_14_59 : z_T g d 14 59 ls (.int y :: .int x :: st) h P = (if x = y then z_T g d 14 62 ls st h P else z_T g d 14 84 ls st h P) := zt_icmpne zi_14_59 (by decide)
theorem zi_14_62 : z_ins 14 62 = some (.iload 6, 2) := by decide +kernel
theorem ze_14_62 : z_T g d 14 62 (v0 :: v1 :: v2 :: v3 :: v4 :: v5 :: .int x :: ls) st h P = z_T g d 14 64 (v0 :: v1 :: v2 :: v3 :: v4 :: v5 :: .int x :: ls) (.int x :: st) h P := zt_iload zi_14_62 rfl
theorem zi_14_64 : z_ins 14 64 = some (.aload_n 0, 1) := by decide +kernel
theorem ze_14_64 : z_T g d 14 64 (.ref a :: ls) st h P = z_T g d 14 65 (.ref a :: ls) (.ref a :: st) h P := zt_aloadn zi_14_64 rfl rfl
theorem zi_14_65 : z_ins 14 65 = some (.getfield 15, 3) := by decide +kernel
theorem ze_14_65 : z_T g d 14 65 ls (.ref a :: st) h P = z_gR h.1 a 1 0 (fun x => z_T g d 14 68 ls (x :: st) h P) := zt_getR zi_14_65 ((congrArg (fun o => z_fl o 15) zo_14).trans zf_LatinRectangles_Cycles_15)
theorem zi_14_68 : z_ins 14 68 = some (.getfield 25, 3) := by decide +kernel
theorem ze_14_68 : z_T g d 14 68 ls (.ref a :: st) h P = z_gR h.1 a 3 0 (fun x => z_T g d 14 71 ls (x :: st) h P) := zt_getR zi_14_68 ((congrArg (fun o => z_fl o 25) zo_14).trans zf_LatinRectangles_Cycles_25)
theorem zi_14_71 : z_ins 14 71 = some (.iload_n 2, 1) := by decide +kernel
theorem ze_14_71 : z_T g d 14 71 (v0 :: v1 :: .int x :: ls) st h P = z_T g d 14 72 (v0 :: v1 :: .int x :: ls) (.int x :: st) h P := zt_iloadn zi_14_71 rfl rfl
theorem zi_14_72 : z_ins 14 72 = some (.iconst 5, 1) := by decide +kernel
theorem ze_14_72 : z_T g d 14 72 ls st h P = z_T g d 14 73 ls (.int (nI 5) :: st) h P := zt_iconst zi_14_72 rfl
theorem zi_14_73 : z_ins 14 73 = some (.imul, 1) := by decide +kernel
theorem ze_14_73 : z_T g d 14 73 ls (.int y :: .int x :: st) h P = z_T g d 14 74 ls (.int (x * y) :: st) h P := zt_bin (f := fun x y => x * y) zi_14_73 rfl (fun _ _ _ => rfl)
theorem zi_14_74 : z_ins 14 74 = some (.iload_n 3, 1) := by decide +kernel
theorem ze_14_74 : z_T g d 14 74 (v0 :: v1 :: v2 :: .int x :: ls) st h P = z_T g d 14 75 (v0 :: v1 :: v2 :: .int x :: ls) (.int x :: st) h P := zt_iloadn zi_14_74 rfl rfl
theorem zi_14_75 : z_ins 14 75 = some (.iadd, 1) := by decide +kernel
theorem ze_14_75 : z_T g d 14 75 ls (.int y :: .int x :: st) h P = z_T g d 14 76 ls (.int (x + y) :: st) h P := zt_bin (f := fun x y => x + y) zi_14_75 rfl (fun _ _ _ => rfl)
theorem zi_14_76 : z_ins 14 76 = some (.iaload, 1) := by decide +kernel
theorem ze_14_76 : z_T g d 14 76 ls (.int x :: .ref a :: st) h P = z_aL h.1 a z_tI x (fun v => z_T g d 14 77 ls (.int v :: st) h P) := zt_iaload zi_14_76
theorem zi_14_77 : z_ins 14 77 = some (.if_icmp .ne 7, 3) := by decide +kernel
theorem ze_14_77 : z_T g d 14 77 ls (.int y :: .int x :: st) h P = (if x = y then z_T g d 14 80 ls st h P else z_T g d 14 84 ls st h P) := zt_icmpne zi_14_77 (by decide)
theorem zi_14_80 : z_ins 14 80 = some (.iconst 1, 1) := by decide +kernel
theorem ze_14_80 : z_T g d 14 80 ls st h P = z_T g d 14 81 ls (.int (nI 1) :: st) h P := zt_iconst zi_14_80 rfl
theorem zi_14_81 : z_ins 14 81 = some (.goto 4, 3) := by decide +kernel
theorem ze_14_81 : z_T g d 14 81 ls st h P = z_T g d 14 85 ls st h P := zt_goto zi_14_81 (by decide)
theorem zi_14_84 : z_ins 14 84 = some (.iconst 0, 1) := by decide +kernel
theorem ze_14_84 : z_T g d 14 84 ls st h P = z_T g d 14 85 ls (.int (nI 0) :: st) h P := zt_iconst zi_14_84 rfl
theorem zi_14_85 : z_ins 14 85 = some (.ireturn, 1) := by decide +kernel
theorem ze_14_85 : z_T g d 14 85 ls [.int x] h P = ((x = nI 0 ∨ x = nI 1) ∧ P (.inr (some (.int x)), h)) := zt_zreturn zi_14_85 zr_14
-- LatinRectangles$Transversals.<init>(LLatinRectangles$Grid;)V
theorem zm_60 : z_maxL 60 = 2 := by decide +kernel
theorem zh_60 : z_hds 60 = [] := by decide +kernel
theorem zj_60 : z_jdk 60 = false := by decide +kernel
theorem zr_60 : z_rt 60 = none := by decide +kernel
theorem zn_60 : z_Ca g d 60 [.ref a0, .ref a1] h P = z_T g d 60 0 [.ref a0, .ref a1] [] h P := z_Ca_ent zm_60 rfl rfl
theorem zi_60_0 : z_ins 60 0 = some (.aload_n 0, 1) := by decide +kernel
theorem ze_60_0 : z_T g d 60 0 (.ref a :: ls) st h P = z_T g d 60 1 (.ref a :: ls) (.ref a :: st) h P := zt_aloadn zi_60_0 rfl rfl
theorem zi_60_1 : z_ins 60 1 = some (.invokespecial 3, 3) := by decide +kernel
theorem ze_60_1 : z_T g d 60 1 ls (.ref a :: st) h P = (z_okS 8 st = true ∧ z_T g d 60 4 ls st h P) := zt_objInit zi_60_1 ((congrArg (fun o => z_lookup z_ois (o, 3)) zo_60).trans zq_ois_LatinRectangles_Transversals_3)
theorem zi_60_4 : z_ins 60 4 = some (.aload_n 0, 1) := by decide +kernel
theorem ze_60_4 : z_T g d 60 4 (.ref a :: ls) st h P = z_T g d 60 5 (.ref a :: ls) (.ref a :: st) h P := zt_aloadn zi_60_4 rfl rfl
theorem zi_60_5 : z_ins 60 5 = some (.iconst 5, 1) := by decide +kernel
theorem ze_60_5 : z_T g d 60 5 ls st h P = z_T g d 60 6 ls (.int (nI 5) :: st) h P := zt_iconst zi_60_5 rfl
theorem zi_60_6 : z_ins 60 6 = some (.newarray .int, 2) := by decide +kernel
theorem ze_60_6 : z_T g d 60 6 ls (.int x :: st) h P = z_nA h .int x (fun q h' => z_T g d 60 8 ls (.ref q :: st) h' P) := zt_newarray zi_60_6
theorem zi_60_8 : z_ins 60 8 = some (.putfield 9, 3) := by decide +kernel
theorem ze_60_8 : z_T g d 60 8 ls (.ref b :: .ref a :: st) h P = z_pF h.1 a 8 1 (.ref b) (fun f => z_T g d 60 11 ls st (f, h.2) P) := zt_put zi_60_8 ((congrArg (fun o => z_fl o 9) zo_60).trans zf_LatinRectangles_Transversals_9) (by decide +kernel) rfl rfl
theorem zi_60_11 : z_ins 60 11 = some (.aload_n 0, 1) := by decide +kernel
theorem ze_60_11 : z_T g d 60 11 (.ref a :: ls) st h P = z_T g d 60 12 (.ref a :: ls) (.ref a :: st) h P := zt_aloadn zi_60_11 rfl rfl
theorem zi_60_12 : z_ins 60 12 = some (.aload_n 1, 1) := by decide +kernel
theorem ze_60_12 : z_T g d 60 12 (v0 :: .ref a :: ls) st h P = z_T g d 60 13 (v0 :: .ref a :: ls) (.ref a :: st) h P := zt_aloadn zi_60_12 rfl rfl
theorem zi_60_13 : z_ins 60 13 = some (.putfield 15, 3) := by decide +kernel
theorem ze_60_13 : z_T g d 60 13 ls (.ref b :: .ref a :: st) h P = z_pF h.1 a 8 0 (.ref b) (fun f => z_T g d 60 16 ls st (f, h.2) P) := zt_put zi_60_13 ((congrArg (fun o => z_fl o 15) zo_60).trans zf_LatinRectangles_Transversals_15) (by decide +kernel) rfl rfl
theorem zi_60_16 : z_ins 60 16 = some (.return_, 1) := by decide +kernel
theorem ze_60_16 : z_T g d 60 16 ls [] h P = P (.inr none, h) := zt_return zi_60_16 zr_60
-- LatinRectangles$Transversals.count(II)I
theorem zm_61 : z_maxL 61 = 3 := by decide +kernel
theorem zh_61 : z_hds 61 = [] := by decide +kernel
theorem zj_61 : z_jdk 61 = false := by decide +kernel
theorem zr_61 : z_rt 61 = (some .int) := by decide +kernel
theorem zn_61 : z_Ca g d 61 [.ref a0, .int x1, .int x2] h P = z_T g d 61 0 [.ref a0, .int x1, .int x2] [] h P := z_Ca_ent zm_61 rfl rfl
theorem zi_61_0 : z_ins 61 0 = some (.aload_n 0, 1) := by decide +kernel
theorem ze_61_0 : z_T g d 61 0 (.ref a :: ls) st h P = z_T g d 61 1 (.ref a :: ls) (.ref a :: st) h P := zt_aloadn zi_61_0 rfl rfl
theorem zi_61_1 : z_ins 61 1 = some (.iload_n 1, 1) := by decide +kernel
theorem ze_61_1 : z_T g d 61 1 (v0 :: .int x :: ls) st h P = z_T g d 61 2 (v0 :: .int x :: ls) (.int x :: st) h P := zt_iloadn zi_61_1 rfl rfl
theorem zi_61_2 : z_ins 61 2 = some (.putfield 19, 3) := by decide +kernel
theorem ze_61_2 : z_T g d 61 2 ls (.int x :: .ref a :: st) h P = z_pF h.1 a 8 2 (.int x) (fun f => z_T g d 61 5 ls st (f, h.2) P) := zt_put zi_61_2 ((congrArg (fun o => z_fl o 19) zo_61).trans zf_LatinRectangles_Transversals_19) (by decide +kernel) rfl rfl
theorem zi_61_5 : z_ins 61 5 = some (.aload_n 0, 1) := by decide +kernel
theorem ze_61_5 : z_T g d 61 5 (.ref a :: ls) st h P = z_T g d 61 6 (.ref a :: ls) (.ref a :: st) h P := zt_aloadn zi_61_5 rfl rfl
theorem zi_61_6 : z_ins 61 6 = some (.iload_n 2, 1) := by decide +kernel
theorem ze_61_6 : z_T g d 61 6 (v0 :: v1 :: .int x :: ls) st h P = z_T g d 61 7 (v0 :: v1 :: .int x :: ls) (.int x :: st) h P := zt_iloadn zi_61_6 rfl rfl
theorem zi_61_7 : z_ins 61 7 = some (.putfield 23, 3) := by decide +kernel
theorem ze_61_7 : z_T g d 61 7 ls (.int x :: .ref a :: st) h P = z_pF h.1 a 8 3 (.int x) (fun f => z_T g d 61 10 ls st (f, h.2) P) := zt_put zi_61_7 ((congrArg (fun o => z_fl o 23) zo_61).trans zf_LatinRectangles_Transversals_23) (by decide +kernel) rfl rfl
theorem zi_61_10 : z_ins 61 10 = some (.aload_n 0, 1) := by decide +kernel
theorem ze_61_10 : z_T g d 61 10 (.ref a :: ls) st h P = z_T g d 61 11 (.ref a :: ls) (.ref a :: st) h P := zt_aloadn zi_61_10 rfl rfl
theorem zi_61_11 : z_ins 61 11 = some (.iconst 0, 1) := by decide +kernel
theorem ze_61_11 : z_T g d 61 11 ls st h P = z_T g d 61 12 ls (.int (nI 0) :: st) h P := zt_iconst zi_61_11 rfl
theorem zi_61_12 : z_ins 61 12 = some (.iconst 0, 1) := by decide +kernel
theorem ze_61_12 : z_T g d 61 12 ls st h P = z_T g d 61 13 ls (.int (nI 0) :: st) h P := zt_iconst zi_61_12 rfl
theorem zi_61_13 : z_ins 61 13 = some (.iconst 0, 1) := by decide +kernel
theorem ze_61_13 : z_T g d 61 13 ls st h P = z_T g d 61 14 ls (.int (nI 0) :: st) h P := zt_iconst zi_61_13 rfl
theorem zi_61_14 : z_ins 61 14 = some (.invokestatic 26, 3) := by decide +kernel
theorem ze_61_14 : z_T g d 61 14 ls (.int x3 :: .int x2 :: .int x1 :: .ref a0 :: st) h P = ((z_okS 8 st = true ∧ 0 < d) ∧ z_Ca g (d - 1) 63 [.ref a0, .int x1, .int x2, .int x3] h (fun r => z_k r (fun v h' => z_T g d 61 17 ls (z_push v st) h' P) P)) := zt_cS (as := [.ref a0, .int x1, .int x2, .int x3]) (kk := 1) zi_61_14 rfl (zt_call zj_61 zh_61) (z_opT ((congrArg (fun o => z_lookup z_cps (o, 26)) zo_61).trans zq_cps_LatinRectangles_Transversals_26) ((congrArg (fun o => z_lookup z_prs (o, 26)) zo_61).trans zq_prs_LatinRectangles_Transversals_26)) ((congrArg (fun o => z_clk o 26) zo_61).trans zk_LatinRectangles_Transversals_26) rfl rfl rfl rfl rfl
theorem zi_61_17 : z_ins 61 17 = some (.ireturn, 1) := by decide +kernel
theorem ze_61_17 : z_T g d 61 17 ls [.int x] h P = P (.inr (some (.int x)), h) := zt_ireturn zi_61_17 zr_61
-- LatinRectangles$Transversals.firstColumn(I)I
theorem zm_62 : z_maxL 62 = 2 := by decide +kernel
theorem zh_62 : z_hds 62 = [] := by decide +kernel
theorem zj_62 : z_jdk 62 = false := by decide +kernel
theorem zr_62 : z_rt 62 = (some .int) := by decide +kernel
theorem zn_62 : z_Ca g d 62 [.ref a0, .int x1] h P = z_T g d 62 0 [.ref a0, .int x1] [] h P := z_Ca_ent zm_62 rfl rfl
theorem zi_62_0 : z_ins 62 0 = some (.aload_n 0, 1) := by decide +kernel
theorem ze_62_0 : z_T g d 62 0 (.ref a :: ls) st h P = z_T g d 62 1 (.ref a :: ls) (.ref a :: st) h P := zt_aloadn zi_62_0 rfl rfl
theorem zi_62_1 : z_ins 62 1 = some (.iconst 0, 1) := by decide +kernel
theorem ze_62_1 : z_T g d 62 1 ls st h P = z_T g d 62 2 ls (.int (nI 0) :: st) h P := zt_iconst zi_62_1 rfl
theorem zi_62_2 : z_ins 62 2 = some (.iconst 0, 1) := by decide +kernel
theorem ze_62_2 : z_T g d 62 2 ls st h P = z_T g d 62 3 ls (.int (nI 0) :: st) h P := zt_iconst zi_62_2 rfl
theorem zi_62_3 : z_ins 62 3 = some (.iconst 0, 1) := by decide +kernel
theorem ze_62_3 : z_T g d 62 3 ls st h P = z_T g d 62 4 ls (.int (nI 0) :: st) h P := zt_iconst zi_62_3 rfl
theorem zi_62_4 : z_ins 62 4 = some (.invokestatic 30, 3) := by decide +kernel
theorem ze_62_4 : z_T g d 62 4 ls (.int x3 :: .int x2 :: .int x1 :: .ref a0 :: st) h P = ((z_okS 8 st = true ∧ 0 < d) ∧ z_Ca g (d - 1) 64 [.ref a0, .int x1, .int x2, .int x3] h (fun r => z_k r (fun v h' => z_T g d 62 7 ls (z_push v st) h' P) P)) := zt_cS (as := [.ref a0, .int x1, .int x2, .int x3]) (kk := 1) zi_62_4 rfl (zt_call zj_62 zh_62) (z_opT ((congrArg (fun o => z_lookup z_cps (o, 30)) zo_62).trans zq_cps_LatinRectangles_Transversals_30) ((congrArg (fun o => z_lookup z_prs (o, 30)) zo_62).trans zq_prs_LatinRectangles_Transversals_30)) ((congrArg (fun o => z_clk o 30) zo_62).trans zk_LatinRectangles_Transversals_30) rfl rfl rfl rfl rfl
theorem zi_62_7 : z_ins 62 7 = some (.ifCond .eq 12, 3) := by decide +kernel
theorem ze_62_7 : z_T g d 62 7 ls (.int x :: st) h P = (if x = nI 0 then z_T g d 62 19 ls st h P else z_T g d 62 10 ls st h P) := zt_ifeq zi_62_7 (by decide)
theorem zi_62_10 : z_ins 62 10 = some (.aload_n 0, 1) := by decide +kernel
theorem ze_62_10 : z_T g d 62 10 (.ref a :: ls) st h P = z_T g d 62 11 (.ref a :: ls) (.ref a :: st) h P := zt_aloadn zi_62_10 rfl rfl
theorem zi_62_11 : z_ins 62 11 = some (.getfield 9, 3) := by decide +kernel
theorem ze_62_11 : z_T g d 62 11 ls (.ref a :: st) h P = z_gR h.1 a 8 1 (fun x => z_T g d 62 14 ls (x :: st) h P) := zt_getR zi_62_11 ((congrArg (fun o => z_fl o 9) zo_62).trans zf_LatinRectangles_Transversals_9)
theorem zi_62_14 : z_ins 62 14 = some (.iload_n 1, 1) := by decide +kernel
theorem ze_62_14 : z_T g d 62 14 (v0 :: .int x :: ls) st h P = z_T g d 62 15 (v0 :: .int x :: ls) (.int x :: st) h P := zt_iloadn zi_62_14 rfl rfl
theorem zi_62_15 : z_ins 62 15 = some (.iaload, 1) := by decide +kernel
theorem ze_62_15 : z_T g d 62 15 ls (.int x :: .ref a :: st) h P = z_aL h.1 a z_tI x (fun v => z_T g d 62 16 ls (.int v :: st) h P) := zt_iaload zi_62_15
theorem zi_62_16 : z_ins 62 16 = some (.goto 4, 3) := by decide +kernel
theorem ze_62_16 : z_T g d 62 16 ls st h P = z_T g d 62 20 ls st h P := zt_goto zi_62_16 (by decide)
theorem zi_62_19 : z_ins 62 19 = some (.iconst (-1), 1) := by decide +kernel
theorem ze_62_19 : z_T g d 62 19 ls st h P = z_T g d 62 20 ls (.int (-1) :: st) h P := zt_iconst zi_62_19 rfl
theorem zi_62_20 : z_ins 62 20 = some (.ireturn, 1) := by decide +kernel
theorem ze_62_20 : z_T g d 62 20 ls [.int x] h P = P (.inr (some (.int x)), h) := zt_ireturn zi_62_20 zr_62
-- LatinRectangles$Transversals.countFrom(LLatinRectangles$Transversals;III)I
theorem zm_63 : z_maxL 63 = 7 := by decide +kernel
theorem zh_63 : z_hds 63 = [] := by decide +kernel
theorem zj_63 : z_jdk 63 = false := by decide +kernel
theorem zr_63 : z_rt 63 = (some .int) := by decide +kernel
theorem zn_63 : z_Ca g d 63 [.ref a0, .int x1, .int x2, .int x3] h P = z_T g d 63 0 [.ref a0, .int x1, .int x2, .int x3, z_un, z_un, z_un] [] h P := z_Ca_ent zm_63 rfl rfl
theorem zi_63_0 : z_ins 63 0 = some (.iload_n 1, 1) := by decide +kernel
theorem ze_63_0 : z_T g d 63 0 (v0 :: .int x :: ls) st h P = z_T g d 63 1 (v0 :: .int x :: ls) (.int x :: st) h P := zt_iloadn zi_63_0 rfl rfl
theorem zi_63_1 : z_ins 63 1 = some (.aload_n 0, 1) := by decide +kernel
theorem ze_63_1 : z_T g d 63 1 (.ref a :: ls) st h P = z_T g d 63 2 (.ref a :: ls) (.ref a :: st) h P := zt_aloadn zi_63_1 rfl rfl
theorem zi_63_2 : z_ins 63 2 = some (.getfield 15, 3) := by decide +kernel
theorem ze_63_2 : z_T g d 63 2 ls (.ref a :: st) h P = z_gR h.1 a 8 0 (fun x => z_T g d 63 5 ls (x :: st) h P) := zt_getR zi_63_2 ((congrArg (fun o => z_fl o 15) zo_63).trans zf_LatinRectangles_Transversals_15)
theorem zi_63_5 : z_ins 63 5 = some (.getfield 37, 3) := by decide +kernel
theorem ze_63_5 : z_T g d 63 5 ls (.ref a :: st) h P = z_gI h.1 a 3 5 (fun x => z_T g d 63 8 ls (.int x :: st) h P) := zt_getI zi_63_5 ((congrArg (fun o => z_fl o 37) zo_63).trans zf_LatinRectangles_Transversals_37)
theorem zi_63_8 : z_ins 63 8 = some (.if_icmp .lt 5, 3) := by decide +kernel
theorem ze_63_8 : z_T g d 63 8 ls (.int y :: .int x :: st) h P = (if x < y then z_T g d 63 13 ls st h P else z_T g d 63 11 ls st h P) := zt_icmplt zi_63_8 (by decide)
theorem zi_63_11 : z_ins 63 11 = some (.iconst 1, 1) := by decide +kernel
theorem ze_63_11 : z_T g d 63 11 ls st h P = z_T g d 63 12 ls (.int (nI 1) :: st) h P := zt_iconst zi_63_11 rfl
theorem zi_63_12 : z_ins 63 12 = some (.ireturn, 1) := by decide +kernel
theorem ze_63_12 : z_T g d 63 12 ls [.int x] h P = P (.inr (some (.int x)), h) := zt_ireturn zi_63_12 zr_63
theorem zi_63_13 : z_ins 63 13 = some (.iconst 0, 1) := by decide +kernel
theorem ze_63_13 : z_T g d 63 13 ls st h P = z_T g d 63 14 ls (.int (nI 0) :: st) h P := zt_iconst zi_63_13 rfl
theorem zi_63_14 : z_ins 63 14 = some (.istore 4, 2) := by decide +kernel
theorem ze_63_14 : z_T g d 63 14 (v0 :: v1 :: v2 :: v3 :: v4 :: ls) (.int x :: st) h P = z_T g d 63 16 (v0 :: v1 :: v2 :: v3 :: .int x :: ls) st h P := zt_istore zi_63_14 (Nat.le_add_left 5 _)
theorem zi_63_16 : z_ins 63 16 = some (.iconst 0, 1) := by decide +kernel
theorem ze_63_16 : z_T g d 63 16 ls st h P = z_T g d 63 17 ls (.int (nI 0) :: st) h P := zt_iconst zi_63_16 rfl
theorem zi_63_17 : z_ins 63 17 = some (.istore 5, 2) := by decide +kernel
theorem ze_63_17 : z_T g d 63 17 (v0 :: v1 :: v2 :: v3 :: v4 :: v5 :: ls) (.int x :: st) h P = z_T g d 63 19 (v0 :: v1 :: v2 :: v3 :: v4 :: .int x :: ls) st h P := zt_istore zi_63_17 (Nat.le_add_left 6 _)
theorem zi_63_19 : z_ins 63 19 = some (.iload 5, 2) := by decide +kernel
theorem ze_63_19 : z_T g d 63 19 (v0 :: v1 :: v2 :: v3 :: v4 :: .int x :: ls) st h P = z_T g d 63 21 (v0 :: v1 :: v2 :: v3 :: v4 :: .int x :: ls) (.int x :: st) h P := zt_iload zi_63_19 rfl
theorem zi_63_21 : z_ins 63 21 = some (.aload_n 0, 1) := by decide +kernel
theorem ze_63_21 : z_T g d 63 21 (.ref a :: ls) st h P = z_T g d 63 22 (.ref a :: ls) (.ref a :: st) h P := zt_aloadn zi_63_21 rfl rfl
theorem zi_63_22 : z_ins 63 22 = some (.getfield 15, 3) := by decide +kernel
theorem ze_63_22 : z_T g d 63 22 ls (.ref a :: st) h P = z_gR h.1 a 8 0 (fun x => z_T g d 63 25 ls (x :: st) h P) := zt_getR zi_63_22 ((congrArg (fun o => z_fl o 15) zo_63).trans zf_LatinRectangles_Transversals_15)
theorem zi_63_25 : z_ins 63 25 = some (.getfield 42, 3) := by decide +kernel
theorem ze_63_25 : z_T g d 63 25 ls (.ref a :: st) h P = z_gI h.1 a 3 6 (fun x => z_T g d 63 28 ls (.int x :: st) h P) := zt_getI zi_63_25 ((congrArg (fun o => z_fl o 42) zo_63).trans zf_LatinRectangles_Transversals_42)
theorem zi_63_28 : z_ins 63 28 = some (.if_icmp .ge 77, 3) := by decide +kernel
theorem ze_63_28 : z_T g d 63 28 ls (.int y :: .int x :: st) h P = (if x < y then z_T g d 63 31 ls st h P else z_T g d 63 105 ls st h P) := zt_icmpge zi_63_28 (by decide)
theorem zi_63_31 : z_ins 63 31 = some (.iload_n 1, 1) := by decide +kernel
theorem ze_63_31 : z_T g d 63 31 (v0 :: .int x :: ls) st h P = z_T g d 63 32 (v0 :: .int x :: ls) (.int x :: st) h P := zt_iloadn zi_63_31 rfl rfl
theorem zi_63_32 : z_ins 63 32 = some (.aload_n 0, 1) := by decide +kernel
theorem ze_63_32 : z_T g d 63 32 (.ref a :: ls) st h P = z_T g d 63 33 (.ref a :: ls) (.ref a :: st) h P := zt_aloadn zi_63_32 rfl rfl
theorem zi_63_33 : z_ins 63 33 = some (.getfield 19, 3) := by decide +kernel
theorem ze_63_33 : z_T g d 63 33 ls (.ref a :: st) h P = z_gI h.1 a 8 2 (fun x => z_T g d 63 36 ls (.int x :: st) h P) := zt_getI zi_63_33 ((congrArg (fun o => z_fl o 19) zo_63).trans zf_LatinRectangles_Transversals_19)
theorem zi_63_36 : z_ins 63 36 = some (.if_icmp .ne 12, 3) := by decide +kernel
theorem ze_63_36 : z_T g d 63 36 ls (.int y :: .int x :: st) h P = (if x = y then z_T g d 63 39 ls st h P else z_T g d 63 48 ls st h P) := zt_icmpne zi_63_36 (by decide)
theorem zi_63_39 : z_ins 63 39 = some (.iload 5, 2) := by decide +kernel
theorem ze_63_39 : z_T g d 63 39 (v0 :: v1 :: v2 :: v3 :: v4 :: .int x :: ls) st h P = z_T g d 63 41 (v0 :: v1 :: v2 :: v3 :: v4 :: .int x :: ls) (.int x :: st) h P := zt_iload zi_63_39 rfl
theorem zi_63_41 : z_ins 63 41 = some (.aload_n 0, 1) := by decide +kernel
theorem ze_63_41 : z_T g d 63 41 (.ref a :: ls) st h P = z_T g d 63 42 (.ref a :: ls) (.ref a :: st) h P := zt_aloadn zi_63_41 rfl rfl
theorem zi_63_42 : z_ins 63 42 = some (.getfield 23, 3) := by decide +kernel
theorem ze_63_42 : z_T g d 63 42 ls (.ref a :: st) h P = z_gI h.1 a 8 3 (fun x => z_T g d 63 45 ls (.int x :: st) h P) := zt_getI zi_63_42 ((congrArg (fun o => z_fl o 23) zo_63).trans zf_LatinRectangles_Transversals_23)
theorem zi_63_45 : z_ins 63 45 = some (.if_icmp .ne 7, 3) := by decide +kernel
theorem ze_63_45 : z_T g d 63 45 ls (.int y :: .int x :: st) h P = (if x = y then z_T g d 63 48 ls st h P else z_T g d 63 52 ls st h P) := zt_icmpne zi_63_45 (by decide)
theorem zi_63_48 : z_ins 63 48 = some (.iconst 1, 1) := by decide +kernel
theorem ze_63_48 : z_T g d 63 48 ls st h P = z_T g d 63 49 ls (.int (nI 1) :: st) h P := zt_iconst zi_63_48 rfl
theorem zi_63_49 : z_ins 63 49 = some (.goto 4, 3) := by decide +kernel
theorem ze_63_49 : z_T g d 63 49 ls st h P = z_T g d 63 53 ls st h P := zt_goto zi_63_49 (by decide)
theorem zi_63_52 : z_ins 63 52 = some (.iconst 0, 1) := by decide +kernel
theorem ze_63_52 : z_T g d 63 52 ls st h P = z_T g d 63 53 ls (.int (nI 0) :: st) h P := zt_iconst zi_63_52 rfl
theorem zi_63_53 : z_ins 63 53 = some (.istore 6, 2) := by decide +kernel
theorem ze_63_53 : z_T g d 63 53 (v0 :: v1 :: v2 :: v3 :: v4 :: v5 :: v6 :: ls) (.int x :: st) h P = z_T g d 63 55 (v0 :: v1 :: v2 :: v3 :: v4 :: v5 :: .int x :: ls) st h P := zt_istore zi_63_53 (Nat.le_add_left 7 _)
theorem zi_63_55 : z_ins 63 55 = some (.iload 6, 2) := by decide +kernel
theorem ze_63_55 : z_T g d 63 55 (v0 :: v1 :: v2 :: v3 :: v4 :: v5 :: .int x :: ls) st h P = z_T g d 63 57 (v0 :: v1 :: v2 :: v3 :: v4 :: v5 :: .int x :: ls) (.int x :: st) h P := zt_iload zi_63_55 rfl
theorem zi_63_57 : z_ins 63 57 = some (.ifCond .eq 42, 3) := by decide +kernel
theorem ze_63_57 : z_T g d 63 57 ls (.int x :: st) h P = (if x = nI 0 then z_T g d 63 99 ls st h P else z_T g d 63 60 ls st h P) := zt_ifeq zi_63_57 (by decide)
theorem zi_63_60 : z_ins 63 60 = some (.aload_n 0, 1) := by decide +kernel
theorem ze_63_60 : z_T g d 63 60 (.ref a :: ls) st h P = z_T g d 63 61 (.ref a :: ls) (.ref a :: st) h P := zt_aloadn zi_63_60 rfl rfl
theorem zi_63_61 : z_ins 63 61 = some (.iload_n 1, 1) := by decide +kernel
theorem ze_63_61 : z_T g d 63 61 (v0 :: .int x :: ls) st h P = z_T g d 63 62 (v0 :: .int x :: ls) (.int x :: st) h P := zt_iloadn zi_63_61 rfl rfl
theorem zi_63_62 : z_ins 63 62 = some (.iload 5, 2) := by decide +kernel
theorem ze_63_62 : z_T g d 63 62 (v0 :: v1 :: v2 :: v3 :: v4 :: .int x :: ls) st h P = z_T g d 63 64 (v0 :: v1 :: v2 :: v3 :: v4 :: .int x :: ls) (.int x :: st) h P := zt_iload zi_63_62 rfl
theorem zi_63_64 : z_ins 63 64 = some (.iload_n 2, 1) := by decide +kernel
theorem ze_63_64 : z_T g d 63 64 (v0 :: v1 :: .int x :: ls) st h P = z_T g d 63 65 (v0 :: v1 :: .int x :: ls) (.int x :: st) h P := zt_iloadn zi_63_64 rfl rfl
theorem zi_63_65 : z_ins 63 65 = some (.iload_n 3, 1) := by decide +kernel
theorem ze_63_65 : z_T g d 63 65 (v0 :: v1 :: v2 :: .int x :: ls) st h P = z_T g d 63 66 (v0 :: v1 :: v2 :: .int x :: ls) (.int x :: st) h P := zt_iloadn zi_63_65 rfl rfl
theorem zi_63_66 : z_ins 63 66 = some (.invokevirtual 45, 3) := by decide +kernel
theorem ze_63_66 : z_T g d 63 66 ls (.int x3 :: .int x2 :: .int x1 :: .int x0 :: .ref a :: st) h P = ((z_okS 8 st = true ∧ z_gO h.1 a 8 ∧ 0 < d) ∧ z_Ca g (d - 1) 65 [.ref a, .int x0, .int x1, .int x2, .int x3] h (fun r => z_k r (fun v h' => z_T g d 63 69 ls (z_push v st) h' P) P)) := zt_cV (as := [.int x0, .int x1, .int x2, .int x3]) (kk := 0) zi_63_66 rfl (zt_call zj_63 zh_63) (z_opV ((congrArg (fun o => z_lookup z_cns (o, 45)) zo_63).trans zq_cns_LatinRectangles_Transversals_45) ((congrArg (fun o => z_lookup z_prs (o, 45)) zo_63).trans zq_prs_LatinRectangles_Transversals_45)) ((congrArg (fun o => z_clk o 45) zo_63).trans zk_LatinRectangles_Transversals_45) rfl rfl rfl rfl (z_rcv0 zc_65)
theorem zi_63_69 : z_ins 63 69 = some (.ifCond .eq 30, 3) := by decide +kernel
theorem ze_63_69 : z_T g d 63 69 ls (.int x :: st) h P = (if x = nI 0 then z_T g d 63 99 ls st h P else z_T g d 63 72 ls st h P) := zt_ifeq zi_63_69 (by decide)
theorem zi_63_72 : z_ins 63 72 = some (.iload 4, 2) := by decide +kernel
theorem ze_63_72 : z_T g d 63 72 (v0 :: v1 :: v2 :: v3 :: .int x :: ls) st h P = z_T g d 63 74 (v0 :: v1 :: v2 :: v3 :: .int x :: ls) (.int x :: st) h P := zt_iload zi_63_72 rfl
theorem zi_63_74 : z_ins 63 74 = some (.aload_n 0, 1) := by decide +kernel
theorem ze_63_74 : z_T g d 63 74 (.ref a :: ls) st h P = z_T g d 63 75 (.ref a :: ls) (.ref a :: st) h P := zt_aloadn zi_63_74 rfl rfl
theorem zi_63_75 : z_ins 63 75 = some (.iload_n 1, 1) := by decide +kernel
theorem ze_63_75 : z_T g d 63 75 (v0 :: .int x :: ls) st h P = z_T g d 63 76 (v0 :: .int x :: ls) (.int x :: st) h P := zt_iloadn zi_63_75 rfl rfl
theorem zi_63_76 : z_ins 63 76 = some (.iconst 1, 1) := by decide +kernel
theorem ze_63_76 : z_T g d 63 76 ls st h P = z_T g d 63 77 ls (.int (nI 1) :: st) h P := zt_iconst zi_63_76 rfl
theorem zi_63_77 : z_ins 63 77 = some (.iadd, 1) := by decide +kernel
theorem ze_63_77 : z_T g d 63 77 ls (.int y :: .int x :: st) h P = z_T g d 63 78 ls (.int (x + y) :: st) h P := zt_bin (f := fun x y => x + y) zi_63_77 rfl (fun _ _ _ => rfl)
theorem zi_63_78 : z_ins 63 78 = some (.iload_n 2, 1) := by decide +kernel
theorem ze_63_78 : z_T g d 63 78 (v0 :: v1 :: .int x :: ls) st h P = z_T g d 63 79 (v0 :: v1 :: .int x :: ls) (.int x :: st) h P := zt_iloadn zi_63_78 rfl rfl
theorem zi_63_79 : z_ins 63 79 = some (.iconst 1, 1) := by decide +kernel
theorem ze_63_79 : z_T g d 63 79 ls st h P = z_T g d 63 80 ls (.int (nI 1) :: st) h P := zt_iconst zi_63_79 rfl
theorem zi_63_80 : z_ins 63 80 = some (.iload 5, 2) := by decide +kernel
theorem ze_63_80 : z_T g d 63 80 (v0 :: v1 :: v2 :: v3 :: v4 :: .int x :: ls) st h P = z_T g d 63 82 (v0 :: v1 :: v2 :: v3 :: v4 :: .int x :: ls) (.int x :: st) h P := zt_iload zi_63_80 rfl
theorem zi_63_82 : z_ins 63 82 = some (.ishl, 1) := by decide +kernel
theorem ze_63_82 : z_T g d 63 82 ls (.int y :: .int x :: st) h P = z_T g d 63 83 ls (.int (x <<< (y &&& 31)) :: st) h P := zt_bin (f := fun x y => x <<< (y &&& 31)) zi_63_82 rfl (fun _ _ _ => rfl)
theorem zi_63_83 : z_ins 63 83 = some (.ior, 1) := by decide +kernel
theorem ze_63_83 : z_T g d 63 83 ls (.int y :: .int x :: st) h P = z_T g d 63 84 ls (.int (x ||| y) :: st) h P := zt_bin (f := fun x y => x ||| y) zi_63_83 rfl (fun _ _ _ => rfl)
theorem zi_63_84 : z_ins 63 84 = some (.iload_n 3, 1) := by decide +kernel
theorem ze_63_84 : z_T g d 63 84 (v0 :: v1 :: v2 :: .int x :: ls) st h P = z_T g d 63 85 (v0 :: v1 :: v2 :: .int x :: ls) (.int x :: st) h P := zt_iloadn zi_63_84 rfl rfl
theorem zi_63_85 : z_ins 63 85 = some (.aload_n 0, 1) := by decide +kernel
theorem ze_63_85 : z_T g d 63 85 (.ref a :: ls) st h P = z_T g d 63 86 (.ref a :: ls) (.ref a :: st) h P := zt_aloadn zi_63_85 rfl rfl
theorem zi_63_86 : z_ins 63 86 = some (.iload_n 1, 1) := by decide +kernel
theorem ze_63_86 : z_T g d 63 86 (v0 :: .int x :: ls) st h P = z_T g d 63 87 (v0 :: .int x :: ls) (.int x :: st) h P := zt_iloadn zi_63_86 rfl rfl
theorem zi_63_87 : z_ins 63 87 = some (.iload 5, 2) := by decide +kernel
theorem ze_63_87 : z_T g d 63 87 (v0 :: v1 :: v2 :: v3 :: v4 :: .int x :: ls) st h P = z_T g d 63 89 (v0 :: v1 :: v2 :: v3 :: v4 :: .int x :: ls) (.int x :: st) h P := zt_iload zi_63_87 rfl
theorem zi_63_89 : z_ins 63 89 = some (.invokevirtual 49, 3) := by decide +kernel
theorem ze_63_89 : z_T g d 63 89 ls (.int x1 :: .int x0 :: .ref a :: st) h P = ((z_okS 8 st = true ∧ z_gO h.1 a 8 ∧ 0 < d) ∧ z_Ca g (d - 1) 66 [.ref a, .int x0, .int x1] h (fun r => z_k r (fun v h' => z_T g d 63 92 ls (z_push v st) h' P) P)) := zt_cV (as := [.int x0, .int x1]) (kk := 0) zi_63_89 rfl (zt_call zj_63 zh_63) (z_opV ((congrArg (fun o => z_lookup z_cns (o, 49)) zo_63).trans zq_cns_LatinRectangles_Transversals_49) ((congrArg (fun o => z_lookup z_prs (o, 49)) zo_63).trans zq_prs_LatinRectangles_Transversals_49)) ((congrArg (fun o => z_clk o 49) zo_63).trans zk_LatinRectangles_Transversals_49) rfl rfl rfl rfl (z_rcv0 zc_66)
theorem zi_63_92 : z_ins 63 92 = some (.ior, 1) := by decide +kernel
theorem ze_63_92 : z_T g d 63 92 ls (.int y :: .int x :: st) h P = z_T g d 63 93 ls (.int (x ||| y) :: st) h P := zt_bin (f := fun x y => x ||| y) zi_63_92 rfl (fun _ _ _ => rfl)
theorem zi_63_93 : z_ins 63 93 = some (.invokestatic 26, 3) := by decide +kernel
theorem ze_63_93 : z_T g d 63 93 ls (.int x3 :: .int x2 :: .int x1 :: .ref a0 :: st) h P = ((z_okS 8 st = true ∧ 0 < d) ∧ z_Ca g (d - 1) 63 [.ref a0, .int x1, .int x2, .int x3] h (fun r => z_k r (fun v h' => z_T g d 63 96 ls (z_push v st) h' P) P)) := zt_cS (as := [.ref a0, .int x1, .int x2, .int x3]) (kk := 1) zi_63_93 rfl (zt_call zj_63 zh_63) (z_opT ((congrArg (fun o => z_lookup z_cps (o, 26)) zo_63).trans zq_cps_LatinRectangles_Transversals_26) ((congrArg (fun o => z_lookup z_prs (o, 26)) zo_63).trans zq_prs_LatinRectangles_Transversals_26)) ((congrArg (fun o => z_clk o 26) zo_63).trans zk_LatinRectangles_Transversals_26) rfl rfl rfl rfl rfl
theorem zi_63_96 : z_ins 63 96 = some (.iadd, 1) := by decide +kernel
theorem ze_63_96 : z_T g d 63 96 ls (.int y :: .int x :: st) h P = z_T g d 63 97 ls (.int (x + y) :: st) h P := zt_bin (f := fun x y => x + y) zi_63_96 rfl (fun _ _ _ => rfl)
theorem zi_63_97 : z_ins 63 97 = some (.istore 4, 2) := by decide +kernel
theorem ze_63_97 : z_T g d 63 97 (v0 :: v1 :: v2 :: v3 :: v4 :: ls) (.int x :: st) h P = z_T g d 63 99 (v0 :: v1 :: v2 :: v3 :: .int x :: ls) st h P := zt_istore zi_63_97 (Nat.le_add_left 5 _)
theorem zi_63_99 : z_ins 63 99 = some (.iinc 5 1, 3) := by decide +kernel
theorem ze_63_99 : z_T g d 63 99 (v0 :: v1 :: v2 :: v3 :: v4 :: .int x :: ls) st h P = z_T g d 63 102 (v0 :: v1 :: v2 :: v3 :: v4 :: .int (x + (nI 1)) :: ls) st h P := zt_iinc zi_63_99 rfl rfl
theorem zi_63_102 : z_ins 63 102 = some (.goto (-83), 3) := by decide +kernel
theorem ze_63_102 : z_T g d 63 102 ls st h P = z_T g d 63 19 ls st h P := zt_goto zi_63_102 (by decide)
theorem zi_63_105 : z_ins 63 105 = some (.iload 4, 2) := by decide +kernel
theorem ze_63_105 : z_T g d 63 105 (v0 :: v1 :: v2 :: v3 :: .int x :: ls) st h P = z_T g d 63 107 (v0 :: v1 :: v2 :: v3 :: .int x :: ls) (.int x :: st) h P := zt_iload zi_63_105 rfl
theorem zi_63_107 : z_ins 63 107 = some (.ireturn, 1) := by decide +kernel
theorem ze_63_107 : z_T g d 63 107 ls [.int x] h P = P (.inr (some (.int x)), h) := zt_ireturn zi_63_107 zr_63
-- LatinRectangles$Transversals.chooseFrom(LLatinRectangles$Transversals;III)Z
theorem zm_64 : z_maxL 64 = 5 := by decide +kernel
theorem zh_64 : z_hds 64 = [] := by decide +kernel
theorem zj_64 : z_jdk 64 = false := by decide +kernel
theorem zr_64 : z_rt 64 = (some .boolean) := by decide +kernel
theorem zn_64 : z_Ca g d 64 [.ref a0, .int x1, .int x2, .int x3] h P = z_T g d 64 0 [.ref a0, .int x1, .int x2, .int x3, z_un] [] h P := z_Ca_ent zm_64 rfl rfl
theorem zi_64_0 : z_ins 64 0 = some (.iload_n 1, 1) := by decide +kernel
theorem ze_64_0 : z_T g d 64 0 (v0 :: .int x :: ls) st h P = z_T g d 64 1 (v0 :: .int x :: ls) (.int x :: st) h P := zt_iloadn zi_64_0 rfl rfl
theorem zi_64_1 : z_ins 64 1 = some (.aload_n 0, 1) := by decide +kernel
theorem ze_64_1 : z_T g d 64 1 (.ref a :: ls) st h P = z_T g d 64 2 (.ref a :: ls) (.ref a :: st) h P := zt_aloadn zi_64_1 rfl rfl
theorem zi_64_2 : z_ins 64 2 = some (.getfield 15, 3) := by decide +kernel
theorem ze_64_2 : z_T g d 64 2 ls (.ref a :: st) h P = z_gR h.1 a 8 0 (fun x => z_T g d 64 5 ls (x :: st) h P) := zt_getR zi_64_2 ((congrArg (fun o => z_fl o 15) zo_64).trans zf_LatinRectangles_Transversals_15)
theorem zi_64_5 : z_ins 64 5 = some (.getfield 37, 3) := by decide +kernel
theorem ze_64_5 : z_T g d 64 5 ls (.ref a :: st) h P = z_gI h.1 a 3 5 (fun x => z_T g d 64 8 ls (.int x :: st) h P) := zt_getI zi_64_5 ((congrArg (fun o => z_fl o 37) zo_64).trans zf_LatinRectangles_Transversals_37)
theorem zi_64_8 : z_ins 64 8 = some (.if_icmp .lt 5, 3) := by decide +kernel
theorem ze_64_8 : z_T g d 64 8 ls (.int y :: .int x :: st) h P = (if x < y then z_T g d 64 13 ls st h P else z_T g d 64 11 ls st h P) := zt_icmplt zi_64_8 (by decide)
theorem zi_64_11 : z_ins 64 11 = some (.iconst 1, 1) := by decide +kernel
theorem ze_64_11 : z_T g d 64 11 ls st h P = z_T g d 64 12 ls (.int (nI 1) :: st) h P := zt_iconst zi_64_11 rfl
theorem zi_64_12 : z_ins 64 12 = some (.ireturn, 1) := by decide +kernel
theorem ze_64_12 : z_T g d 64 12 ls [.int x] h P = ((x = nI 0 ∨ x = nI 1) ∧ P (.inr (some (.int x)), h)) := zt_zreturn zi_64_12 zr_64
theorem zi_64_13 : z_ins 64 13 = some (.iconst 0, 1) := by decide +kernel
theorem ze_64_13 : z_T g d 64 13 ls st h P = z_T g d 64 14 ls (.int (nI 0) :: st) h P := zt_iconst zi_64_13 rfl
theorem zi_64_14 : z_ins 64 14 = some (.istore 4, 2) := by decide +kernel
theorem ze_64_14 : z_T g d 64 14 (v0 :: v1 :: v2 :: v3 :: v4 :: ls) (.int x :: st) h P = z_T g d 64 16 (v0 :: v1 :: v2 :: v3 :: .int x :: ls) st h P := zt_istore zi_64_14 (Nat.le_add_left 5 _)
theorem zi_64_16 : z_ins 64 16 = some (.iload 4, 2) := by decide +kernel
theorem ze_64_16 : z_T g d 64 16 (v0 :: v1 :: v2 :: v3 :: .int x :: ls) st h P = z_T g d 64 18 (v0 :: v1 :: v2 :: v3 :: .int x :: ls) (.int x :: st) h P := zt_iload zi_64_16 rfl
theorem zi_64_18 : z_ins 64 18 = some (.aload_n 0, 1) := by decide +kernel
theorem ze_64_18 : z_T g d 64 18 (.ref a :: ls) st h P = z_T g d 64 19 (.ref a :: ls) (.ref a :: st) h P := zt_aloadn zi_64_18 rfl rfl
theorem zi_64_19 : z_ins 64 19 = some (.getfield 15, 3) := by decide +kernel
theorem ze_64_19 : z_T g d 64 19 ls (.ref a :: st) h P = z_gR h.1 a 8 0 (fun x => z_T g d 64 22 ls (x :: st) h P) := zt_getR zi_64_19 ((congrArg (fun o => z_fl o 15) zo_64).trans zf_LatinRectangles_Transversals_15)
theorem zi_64_22 : z_ins 64 22 = some (.getfield 42, 3) := by decide +kernel
theorem ze_64_22 : z_T g d 64 22 ls (.ref a :: st) h P = z_gI h.1 a 3 6 (fun x => z_T g d 64 25 ls (.int x :: st) h P) := zt_getI zi_64_22 ((congrArg (fun o => z_fl o 42) zo_64).trans zf_LatinRectangles_Transversals_42)
theorem zi_64_25 : z_ins 64 25 = some (.if_icmp .ge 56, 3) := by decide +kernel
theorem ze_64_25 : z_T g d 64 25 ls (.int y :: .int x :: st) h P = (if x < y then z_T g d 64 28 ls st h P else z_T g d 64 81 ls st h P) := zt_icmpge zi_64_25 (by decide)
theorem zi_64_28 : z_ins 64 28 = some (.aload_n 0, 1) := by decide +kernel
theorem ze_64_28 : z_T g d 64 28 (.ref a :: ls) st h P = z_T g d 64 29 (.ref a :: ls) (.ref a :: st) h P := zt_aloadn zi_64_28 rfl rfl
theorem zi_64_29 : z_ins 64 29 = some (.iload_n 1, 1) := by decide +kernel
theorem ze_64_29 : z_T g d 64 29 (v0 :: .int x :: ls) st h P = z_T g d 64 30 (v0 :: .int x :: ls) (.int x :: st) h P := zt_iloadn zi_64_29 rfl rfl
theorem zi_64_30 : z_ins 64 30 = some (.iload 4, 2) := by decide +kernel
theorem ze_64_30 : z_T g d 64 30 (v0 :: v1 :: v2 :: v3 :: .int x :: ls) st h P = z_T g d 64 32 (v0 :: v1 :: v2 :: v3 :: .int x :: ls) (.int x :: st) h P := zt_iload zi_64_30 rfl
theorem zi_64_32 : z_ins 64 32 = some (.iload_n 2, 1) := by decide +kernel
theorem ze_64_32 : z_T g d 64 32 (v0 :: v1 :: .int x :: ls) st h P = z_T g d 64 33 (v0 :: v1 :: .int x :: ls) (.int x :: st) h P := zt_iloadn zi_64_32 rfl rfl
theorem zi_64_33 : z_ins 64 33 = some (.iload_n 3, 1) := by decide +kernel
theorem ze_64_33 : z_T g d 64 33 (v0 :: v1 :: v2 :: .int x :: ls) st h P = z_T g d 64 34 (v0 :: v1 :: v2 :: .int x :: ls) (.int x :: st) h P := zt_iloadn zi_64_33 rfl rfl
theorem zi_64_34 : z_ins 64 34 = some (.invokevirtual 45, 3) := by decide +kernel
theorem ze_64_34 : z_T g d 64 34 ls (.int x3 :: .int x2 :: .int x1 :: .int x0 :: .ref a :: st) h P = ((z_okS 8 st = true ∧ z_gO h.1 a 8 ∧ 0 < d) ∧ z_Ca g (d - 1) 65 [.ref a, .int x0, .int x1, .int x2, .int x3] h (fun r => z_k r (fun v h' => z_T g d 64 37 ls (z_push v st) h' P) P)) := zt_cV (as := [.int x0, .int x1, .int x2, .int x3]) (kk := 0) zi_64_34 rfl (zt_call zj_64 zh_64) (z_opV ((congrArg (fun o => z_lookup z_cns (o, 45)) zo_64).trans zq_cns_LatinRectangles_Transversals_45) ((congrArg (fun o => z_lookup z_prs (o, 45)) zo_64).trans zq_prs_LatinRectangles_Transversals_45)) ((congrArg (fun o => z_clk o 45) zo_64).trans zk_LatinRectangles_Transversals_45) rfl rfl rfl rfl (z_rcv0 zc_65)
theorem zi_64_37 : z_ins 64 37 = some (.ifCond .eq 38, 3) := by decide +kernel
theorem ze_64_37 : z_T g d 64 37 ls (.int x :: st) h P = (if x = nI 0 then z_T g d 64 75 ls st h P else z_T g d 64 40 ls st h P) := zt_ifeq zi_64_37 (by decide)
theorem zi_64_40 : z_ins 64 40 = some (.aload_n 0, 1) := by decide +kernel
theorem ze_64_40 : z_T g d 64 40 (.ref a :: ls) st h P = z_T g d 64 41 (.ref a :: ls) (.ref a :: st) h P := zt_aloadn zi_64_40 rfl rfl
theorem zi_64_41 : z_ins 64 41 = some (.getfield 9, 3) := by decide +kernel
theorem ze_64_41 : z_T g d 64 41 ls (.ref a :: st) h P = z_gR h.1 a 8 1 (fun x => z_T g d 64 44 ls (x :: st) h P) := zt_getR zi_64_41 ((congrArg (fun o => z_fl o 9) zo_64).trans zf_LatinRectangles_Transversals_9)
theorem zi_64_44 : z_ins 64 44 = some (.iload_n 1, 1) := by decide +kernel
theorem ze_64_44 : z_T g d 64 44 (v0 :: .int x :: ls) st h P = z_T g d 64 45 (v0 :: .int x :: ls) (.int x :: st) h P := zt_iloadn zi_64_44 rfl rfl
theorem zi_64_45 : z_ins 64 45 = some (.iload 4, 2) := by decide +kernel
theorem ze_64_45 : z_T g d 64 45 (v0 :: v1 :: v2 :: v3 :: .int x :: ls) st h P = z_T g d 64 47 (v0 :: v1 :: v2 :: v3 :: .int x :: ls) (.int x :: st) h P := zt_iload zi_64_45 rfl
theorem zi_64_47 : z_ins 64 47 = some (.iastore, 1) := by decide +kernel
theorem ze_64_47 : z_T g d 64 47 ls (.int y :: .int x :: .ref a :: st) h P = z_aS h.1 a z_tI x y (fun f => z_T g d 64 48 ls st (f, h.2) P) := zt_iastore zi_64_47
theorem zi_64_48 : z_ins 64 48 = some (.aload_n 0, 1) := by decide +kernel
theorem ze_64_48 : z_T g d 64 48 (.ref a :: ls) st h P = z_T g d 64 49 (.ref a :: ls) (.ref a :: st) h P := zt_aloadn zi_64_48 rfl rfl
theorem zi_64_49 : z_ins 64 49 = some (.iload_n 1, 1) := by decide +kernel
theorem ze_64_49 : z_T g d 64 49 (v0 :: .int x :: ls) st h P = z_T g d 64 50 (v0 :: .int x :: ls) (.int x :: st) h P := zt_iloadn zi_64_49 rfl rfl
theorem zi_64_50 : z_ins 64 50 = some (.iconst 1, 1) := by decide +kernel
theorem ze_64_50 : z_T g d 64 50 ls st h P = z_T g d 64 51 ls (.int (nI 1) :: st) h P := zt_iconst zi_64_50 rfl
theorem zi_64_51 : z_ins 64 51 = some (.iadd, 1) := by decide +kernel
theorem ze_64_51 : z_T g d 64 51 ls (.int y :: .int x :: st) h P = z_T g d 64 52 ls (.int (x + y) :: st) h P := zt_bin (f := fun x y => x + y) zi_64_51 rfl (fun _ _ _ => rfl)
theorem zi_64_52 : z_ins 64 52 = some (.iload_n 2, 1) := by decide +kernel
theorem ze_64_52 : z_T g d 64 52 (v0 :: v1 :: .int x :: ls) st h P = z_T g d 64 53 (v0 :: v1 :: .int x :: ls) (.int x :: st) h P := zt_iloadn zi_64_52 rfl rfl
theorem zi_64_53 : z_ins 64 53 = some (.iconst 1, 1) := by decide +kernel
theorem ze_64_53 : z_T g d 64 53 ls st h P = z_T g d 64 54 ls (.int (nI 1) :: st) h P := zt_iconst zi_64_53 rfl
theorem zi_64_54 : z_ins 64 54 = some (.iload 4, 2) := by decide +kernel
theorem ze_64_54 : z_T g d 64 54 (v0 :: v1 :: v2 :: v3 :: .int x :: ls) st h P = z_T g d 64 56 (v0 :: v1 :: v2 :: v3 :: .int x :: ls) (.int x :: st) h P := zt_iload zi_64_54 rfl
theorem zi_64_56 : z_ins 64 56 = some (.ishl, 1) := by decide +kernel
theorem ze_64_56 : z_T g d 64 56 ls (.int y :: .int x :: st) h P = z_T g d 64 57 ls (.int (x <<< (y &&& 31)) :: st) h P := zt_bin (f := fun x y => x <<< (y &&& 31)) zi_64_56 rfl (fun _ _ _ => rfl)
theorem zi_64_57 : z_ins 64 57 = some (.ior, 1) := by decide +kernel
theorem ze_64_57 : z_T g d 64 57 ls (.int y :: .int x :: st) h P = z_T g d 64 58 ls (.int (x ||| y) :: st) h P := zt_bin (f := fun x y => x ||| y) zi_64_57 rfl (fun _ _ _ => rfl)
theorem zi_64_58 : z_ins 64 58 = some (.iload_n 3, 1) := by decide +kernel
theorem ze_64_58 : z_T g d 64 58 (v0 :: v1 :: v2 :: .int x :: ls) st h P = z_T g d 64 59 (v0 :: v1 :: v2 :: .int x :: ls) (.int x :: st) h P := zt_iloadn zi_64_58 rfl rfl
theorem zi_64_59 : z_ins 64 59 = some (.aload_n 0, 1) := by decide +kernel
theorem ze_64_59 : z_T g d 64 59 (.ref a :: ls) st h P = z_T g d 64 60 (.ref a :: ls) (.ref a :: st) h P := zt_aloadn zi_64_59 rfl rfl
theorem zi_64_60 : z_ins 64 60 = some (.iload_n 1, 1) := by decide +kernel
theorem ze_64_60 : z_T g d 64 60 (v0 :: .int x :: ls) st h P = z_T g d 64 61 (v0 :: .int x :: ls) (.int x :: st) h P := zt_iloadn zi_64_60 rfl rfl
theorem zi_64_61 : z_ins 64 61 = some (.iload 4, 2) := by decide +kernel
theorem ze_64_61 : z_T g d 64 61 (v0 :: v1 :: v2 :: v3 :: .int x :: ls) st h P = z_T g d 64 63 (v0 :: v1 :: v2 :: v3 :: .int x :: ls) (.int x :: st) h P := zt_iload zi_64_61 rfl
theorem zi_64_63 : z_ins 64 63 = some (.invokevirtual 49, 3) := by decide +kernel
theorem ze_64_63 : z_T g d 64 63 ls (.int x1 :: .int x0 :: .ref a :: st) h P = ((z_okS 8 st = true ∧ z_gO h.1 a 8 ∧ 0 < d) ∧ z_Ca g (d - 1) 66 [.ref a, .int x0, .int x1] h (fun r => z_k r (fun v h' => z_T g d 64 66 ls (z_push v st) h' P) P)) := zt_cV (as := [.int x0, .int x1]) (kk := 0) zi_64_63 rfl (zt_call zj_64 zh_64) (z_opV ((congrArg (fun o => z_lookup z_cns (o, 49)) zo_64).trans zq_cns_LatinRectangles_Transversals_49) ((congrArg (fun o => z_lookup z_prs (o, 49)) zo_64).trans zq_prs_LatinRectangles_Transversals_49)) ((congrArg (fun o => z_clk o 49) zo_64).trans zk_LatinRectangles_Transversals_49) rfl rfl rfl rfl (z_rcv0 zc_66)
theorem zi_64_66 : z_ins 64 66 = some (.ior, 1) := by decide +kernel
theorem ze_64_66 : z_T g d 64 66 ls (.int y :: .int x :: st) h P = z_T g d 64 67 ls (.int (x ||| y) :: st) h P := zt_bin (f := fun x y => x ||| y) zi_64_66 rfl (fun _ _ _ => rfl)
theorem zi_64_67 : z_ins 64 67 = some (.invokestatic 30, 3) := by decide +kernel
theorem ze_64_67 : z_T g d 64 67 ls (.int x3 :: .int x2 :: .int x1 :: .ref a0 :: st) h P = ((z_okS 8 st = true ∧ 0 < d) ∧ z_Ca g (d - 1) 64 [.ref a0, .int x1, .int x2, .int x3] h (fun r => z_k r (fun v h' => z_T g d 64 70 ls (z_push v st) h' P) P)) := zt_cS (as := [.ref a0, .int x1, .int x2, .int x3]) (kk := 1) zi_64_67 rfl (zt_call zj_64 zh_64) (z_opT ((congrArg (fun o => z_lookup z_cps (o, 30)) zo_64).trans zq_cps_LatinRectangles_Transversals_30) ((congrArg (fun o => z_lookup z_prs (o, 30)) zo_64).trans zq_prs_LatinRectangles_Transversals_30)) ((congrArg (fun o => z_clk o 30) zo_64).trans zk_LatinRectangles_Transversals_30) rfl rfl rfl rfl rfl
theorem zi_64_70 : z_ins 64 70 = some (.ifCond .eq 5, 3) := by decide +kernel
theorem ze_64_70 : z_T g d 64 70 ls (.int x :: st) h P = (if x = nI 0 then z_T g d 64 75 ls st h P else z_T g d 64 73 ls st h P) := zt_ifeq zi_64_70 (by decide)
theorem zi_64_73 : z_ins 64 73 = some (.iconst 1, 1) := by decide +kernel
theorem ze_64_73 : z_T g d 64 73 ls st h P = z_T g d 64 74 ls (.int (nI 1) :: st) h P := zt_iconst zi_64_73 rfl
theorem zi_64_74 : z_ins 64 74 = some (.ireturn, 1) := by decide +kernel
theorem ze_64_74 : z_T g d 64 74 ls [.int x] h P = ((x = nI 0 ∨ x = nI 1) ∧ P (.inr (some (.int x)), h)) := zt_zreturn zi_64_74 zr_64
theorem zi_64_75 : z_ins 64 75 = some (.iinc 4 1, 3) := by decide +kernel
theorem ze_64_75 : z_T g d 64 75 (v0 :: v1 :: v2 :: v3 :: .int x :: ls) st h P = z_T g d 64 78 (v0 :: v1 :: v2 :: v3 :: .int (x + (nI 1)) :: ls) st h P := zt_iinc zi_64_75 rfl rfl
theorem zi_64_78 : z_ins 64 78 = some (.goto (-62), 3) := by decide +kernel
theorem ze_64_78 : z_T g d 64 78 ls st h P = z_T g d 64 16 ls st h P := zt_goto zi_64_78 (by decide)
theorem zi_64_81 : z_ins 64 81 = some (.iconst 0, 1) := by decide +kernel
theorem ze_64_81 : z_T g d 64 81 ls st h P = z_T g d 64 82 ls (.int (nI 0) :: st) h P := zt_iconst zi_64_81 rfl
theorem zi_64_82 : z_ins 64 82 = some (.ireturn, 1) := by decide +kernel
theorem ze_64_82 : z_T g d 64 82 ls [.int x] h P = ((x = nI 0 ∨ x = nI 1) ∧ P (.inr (some (.int x)), h)) := zt_zreturn zi_64_82 zr_64
-- LatinRectangles$Transversals.isFree(IIII)Z
theorem zm_65 : z_maxL 65 = 6 := by decide +kernel
theorem zh_65 : z_hds 65 = [] := by decide +kernel
theorem zj_65 : z_jdk 65 = false := by decide +kernel
theorem zr_65 : z_rt 65 = (some .boolean) := by decide +kernel
theorem zn_65 : z_Ca g d 65 [.ref a0, .int x1, .int x2, .int x3, .int x4] h P = z_T g d 65 0 [.ref a0, .int x1, .int x2, .int x3, .int x4, z_un] [] h P := z_Ca_ent zm_65 rfl rfl
theorem zi_65_0 : z_ins 65 0 = some (.aload_n 0, 1) := by decide +kernel
theorem ze_65_0 : z_T g d 65 0 (.ref a :: ls) st h P = z_T g d 65 1 (.ref a :: ls) (.ref a :: st) h P := zt_aloadn zi_65_0 rfl rfl
theorem zi_65_1 : z_ins 65 1 = some (.iload_n 1, 1) := by decide +kernel
theorem ze_65_1 : z_T g d 65 1 (v0 :: .int x :: ls) st h P = z_T g d 65 2 (v0 :: .int x :: ls) (.int x :: st) h P := zt_iloadn zi_65_1 rfl rfl
theorem zi_65_2 : z_ins 65 2 = some (.iload_n 2, 1) := by decide +kernel
theorem ze_65_2 : z_T g d 65 2 (v0 :: v1 :: .int x :: ls) st h P = z_T g d 65 3 (v0 :: v1 :: .int x :: ls) (.int x :: st) h P := zt_iloadn zi_65_2 rfl rfl
theorem zi_65_3 : z_ins 65 3 = some (.invokevirtual 49, 3) := by decide +kernel
theorem ze_65_3 : z_T g d 65 3 ls (.int x1 :: .int x0 :: .ref a :: st) h P = ((z_okS 8 st = true ∧ z_gO h.1 a 8 ∧ 0 < d) ∧ z_Ca g (d - 1) 66 [.ref a, .int x0, .int x1] h (fun r => z_k r (fun v h' => z_T g d 65 6 ls (z_push v st) h' P) P)) := zt_cV (as := [.int x0, .int x1]) (kk := 0) zi_65_3 rfl (zt_call zj_65 zh_65) (z_opV ((congrArg (fun o => z_lookup z_cns (o, 49)) zo_65).trans zq_cns_LatinRectangles_Transversals_49) ((congrArg (fun o => z_lookup z_prs (o, 49)) zo_65).trans zq_prs_LatinRectangles_Transversals_49)) ((congrArg (fun o => z_clk o 49) zo_65).trans zk_LatinRectangles_Transversals_49) rfl rfl rfl rfl (z_rcv0 zc_66)
theorem zi_65_6 : z_ins 65 6 = some (.istore 5, 2) := by decide +kernel
theorem ze_65_6 : z_T g d 65 6 (v0 :: v1 :: v2 :: v3 :: v4 :: v5 :: ls) (.int x :: st) h P = z_T g d 65 8 (v0 :: v1 :: v2 :: v3 :: v4 :: .int x :: ls) st h P := zt_istore zi_65_6 (Nat.le_add_left 6 _)
theorem zi_65_8 : z_ins 65 8 = some (.iload 5, 2) := by decide +kernel
theorem ze_65_8 : z_T g d 65 8 (v0 :: v1 :: v2 :: v3 :: v4 :: .int x :: ls) st h P = z_T g d 65 10 (v0 :: v1 :: v2 :: v3 :: v4 :: .int x :: ls) (.int x :: st) h P := zt_iload zi_65_8 rfl
theorem zi_65_10 : z_ins 65 10 = some (.ifCond .eq 23, 3) := by decide +kernel
theorem ze_65_10 : z_T g d 65 10 ls (.int x :: st) h P = (if x = nI 0 then z_T g d 65 33 ls st h P else z_T g d 65 13 ls st h P) := zt_ifeq zi_65_10 (by decide)
theorem zi_65_13 : z_ins 65 13 = some (.iload_n 3, 1) := by decide +kernel
theorem ze_65_13 : z_T g d 65 13 (v0 :: v1 :: v2 :: .int x :: ls) st h P = z_T g d 65 14 (v0 :: v1 :: v2 :: .int x :: ls) (.int x :: st) h P := zt_iloadn zi_65_13 rfl rfl
theorem zi_65_14 : z_ins 65 14 = some (.iload_n 2, 1) := by decide +kernel
theorem ze_65_14 : z_T g d 65 14 (v0 :: v1 :: .int x :: ls) st h P = z_T g d 65 15 (v0 :: v1 :: .int x :: ls) (.int x :: st) h P := zt_iloadn zi_65_14 rfl rfl
theorem zi_65_15 : z_ins 65 15 = some (.ishr, 1) := by decide +kernel
theorem ze_65_15 : z_T g d 65 15 ls (.int y :: .int x :: st) h P = z_T g d 65 16 ls (.int (x >>> (y &&& 31)) :: st) h P := zt_bin (f := fun x y => x >>> (y &&& 31)) zi_65_15 rfl (fun _ _ _ => rfl)
theorem zi_65_16 : z_ins 65 16 = some (.iconst 1, 1) := by decide +kernel
theorem ze_65_16 : z_T g d 65 16 ls st h P = z_T g d 65 17 ls (.int (nI 1) :: st) h P := zt_iconst zi_65_16 rfl
theorem zi_65_17 : z_ins 65 17 = some (.iand, 1) := by decide +kernel
theorem ze_65_17 : z_T g d 65 17 ls (.int y :: .int x :: st) h P = z_T g d 65 18 ls (.int (x &&& y) :: st) h P := zt_bin (f := fun x y => x &&& y) zi_65_17 rfl (fun _ _ _ => rfl)
theorem zi_65_18 : z_ins 65 18 = some (.ifCond .ne 15, 3) := by decide +kernel
theorem ze_65_18 : z_T g d 65 18 ls (.int x :: st) h P = (if x = nI 0 then z_T g d 65 21 ls st h P else z_T g d 65 33 ls st h P) := zt_ifne zi_65_18 (by decide)
theorem zi_65_21 : z_ins 65 21 = some (.iload 4, 2) := by decide +kernel
theorem ze_65_21 : z_T g d 65 21 (v0 :: v1 :: v2 :: v3 :: .int x :: ls) st h P = z_T g d 65 23 (v0 :: v1 :: v2 :: v3 :: .int x :: ls) (.int x :: st) h P := zt_iload zi_65_21 rfl
theorem zi_65_23 : z_ins 65 23 = some (.iload 5, 2) := by decide +kernel
theorem ze_65_23 : z_T g d 65 23 (v0 :: v1 :: v2 :: v3 :: v4 :: .int x :: ls) st h P = z_T g d 65 25 (v0 :: v1 :: v2 :: v3 :: v4 :: .int x :: ls) (.int x :: st) h P := zt_iload zi_65_23 rfl
theorem zi_65_25 : z_ins 65 25 = some (.iand, 1) := by decide +kernel
theorem ze_65_25 : z_T g d 65 25 ls (.int y :: .int x :: st) h P = z_T g d 65 26 ls (.int (x &&& y) :: st) h P := zt_bin (f := fun x y => x &&& y) zi_65_25 rfl (fun _ _ _ => rfl)
theorem zi_65_26 : z_ins 65 26 = some (.ifCond .ne 7, 3) := by decide +kernel
theorem ze_65_26 : z_T g d 65 26 ls (.int x :: st) h P = (if x = nI 0 then z_T g d 65 29 ls st h P else z_T g d 65 33 ls st h P) := zt_ifne zi_65_26 (by decide)
theorem zi_65_29 : z_ins 65 29 = some (.iconst 1, 1) := by decide +kernel
theorem ze_65_29 : z_T g d 65 29 ls st h P = z_T g d 65 30 ls (.int (nI 1) :: st) h P := zt_iconst zi_65_29 rfl
theorem zi_65_30 : z_ins 65 30 = some (.goto 4, 3) := by decide +kernel
theorem ze_65_30 : z_T g d 65 30 ls st h P = z_T g d 65 34 ls st h P := zt_goto zi_65_30 (by decide)
theorem zi_65_33 : z_ins 65 33 = some (.iconst 0, 1) := by decide +kernel
theorem ze_65_33 : z_T g d 65 33 ls st h P = z_T g d 65 34 ls (.int (nI 0) :: st) h P := zt_iconst zi_65_33 rfl
theorem zi_65_34 : z_ins 65 34 = some (.ireturn, 1) := by decide +kernel
theorem ze_65_34 : z_T g d 65 34 ls [.int x] h P = ((x = nI 0 ∨ x = nI 1) ∧ P (.inr (some (.int x)), h)) := zt_zreturn zi_65_34 zr_65
-- LatinRectangles$Transversals.symbolBit(II)I
theorem zm_66 : z_maxL 66 = 4 := by decide +kernel
theorem zh_66 : z_hds 66 = [] := by decide +kernel
theorem zj_66 : z_jdk 66 = false := by decide +kernel
theorem zr_66 : z_rt 66 = (some .int) := by decide +kernel
theorem zn_66 : z_Ca g d 66 [.ref a0, .int x1, .int x2] h P = z_T g d 66 0 [.ref a0, .int x1, .int x2, z_un] [] h P := z_Ca_ent zm_66 rfl rfl
theorem zi_66_0 : z_ins 66 0 = some (.aload_n 0, 1) := by decide +kernel
theorem ze_66_0 : z_T g d 66 0 (.ref a :: ls) st h P = z_T g d 66 1 (.ref a :: ls) (.ref a :: st) h P := zt_aloadn zi_66_0 rfl rfl
theorem zi_66_1 : z_ins 66 1 = some (.getfield 15, 3) := by decide +kernel
theorem ze_66_1 : z_T g d 66 1 ls (.ref a :: st) h P = z_gR h.1 a 8 0 (fun x => z_T g d 66 4 ls (x :: st) h P) := zt_getR zi_66_1 ((congrArg (fun o => z_fl o 15) zo_66).trans zf_LatinRectangles_Transversals_15)
theorem zi_66_4 : z_ins 66 4 = some (.getfield 58, 3) := by decide +kernel
theorem ze_66_4 : z_T g d 66 4 ls (.ref a :: st) h P = z_gR h.1 a 3 0 (fun x => z_T g d 66 7 ls (x :: st) h P) := zt_getR zi_66_4 ((congrArg (fun o => z_fl o 58) zo_66).trans zf_LatinRectangles_Transversals_58)
theorem zi_66_7 : z_ins 66 7 = some (.iload_n 1, 1) := by decide +kernel
theorem ze_66_7 : z_T g d 66 7 (v0 :: .int x :: ls) st h P = z_T g d 66 8 (v0 :: .int x :: ls) (.int x :: st) h P := zt_iloadn zi_66_7 rfl rfl
theorem zi_66_8 : z_ins 66 8 = some (.iconst 5, 1) := by decide +kernel
theorem ze_66_8 : z_T g d 66 8 ls st h P = z_T g d 66 9 ls (.int (nI 5) :: st) h P := zt_iconst zi_66_8 rfl
theorem zi_66_9 : z_ins 66 9 = some (.imul, 1) := by decide +kernel
theorem ze_66_9 : z_T g d 66 9 ls (.int y :: .int x :: st) h P = z_T g d 66 10 ls (.int (x * y) :: st) h P := zt_bin (f := fun x y => x * y) zi_66_9 rfl (fun _ _ _ => rfl)
theorem zi_66_10 : z_ins 66 10 = some (.iload_n 2, 1) := by decide +kernel
theorem ze_66_10 : z_T g d 66 10 (v0 :: v1 :: .int x :: ls) st h P = z_T g d 66 11 (v0 :: v1 :: .int x :: ls) (.int x :: st) h P := zt_iloadn zi_66_10 rfl rfl
theorem zi_66_11 : z_ins 66 11 = some (.iadd, 1) := by decide +kernel
theorem ze_66_11 : z_T g d 66 11 ls (.int y :: .int x :: st) h P = z_T g d 66 12 ls (.int (x + y) :: st) h P := zt_bin (f := fun x y => x + y) zi_66_11 rfl (fun _ _ _ => rfl)
theorem zi_66_12 : z_ins 66 12 = some (.iaload, 1) := by decide +kernel
theorem ze_66_12 : z_T g d 66 12 ls (.int x :: .ref a :: st) h P = z_aL h.1 a z_tI x (fun v => z_T g d 66 13 ls (.int v :: st) h P) := zt_iaload zi_66_12
theorem zi_66_13 : z_ins 66 13 = some (.istore_n 3, 1) := by decide +kernel
theorem ze_66_13 : z_T g d 66 13 (v0 :: v1 :: v2 :: v3 :: ls) (.int x :: st) h P = z_T g d 66 14 (v0 :: v1 :: v2 :: .int x :: ls) st h P := zt_istoren zi_66_13 rfl (Nat.le_add_left 4 _)
theorem zi_66_14 : z_ins 66 14 = some (.iload_n 3, 1) := by decide +kernel
theorem ze_66_14 : z_T g d 66 14 (v0 :: v1 :: v2 :: .int x :: ls) st h P = z_T g d 66 15 (v0 :: v1 :: v2 :: .int x :: ls) (.int x :: st) h P := zt_iloadn zi_66_14 rfl rfl
theorem zi_66_15 : z_ins 66 15 = some (.iconst (-1), 1) := by decide +kernel
theorem ze_66_15 : z_T g d 66 15 ls st h P = z_T g d 66 16 ls (.int (-1) :: st) h P := zt_iconst zi_66_15 rfl
theorem zi_66_16 : z_ins 66 16 = some (.if_icmp .ne 7, 3) := by decide +kernel
theorem ze_66_16 : z_T g d 66 16 ls (.int y :: .int x :: st) h P = (if x = y then z_T g d 66 19 ls st h P else z_T g d 66 23 ls st h P) := zt_icmpne zi_66_16 (by decide)
theorem zi_66_19 : z_ins 66 19 = some (.iconst 0, 1) := by decide +kernel
theorem ze_66_19 : z_T g d 66 19 ls st h P = z_T g d 66 20 ls (.int (nI 0) :: st) h P := zt_iconst zi_66_19 rfl
theorem zi_66_20 : z_ins 66 20 = some (.goto 6, 3) := by decide +kernel
theorem ze_66_20 : z_T g d 66 20 ls st h P = z_T g d 66 26 ls st h P := zt_goto zi_66_20 (by decide)
theorem zi_66_23 : z_ins 66 23 = some (.iconst 1, 1) := by decide +kernel
theorem ze_66_23 : z_T g d 66 23 ls st h P = z_T g d 66 24 ls (.int (nI 1) :: st) h P := zt_iconst zi_66_23 rfl
theorem zi_66_24 : z_ins 66 24 = some (.iload_n 3, 1) := by decide +kernel
theorem ze_66_24 : z_T g d 66 24 (v0 :: v1 :: v2 :: .int x :: ls) st h P = z_T g d 66 25 (v0 :: v1 :: v2 :: .int x :: ls) (.int x :: st) h P := zt_iloadn zi_66_24 rfl rfl
theorem zi_66_25 : z_ins 66 25 = some (.ishl, 1) := by decide +kernel
theorem ze_66_25 : z_T g d 66 25 ls (.int y :: .int x :: st) h P = z_T g d 66 26 ls (.int (x <<< (y &&& 31)) :: st) h P := zt_bin (f := fun x y => x <<< (y &&& 31)) zi_66_25 rfl (fun _ _ _ => rfl)
theorem zi_66_26 : z_ins 66 26 = some (.ireturn, 1) := by decide +kernel
theorem ze_66_26 : z_T g d 66 26 ls [.int x] h P = P (.inr (some (.int x)), h) := zt_ireturn zi_66_26 zr_66
end
