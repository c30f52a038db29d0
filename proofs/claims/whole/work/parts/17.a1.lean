section
variable {g : z_G} {d : Nat} {h : z_H} {P : z_Res → Prop} {ls st : List Value} {v0 v1 v2 v3 v4 v5 v6 v7 v8 v9 v10 v11 : Value} {x y x0 x1 x2 x3 x4 x5 x6 : Int32} {u w : Int64} {a b a0 a1 a2 a3 a4 a5 k0 k1 : Nat}
-- LatinRectangles$Forces.<init>(LLatinRectangles$Grid;)V
theorem zo_19 : z_own 19 = "LatinRectangles$Forces" := by decide +kernel
theorem zm_19 : z_maxL 19 = 2 := by decide +kernel
theorem zh_19 : z_hds 19 = [] := by decide +kernel
theorem zr_19 : z_rt 19 = none := by decide +kernel
theorem zn_19 : z_Ca g d 19 [.ref a0, .ref a1] h P = z_T g d 19 0 [.ref a0, .ref a1] [] h P := z_Ca_ent zm_19 rfl rfl
theorem zi_19_0 : z_ins 19 0 = some (.aload_n 0, 1) := by decide +kernel
theorem ze_19_0 : z_T g d 19 0 (.ref a :: ls) st h P = z_T g d 19 1 (.ref a :: ls) (.ref a :: st) h P := zt_aloadn zi_19_0 rfl rfl
theorem zi_19_1 : z_ins 19 1 = some (.invokespecial 3, 3) := by decide +kernel
theorem ze_19_1 : z_T g d 19 1 ls (.ref a :: st) h P = (z_okS 8 st = true ∧ z_T g d 19 4 ls st h P) := zt_objInit zi_19_1 ((congrArg (fun o => z_lookup z_ois (o, 3)) zo_19).trans zq_LatinRectangles_Forces_3)
theorem zi_19_4 : z_ins 19 4 = some (.aload_n 0, 1) := by decide +kernel
theorem ze_19_4 : z_T g d 19 4 (.ref a :: ls) st h P = z_T g d 19 5 (.ref a :: ls) (.ref a :: st) h P := zt_aloadn zi_19_4 rfl rfl
theorem zi_19_5 : z_ins 19 5 = some (.aload_n 1, 1) := by decide +kernel
theorem ze_19_5 : z_T g d 19 5 (v0 :: .ref a :: ls) st h P = z_T g d 19 6 (v0 :: .ref a :: ls) (.ref a :: st) h P := zt_aloadn zi_19_5 rfl rfl
theorem zi_19_6 : z_ins 19 6 = some (.putfield 9, 3) := by decide +kernel
theorem ze_19_6 : z_T g d 19 6 ls (.ref b :: .ref a :: st) h P = z_pF h.1 a 2 0 (.ref b) (fun f => z_T g d 19 9 ls st (f, h.2) P) := zt_putR zi_19_6 ((congrArg (fun o => z_fl o 9) zo_19).trans zf_LatinRectangles_Forces_9) (by decide +kernel)
theorem zi_19_9 : z_ins 19 9 = some (.return_, 1) := by decide +kernel
theorem ze_19_9 : z_T g d 19 9 ls [] h P = P (.inr none, h) := zt_return zi_19_9 zr_19
-- LatinRectangles$Forces.count()I
theorem zo_20 : z_own 20 = "LatinRectangles$Forces" := by decide +kernel
theorem zm_20 : z_maxL 20 = 4 := by decide +kernel
theorem zh_20 : z_hds 20 = [] := by decide +kernel
theorem zr_20 : z_rt 20 = (some .int) := by decide +kernel
theorem zn_20 : z_Ca g d 20 [.ref a0] h P = z_T g d 20 0 [.ref a0, z_un, z_un, z_un] [] h P := z_Ca_ent zm_20 rfl rfl
theorem zi_20_0 : z_ins 20 0 = some (.iconst 0, 1) := by decide +kernel
theorem ze_20_0 : z_T g d 20 0 ls st h P = z_T g d 20 1 ls (.int (nI 0) :: st) h P := zt_iconst zi_20_0 rfl
theorem zi_20_1 : z_ins 20 1 = some (.istore_n 1, 1) := by decide +kernel
theorem ze_20_1 : z_T g d 20 1 (v0 :: v1 :: ls) (.int x :: st) h P = z_T g d 20 2 (v0 :: .int x :: ls) st h P := zt_istoren zi_20_1 rfl (Nat.le_add_left 2 _)
theorem zi_20_2 : z_ins 20 2 = some (.iconst 0, 1) := by decide +kernel
theorem ze_20_2 : z_T g d 20 2 ls st h P = z_T g d 20 3 ls (.int (nI 0) :: st) h P := zt_iconst zi_20_2 rfl
theorem zi_20_3 : z_ins 20 3 = some (.istore_n 2, 1) := by decide +kernel
theorem ze_20_3 : z_T g d 20 3 (v0 :: v1 :: v2 :: ls) (.int x :: st) h P = z_T g d 20 4 (v0 :: v1 :: .int x :: ls) st h P := zt_istoren zi_20_3 rfl (Nat.le_add_left 3 _)
theorem zi_20_4 : z_ins 20 4 = some (.iload_n 2, 1) := by decide +kernel
theorem ze_20_4 : z_T g d 20 4 (v0 :: v1 :: .int x :: ls) st h P = z_T g d 20 5 (v0 :: v1 :: .int x :: ls) (.int x :: st) h P := zt_iloadn zi_20_4 rfl rfl
theorem zi_20_5 : z_ins 20 5 = some (.aload_n 0, 1) := by decide +kernel
theorem ze_20_5 : z_T g d 20 5 (.ref a :: ls) st h P = z_T g d 20 6 (.ref a :: ls) (.ref a :: st) h P := zt_aloadn zi_20_5 rfl rfl
theorem zi_20_6 : z_ins 20 6 = some (.getfield 9, 3) := by decide +kernel
theorem ze_20_6 : z_T g d 20 6 ls (.ref a :: st) h P = z_gR h.1 a 2 0 (fun x => z_T g d 20 9 ls (.ref x :: st) h P) := zt_getR zi_20_6 ((congrArg (fun o => z_fl o 9) zo_20).trans zf_LatinRectangles_Forces_9)
theorem zi_20_9 : z_ins 20 9 = some (.getfield 15, 3) := by decide +kernel
theorem ze_20_9 : z_T g d 20 9 ls (.ref a :: st) h P = z_gI h.1 a 3 5 (fun x => z_T g d 20 12 ls (.int x :: st) h P) := zt_getI zi_20_9 ((congrArg (fun o => z_fl o 15) zo_20).trans zf_LatinRectangles_Forces_15)
theorem zi_20_12 : z_ins 20 12 = some (.if_icmp .ge 40, 3) := by decide +kernel
theorem ze_20_12 : z_T g d 20 12 ls (.int y :: .int x :: st) h P = (if x < y then z_T g d 20 15 ls st h P else z_T g d 20 52 ls st h P) := zt_icmpge zi_20_12 (by decide)
theorem zi_20_15 : z_ins 20 15 = some (.iconst 0, 1) := by decide +kernel
theorem ze_20_15 : z_T g d 20 15 ls st h P = z_T g d 20 16 ls (.int (nI 0) :: st) h P := zt_iconst zi_20_15 rfl
theorem zi_20_16 : z_ins 20 16 = some (.istore_n 3, 1) := by decide +kernel
theorem ze_20_16 : z_T g d 20 16 (v0 :: v1 :: v2 :: v3 :: ls) (.int x :: st) h P = z_T g d 20 17 (v0 :: v1 :: v2 :: .int x :: ls) st h P := zt_istoren zi_20_16 rfl (Nat.le_add_left 4 _)
theorem zi_20_17 : z_ins 20 17 = some (.iload_n 3, 1) := by decide +kernel
theorem ze_20_17 : z_T g d 20 17 (v0 :: v1 :: v2 :: .int x :: ls) st h P = z_T g d 20 18 (v0 :: v1 :: v2 :: .int x :: ls) (.int x :: st) h P := zt_iloadn zi_20_17 rfl rfl
theorem zi_20_18 : z_ins 20 18 = some (.aload_n 0, 1) := by decide +kernel
theorem ze_20_18 : z_T g d 20 18 (.ref a :: ls) st h P = z_T g d 20 19 (.ref a :: ls) (.ref a :: st) h P := zt_aloadn zi_20_18 rfl rfl
theorem zi_20_19 : z_ins 20 19 = some (.getfield 9, 3) := by decide +kernel
theorem ze_20_19 : z_T g d 20 19 ls (.ref a :: st) h P = z_gR h.1 a 2 0 (fun x => z_T g d 20 22 ls (.ref x :: st) h P) := zt_getR zi_20_19 ((congrArg (fun o => z_fl o 9) zo_20).trans zf_LatinRectangles_Forces_9)
theorem zi_20_22 : z_ins 20 22 = some (.getfield 21, 3) := by decide +kernel
theorem ze_20_22 : z_T g d 20 22 ls (.ref a :: st) h P = z_gI h.1 a 3 6 (fun x => z_T g d 20 25 ls (.int x :: st) h P) := zt_getI zi_20_22 ((congrArg (fun o => z_fl o 21) zo_20).trans zf_LatinRectangles_Forces_21)
theorem zi_20_25 : z_ins 20 25 = some (.if_icmp .ge 21, 3) := by decide +kernel
theorem ze_20_25 : z_T g d 20 25 ls (.int y :: .int x :: st) h P = (if x < y then z_T g d 20 28 ls st h P else z_T g d 20 46 ls st h P) := zt_icmpge zi_20_25 (by decide)
theorem zi_20_28 : z_ins 20 28 = some (.aload_n 0, 1) := by decide +kernel
theorem ze_20_28 : z_T g d 20 28 (.ref a :: ls) st h P = z_T g d 20 29 (.ref a :: ls) (.ref a :: st) h P := zt_aloadn zi_20_28 rfl rfl
theorem zi_20_29 : z_ins 20 29 = some (.iload_n 2, 1) := by decide +kernel
theorem ze_20_29 : z_T g d 20 29 (v0 :: v1 :: .int x :: ls) st h P = z_T g d 20 30 (v0 :: v1 :: .int x :: ls) (.int x :: st) h P := zt_iloadn zi_20_29 rfl rfl
theorem zi_20_30 : z_ins 20 30 = some (.iload_n 3, 1) := by decide +kernel
theorem ze_20_30 : z_T g d 20 30 (v0 :: v1 :: v2 :: .int x :: ls) st h P = z_T g d 20 31 (v0 :: v1 :: v2 :: .int x :: ls) (.int x :: st) h P := zt_iloadn zi_20_30 rfl rfl
theorem zi_20_31 : z_ins 20 31 = some (.invokevirtual 24, 3) := by decide +kernel
theorem ze_20_31 : z_T g d 20 31 ls (.int x1 :: .int x0 :: .ref a :: st) h P = ((z_okS 8 st = true ∧ z_gO h.1 a 2 ∧ 0 < d) ∧ z_Ca g (d - 1) 22 [.ref a, .int x0, .int x1] h (fun r => z_k r (fun v h' => z_T g d 20 34 ls (z_push v st) h' P) P)) := zt_callV (as := [.int x0, .int x1]) zi_20_31 ((congrArg (fun o => z_lookup z_prs (o, 24)) zo_20).trans zp_LatinRectangles_Forces_24) ((congrArg (fun o => z_clk o 24) zo_20).trans zk_LatinRectangles_Forces_24) zh_20 zc_22 rfl rfl rfl
theorem zi_20_34 : z_ins 20 34 = some (.ifCond .eq 6, 3) := by decide +kernel
theorem ze_20_34 : z_T g d 20 34 ls (.int x :: st) h P = (if x = nI 0 then z_T g d 20 40 ls st h P else z_T g d 20 37 ls st h P) := zt_ifeq zi_20_34 (by decide)
theorem zi_20_37 : z_ins 20 37 = some (.iinc 1 1, 3) := by decide +kernel
theorem ze_20_37 : z_T g d 20 37 (v0 :: .int x :: ls) st h P = z_T g d 20 40 (v0 :: .int (x + (nI 1)) :: ls) st h P := zt_iinc zi_20_37 rfl rfl
theorem zi_20_40 : z_ins 20 40 = some (.iinc 3 1, 3) := by decide +kernel
theorem ze_20_40 : z_T g d 20 40 (v0 :: v1 :: v2 :: .int x :: ls) st h P = z_T g d 20 43 (v0 :: v1 :: v2 :: .int (x + (nI 1)) :: ls) st h P := zt_iinc zi_20_40 rfl rfl
theorem zi_20_43 : z_ins 20 43 = some (.goto (-26), 3) := by decide +kernel
theorem ze_20_43 : z_T g d 20 43 ls st h P = z_T g d 20 17 ls st h P := zt_goto zi_20_43 (by decide)
theorem zi_20_46 : z_ins 20 46 = some (.iinc 2 1, 3) := by decide +kernel
theorem ze_20_46 : z_T g d 20 46 (v0 :: v1 :: .int x :: ls) st h P = z_T g d 20 49 (v0 :: v1 :: .int (x + (nI 1)) :: ls) st h P := zt_iinc zi_20_46 rfl rfl
theorem zi_20_49 : z_ins 20 49 = some (.goto (-45), 3) := by decide +kernel
theorem ze_20_49 : z_T g d 20 49 ls st h P = z_T g d 20 4 ls st h P := zt_goto zi_20_49 (by decide)
theorem zi_20_52 : z_ins 20 52 = some (.iload_n 1, 1) := by decide +kernel
theorem ze_20_52 : z_T g d 20 52 (v0 :: .int x :: ls) st h P = z_T g d 20 53 (v0 :: .int x :: ls) (.int x :: st) h P := zt_iloadn zi_20_52 rfl rfl
theorem zi_20_53 : z_ins 20 53 = some (.ireturn, 1) := by decide +kernel
theorem ze_20_53 : z_T g d 20 53 ls [.int x] h P = P (.inr (some (.int x)), h) := zt_ireturn zi_20_53 zr_20
-- LatinRectangles$Forces.cellByPlace(I)I
theorem zo_21 : z_own 21 = "LatinRectangles$Forces" := by decide +kernel
theorem zm_21 : z_maxL 21 = 5 := by decide +kernel
theorem zh_21 : z_hds 21 = [] := by decide +kernel
theorem zr_21 : z_rt 21 = (some .int) := by decide +kernel
theorem zn_21 : z_Ca g d 21 [.ref a0, .int x1] h P = z_T g d 21 0 [.ref a0, .int x1, z_un, z_un, z_un] [] h P := z_Ca_ent zm_21 rfl rfl
theorem zi_21_0 : z_ins 21 0 = some (.iload_n 1, 1) := by decide +kernel
theorem ze_21_0 : z_T g d 21 0 (v0 :: .int x :: ls) st h P = z_T g d 21 1 (v0 :: .int x :: ls) (.int x :: st) h P := zt_iloadn zi_21_0 rfl rfl
theorem zi_21_1 : z_ins 21 1 = some (.istore_n 2, 1) := by decide +kernel
theorem ze_21_1 : z_T g d 21 1 (v0 :: v1 :: v2 :: ls) (.int x :: st) h P = z_T g d 21 2 (v0 :: v1 :: .int x :: ls) st h P := zt_istoren zi_21_1 rfl (Nat.le_add_left 3 _)
theorem zi_21_2 : z_ins 21 2 = some (.iconst 0, 1) := by decide +kernel
theorem ze_21_2 : z_T g d 21 2 ls st h P = z_T g d 21 3 ls (.int (nI 0) :: st) h P := zt_iconst zi_21_2 rfl
theorem zi_21_3 : z_ins 21 3 = some (.istore_n 3, 1) := by decide +kernel
theorem ze_21_3 : z_T g d 21 3 (v0 :: v1 :: v2 :: v3 :: ls) (.int x :: st) h P = z_T g d 21 4 (v0 :: v1 :: v2 :: .int x :: ls) st h P := zt_istoren zi_21_3 rfl (Nat.le_add_left 4 _)
theorem zi_21_4 : z_ins 21 4 = some (.iload_n 3, 1) := by decide +kernel
theorem ze_21_4 : z_T g d 21 4 (v0 :: v1 :: v2 :: .int x :: ls) st h P = z_T g d 21 5 (v0 :: v1 :: v2 :: .int x :: ls) (.int x :: st) h P := zt_iloadn zi_21_4 rfl rfl
theorem zi_21_5 : z_ins 21 5 = some (.aload_n 0, 1) := by decide +kernel
theorem ze_21_5 : z_T g d 21 5 (.ref a :: ls) st h P = z_T g d 21 6 (.ref a :: ls) (.ref a :: st) h P := zt_aloadn zi_21_5 rfl rfl
theorem zi_21_6 : z_ins 21 6 = some (.getfield 9, 3) := by decide +kernel
theorem ze_21_6 : z_T g d 21 6 ls (.ref a :: st) h P = z_gR h.1 a 2 0 (fun x => z_T g d 21 9 ls (.ref x :: st) h P) := zt_getR zi_21_6 ((congrArg (fun o => z_fl o 9) zo_21).trans zf_LatinRectangles_Forces_9)
theorem zi_21_9 : z_ins 21 9 = some (.getfield 15, 3) := by decide +kernel
theorem ze_21_9 : z_T g d 21 9 ls (.ref a :: st) h P = z_gI h.1 a 3 5 (fun x => z_T g d 21 12 ls (.int x :: st) h P) := zt_getI zi_21_9 ((congrArg (fun o => z_fl o 15) zo_21).trans zf_LatinRectangles_Forces_15)
theorem zi_21_12 : z_ins 21 12 = some (.if_icmp .ge 54, 3) := by decide +kernel
theorem ze_21_12 : z_T g d 21 12 ls (.int y :: .int x :: st) h P = (if x < y then z_T g d 21 15 ls st h P else z_T g d 21 66 ls st h P) := zt_icmpge zi_21_12 (by decide)
theorem zi_21_15 : z_ins 21 15 = some (.iconst 0, 1) := by decide +kernel
theorem ze_21_15 : z_T g d 21 15 ls st h P = z_T g d 21 16 ls (.int (nI 0) :: st) h P := zt_iconst zi_21_15 rfl
theorem zi_21_16 : z_ins 21 16 = some (.istore 4, 2) := by decide +kernel
theorem ze_21_16 : z_T g d 21 16 (v0 :: v1 :: v2 :: v3 :: v4 :: ls) (.int x :: st) h P = z_T g d 21 18 (v0 :: v1 :: v2 :: v3 :: .int x :: ls) st h P := zt_istore zi_21_16 (Nat.le_add_left 5 _)
theorem zi_21_18 : z_ins 21 18 = some (.iload 4, 2) := by decide +kernel
theorem ze_21_18 : z_T g d 21 18 (v0 :: v1 :: v2 :: v3 :: .int x :: ls) st h P = z_T g d 21 20 (v0 :: v1 :: v2 :: v3 :: .int x :: ls) (.int x :: st) h P := zt_iload zi_21_18 rfl
theorem zi_21_20 : z_ins 21 20 = some (.aload_n 0, 1) := by decide +kernel
theorem ze_21_20 : z_T g d 21 20 (.ref a :: ls) st h P = z_T g d 21 21 (.ref a :: ls) (.ref a :: st) h P := zt_aloadn zi_21_20 rfl rfl
theorem zi_21_21 : z_ins 21 21 = some (.getfield 9, 3) := by decide +kernel
theorem ze_21_21 : z_T g d 21 21 ls (.ref a :: st) h P = z_gR h.1 a 2 0 (fun x => z_T g d 21 24 ls (.ref x :: st) h P) := zt_getR zi_21_21 ((congrArg (fun o => z_fl o 9) zo_21).trans zf_LatinRectangles_Forces_9)
theorem zi_21_24 : z_ins 21 24 = some (.getfield 21, 3) := by decide +kernel
theorem ze_21_24 : z_T g d 21 24 ls (.ref a :: st) h P = z_gI h.1 a 3 6 (fun x => z_T g d 21 27 ls (.int x :: st) h P) := zt_getI zi_21_24 ((congrArg (fun o => z_fl o 21) zo_21).trans zf_LatinRectangles_Forces_21)
theorem zi_21_27 : z_ins 21 27 = some (.if_icmp .ge 33, 3) := by decide +kernel
theorem ze_21_27 : z_T g d 21 27 ls (.int y :: .int x :: st) h P = (if x < y then z_T g d 21 30 ls st h P else z_T g d 21 60 ls st h P) := zt_icmpge zi_21_27 (by decide)
theorem zi_21_30 : z_ins 21 30 = some (.aload_n 0, 1) := by decide +kernel
theorem ze_21_30 : z_T g d 21 30 (.ref a :: ls) st h P = z_T g d 21 31 (.ref a :: ls) (.ref a :: st) h P := zt_aloadn zi_21_30 rfl rfl
theorem zi_21_31 : z_ins 21 31 = some (.iload_n 3, 1) := by decide +kernel
theorem ze_21_31 : z_T g d 21 31 (v0 :: v1 :: v2 :: .int x :: ls) st h P = z_T g d 21 32 (v0 :: v1 :: v2 :: .int x :: ls) (.int x :: st) h P := zt_iloadn zi_21_31 rfl rfl
theorem zi_21_32 : z_ins 21 32 = some (.iload 4, 2) := by decide +kernel
theorem ze_21_32 : z_T g d 21 32 (v0 :: v1 :: v2 :: v3 :: .int x :: ls) st h P = z_T g d 21 34 (v0 :: v1 :: v2 :: v3 :: .int x :: ls) (.int x :: st) h P := zt_iload zi_21_32 rfl
theorem zi_21_34 : z_ins 21 34 = some (.invokevirtual 24, 3) := by decide +kernel
theorem ze_21_34 : z_T g d 21 34 ls (.int x1 :: .int x0 :: .ref a :: st) h P = ((z_okS 8 st = true ∧ z_gO h.1 a 2 ∧ 0 < d) ∧ z_Ca g (d - 1) 22 [.ref a, .int x0, .int x1] h (fun r => z_k r (fun v h' => z_T g d 21 37 ls (z_push v st) h' P) P)) := zt_callV (as := [.int x0, .int x1]) zi_21_34 ((congrArg (fun o => z_lookup z_prs (o, 24)) zo_21).trans zp_LatinRectangles_Forces_24) ((congrArg (fun o => z_clk o 24) zo_21).trans zk_LatinRectangles_Forces_24) zh_21 zc_22 rfl rfl rfl
theorem zi_21_37 : z_ins 21 37 = some (.ifCond .eq 17, 3) := by decide +kernel
theorem ze_21_37 : z_T g d 21 37 ls (.int x :: st) h P = (if x = nI 0 then z_T g d 21 54 ls st h P else z_T g d 21 40 ls st h P) := zt_ifeq zi_21_37 (by decide)
theorem zi_21_40 : z_ins 21 40 = some (.iload_n 2, 1) := by decide +kernel
theorem ze_21_40 : z_T g d 21 40 (v0 :: v1 :: .int x :: ls) st h P = z_T g d 21 41 (v0 :: v1 :: .int x :: ls) (.int x :: st) h P := zt_iloadn zi_21_40 rfl rfl
theorem zi_21_41 : z_ins 21 41 = some (.ifCond .ne 10, 3) := by decide +kernel
theorem ze_21_41 : z_T g d 21 41 ls (.int x :: st) h P = (if x = nI 0 then z_T g d 21 44 ls st h P else z_T g d 21 51 ls st h P) := zt_ifne zi_21_41 (by decide)
theorem zi_21_44 : z_ins 21 44 = some (.iload_n 3, 1) := by decide +kernel
theorem ze_21_44 : z_T g d 21 44 (v0 :: v1 :: v2 :: .int x :: ls) st h P = z_T g d 21 45 (v0 :: v1 :: v2 :: .int x :: ls) (.int x :: st) h P := zt_iloadn zi_21_44 rfl rfl
theorem zi_21_45 : z_ins 21 45 = some (.iconst 5, 1) := by decide +kernel
theorem ze_21_45 : z_T g d 21 45 ls st h P = z_T g d 21 46 ls (.int (nI 5) :: st) h P := zt_iconst zi_21_45 rfl
theorem zi_21_46 : z_ins 21 46 = some (.imul, 1) := by decide +kernel
theorem ze_21_46 : z_T g d 21 46 ls (.int y :: .int x :: st) h P = z_T g d 21 47 ls (.int (x * y) :: st) h P := zt_bin (f := fun x y => x * y) zi_21_46 rfl (fun _ _ _ => rfl)
theorem zi_21_47 : z_ins 21 47 = some (.iload 4, 2) := by decide +kernel
theorem ze_21_47 : z_T g d 21 47 (v0 :: v1 :: v2 :: v3 :: .int x :: ls) st h P = z_T g d 21 49 (v0 :: v1 :: v2 :: v3 :: .int x :: ls) (.int x :: st) h P := zt_iload zi_21_47 rfl
theorem zi_21_49 : z_ins 21 49 = some (.iadd, 1) := by decide +kernel
theorem ze_21_49 : z_T g d 21 49 ls (.int y :: .int x :: st) h P = z_T g d 21 50 ls (.int (x + y) :: st) h P := zt_bin (f := fun x y => x + y) zi_21_49 rfl (fun _ _ _ => rfl)
theorem zi_21_50 : z_ins 21 50 = some (.ireturn, 1) := by decide +kernel
theorem ze_21_50 : z_T g d 21 50 ls [.int x] h P = P (.inr (some (.int x)), h) := zt_ireturn zi_21_50 zr_21
theorem zi_21_51 : z_ins 21 51 = some (.iinc 2 (-1), 3) := by decide +kernel
theorem ze_21_51 : z_T g d 21 51 (v0 :: v1 :: .int x :: ls) st h P = z_T g d 21 54 (v0 :: v1 :: .int (x + (-1)) :: ls) st h P := zt_iinc zi_21_51 rfl rfl
theorem zi_21_54 : z_ins 21 54 = some (.iinc 4 1, 3) := by decide +kernel
theorem ze_21_54 : z_T g d 21 54 (v0 :: v1 :: v2 :: v3 :: .int x :: ls) st h P = z_T g d 21 57 (v0 :: v1 :: v2 :: v3 :: .int (x + (nI 1)) :: ls) st h P := zt_iinc zi_21_54 rfl rfl
theorem zi_21_57 : z_ins 21 57 = some (.goto (-39), 3) := by decide +kernel
theorem ze_21_57 : z_T g d 21 57 ls st h P = z_T g d 21 18 ls st h P := zt_goto zi_21_57 (by decide)
theorem zi_21_60 : z_ins 21 60 = some (.iinc 3 1, 3) := by decide +kernel
theorem ze_21_60 : z_T g d 21 60 (v0 :: v1 :: v2 :: .int x :: ls) st h P = z_T g d 21 63 (v0 :: v1 :: v2 :: .int (x + (nI 1)) :: ls) st h P := zt_iinc zi_21_60 rfl rfl
theorem zi_21_63 : z_ins 21 63 = some (.goto (-59), 3) := by decide +kernel
theorem ze_21_63 : z_T g d 21 63 ls st h P = z_T g d 21 4 ls st h P := zt_goto zi_21_63 (by decide)
theorem zi_21_66 : z_ins 21 66 = some (.iconst (-1), 1) := by decide +kernel
theorem ze_21_66 : z_T g d 21 66 ls st h P = z_T g d 21 67 ls (.int (-1) :: st) h P := zt_iconst zi_21_66 rfl
theorem zi_21_67 : z_ins 21 67 = some (.ireturn, 1) := by decide +kernel
theorem ze_21_67 : z_T g d 21 67 ls [.int x] h P = P (.inr (some (.int x)), h) := zt_ireturn zi_21_67 zr_21
-- LatinRectangles$Forces.reasonFor(II)I
theorem zo_22 : z_own 22 = "LatinRectangles$Forces" := by decide +kernel
theorem zm_22 : z_maxL 22 = 4 := by decide +kernel
theorem zh_22 : z_hds 22 = [] := by decide +kernel
theorem zr_22 : z_rt 22 = (some .int) := by decide +kernel
theorem zn_22 : z_Ca g d 22 [.ref a0, .int x1, .int x2] h P = z_T g d 22 0 [.ref a0, .int x1, .int x2, z_un] [] h P := z_Ca_ent zm_22 rfl rfl
theorem zi_22_0 : z_ins 22 0 = some (.iconst 1, 1) := by decide +kernel
theorem ze_22_0 : z_T g d 22 0 ls st h P = z_T g d 22 1 ls (.int (nI 1) :: st) h P := zt_iconst zi_22_0 rfl
theorem zi_22_1 : z_ins 22 1 = some (.istore_n 3, 1) := by decide +kernel
theorem ze_22_1 : z_T g d 22 1 (v0 :: v1 :: v2 :: v3 :: ls) (.int x :: st) h P = z_T g d 22 2 (v0 :: v1 :: v2 :: .int x :: ls) st h P := zt_istoren zi_22_1 rfl (Nat.le_add_left 4 _)
theorem zi_22_2 : z_ins 22 2 = some (.iload_n 3, 1) := by decide +kernel
theorem ze_22_2 : z_T g d 22 2 (v0 :: v1 :: v2 :: .int x :: ls) st h P = z_T g d 22 3 (v0 :: v1 :: v2 :: .int x :: ls) (.int x :: st) h P := zt_iloadn zi_22_2 rfl rfl
theorem zi_22_3 : z_ins 22 3 = some (.iconst 3, 1) := by decide +kernel
theorem ze_22_3 : z_T g d 22 3 ls st h P = z_T g d 22 4 ls (.int (nI 3) :: st) h P := zt_iconst zi_22_3 rfl
theorem zi_22_4 : z_ins 22 4 = some (.if_icmp .gt 21, 3) := by decide +kernel
theorem ze_22_4 : z_T g d 22 4 ls (.int y :: .int x :: st) h P = (if y < x then z_T g d 22 25 ls st h P else z_T g d 22 7 ls st h P) := zt_icmpgt zi_22_4 (by decide)
theorem zi_22_7 : z_ins 22 7 = some (.aload_n 0, 1) := by decide +kernel
theorem ze_22_7 : z_T g d 22 7 (.ref a :: ls) st h P = z_T g d 22 8 (.ref a :: ls) (.ref a :: st) h P := zt_aloadn zi_22_7 rfl rfl
theorem zi_22_8 : z_ins 22 8 = some (.iload_n 1, 1) := by decide +kernel
theorem ze_22_8 : z_T g d 22 8 (v0 :: .int x :: ls) st h P = z_T g d 22 9 (v0 :: .int x :: ls) (.int x :: st) h P := zt_iloadn zi_22_8 rfl rfl
theorem zi_22_9 : z_ins 22 9 = some (.iload_n 2, 1) := by decide +kernel
theorem ze_22_9 : z_T g d 22 9 (v0 :: v1 :: .int x :: ls) st h P = z_T g d 22 10 (v0 :: v1 :: .int x :: ls) (.int x :: st) h P := zt_iloadn zi_22_9 rfl rfl
theorem zi_22_10 : z_ins 22 10 = some (.iload_n 3, 1) := by decide +kernel
theorem ze_22_10 : z_T g d 22 10 (v0 :: v1 :: v2 :: .int x :: ls) st h P = z_T g d 22 11 (v0 :: v1 :: v2 :: .int x :: ls) (.int x :: st) h P := zt_iloadn zi_22_10 rfl rfl
theorem zi_22_11 : z_ins 22 11 = some (.invokevirtual 28, 3) := by decide +kernel
theorem ze_22_11 : z_T g d 22 11 ls (.int x2 :: .int x1 :: .int x0 :: .ref a :: st) h P = ((z_okS 8 st = true ∧ z_gO h.1 a 2 ∧ 0 < d) ∧ z_Ca g (d - 1) 24 [.ref a, .int x0, .int x1, .int x2] h (fun r => z_k r (fun v h' => z_T g d 22 14 ls (z_push v st) h' P) P)) := zt_callV (as := [.int x0, .int x1, .int x2]) zi_22_11 ((congrArg (fun o => z_lookup z_prs (o, 28)) zo_22).trans zp_LatinRectangles_Forces_28) ((congrArg (fun o => z_clk o 28) zo_22).trans zk_LatinRectangles_Forces_28) zh_22 zc_24 rfl rfl rfl
theorem zi_22_14 : z_ins 22 14 = some (.ifCond .eq 5, 3) := by decide +kernel
theorem ze_22_14 : z_T g d 22 14 ls (.int x :: st) h P = (if x = nI 0 then z_T g d 22 19 ls st h P else z_T g d 22 17 ls st h P) := zt_ifeq zi_22_14 (by decide)
theorem zi_22_17 : z_ins 22 17 = some (.iload_n 3, 1) := by decide +kernel
theorem ze_22_17 : z_T g d 22 17 (v0 :: v1 :: v2 :: .int x :: ls) st h P = z_T g d 22 18 (v0 :: v1 :: v2 :: .int x :: ls) (.int x :: st) h P := zt_iloadn zi_22_17 rfl rfl
theorem zi_22_18 : z_ins 22 18 = some (.ireturn, 1) := by decide +kernel
theorem ze_22_18 : z_T g d 22 18 ls [.int x] h P = P (.inr (some (.int x)), h) := zt_ireturn zi_22_18 zr_22
theorem zi_22_19 : z_ins 22 19 = some (.iinc 3 1, 3) := by decide +kernel
theorem ze_22_19 : z_T g d 22 19 (v0 :: v1 :: v2 :: .int x :: ls) st h P = z_T g d 22 22 (v0 :: v1 :: v2 :: .int (x + (nI 1)) :: ls) st h P := zt_iinc zi_22_19 rfl rfl
theorem zi_22_22 : z_ins 22 22 = some (.goto (-20), 3) := by decide +kernel
theorem ze_22_22 : z_T g d 22 22 ls st h P = z_T g d 22 2 ls st h P := zt_goto zi_22_22 (by decide)
theorem zi_22_25 : z_ins 22 25 = some (.iconst 0, 1) := by decide +kernel
theorem ze_22_25 : z_T g d 22 25 ls st h P = z_T g d 22 26 ls (.int (nI 0) :: st) h P := zt_iconst zi_22_25 rfl
theorem zi_22_26 : z_ins 22 26 = some (.ireturn, 1) := by decide +kernel
theorem ze_22_26 : z_T g d 22 26 ls [.int x] h P = P (.inr (some (.int x)), h) := zt_ireturn zi_22_26 zr_22
-- LatinRectangles$Forces.symbolFor(II)I
theorem zo_23 : z_own 23 = "LatinRectangles$Forces" := by decide +kernel
theorem zm_23 : z_maxL 23 = 5 := by decide +kernel
theorem zh_23 : z_hds 23 = [] := by decide +kernel
theorem zr_23 : z_rt 23 = (some .int) := by decide +kernel
theorem zn_23 : z_Ca g d 23 [.ref a0, .int x1, .int x2] h P = z_T g d 23 0 [.ref a0, .int x1, .int x2, z_un, z_un] [] h P := z_Ca_ent zm_23 rfl rfl
theorem zi_23_0 : z_ins 23 0 = some (.aload_n 0, 1) := by decide +kernel
theorem ze_23_0 : z_T g d 23 0 (.ref a :: ls) st h P = z_T g d 23 1 (.ref a :: ls) (.ref a :: st) h P := zt_aloadn zi_23_0 rfl rfl
theorem zi_23_1 : z_ins 23 1 = some (.iload_n 1, 1) := by decide +kernel
theorem ze_23_1 : z_T g d 23 1 (v0 :: .int x :: ls) st h P = z_T g d 23 2 (v0 :: .int x :: ls) (.int x :: st) h P := zt_iloadn zi_23_1 rfl rfl
theorem zi_23_2 : z_ins 23 2 = some (.iload_n 2, 1) := by decide +kernel
theorem ze_23_2 : z_T g d 23 2 (v0 :: v1 :: .int x :: ls) st h P = z_T g d 23 3 (v0 :: v1 :: .int x :: ls) (.int x :: st) h P := zt_iloadn zi_23_2 rfl rfl
theorem zi_23_3 : z_ins 23 3 = some (.aload_n 0, 1) := by decide +kernel
theorem ze_23_3 : z_T g d 23 3 (.ref a :: ls) st h P = z_T g d 23 4 (.ref a :: ls) (.ref a :: st) h P := zt_aloadn zi_23_3 rfl rfl
theorem zi_23_4 : z_ins 23 4 = some (.iload_n 1, 1) := by decide +kernel
theorem ze_23_4 : z_T g d 23 4 (v0 :: .int x :: ls) st h P = z_T g d 23 5 (v0 :: .int x :: ls) (.int x :: st) h P := zt_iloadn zi_23_4 rfl rfl
theorem zi_23_5 : z_ins 23 5 = some (.iload_n 2, 1) := by decide +kernel
theorem ze_23_5 : z_T g d 23 5 (v0 :: v1 :: .int x :: ls) st h P = z_T g d 23 6 (v0 :: v1 :: .int x :: ls) (.int x :: st) h P := zt_iloadn zi_23_5 rfl rfl
theorem zi_23_6 : z_ins 23 6 = some (.invokevirtual 24, 3) := by decide +kernel
theorem ze_23_6 : z_T g d 23 6 ls (.int x1 :: .int x0 :: .ref a :: st) h P = ((z_okS 8 st = true ∧ z_gO h.1 a 2 ∧ 0 < d) ∧ z_Ca g (d - 1) 22 [.ref a, .int x0, .int x1] h (fun r => z_k r (fun v h' => z_T g d 23 9 ls (z_push v st) h' P) P)) := zt_callV (as := [.int x0, .int x1]) zi_23_6 ((congrArg (fun o => z_lookup z_prs (o, 24)) zo_23).trans zp_LatinRectangles_Forces_24) ((congrArg (fun o => z_clk o 24) zo_23).trans zk_LatinRectangles_Forces_24) zh_23 zc_22 rfl rfl rfl
theorem zi_23_9 : z_ins 23 9 = some (.invokevirtual 28, 3) := by decide +kernel
theorem ze_23_9 : z_T g d 23 9 ls (.int x2 :: .int x1 :: .int x0 :: .ref a :: st) h P = ((z_okS 8 st = true ∧ z_gO h.1 a 2 ∧ 0 < d) ∧ z_Ca g (d - 1) 24 [.ref a, .int x0, .int x1, .int x2] h (fun r => z_k r (fun v h' => z_T g d 23 12 ls (z_push v st) h' P) P)) := zt_callV (as := [.int x0, .int x1, .int x2]) zi_23_9 ((congrArg (fun o => z_lookup z_prs (o, 28)) zo_23).trans zp_LatinRectangles_Forces_28) ((congrArg (fun o => z_clk o 28) zo_23).trans zk_LatinRectangles_Forces_28) zh_23 zc_24 rfl rfl rfl
theorem zi_23_12 : z_ins 23 12 = some (.istore_n 3, 1) := by decide +kernel
theorem ze_23_12 : z_T g d 23 12 (v0 :: v1 :: v2 :: v3 :: ls) (.int x :: st) h P = z_T g d 23 13 (v0 :: v1 :: v2 :: .int x :: ls) st h P := zt_istoren zi_23_12 rfl (Nat.le_add_left 4 _)
theorem zi_23_13 : z_ins 23 13 = some (.iconst 0, 1) := by decide +kernel
theorem ze_23_13 : z_T g d 23 13 ls st h P = z_T g d 23 14 ls (.int (nI 0) :: st) h P := zt_iconst zi_23_13 rfl
theorem zi_23_14 : z_ins 23 14 = some (.istore 4, 2) := by decide +kernel
theorem ze_23_14 : z_T g d 23 14 (v0 :: v1 :: v2 :: v3 :: v4 :: ls) (.int x :: st) h P = z_T g d 23 16 (v0 :: v1 :: v2 :: v3 :: .int x :: ls) st h P := zt_istore zi_23_14 (Nat.le_add_left 5 _)
theorem zi_23_16 : z_ins 23 16 = some (.iload 4, 2) := by decide +kernel
theorem ze_23_16 : z_T g d 23 16 (v0 :: v1 :: v2 :: v3 :: .int x :: ls) st h P = z_T g d 23 18 (v0 :: v1 :: v2 :: v3 :: .int x :: ls) (.int x :: st) h P := zt_iload zi_23_16 rfl
theorem zi_23_18 : z_ins 23 18 = some (.aload_n 0, 1) := by decide +kernel
theorem ze_23_18 : z_T g d 23 18 (.ref a :: ls) st h P = z_T g d 23 19 (.ref a :: ls) (.ref a :: st) h P := zt_aloadn zi_23_18 rfl rfl
theorem zi_23_19 : z_ins 23 19 = some (.getfield 9, 3) := by decide +kernel
theorem ze_23_19 : z_T g d 23 19 ls (.ref a :: st) h P = z_gR h.1 a 2 0 (fun x => z_T g d 23 22 ls (.ref x :: st) h P) := zt_getR zi_23_19 ((congrArg (fun o => z_fl o 9) zo_23).trans zf_LatinRectangles_Forces_9)
theorem zi_23_22 : z_ins 23 22 = some (.getfield 21, 3) := by decide +kernel
theorem ze_23_22 : z_T g d 23 22 ls (.ref a :: st) h P = z_gI h.1 a 3 6 (fun x => z_T g d 23 25 ls (.int x :: st) h P) := zt_getI zi_23_22 ((congrArg (fun o => z_fl o 21) zo_23).trans zf_LatinRectangles_Forces_21)
theorem zi_23_25 : z_ins 23 25 = some (.if_icmp .ge 21, 3) := by decide +kernel
theorem ze_23_25 : z_T g d 23 25 ls (.int y :: .int x :: st) h P = (if x < y then z_T g d 23 28 ls st h P else z_T g d 23 46 ls st h P) := zt_icmpge zi_23_25 (by decide)
theorem zi_23_28 : z_ins 23 28 = some (.iload_n 3, 1) := by decide +kernel
theorem ze_23_28 : z_T g d 23 28 (v0 :: v1 :: v2 :: .int x :: ls) st h P = z_T g d 23 29 (v0 :: v1 :: v2 :: .int x :: ls) (.int x :: st) h P := zt_iloadn zi_23_28 rfl rfl
theorem zi_23_29 : z_ins 23 29 = some (.iload 4, 2) := by decide +kernel
theorem ze_23_29 : z_T g d 23 29 (v0 :: v1 :: v2 :: v3 :: .int x :: ls) st h P = z_T g d 23 31 (v0 :: v1 :: v2 :: v3 :: .int x :: ls) (.int x :: st) h P := zt_iload zi_23_29 rfl
theorem zi_23_31 : z_ins 23 31 = some (.ishr, 1) := by decide +kernel
theorem ze_23_31 : z_T g d 23 31 ls (.int y :: .int x :: st) h P = z_T g d 23 32 ls (.int (x >>> (y &&& 31)) :: st) h P := zt_bin (f := fun x y => x >>> (y &&& 31)) zi_23_31 rfl (fun _ _ _ => rfl)
theorem zi_23_32 : z_ins 23 32 = some (.iconst 1, 1) := by decide +kernel
theorem ze_23_32 : z_T g d 23 32 ls st h P = z_T g d 23 33 ls (.int (nI 1) :: st) h P := zt_iconst zi_23_32 rfl
theorem zi_23_33 : z_ins 23 33 = some (.iand, 1) := by decide +kernel
theorem ze_23_33 : z_T g d 23 33 ls (.int y :: .int x :: st) h P = z_T g d 23 34 ls (.int (x &&& y) :: st) h P := zt_bin (f := fun x y => x &&& y) zi_23_33 rfl (fun _ _ _ => rfl)
theorem zi_23_34 : z_ins 23 34 = some (.ifCond .eq 6, 3) := by decide +kernel
theorem ze_23_34 : z_T g d 23 34 ls (.int x :: st) h P = (if x = nI 0 then z_T g d 23 40 ls st h P else z_T g d 23 37 ls st h P) := zt_ifeq zi_23_34 (by decide)
theorem zi_23_37 : z_ins 23 37 = some (.iload 4, 2) := by decide +kernel
theorem ze_23_37 : z_T g d 23 37 (v0 :: v1 :: v2 :: v3 :: .int x :: ls) st h P = z_T g d 23 39 (v0 :: v1 :: v2 :: v3 :: .int x :: ls) (.int x :: st) h P := zt_iload zi_23_37 rfl
theorem zi_23_39 : z_ins 23 39 = some (.ireturn, 1) := by decide +kernel
theorem ze_23_39 : z_T g d 23 39 ls [.int x] h P = P (.inr (some (.int x)), h) := zt_ireturn zi_23_39 zr_23
theorem zi_23_40 : z_ins 23 40 = some (.iinc 4 1, 3) := by decide +kernel
theorem ze_23_40 : z_T g d 23 40 (v0 :: v1 :: v2 :: v3 :: .int x :: ls) st h P = z_T g d 23 43 (v0 :: v1 :: v2 :: v3 :: .int (x + (nI 1)) :: ls) st h P := zt_iinc zi_23_40 rfl rfl
theorem zi_23_43 : z_ins 23 43 = some (.goto (-27), 3) := by decide +kernel
theorem ze_23_43 : z_T g d 23 43 ls st h P = z_T g d 23 16 ls st h P := zt_goto zi_23_43 (by decide)
theorem zi_23_46 : z_ins 23 46 = some (.iconst (-1), 1) := by decide +kernel
theorem ze_23_46 : z_T g d 23 46 ls st h P = z_T g d 23 47 ls (.int (-1) :: st) h P := zt_iconst zi_23_46 rfl
theorem zi_23_47 : z_ins 23 47 = some (.ireturn, 1) := by decide +kernel
theorem ze_23_47 : z_T g d 23 47 ls [.int x] h P = P (.inr (some (.int x)), h) := zt_ireturn zi_23_47 zr_23
-- LatinRectangles$Forces.bitsByReason(III)I
theorem zo_24 : z_own 24 = "LatinRectangles$Forces" := by decide +kernel
theorem zm_24 : z_maxL 24 = 5 := by decide +kernel
theorem zh_24 : z_hds 24 = [] := by decide +kernel
theorem zr_24 : z_rt 24 = (some .int) := by decide +kernel
theorem zn_24 : z_Ca g d 24 [.ref a0, .int x1, .int x2, .int x3] h P = z_T g d 24 0 [.ref a0, .int x1, .int x2, .int x3, z_un] [] h P := z_Ca_ent zm_24 rfl rfl
theorem zi_24_0 : z_ins 24 0 = some (.aload_n 0, 1) := by decide +kernel
theorem ze_24_0 : z_T g d 24 0 (.ref a :: ls) st h P = z_T g d 24 1 (.ref a :: ls) (.ref a :: st) h P := zt_aloadn zi_24_0 rfl rfl
theorem zi_24_1 : z_ins 24 1 = some (.getfield 9, 3) := by decide +kernel
theorem ze_24_1 : z_T g d 24 1 ls (.ref a :: st) h P = z_gR h.1 a 2 0 (fun x => z_T g d 24 4 ls (.ref x :: st) h P) := zt_getR zi_24_1 ((congrArg (fun o => z_fl o 9) zo_24).trans zf_LatinRectangles_Forces_9)
theorem zi_24_4 : z_ins 24 4 = some (.iload_n 1, 1) := by decide +kernel
theorem ze_24_4 : z_T g d 24 4 (v0 :: .int x :: ls) st h P = z_T g d 24 5 (v0 :: .int x :: ls) (.int x :: st) h P := zt_iloadn zi_24_4 rfl rfl
theorem zi_24_5 : z_ins 24 5 = some (.iload_n 2, 1) := by decide +kernel
theorem ze_24_5 : z_T g d 24 5 (v0 :: v1 :: .int x :: ls) st h P = z_T g d 24 6 (v0 :: v1 :: .int x :: ls) (.int x :: st) h P := zt_iloadn zi_24_5 rfl rfl
theorem zi_24_6 : z_ins 24 6 = some (.invokevirtual 32, 3) := by decide +kernel
theorem ze_24_6 : z_T g d 24 6 ls (.int x1 :: .int x0 :: .ref a :: st) h P = ((z_okS 8 st = true ∧ z_gO h.1 a 3 ∧ 0 < d) ∧ z_Ca g (d - 1) 38 [.ref a, .int x0, .int x1] h (fun r => z_k r (fun v h' => z_T g d 24 9 ls (z_push v st) h' P) P)) := zt_callV (as := [.int x0, .int x1]) zi_24_6 ((congrArg (fun o => z_lookup z_prs (o, 32)) zo_24).trans zp_LatinRectangles_Forces_32) ((congrArg (fun o => z_clk o 32) zo_24).trans zk_LatinRectangles_Forces_32) zh_24 zc_38 rfl rfl rfl
theorem zi_24_9 : z_ins 24 9 = some (.istore 4, 2) := by decide +kernel
theorem ze_24_9 : z_T g d 24 9 (v0 :: v1 :: v2 :: v3 :: v4 :: ls) (.int x :: st) h P = z_T g d 24 11 (v0 :: v1 :: v2 :: v3 :: .int x :: ls) st h P := zt_istore zi_24_9 (Nat.le_add_left 5 _)
theorem zi_24_11 : z_ins 24 11 = some (.iload_n 3, 1) := by decide +kernel
theorem ze_24_11 : z_T g d 24 11 (v0 :: v1 :: v2 :: .int x :: ls) st h P = z_T g d 24 12 (v0 :: v1 :: v2 :: .int x :: ls) (.int x :: st) h P := zt_iloadn zi_24_11 rfl rfl
theorem zi_24_12 : z_ins 24 12 = some (.iconst 1, 1) := by decide +kernel
theorem ze_24_12 : z_T g d 24 12 ls st h P = z_T g d 24 13 ls (.int (nI 1) :: st) h P := zt_iconst zi_24_12 rfl
theorem zi_24_13 : z_ins 24 13 = some (.if_icmp .ne 19, 3) := by decide +kernel
theorem ze_24_13 : z_T g d 24 13 ls (.int y :: .int x :: st) h P = (if x = y then z_T g d 24 16 ls st h P else z_T g d 24 32 ls st h P) := zt_icmpne zi_24_13 (by decide)
theorem zi_24_16 : z_ins 24 16 = some (.iload 4, 2) := by decide +kernel
theorem ze_24_16 : z_T g d 24 16 (v0 :: v1 :: v2 :: v3 :: .int x :: ls) st h P = z_T g d 24 18 (v0 :: v1 :: v2 :: v3 :: .int x :: ls) (.int x :: st) h P := zt_iload zi_24_16 rfl
theorem zi_24_18 : z_ins 24 18 = some (.invokestatic 35, 3) := by decide +kernel
theorem ze_24_18 : z_T g d 24 18 ls (.int x0 :: st) h P = ((z_okS 8 st = true ∧ 0 < d) ∧ z_Ca g (d - 1) 201 [.int x0] h (fun r => z_k r (fun v h' => z_T g d 24 21 ls (z_push v st) h' P) P)) := zt_callS0 (as := [.int x0]) zi_24_18 ((congrArg (fun o => z_lookup z_prs (o, 35)) zo_24).trans zp_LatinRectangles_Forces_35) ((congrArg (fun o => z_clk o 35) zo_24).trans zk_LatinRectangles_Forces_35) zh_24 rfl rfl rfl
theorem zi_24_21 : z_ins 24 21 = some (.iconst 1, 1) := by decide +kernel
theorem ze_24_21 : z_T g d 24 21 ls st h P = z_T g d 24 22 ls (.int (nI 1) :: st) h P := zt_iconst zi_24_21 rfl
theorem zi_24_22 : z_ins 24 22 = some (.if_icmp .ne 8, 3) := by decide +kernel
theorem ze_24_22 : z_T g d 24 22 ls (.int y :: .int x :: st) h P = (if x = y then z_T g d 24 25 ls st h P else z_T g d 24 30 ls st h P) := zt_icmpne zi_24_22 (by decide)
theorem zi_24_25 : z_ins 24 25 = some (.iload 4, 2) := by decide +kernel
theorem ze_24_25 : z_T g d 24 25 (v0 :: v1 :: v2 :: v3 :: .int x :: ls) st h P = z_T g d 24 27 (v0 :: v1 :: v2 :: v3 :: .int x :: ls) (.int x :: st) h P := zt_iload zi_24_25 rfl
theorem zi_24_27 : z_ins 24 27 = some (.goto 4, 3) := by decide +kernel
theorem ze_24_27 : z_T g d 24 27 ls st h P = z_T g d 24 31 ls st h P := zt_goto zi_24_27 (by decide)
theorem zi_24_30 : z_ins 24 30 = some (.iconst 0, 1) := by decide +kernel
theorem ze_24_30 : z_T g d 24 30 ls st h P = z_T g d 24 31 ls (.int (nI 0) :: st) h P := zt_iconst zi_24_30 rfl
theorem zi_24_31 : z_ins 24 31 = some (.ireturn, 1) := by decide +kernel
theorem ze_24_31 : z_T g d 24 31 ls [.int x] h P = P (.inr (some (.int x)), h) := zt_ireturn zi_24_31 zr_24
theorem zi_24_32 : z_ins 24 32 = some (.iload_n 3, 1) := by decide +kernel
theorem ze_24_32 : z_T g d 24 32 (v0 :: v1 :: v2 :: .int x :: ls) st h P = z_T g d 24 33 (v0 :: v1 :: v2 :: .int x :: ls) (.int x :: st) h P := zt_iloadn zi_24_32 rfl rfl
theorem zi_24_33 : z_ins 24 33 = some (.iconst 2, 1) := by decide +kernel
theorem ze_24_33 : z_T g d 24 33 ls st h P = z_T g d 24 34 ls (.int (nI 2) :: st) h P := zt_iconst zi_24_33 rfl
theorem zi_24_34 : z_ins 24 34 = some (.if_icmp .ne 15, 3) := by decide +kernel
theorem ze_24_34 : z_T g d 24 34 ls (.int y :: .int x :: st) h P = (if x = y then z_T g d 24 37 ls st h P else z_T g d 24 49 ls st h P) := zt_icmpne zi_24_34 (by decide)
theorem zi_24_37 : z_ins 24 37 = some (.iload 4, 2) := by decide +kernel
theorem ze_24_37 : z_T g d 24 37 (v0 :: v1 :: v2 :: v3 :: .int x :: ls) st h P = z_T g d 24 39 (v0 :: v1 :: v2 :: v3 :: .int x :: ls) (.int x :: st) h P := zt_iload zi_24_37 rfl
theorem zi_24_39 : z_ins 24 39 = some (.aload_n 0, 1) := by decide +kernel
theorem ze_24_39 : z_T g d 24 39 (.ref a :: ls) st h P = z_T g d 24 40 (.ref a :: ls) (.ref a :: st) h P := zt_aloadn zi_24_39 rfl rfl
theorem zi_24_40 : z_ins 24 40 = some (.iload_n 1, 1) := by decide +kernel
theorem ze_24_40 : z_T g d 24 40 (v0 :: .int x :: ls) st h P = z_T g d 24 41 (v0 :: .int x :: ls) (.int x :: st) h P := zt_iloadn zi_24_40 rfl rfl
theorem zi_24_41 : z_ins 24 41 = some (.iload_n 2, 1) := by decide +kernel
theorem ze_24_41 : z_T g d 24 41 (v0 :: v1 :: .int x :: ls) st h P = z_T g d 24 42 (v0 :: v1 :: .int x :: ls) (.int x :: st) h P := zt_iloadn zi_24_41 rfl rfl
theorem zi_24_42 : z_ins 24 42 = some (.invokevirtual 41, 3) := by decide +kernel
theorem ze_24_42 : z_T g d 24 42 ls (.int x1 :: .int x0 :: .ref a :: st) h P = ((z_okS 8 st = true ∧ z_gO h.1 a 2 ∧ 0 < d) ∧ z_Ca g (d - 1) 25 [.ref a, .int x0, .int x1] h (fun r => z_k r (fun v h' => z_T g d 24 45 ls (z_push v st) h' P) P)) := zt_callV (as := [.int x0, .int x1]) zi_24_42 ((congrArg (fun o => z_lookup z_prs (o, 41)) zo_24).trans zp_LatinRectangles_Forces_41) ((congrArg (fun o => z_clk o 41) zo_24).trans zk_LatinRectangles_Forces_41) zh_24 zc_25 rfl rfl rfl
theorem zi_24_45 : z_ins 24 45 = some (.iconst (-1), 1) := by decide +kernel
theorem ze_24_45 : z_T g d 24 45 ls st h P = z_T g d 24 46 ls (.int (-1) :: st) h P := zt_iconst zi_24_45 rfl
theorem zi_24_46 : z_ins 24 46 = some (.ixor, 1) := by decide +kernel
theorem ze_24_46 : z_T g d 24 46 ls (.int y :: .int x :: st) h P = z_T g d 24 47 ls (.int (x ^^^ y) :: st) h P := zt_bin (f := fun x y => x ^^^ y) zi_24_46 rfl (fun _ _ _ => rfl)
theorem zi_24_47 : z_ins 24 47 = some (.iand, 1) := by decide +kernel
theorem ze_24_47 : z_T g d 24 47 ls (.int y :: .int x :: st) h P = z_T g d 24 48 ls (.int (x &&& y) :: st) h P := zt_bin (f := fun x y => x &&& y) zi_24_47 rfl (fun _ _ _ => rfl)
theorem zi_24_48 : z_ins 24 48 = some (.ireturn, 1) := by decide +kernel
theorem ze_24_48 : z_T g d 24 48 ls [.int x] h P = P (.inr (some (.int x)), h) := zt_ireturn zi_24_48 zr_24
theorem zi_24_49 : z_ins 24 49 = some (.aload_n 0, 1) := by decide +kernel
theorem ze_24_49 : z_T g d 24 49 (.ref a :: ls) st h P = z_T g d 24 50 (.ref a :: ls) (.ref a :: st) h P := zt_aloadn zi_24_49 rfl rfl
theorem zi_24_50 : z_ins 24 50 = some (.getfield 9, 3) := by decide +kernel
theorem ze_24_50 : z_T g d 24 50 ls (.ref a :: st) h P = z_gR h.1 a 2 0 (fun x => z_T g d 24 53 ls (.ref x :: st) h P) := zt_getR zi_24_50 ((congrArg (fun o => z_fl o 9) zo_24).trans zf_LatinRectangles_Forces_9)
theorem zi_24_53 : z_ins 24 53 = some (.getfield 15, 3) := by decide +kernel
theorem ze_24_53 : z_T g d 24 53 ls (.ref a :: st) h P = z_gI h.1 a 3 5 (fun x => z_T g d 24 56 ls (.int x :: st) h P) := zt_getI zi_24_53 ((congrArg (fun o => z_fl o 15) zo_24).trans zf_LatinRectangles_Forces_15)
theorem zi_24_56 : z_ins 24 56 = some (.aload_n 0, 1) := by decide +kernel
theorem ze_24_56 : z_T g d 24 56 (.ref a :: ls) st h P = z_T g d 24 57 (.ref a :: ls) (.ref a :: st) h P := zt_aloadn zi_24_56 rfl rfl
theorem zi_24_57 : z_ins 24 57 = some (.getfield 9, 3) := by decide +kernel
theorem ze_24_57 : z_T g d 24 57 ls (.ref a :: st) h P = z_gR h.1 a 2 0 (fun x => z_T g d 24 60 ls (.ref x :: st) h P) := zt_getR zi_24_57 ((congrArg (fun o => z_fl o 9) zo_24).trans zf_LatinRectangles_Forces_9)
theorem zi_24_60 : z_ins 24 60 = some (.getfield 21, 3) := by decide +kernel
theorem ze_24_60 : z_T g d 24 60 ls (.ref a :: st) h P = z_gI h.1 a 3 6 (fun x => z_T g d 24 63 ls (.int x :: st) h P) := zt_getI zi_24_60 ((congrArg (fun o => z_fl o 21) zo_24).trans zf_LatinRectangles_Forces_21)
theorem zi_24_63 : z_ins 24 63 = some (.if_icmp .ne 17, 3) := by decide +kernel
theorem ze_24_63 : z_T g d 24 63 ls (.int y :: .int x :: st) h P = (if x = y then z_T g d 24 66 ls st h P else z_T g d 24 80 ls st h P) := zt_icmpne zi_24_63 (by decide)
theorem zi_24_66 : z_ins 24 66 = some (.iload 4, 2) := by decide +kernel
theorem ze_24_66 : z_T g d 24 66 (v0 :: v1 :: v2 :: v3 :: .int x :: ls) st h P = z_T g d 24 68 (v0 :: v1 :: v2 :: v3 :: .int x :: ls) (.int x :: st) h P := zt_iload zi_24_66 rfl
theorem zi_24_68 : z_ins 24 68 = some (.aload_n 0, 1) := by decide +kernel
theorem ze_24_68 : z_T g d 24 68 (.ref a :: ls) st h P = z_T g d 24 69 (.ref a :: ls) (.ref a :: st) h P := zt_aloadn zi_24_68 rfl rfl
theorem zi_24_69 : z_ins 24 69 = some (.iload_n 1, 1) := by decide +kernel
theorem ze_24_69 : z_T g d 24 69 (v0 :: .int x :: ls) st h P = z_T g d 24 70 (v0 :: .int x :: ls) (.int x :: st) h P := zt_iloadn zi_24_69 rfl rfl
theorem zi_24_70 : z_ins 24 70 = some (.iload_n 2, 1) := by decide +kernel
theorem ze_24_70 : z_T g d 24 70 (v0 :: v1 :: .int x :: ls) st h P = z_T g d 24 71 (v0 :: v1 :: .int x :: ls) (.int x :: st) h P := zt_iloadn zi_24_70 rfl rfl
theorem zi_24_71 : z_ins 24 71 = some (.invokevirtual 44, 3) := by decide +kernel
theorem ze_24_71 : z_T g d 24 71 ls (.int x1 :: .int x0 :: .ref a :: st) h P = ((z_okS 8 st = true ∧ z_gO h.1 a 2 ∧ 0 < d) ∧ z_Ca g (d - 1) 26 [.ref a, .int x0, .int x1] h (fun r => z_k r (fun v h' => z_T g d 24 74 ls (z_push v st) h' P) P)) := zt_callV (as := [.int x0, .int x1]) zi_24_71 ((congrArg (fun o => z_lookup z_prs (o, 44)) zo_24).trans zp_LatinRectangles_Forces_44) ((congrArg (fun o => z_clk o 44) zo_24).trans zk_LatinRectangles_Forces_44) zh_24 zc_26 rfl rfl rfl
theorem zi_24_74 : z_ins 24 74 = some (.iconst (-1), 1) := by decide +kernel
theorem ze_24_74 : z_T g d 24 74 ls st h P = z_T g d 24 75 ls (.int (-1) :: st) h P := zt_iconst zi_24_74 rfl
theorem zi_24_75 : z_ins 24 75 = some (.ixor, 1) := by decide +kernel
theorem ze_24_75 : z_T g d 24 75 ls (.int y :: .int x :: st) h P = z_T g d 24 76 ls (.int (x ^^^ y) :: st) h P := zt_bin (f := fun x y => x ^^^ y) zi_24_75 rfl (fun _ _ _ => rfl)
theorem zi_24_76 : z_ins 24 76 = some (.iand, 1) := by decide +kernel
theorem ze_24_76 : z_T g d 24 76 ls (.int y :: .int x :: st) h P = z_T g d 24 77 ls (.int (x &&& y) :: st) h P := zt_bin (f := fun x y => x &&& y) zi_24_76 rfl (fun _ _ _ => rfl)
theorem zi_24_77 : z_ins 24 77 = some (.goto 4, 3) := by decide +kernel
theorem ze_24_77 : z_T g d 24 77 ls st h P = z_T g d 24 81 ls st h P := zt_goto zi_24_77 (by decide)
theorem zi_24_80 : z_ins 24 80 = some (.iconst 0, 1) := by decide +kernel
theorem ze_24_80 : z_T g d 24 80 ls st h P = z_T g d 24 81 ls (.int (nI 0) :: st) h P := zt_iconst zi_24_80 rfl
theorem zi_24_81 : z_ins 24 81 = some (.ireturn, 1) := by decide +kernel
theorem ze_24_81 : z_T g d 24 81 ls [.int x] h P = P (.inr (some (.int x)), h) := zt_ireturn zi_24_81 zr_24
-- LatinRectangles$Forces.elsewhereInRow(II)I
theorem zo_25 : z_own 25 = "LatinRectangles$Forces" := by decide +kernel
theorem zm_25 : z_maxL 25 = 5 := by decide +kernel
theorem zh_25 : z_hds 25 = [] := by decide +kernel
theorem zr_25 : z_rt 25 = (some .int) := by decide +kernel
theorem zn_25 : z_Ca g d 25 [.ref a0, .int x1, .int x2] h P = z_T g d 25 0 [.ref a0, .int x1, .int x2, z_un, z_un] [] h P := z_Ca_ent zm_25 rfl rfl
theorem zi_25_0 : z_ins 25 0 = some (.iconst 0, 1) := by decide +kernel
theorem ze_25_0 : z_T g d 25 0 ls st h P = z_T g d 25 1 ls (.int (nI 0) :: st) h P := zt_iconst zi_25_0 rfl
theorem zi_25_1 : z_ins 25 1 = some (.istore_n 3, 1) := by decide +kernel
theorem ze_25_1 : z_T g d 25 1 (v0 :: v1 :: v2 :: v3 :: ls) (.int x :: st) h P = z_T g d 25 2 (v0 :: v1 :: v2 :: .int x :: ls) st h P := zt_istoren zi_25_1 rfl (Nat.le_add_left 4 _)
theorem zi_25_2 : z_ins 25 2 = some (.iconst 0, 1) := by decide +kernel
theorem ze_25_2 : z_T g d 25 2 ls st h P = z_T g d 25 3 ls (.int (nI 0) :: st) h P := zt_iconst zi_25_2 rfl
theorem zi_25_3 : z_ins 25 3 = some (.istore 4, 2) := by decide +kernel
theorem ze_25_3 : z_T g d 25 3 (v0 :: v1 :: v2 :: v3 :: v4 :: ls) (.int x :: st) h P = z_T g d 25 5 (v0 :: v1 :: v2 :: v3 :: .int x :: ls) st h P := zt_istore zi_25_3 (Nat.le_add_left 5 _)
theorem zi_25_5 : z_ins 25 5 = some (.iload 4, 2) := by decide +kernel
theorem ze_25_5 : z_T g d 25 5 (v0 :: v1 :: v2 :: v3 :: .int x :: ls) st h P = z_T g d 25 7 (v0 :: v1 :: v2 :: v3 :: .int x :: ls) (.int x :: st) h P := zt_iload zi_25_5 rfl
theorem zi_25_7 : z_ins 25 7 = some (.aload_n 0, 1) := by decide +kernel
theorem ze_25_7 : z_T g d 25 7 (.ref a :: ls) st h P = z_T g d 25 8 (.ref a :: ls) (.ref a :: st) h P := zt_aloadn zi_25_7 rfl rfl
theorem zi_25_8 : z_ins 25 8 = some (.getfield 9, 3) := by decide +kernel
theorem ze_25_8 : z_T g d 25 8 ls (.ref a :: st) h P = z_gR h.1 a 2 0 (fun x => z_T g d 25 11 ls (.ref x :: st) h P) := zt_getR zi_25_8 ((congrArg (fun o => z_fl o 9) zo_25).trans zf_LatinRectangles_Forces_9)
theorem zi_25_11 : z_ins 25 11 = some (.getfield 21, 3) := by decide +kernel
theorem ze_25_11 : z_T g d 25 11 ls (.ref a :: st) h P = z_gI h.1 a 3 6 (fun x => z_T g d 25 14 ls (.int x :: st) h P) := zt_getI zi_25_11 ((congrArg (fun o => z_fl o 21) zo_25).trans zf_LatinRectangles_Forces_21)
theorem zi_25_14 : z_ins 25 14 = some (.if_icmp .ge 28, 3) := by decide +kernel
theorem ze_25_14 : z_T g d 25 14 ls (.int y :: .int x :: st) h P = (if x < y then z_T g d 25 17 ls st h P else z_T g d 25 42 ls st h P) := zt_icmpge zi_25_14 (by decide)
theorem zi_25_17 : z_ins 25 17 = some (.iload 4, 2) := by decide +kernel
theorem ze_25_17 : z_T g d 25 17 (v0 :: v1 :: v2 :: v3 :: .int x :: ls) st h P = z_T g d 25 19 (v0 :: v1 :: v2 :: v3 :: .int x :: ls) (.int x :: st) h P := zt_iload zi_25_17 rfl
theorem zi_25_19 : z_ins 25 19 = some (.iload_n 2, 1) := by decide +kernel
theorem ze_25_19 : z_T g d 25 19 (v0 :: v1 :: .int x :: ls) st h P = z_T g d 25 20 (v0 :: v1 :: .int x :: ls) (.int x :: st) h P := zt_iloadn zi_25_19 rfl rfl
theorem zi_25_20 : z_ins 25 20 = some (.if_icmp .eq 16, 3) := by decide +kernel
theorem ze_25_20 : z_T g d 25 20 ls (.int y :: .int x :: st) h P = (if x = y then z_T g d 25 36 ls st h P else z_T g d 25 23 ls st h P) := zt_icmpeq zi_25_20 (by decide)
theorem zi_25_23 : z_ins 25 23 = some (.iload_n 3, 1) := by decide +kernel
theorem ze_25_23 : z_T g d 25 23 (v0 :: v1 :: v2 :: .int x :: ls) st h P = z_T g d 25 24 (v0 :: v1 :: v2 :: .int x :: ls) (.int x :: st) h P := zt_iloadn zi_25_23 rfl rfl
theorem zi_25_24 : z_ins 25 24 = some (.aload_n 0, 1) := by decide +kernel
theorem ze_25_24 : z_T g d 25 24 (.ref a :: ls) st h P = z_T g d 25 25 (.ref a :: ls) (.ref a :: st) h P := zt_aloadn zi_25_24 rfl rfl
theorem zi_25_25 : z_ins 25 25 = some (.getfield 9, 3) := by decide +kernel
theorem ze_25_25 : z_T g d 25 25 ls (.ref a :: st) h P = z_gR h.1 a 2 0 (fun x => z_T g d 25 28 ls (.ref x :: st) h P) := zt_getR zi_25_25 ((congrArg (fun o => z_fl o 9) zo_25).trans zf_LatinRectangles_Forces_9)
theorem zi_25_28 : z_ins 25 28 = some (.iload_n 1, 1) := by decide +kernel
theorem ze_25_28 : z_T g d 25 28 (v0 :: .int x :: ls) st h P = z_T g d 25 29 (v0 :: .int x :: ls) (.int x :: st) h P := zt_iloadn zi_25_28 rfl rfl
theorem zi_25_29 : z_ins 25 29 = some (.iload 4, 2) := by decide +kernel
theorem ze_25_29 : z_T g d 25 29 (v0 :: v1 :: v2 :: v3 :: .int x :: ls) st h P = z_T g d 25 31 (v0 :: v1 :: v2 :: v3 :: .int x :: ls) (.int x :: st) h P := zt_iload zi_25_29 rfl
theorem zi_25_31 : z_ins 25 31 = some (.invokevirtual 32, 3) := by decide +kernel
theorem ze_25_31 : z_T g d 25 31 ls (.int x1 :: .int x0 :: .ref a :: st) h P = ((z_okS 8 st = true ∧ z_gO h.1 a 3 ∧ 0 < d) ∧ z_Ca g (d - 1) 38 [.ref a, .int x0, .int x1] h (fun r => z_k r (fun v h' => z_T g d 25 34 ls (z_push v st) h' P) P)) := zt_callV (as := [.int x0, .int x1]) zi_25_31 ((congrArg (fun o => z_lookup z_prs (o, 32)) zo_25).trans zp_LatinRectangles_Forces_32) ((congrArg (fun o => z_clk o 32) zo_25).trans zk_LatinRectangles_Forces_32) zh_25 zc_38 rfl rfl rfl
theorem zi_25_34 : z_ins 25 34 = some (.ior, 1) := by decide +kernel
theorem ze_25_34 : z_T g d 25 34 ls (.int y :: .int x :: st) h P = z_T g d 25 35 ls (.int (x ||| y) :: st) h P := zt_bin (f := fun x y => x ||| y) zi_25_34 rfl (fun _ _ _ => rfl)
theorem zi_25_35 : z_ins 25 35 = some (.istore_n 3, 1) := by decide +kernel
theorem ze_25_35 : z_T g d 25 35 (v0 :: v1 :: v2 :: v3 :: ls) (.int x :: st) h P = z_T g d 25 36 (v0 :: v1 :: v2 :: .int x :: ls) st h P := zt_istoren zi_25_35 rfl (Nat.le_add_left 4 _)
theorem zi_25_36 : z_ins 25 36 = some (.iinc 4 1, 3) := by decide +kernel
theorem ze_25_36 : z_T g d 25 36 (v0 :: v1 :: v2 :: v3 :: .int x :: ls) st h P = z_T g d 25 39 (v0 :: v1 :: v2 :: v3 :: .int (x + (nI 1)) :: ls) st h P := zt_iinc zi_25_36 rfl rfl
theorem zi_25_39 : z_ins 25 39 = some (.goto (-34), 3) := by decide +kernel
theorem ze_25_39 : z_T g d 25 39 ls st h P = z_T g d 25 5 ls st h P := zt_goto zi_25_39 (by decide)
theorem zi_25_42 : z_ins 25 42 = some (.iload_n 3, 1) := by decide +kernel
theorem ze_25_42 : z_T g d 25 42 (v0 :: v1 :: v2 :: .int x :: ls) st h P = z_T g d 25 43 (v0 :: v1 :: v2 :: .int x :: ls) (.int x :: st) h P := zt_iloadn zi_25_42 rfl rfl
theorem zi_25_43 : z_ins 25 43 = some (.ireturn, 1) := by decide +kernel
theorem ze_25_43 : z_T g d 25 43 ls [.int x] h P = P (.inr (some (.int x)), h) := zt_ireturn zi_25_43 zr_25
-- LatinRectangles$Forces.elsewhereInColumn(II)I
theorem zo_26 : z_own 26 = "LatinRectangles$Forces" := by decide +kernel
theorem zm_26 : z_maxL 26 = 5 := by decide +kernel
theorem zh_26 : z_hds 26 = [] := by decide +kernel
theorem zr_26 : z_rt 26 = (some .int) := by decide +kernel
theorem zn_26 : z_Ca g d 26 [.ref a0, .int x1, .int x2] h P = z_T g d 26 0 [.ref a0, .int x1, .int x2, z_un, z_un] [] h P := z_Ca_ent zm_26 rfl rfl
theorem zi_26_0 : z_ins 26 0 = some (.iconst 0, 1) := by decide +kernel
theorem ze_26_0 : z_T g d 26 0 ls st h P = z_T g d 26 1 ls (.int (nI 0) :: st) h P := zt_iconst zi_26_0 rfl
theorem zi_26_1 : z_ins 26 1 = some (.istore_n 3, 1) := by decide +kernel
theorem ze_26_1 : z_T g d 26 1 (v0 :: v1 :: v2 :: v3 :: ls) (.int x :: st) h P = z_T g d 26 2 (v0 :: v1 :: v2 :: .int x :: ls) st h P := zt_istoren zi_26_1 rfl (Nat.le_add_left 4 _)
theorem zi_26_2 : z_ins 26 2 = some (.iconst 0, 1) := by decide +kernel
theorem ze_26_2 : z_T g d 26 2 ls st h P = z_T g d 26 3 ls (.int (nI 0) :: st) h P := zt_iconst zi_26_2 rfl
theorem zi_26_3 : z_ins 26 3 = some (.istore 4, 2) := by decide +kernel
theorem ze_26_3 : z_T g d 26 3 (v0 :: v1 :: v2 :: v3 :: v4 :: ls) (.int x :: st) h P = z_T g d 26 5 (v0 :: v1 :: v2 :: v3 :: .int x :: ls) st h P := zt_istore zi_26_3 (Nat.le_add_left 5 _)
theorem zi_26_5 : z_ins 26 5 = some (.iload 4, 2) := by decide +kernel
theorem ze_26_5 : z_T g d 26 5 (v0 :: v1 :: v2 :: v3 :: .int x :: ls) st h P = z_T g d 26 7 (v0 :: v1 :: v2 :: v3 :: .int x :: ls) (.int x :: st) h P := zt_iload zi_26_5 rfl
theorem zi_26_7 : z_ins 26 7 = some (.aload_n 0, 1) := by decide +kernel
theorem ze_26_7 : z_T g d 26 7 (.ref a :: ls) st h P = z_T g d 26 8 (.ref a :: ls) (.ref a :: st) h P := zt_aloadn zi_26_7 rfl rfl
theorem zi_26_8 : z_ins 26 8 = some (.getfield 9, 3) := by decide +kernel
theorem ze_26_8 : z_T g d 26 8 ls (.ref a :: st) h P = z_gR h.1 a 2 0 (fun x => z_T g d 26 11 ls (.ref x :: st) h P) := zt_getR zi_26_8 ((congrArg (fun o => z_fl o 9) zo_26).trans zf_LatinRectangles_Forces_9)
theorem zi_26_11 : z_ins 26 11 = some (.getfield 15, 3) := by decide +kernel
theorem ze_26_11 : z_T g d 26 11 ls (.ref a :: st) h P = z_gI h.1 a 3 5 (fun x => z_T g d 26 14 ls (.int x :: st) h P) := zt_getI zi_26_11 ((congrArg (fun o => z_fl o 15) zo_26).trans zf_LatinRectangles_Forces_15)
theorem zi_26_14 : z_ins 26 14 = some (.if_icmp .ge 28, 3) := by decide +kernel
theorem ze_26_14 : z_T g d 26 14 ls (.int y :: .int x :: st) h P = (if x < y then z_T g d 26 17 ls st h P else z_T g d 26 42 ls st h P) := zt_icmpge zi_26_14 (by decide)
theorem zi_26_17 : z_ins 26 17 = some (.iload 4, 2) := by decide +kernel
theorem ze_26_17 : z_T g d 26 17 (v0 :: v1 :: v2 :: v3 :: .int x :: ls) st h P = z_T g d 26 19 (v0 :: v1 :: v2 :: v3 :: .int x :: ls) (.int x :: st) h P := zt_iload zi_26_17 rfl
theorem zi_26_19 : z_ins 26 19 = some (.iload_n 1, 1) := by decide +kernel
theorem ze_26_19 : z_T g d 26 19 (v0 :: .int x :: ls) st h P = z_T g d 26 20 (v0 :: .int x :: ls) (.int x :: st) h P := zt_iloadn zi_26_19 rfl rfl
theorem zi_26_20 : z_ins 26 20 = some (.if_icmp .eq 16, 3) := by decide +kernel
theorem ze_26_20 : z_T g d 26 20 ls (.int y :: .int x :: st) h P = (if x = y then z_T g d 26 36 ls st h P else z_T g d 26 23 ls st h P) := zt_icmpeq zi_26_20 (by decide)
theorem zi_26_23 : z_ins 26 23 = some (.iload_n 3, 1) := by decide +kernel
theorem ze_26_23 : z_T g d 26 23 (v0 :: v1 :: v2 :: .int x :: ls) st h P = z_T g d 26 24 (v0 :: v1 :: v2 :: .int x :: ls) (.int x :: st) h P := zt_iloadn zi_26_23 rfl rfl
theorem zi_26_24 : z_ins 26 24 = some (.aload_n 0, 1) := by decide +kernel
theorem ze_26_24 : z_T g d 26 24 (.ref a :: ls) st h P = z_T g d 26 25 (.ref a :: ls) (.ref a :: st) h P := zt_aloadn zi_26_24 rfl rfl
theorem zi_26_25 : z_ins 26 25 = some (.getfield 9, 3) := by decide +kernel
theorem ze_26_25 : z_T g d 26 25 ls (.ref a :: st) h P = z_gR h.1 a 2 0 (fun x => z_T g d 26 28 ls (.ref x :: st) h P) := zt_getR zi_26_25 ((congrArg (fun o => z_fl o 9) zo_26).trans zf_LatinRectangles_Forces_9)
theorem zi_26_28 : z_ins 26 28 = some (.iload 4, 2) := by decide +kernel
theorem ze_26_28 : z_T g d 26 28 (v0 :: v1 :: v2 :: v3 :: .int x :: ls) st h P = z_T g d 26 30 (v0 :: v1 :: v2 :: v3 :: .int x :: ls) (.int x :: st) h P := zt_iload zi_26_28 rfl
theorem zi_26_30 : z_ins 26 30 = some (.iload_n 2, 1) := by decide +kernel
theorem ze_26_30 : z_T g d 26 30 (v0 :: v1 :: .int x :: ls) st h P = z_T g d 26 31 (v0 :: v1 :: .int x :: ls) (.int x :: st) h P := zt_iloadn zi_26_30 rfl rfl
theorem zi_26_31 : z_ins 26 31 = some (.invokevirtual 32, 3) := by decide +kernel
theorem ze_26_31 : z_T g d 26 31 ls (.int x1 :: .int x0 :: .ref a :: st) h P = ((z_okS 8 st = true ∧ z_gO h.1 a 3 ∧ 0 < d) ∧ z_Ca g (d - 1) 38 [.ref a, .int x0, .int x1] h (fun r => z_k r (fun v h' => z_T g d 26 34 ls (z_push v st) h' P) P)) := zt_callV (as := [.int x0, .int x1]) zi_26_31 ((congrArg (fun o => z_lookup z_prs (o, 32)) zo_26).trans zp_LatinRectangles_Forces_32) ((congrArg (fun o => z_clk o 32) zo_26).trans zk_LatinRectangles_Forces_32) zh_26 zc_38 rfl rfl rfl
theorem zi_26_34 : z_ins 26 34 = some (.ior, 1) := by decide +kernel
theorem ze_26_34 : z_T g d 26 34 ls (.int y :: .int x :: st) h P = z_T g d 26 35 ls (.int (x ||| y) :: st) h P := zt_bin (f := fun x y => x ||| y) zi_26_34 rfl (fun _ _ _ => rfl)
theorem zi_26_35 : z_ins 26 35 = some (.istore_n 3, 1) := by decide +kernel
theorem ze_26_35 : z_T g d 26 35 (v0 :: v1 :: v2 :: v3 :: ls) (.int x :: st) h P = z_T g d 26 36 (v0 :: v1 :: v2 :: .int x :: ls) st h P := zt_istoren zi_26_35 rfl (Nat.le_add_left 4 _)
theorem zi_26_36 : z_ins 26 36 = some (.iinc 4 1, 3) := by decide +kernel
theorem ze_26_36 : z_T g d 26 36 (v0 :: v1 :: v2 :: v3 :: .int x :: ls) st h P = z_T g d 26 39 (v0 :: v1 :: v2 :: v3 :: .int (x + (nI 1)) :: ls) st h P := zt_iinc zi_26_36 rfl rfl
theorem zi_26_39 : z_ins 26 39 = some (.goto (-34), 3) := by decide +kernel
theorem ze_26_39 : z_T g d 26 39 ls st h P = z_T g d 26 5 ls st h P := zt_goto zi_26_39 (by decide)
theorem zi_26_42 : z_ins 26 42 = some (.iload_n 3, 1) := by decide +kernel
theorem ze_26_42 : z_T g d 26 42 (v0 :: v1 :: v2 :: .int x :: ls) st h P = z_T g d 26 43 (v0 :: v1 :: v2 :: .int x :: ls) (.int x :: st) h P := zt_iloadn zi_26_42 rfl rfl
theorem zi_26_43 : z_ins 26 43 = some (.ireturn, 1) := by decide +kernel
theorem ze_26_43 : z_T g d 26 43 ls [.int x] h P = P (.inr (some (.int x)), h) := zt_ireturn zi_26_43 zr_26
-- LatinRectangles$Grid.<init>()V
theorem zo_27 : z_own 27 = "LatinRectangles$Grid" := by decide +kernel
theorem zm_27 : z_maxL 27 = 1 := by decide +kernel
theorem zh_27 : z_hds 27 = [] := by decide +kernel
theorem zr_27 : z_rt 27 = none := by decide +kernel
theorem zn_27 : z_Ca g d 27 [.ref a0] h P = z_T g d 27 0 [.ref a0] [] h P := z_Ca_ent zm_27 rfl rfl
theorem zi_27_0 : z_ins 27 0 = some (.aload_n 0, 1) := by decide +kernel
theorem ze_27_0 : z_T g d 27 0 (.ref a :: ls) st h P = z_T g d 27 1 (.ref a :: ls) (.ref a :: st) h P := zt_aloadn zi_27_0 rfl rfl
theorem zi_27_1 : z_ins 27 1 = some (.invokespecial 3, 3) := by decide +kernel
theorem ze_27_1 : z_T g d 27 1 ls (.ref a :: st) h P = (z_okS 8 st = true ∧ z_T g d 27 4 ls st h P) := zt_objInit zi_27_1 ((congrArg (fun o => z_lookup z_ois (o, 3)) zo_27).trans zq_LatinRectangles_Grid_3)
theorem zi_27_4 : z_ins 27 4 = some (.aload_n 0, 1) := by decide +kernel
theorem ze_27_4 : z_T g d 27 4 (.ref a :: ls) st h P = z_T g d 27 5 (.ref a :: ls) (.ref a :: st) h P := zt_aloadn zi_27_4 rfl rfl
theorem zi_27_5 : z_ins 27 5 = some (.bipush 25, 2) := by decide +kernel
theorem ze_27_5 : z_T g d 27 5 ls st h P = z_T g d 27 7 ls (.int (nI 25) :: st) h P := zt_bipush zi_27_5 rfl
theorem zi_27_7 : z_ins 27 7 = some (.newarray .int, 2) := by decide +kernel
theorem ze_27_7 : z_T g d 27 7 ls (.int x :: st) h P = z_nA h .int x (fun q h' => z_T g d 27 9 ls (.ref q :: st) h' P) := zt_newarray zi_27_7
theorem zi_27_9 : z_ins 27 9 = some (.putfield 9, 3) := by decide +kernel
theorem ze_27_9 : z_T g d 27 9 ls (.ref b :: .ref a :: st) h P = z_pF h.1 a 3 0 (.ref b) (fun f => z_T g d 27 12 ls st (f, h.2) P) := zt_putR zi_27_9 ((congrArg (fun o => z_fl o 9) zo_27).trans zf_LatinRectangles_Grid_9) (by decide +kernel)
theorem zi_27_12 : z_ins 27 12 = some (.aload_n 0, 1) := by decide +kernel
theorem ze_27_12 : z_T g d 27 12 (.ref a :: ls) st h P = z_T g d 27 13 (.ref a :: ls) (.ref a :: st) h P := zt_aloadn zi_27_12 rfl rfl
theorem zi_27_13 : z_ins 27 13 = some (.bipush 25, 2) := by decide +kernel
theorem ze_27_13 : z_T g d 27 13 ls st h P = z_T g d 27 15 ls (.int (nI 25) :: st) h P := zt_bipush zi_27_13 rfl
theorem zi_27_15 : z_ins 27 15 = some (.newarray .boolean, 2) := by decide +kernel
theorem ze_27_15 : z_T g d 27 15 ls (.int x :: st) h P = z_nA h .boolean x (fun q h' => z_T g d 27 17 ls (.ref q :: st) h' P) := zt_newarray zi_27_15
theorem zi_27_17 : z_ins 27 17 = some (.putfield 15, 3) := by decide +kernel
theorem ze_27_17 : z_T g d 27 17 ls (.ref b :: .ref a :: st) h P = z_pF h.1 a 3 1 (.ref b) (fun f => z_T g d 27 20 ls st (f, h.2) P) := zt_putR zi_27_17 ((congrArg (fun o => z_fl o 15) zo_27).trans zf_LatinRectangles_Grid_15) (by decide +kernel)
theorem zi_27_20 : z_ins 27 20 = some (.aload_n 0, 1) := by decide +kernel
theorem ze_27_20 : z_T g d 27 20 (.ref a :: ls) st h P = z_T g d 27 21 (.ref a :: ls) (.ref a :: st) h P := zt_aloadn zi_27_20 rfl rfl
theorem zi_27_21 : z_ins 27 21 = some (.bipush 25, 2) := by decide +kernel
theorem ze_27_21 : z_T g d 27 21 ls st h P = z_T g d 27 23 ls (.int (nI 25) :: st) h P := zt_bipush zi_27_21 rfl
theorem zi_27_23 : z_ins 27 23 = some (.newarray .int, 2) := by decide +kernel
theorem ze_27_23 : z_T g d 27 23 ls (.int x :: st) h P = z_nA h .int x (fun q h' => z_T g d 27 25 ls (.ref q :: st) h' P) := zt_newarray zi_27_23
theorem zi_27_25 : z_ins 27 25 = some (.putfield 19, 3) := by decide +kernel
theorem ze_27_25 : z_T g d 27 25 ls (.ref b :: .ref a :: st) h P = z_pF h.1 a 3 2 (.ref b) (fun f => z_T g d 27 28 ls st (f, h.2) P) := zt_putR zi_27_25 ((congrArg (fun o => z_fl o 19) zo_27).trans zf_LatinRectangles_Grid_19) (by decide +kernel)
theorem zi_27_28 : z_ins 27 28 = some (.aload_n 0, 1) := by decide +kernel
theorem ze_27_28 : z_T g d 27 28 (.ref a :: ls) st h P = z_T g d 27 29 (.ref a :: ls) (.ref a :: st) h P := zt_aloadn zi_27_28 rfl rfl
theorem zi_27_29 : z_ins 27 29 = some (.iconst 5, 1) := by decide +kernel
theorem ze_27_29 : z_T g d 27 29 ls st h P = z_T g d 27 30 ls (.int (nI 5) :: st) h P := zt_iconst zi_27_29 rfl
theorem zi_27_30 : z_ins 27 30 = some (.newarray .int, 2) := by decide +kernel
theorem ze_27_30 : z_T g d 27 30 ls (.int x :: st) h P = z_nA h .int x (fun q h' => z_T g d 27 32 ls (.ref q :: st) h' P) := zt_newarray zi_27_30
theorem zi_27_32 : z_ins 27 32 = some (.putfield 22, 3) := by decide +kernel
theorem ze_27_32 : z_T g d 27 32 ls (.ref b :: .ref a :: st) h P = z_pF h.1 a 3 3 (.ref b) (fun f => z_T g d 27 35 ls st (f, h.2) P) := zt_putR zi_27_32 ((congrArg (fun o => z_fl o 22) zo_27).trans zf_LatinRectangles_Grid_22) (by decide +kernel)
theorem zi_27_35 : z_ins 27 35 = some (.aload_n 0, 1) := by decide +kernel
theorem ze_27_35 : z_T g d 27 35 (.ref a :: ls) st h P = z_T g d 27 36 (.ref a :: ls) (.ref a :: st) h P := zt_aloadn zi_27_35 rfl rfl
theorem zi_27_36 : z_ins 27 36 = some (.iconst 5, 1) := by decide +kernel
theorem ze_27_36 : z_T g d 27 36 ls st h P = z_T g d 27 37 ls (.int (nI 5) :: st) h P := zt_iconst zi_27_36 rfl
theorem zi_27_37 : z_ins 27 37 = some (.newarray .int, 2) := by decide +kernel
theorem ze_27_37 : z_T g d 27 37 ls (.int x :: st) h P = z_nA h .int x (fun q h' => z_T g d 27 39 ls (.ref q :: st) h' P) := zt_newarray zi_27_37
theorem zi_27_39 : z_ins 27 39 = some (.putfield 25, 3) := by decide +kernel
theorem ze_27_39 : z_T g d 27 39 ls (.ref b :: .ref a :: st) h P = z_pF h.1 a 3 4 (.ref b) (fun f => z_T g d 27 42 ls st (f, h.2) P) := zt_putR zi_27_39 ((congrArg (fun o => z_fl o 25) zo_27).trans zf_LatinRectangles_Grid_25) (by decide +kernel)
theorem zi_27_42 : z_ins 27 42 = some (.aload_n 0, 1) := by decide +kernel
theorem ze_27_42 : z_T g d 27 42 (.ref a :: ls) st h P = z_T g d 27 43 (.ref a :: ls) (.ref a :: st) h P := zt_aloadn zi_27_42 rfl rfl
theorem zi_27_43 : z_ins 27 43 = some (.iconst 2, 1) := by decide +kernel
theorem ze_27_43 : z_T g d 27 43 ls st h P = z_T g d 27 44 ls (.int (nI 2) :: st) h P := zt_iconst zi_27_43 rfl
theorem zi_27_44 : z_ins 27 44 = some (.iconst 2, 1) := by decide +kernel
theorem ze_27_44 : z_T g d 27 44 ls st h P = z_T g d 27 45 ls (.int (nI 2) :: st) h P := zt_iconst zi_27_44 rfl
theorem zi_27_45 : z_ins 27 45 = some (.invokevirtual 28, 3) := by decide +kernel
theorem ze_27_45 : z_T g d 27 45 ls (.int x1 :: .int x0 :: .ref a :: st) h P = ((z_okS 8 st = true ∧ z_gO h.1 a 3 ∧ 0 < d) ∧ z_Ca g (d - 1) 28 [.ref a, .int x0, .int x1] h (fun r => z_k r (fun v h' => z_T g d 27 48 ls (z_push v st) h' P) P)) := zt_callV (as := [.int x0, .int x1]) zi_27_45 ((congrArg (fun o => z_lookup z_prs (o, 28)) zo_27).trans zp_LatinRectangles_Grid_28) ((congrArg (fun o => z_clk o 28) zo_27).trans zk_LatinRectangles_Grid_28) zh_27 zc_28 rfl rfl rfl
theorem zi_27_48 : z_ins 27 48 = some (.return_, 1) := by decide +kernel
theorem ze_27_48 : z_T g d 27 48 ls [] h P = P (.inr none, h) := zt_return zi_27_48 zr_27
-- LatinRectangles$Grid.begin(II)V
theorem zo_28 : z_own 28 = "LatinRectangles$Grid" := by decide +kernel
theorem zm_28 : z_maxL 28 = 4 := by decide +kernel
theorem zh_28 : z_hds 28 = [] := by decide +kernel
theorem zr_28 : z_rt 28 = none := by decide +kernel
theorem zn_28 : z_Ca g d 28 [.ref a0, .int x1, .int x2] h P = z_T g d 28 0 [.ref a0, .int x1, .int x2, z_un] [] h P := z_Ca_ent zm_28 rfl rfl
theorem zi_28_0 : z_ins 28 0 = some (.aload_n 0, 1) := by decide +kernel
theorem ze_28_0 : z_T g d 28 0 (.ref a :: ls) st h P = z_T g d 28 1 (.ref a :: ls) (.ref a :: st) h P := zt_aloadn zi_28_0 rfl rfl
theorem zi_28_1 : z_ins 28 1 = some (.iload_n 1, 1) := by decide +kernel
theorem ze_28_1 : z_T g d 28 1 (v0 :: .int x :: ls) st h P = z_T g d 28 2 (v0 :: .int x :: ls) (.int x :: st) h P := zt_iloadn zi_28_1 rfl rfl
theorem zi_28_2 : z_ins 28 2 = some (.putfield 32, 3) := by decide +kernel
theorem ze_28_2 : z_T g d 28 2 ls (.int x :: .ref a :: st) h P = z_pF h.1 a 3 5 (.int x) (fun f => z_T g d 28 5 ls st (f, h.2) P) := zt_putI zi_28_2 ((congrArg (fun o => z_fl o 32) zo_28).trans zf_LatinRectangles_Grid_32)
theorem zi_28_5 : z_ins 28 5 = some (.aload_n 0, 1) := by decide +kernel
theorem ze_28_5 : z_T g d 28 5 (.ref a :: ls) st h P = z_T g d 28 6 (.ref a :: ls) (.ref a :: st) h P := zt_aloadn zi_28_5 rfl rfl
theorem zi_28_6 : z_ins 28 6 = some (.iload_n 2, 1) := by decide +kernel
theorem ze_28_6 : z_T g d 28 6 (v0 :: v1 :: .int x :: ls) st h P = z_T g d 28 7 (v0 :: v1 :: .int x :: ls) (.int x :: st) h P := zt_iloadn zi_28_6 rfl rfl
theorem zi_28_7 : z_ins 28 7 = some (.putfield 36, 3) := by decide +kernel
theorem ze_28_7 : z_T g d 28 7 ls (.int x :: .ref a :: st) h P = z_pF h.1 a 3 6 (.int x) (fun f => z_T g d 28 10 ls st (f, h.2) P) := zt_putI zi_28_7 ((congrArg (fun o => z_fl o 36) zo_28).trans zf_LatinRectangles_Grid_36)
theorem zi_28_10 : z_ins 28 10 = some (.aload_n 0, 1) := by decide +kernel
theorem ze_28_10 : z_T g d 28 10 (.ref a :: ls) st h P = z_T g d 28 11 (.ref a :: ls) (.ref a :: st) h P := zt_aloadn zi_28_10 rfl rfl
theorem zi_28_11 : z_ins 28 11 = some (.iconst 0, 1) := by decide +kernel
theorem ze_28_11 : z_T g d 28 11 ls st h P = z_T g d 28 12 ls (.int (nI 0) :: st) h P := zt_iconst zi_28_11 rfl
theorem zi_28_12 : z_ins 28 12 = some (.putfield 39, 3) := by decide +kernel
theorem ze_28_12 : z_T g d 28 12 ls (.int x :: .ref a :: st) h P = z_pF h.1 a 3 8 (.int x) (fun f => z_T g d 28 15 ls st (f, h.2) P) := zt_putI zi_28_12 ((congrArg (fun o => z_fl o 39) zo_28).trans zf_LatinRectangles_Grid_39)
theorem zi_28_15 : z_ins 28 15 = some (.aload_n 0, 1) := by decide +kernel
theorem ze_28_15 : z_T g d 28 15 (.ref a :: ls) st h P = z_T g d 28 16 (.ref a :: ls) (.ref a :: st) h P := zt_aloadn zi_28_15 rfl rfl
theorem zi_28_16 : z_ins 28 16 = some (.iconst 0, 1) := by decide +kernel
theorem ze_28_16 : z_T g d 28 16 ls st h P = z_T g d 28 17 ls (.int (nI 0) :: st) h P := zt_iconst zi_28_16 rfl
theorem zi_28_17 : z_ins 28 17 = some (.putfield 42, 3) := by decide +kernel
theorem ze_28_17 : z_T g d 28 17 ls (.int x :: .ref a :: st) h P = z_pF h.1 a 3 9 (.int x) (fun f => z_T g d 28 20 ls st (f, h.2) P) := zt_putI zi_28_17 ((congrArg (fun o => z_fl o 42) zo_28).trans zf_LatinRectangles_Grid_42)
theorem zi_28_20 : z_ins 28 20 = some (.iconst 0, 1) := by decide +kernel
theorem ze_28_20 : z_T g d 28 20 ls st h P = z_T g d 28 21 ls (.int (nI 0) :: st) h P := zt_iconst zi_28_20 rfl
theorem zi_28_21 : z_ins 28 21 = some (.istore_n 3, 1) := by decide +kernel
theorem ze_28_21 : z_T g d 28 21 (v0 :: v1 :: v2 :: v3 :: ls) (.int x :: st) h P = z_T g d 28 22 (v0 :: v1 :: v2 :: .int x :: ls) st h P := zt_istoren zi_28_21 rfl (Nat.le_add_left 4 _)
theorem zi_28_22 : z_ins 28 22 = some (.iload_n 3, 1) := by decide +kernel
theorem ze_28_22 : z_T g d 28 22 (v0 :: v1 :: v2 :: .int x :: ls) st h P = z_T g d 28 23 (v0 :: v1 :: v2 :: .int x :: ls) (.int x :: st) h P := zt_iloadn zi_28_22 rfl rfl
theorem zi_28_23 : z_ins 28 23 = some (.bipush 25, 2) := by decide +kernel
theorem ze_28_23 : z_T g d 28 23 ls st h P = z_T g d 28 25 ls (.int (nI 25) :: st) h P := zt_bipush zi_28_23 rfl
theorem zi_28_25 : z_ins 28 25 = some (.if_icmp .ge 23, 3) := by decide +kernel
theorem ze_28_25 : z_T g d 28 25 ls (.int y :: .int x :: st) h P = (if x < y then z_T g d 28 28 ls st h P else z_T g d 28 48 ls st h P) := zt_icmpge zi_28_25 (by decide)
theorem zi_28_28 : z_ins 28 28 = some (.aload_n 0, 1) := by decide +kernel
theorem ze_28_28 : z_T g d 28 28 (.ref a :: ls) st h P = z_T g d 28 29 (.ref a :: ls) (.ref a :: st) h P := zt_aloadn zi_28_28 rfl rfl
theorem zi_28_29 : z_ins 28 29 = some (.getfield 15, 3) := by decide +kernel
theorem ze_28_29 : z_T g d 28 29 ls (.ref a :: st) h P = z_gR h.1 a 3 1 (fun x => z_T g d 28 32 ls (.ref x :: st) h P) := zt_getR zi_28_29 ((congrArg (fun o => z_fl o 15) zo_28).trans zf_LatinRectangles_Grid_15)
theorem zi_28_32 : z_ins 28 32 = some (.iload_n 3, 1) := by decide +kernel
theorem ze_28_32 : z_T g d 28 32 (v0 :: v1 :: v2 :: .int x :: ls) st h P = z_T g d 28 33 (v0 :: v1 :: v2 :: .int x :: ls) (.int x :: st) h P := zt_iloadn zi_28_32 rfl rfl
theorem zi_28_33 : z_ins 28 33 = some (.iconst 0, 1) := by decide +kernel
theorem ze_28_33 : z_T g d 28 33 ls st h P = z_T g d 28 34 ls (.int (nI 0) :: st) h P := zt_iconst zi_28_33 rfl
theorem zi_28_34 : z_ins 28 34 = some (.bastore, 1) := by decide +kernel
theorem ze_28_34 : z_T g d 28 34 ls (.int y :: .int x :: .ref a :: st) h P = z_aS h.1 a z_tB x y (fun f => z_T g d 28 35 ls st (f, h.2) P) := zt_bastore zi_28_34
theorem zi_28_35 : z_ins 28 35 = some (.aload_n 0, 1) := by decide +kernel
theorem ze_28_35 : z_T g d 28 35 (.ref a :: ls) st h P = z_T g d 28 36 (.ref a :: ls) (.ref a :: st) h P := zt_aloadn zi_28_35 rfl rfl
theorem zi_28_36 : z_ins 28 36 = some (.getfield 19, 3) := by decide +kernel
theorem ze_28_36 : z_T g d 28 36 ls (.ref a :: st) h P = z_gR h.1 a 3 2 (fun x => z_T g d 28 39 ls (.ref x :: st) h P) := zt_getR zi_28_36 ((congrArg (fun o => z_fl o 19) zo_28).trans zf_LatinRectangles_Grid_19)
theorem zi_28_39 : z_ins 28 39 = some (.iload_n 3, 1) := by decide +kernel
theorem ze_28_39 : z_T g d 28 39 (v0 :: v1 :: v2 :: .int x :: ls) st h P = z_T g d 28 40 (v0 :: v1 :: v2 :: .int x :: ls) (.int x :: st) h P := zt_iloadn zi_28_39 rfl rfl
theorem zi_28_40 : z_ins 28 40 = some (.iconst 0, 1) := by decide +kernel
theorem ze_28_40 : z_T g d 28 40 ls st h P = z_T g d 28 41 ls (.int (nI 0) :: st) h P := zt_iconst zi_28_40 rfl
theorem zi_28_41 : z_ins 28 41 = some (.iastore, 1) := by decide +kernel
theorem ze_28_41 : z_T g d 28 41 ls (.int y :: .int x :: .ref a :: st) h P = z_aS h.1 a z_tI x y (fun f => z_T g d 28 42 ls st (f, h.2) P) := zt_iastore zi_28_41
theorem zi_28_42 : z_ins 28 42 = some (.iinc 3 1, 3) := by decide +kernel
theorem ze_28_42 : z_T g d 28 42 (v0 :: v1 :: v2 :: .int x :: ls) st h P = z_T g d 28 45 (v0 :: v1 :: v2 :: .int (x + (nI 1)) :: ls) st h P := zt_iinc zi_28_42 rfl rfl
theorem zi_28_45 : z_ins 28 45 = some (.goto (-23), 3) := by decide +kernel
theorem ze_28_45 : z_T g d 28 45 ls st h P = z_T g d 28 22 ls st h P := zt_goto zi_28_45 (by decide)
theorem zi_28_48 : z_ins 28 48 = some (.aload_n 0, 1) := by decide +kernel
theorem ze_28_48 : z_T g d 28 48 (.ref a :: ls) st h P = z_T g d 28 49 (.ref a :: ls) (.ref a :: st) h P := zt_aloadn zi_28_48 rfl rfl
theorem zi_28_49 : z_ins 28 49 = some (.invokevirtual 45, 3) := by decide +kernel
theorem ze_28_49 : z_T g d 28 49 ls (.ref a :: st) h P = ((z_okS 8 st = true ∧ z_gO h.1 a 3 ∧ 0 < d) ∧ z_Ca g (d - 1) 29 [.ref a] h (fun r => z_k r (fun v h' => z_T g d 28 52 ls (z_push v st) h' P) P)) := zt_callV (as := []) zi_28_49 ((congrArg (fun o => z_lookup z_prs (o, 45)) zo_28).trans zp_LatinRectangles_Grid_45) ((congrArg (fun o => z_clk o 45) zo_28).trans zk_LatinRectangles_Grid_45) zh_28 zc_29 rfl rfl rfl
theorem zi_28_52 : z_ins 28 52 = some (.return_, 1) := by decide +kernel
theorem ze_28_52 : z_T g d 28 52 ls [] h P = P (.inr none, h) := zt_return zi_28_52 zr_28
-- LatinRectangles$Grid.clearCells()V
theorem zo_29 : z_own 29 = "LatinRectangles$Grid" := by decide +kernel
theorem zm_29 : z_maxL 29 = 2 := by decide +kernel
theorem zh_29 : z_hds 29 = [] := by decide +kernel
theorem zr_29 : z_rt 29 = none := by decide +kernel
theorem zn_29 : z_Ca g d 29 [.ref a0] h P = z_T g d 29 0 [.ref a0, z_un] [] h P := z_Ca_ent zm_29 rfl rfl
theorem zi_29_0 : z_ins 29 0 = some (.aload_n 0, 1) := by decide +kernel
theorem ze_29_0 : z_T g d 29 0 (.ref a :: ls) st h P = z_T g d 29 1 (.ref a :: ls) (.ref a :: st) h P := zt_aloadn zi_29_0 rfl rfl
theorem zi_29_1 : z_ins 29 1 = some (.iconst 0, 1) := by decide +kernel
theorem ze_29_1 : z_T g d 29 1 ls st h P = z_T g d 29 2 ls (.int (nI 0) :: st) h P := zt_iconst zi_29_1 rfl
theorem zi_29_2 : z_ins 29 2 = some (.putfield 48, 3) := by decide +kernel
theorem ze_29_2 : z_T g d 29 2 ls (.int x :: .ref a :: st) h P = z_pF h.1 a 3 7 (.int x) (fun f => z_T g d 29 5 ls st (f, h.2) P) := zt_putI zi_29_2 ((congrArg (fun o => z_fl o 48) zo_29).trans zf_LatinRectangles_Grid_48)
theorem zi_29_5 : z_ins 29 5 = some (.iconst 0, 1) := by decide +kernel
theorem ze_29_5 : z_T g d 29 5 ls st h P = z_T g d 29 6 ls (.int (nI 0) :: st) h P := zt_iconst zi_29_5 rfl
theorem zi_29_6 : z_ins 29 6 = some (.istore_n 1, 1) := by decide +kernel
theorem ze_29_6 : z_T g d 29 6 (v0 :: v1 :: ls) (.int x :: st) h P = z_T g d 29 7 (v0 :: .int x :: ls) st h P := zt_istoren zi_29_6 rfl (Nat.le_add_left 2 _)
theorem zi_29_7 : z_ins 29 7 = some (.iload_n 1, 1) := by decide +kernel
theorem ze_29_7 : z_T g d 29 7 (v0 :: .int x :: ls) st h P = z_T g d 29 8 (v0 :: .int x :: ls) (.int x :: st) h P := zt_iloadn zi_29_7 rfl rfl
theorem zi_29_8 : z_ins 29 8 = some (.bipush 25, 2) := by decide +kernel
theorem ze_29_8 : z_T g d 29 8 ls st h P = z_T g d 29 10 ls (.int (nI 25) :: st) h P := zt_bipush zi_29_8 rfl
theorem zi_29_10 : z_ins 29 10 = some (.if_icmp .ge 16, 3) := by decide +kernel
theorem ze_29_10 : z_T g d 29 10 ls (.int y :: .int x :: st) h P = (if x < y then z_T g d 29 13 ls st h P else z_T g d 29 26 ls st h P) := zt_icmpge zi_29_10 (by decide)
theorem zi_29_13 : z_ins 29 13 = some (.aload_n 0, 1) := by decide +kernel
theorem ze_29_13 : z_T g d 29 13 (.ref a :: ls) st h P = z_T g d 29 14 (.ref a :: ls) (.ref a :: st) h P := zt_aloadn zi_29_13 rfl rfl
theorem zi_29_14 : z_ins 29 14 = some (.getfield 9, 3) := by decide +kernel
theorem ze_29_14 : z_T g d 29 14 ls (.ref a :: st) h P = z_gR h.1 a 3 0 (fun x => z_T g d 29 17 ls (.ref x :: st) h P) := zt_getR zi_29_14 ((congrArg (fun o => z_fl o 9) zo_29).trans zf_LatinRectangles_Grid_9)
theorem zi_29_17 : z_ins 29 17 = some (.iload_n 1, 1) := by decide +kernel
theorem ze_29_17 : z_T g d 29 17 (v0 :: .int x :: ls) st h P = z_T g d 29 18 (v0 :: .int x :: ls) (.int x :: st) h P := zt_iloadn zi_29_17 rfl rfl
theorem zi_29_18 : z_ins 29 18 = some (.iconst (-1), 1) := by decide +kernel
theorem ze_29_18 : z_T g d 29 18 ls st h P = z_T g d 29 19 ls (.int (-1) :: st) h P := zt_iconst zi_29_18 rfl
theorem zi_29_19 : z_ins 29 19 = some (.iastore, 1) := by decide +kernel
theorem ze_29_19 : z_T g d 29 19 ls (.int y :: .int x :: .ref a :: st) h P = z_aS h.1 a z_tI x y (fun f => z_T g d 29 20 ls st (f, h.2) P) := zt_iastore zi_29_19
theorem zi_29_20 : z_ins 29 20 = some (.iinc 1 1, 3) := by decide +kernel
theorem ze_29_20 : z_T g d 29 20 (v0 :: .int x :: ls) st h P = z_T g d 29 23 (v0 :: .int (x + (nI 1)) :: ls) st h P := zt_iinc zi_29_20 rfl rfl
theorem zi_29_23 : z_ins 29 23 = some (.goto (-16), 3) := by decide +kernel
theorem ze_29_23 : z_T g d 29 23 ls st h P = z_T g d 29 7 ls st h P := zt_goto zi_29_23 (by decide)
theorem zi_29_26 : z_ins 29 26 = some (.iconst 0, 1) := by decide +kernel
theorem ze_29_26 : z_T g d 29 26 ls st h P = z_T g d 29 27 ls (.int (nI 0) :: st) h P := zt_iconst zi_29_26 rfl
theorem zi_29_27 : z_ins 29 27 = some (.istore_n 1, 1) := by decide +kernel
theorem ze_29_27 : z_T g d 29 27 (v0 :: v1 :: ls) (.int x :: st) h P = z_T g d 29 28 (v0 :: .int x :: ls) st h P := zt_istoren zi_29_27 rfl (Nat.le_add_left 2 _)
theorem zi_29_28 : z_ins 29 28 = some (.iload_n 1, 1) := by decide +kernel
theorem ze_29_28 : z_T g d 29 28 (v0 :: .int x :: ls) st h P = z_T g d 29 29 (v0 :: .int x :: ls) (.int x :: st) h P := zt_iloadn zi_29_28 rfl rfl
theorem zi_29_29 : z_ins 29 29 = some (.iconst 5, 1) := by decide +kernel
theorem ze_29_29 : z_T g d 29 29 ls st h P = z_T g d 29 30 ls (.int (nI 5) :: st) h P := zt_iconst zi_29_29 rfl
theorem zi_29_30 : z_ins 29 30 = some (.if_icmp .ge 23, 3) := by decide +kernel
theorem ze_29_30 : z_T g d 29 30 ls (.int y :: .int x :: st) h P = (if x < y then z_T g d 29 33 ls st h P else z_T g d 29 53 ls st h P) := zt_icmpge zi_29_30 (by decide)
theorem zi_29_33 : z_ins 29 33 = some (.aload_n 0, 1) := by decide +kernel
theorem ze_29_33 : z_T g d 29 33 (.ref a :: ls) st h P = z_T g d 29 34 (.ref a :: ls) (.ref a :: st) h P := zt_aloadn zi_29_33 rfl rfl
theorem zi_29_34 : z_ins 29 34 = some (.getfield 22, 3) := by decide +kernel
theorem ze_29_34 : z_T g d 29 34 ls (.ref a :: st) h P = z_gR h.1 a 3 3 (fun x => z_T g d 29 37 ls (.ref x :: st) h P) := zt_getR zi_29_34 ((congrArg (fun o => z_fl o 22) zo_29).trans zf_LatinRectangles_Grid_22)
theorem zi_29_37 : z_ins 29 37 = some (.iload_n 1, 1) := by decide +kernel
theorem ze_29_37 : z_T g d 29 37 (v0 :: .int x :: ls) st h P = z_T g d 29 38 (v0 :: .int x :: ls) (.int x :: st) h P := zt_iloadn zi_29_37 rfl rfl
theorem zi_29_38 : z_ins 29 38 = some (.iconst 0, 1) := by decide +kernel
theorem ze_29_38 : z_T g d 29 38 ls st h P = z_T g d 29 39 ls (.int (nI 0) :: st) h P := zt_iconst zi_29_38 rfl
theorem zi_29_39 : z_ins 29 39 = some (.iastore, 1) := by decide +kernel
theorem ze_29_39 : z_T g d 29 39 ls (.int y :: .int x :: .ref a :: st) h P = z_aS h.1 a z_tI x y (fun f => z_T g d 29 40 ls st (f, h.2) P) := zt_iastore zi_29_39
theorem zi_29_40 : z_ins 29 40 = some (.aload_n 0, 1) := by decide +kernel
theorem ze_29_40 : z_T g d 29 40 (.ref a :: ls) st h P = z_T g d 29 41 (.ref a :: ls) (.ref a :: st) h P := zt_aloadn zi_29_40 rfl rfl
theorem zi_29_41 : z_ins 29 41 = some (.getfield 25, 3) := by decide +kernel
theorem ze_29_41 : z_T g d 29 41 ls (.ref a :: st) h P = z_gR h.1 a 3 4 (fun x => z_T g d 29 44 ls (.ref x :: st) h P) := zt_getR zi_29_41 ((congrArg (fun o => z_fl o 25) zo_29).trans zf_LatinRectangles_Grid_25)
theorem zi_29_44 : z_ins 29 44 = some (.iload_n 1, 1) := by decide +kernel
theorem ze_29_44 : z_T g d 29 44 (v0 :: .int x :: ls) st h P = z_T g d 29 45 (v0 :: .int x :: ls) (.int x :: st) h P := zt_iloadn zi_29_44 rfl rfl
theorem zi_29_45 : z_ins 29 45 = some (.iconst 0, 1) := by decide +kernel
theorem ze_29_45 : z_T g d 29 45 ls st h P = z_T g d 29 46 ls (.int (nI 0) :: st) h P := zt_iconst zi_29_45 rfl
theorem zi_29_46 : z_ins 29 46 = some (.iastore, 1) := by decide +kernel
theorem ze_29_46 : z_T g d 29 46 ls (.int y :: .int x :: .ref a :: st) h P = z_aS h.1 a z_tI x y (fun f => z_T g d 29 47 ls st (f, h.2) P) := zt_iastore zi_29_46
theorem zi_29_47 : z_ins 29 47 = some (.iinc 1 1, 3) := by decide +kernel
theorem ze_29_47 : z_T g d 29 47 (v0 :: .int x :: ls) st h P = z_T g d 29 50 (v0 :: .int (x + (nI 1)) :: ls) st h P := zt_iinc zi_29_47 rfl rfl
theorem zi_29_50 : z_ins 29 50 = some (.goto (-22), 3) := by decide +kernel
theorem ze_29_50 : z_T g d 29 50 ls st h P = z_T g d 29 28 ls st h P := zt_goto zi_29_50 (by decide)
theorem zi_29_53 : z_ins 29 53 = some (.return_, 1) := by decide +kernel
theorem ze_29_53 : z_T g d 29 53 ls [] h P = P (.inr none, h) := zt_return zi_29_53 zr_29
-- LatinRectangles$Grid.copyFrom(LLatinRectangles$Grid;)V
theorem zo_30 : z_own 30 = "LatinRectangles$Grid" := by decide +kernel
theorem zm_30 : z_maxL 30 = 3 := by decide +kernel
theorem zh_30 : z_hds 30 = [] := by decide +kernel
theorem zr_30 : z_rt 30 = none := by decide +kernel
theorem zn_30 : z_Ca g d 30 [.ref a0, .ref a1] h P = z_T g d 30 0 [.ref a0, .ref a1, z_un] [] h P := z_Ca_ent zm_30 rfl rfl
theorem zi_30_0 : z_ins 30 0 = some (.aload_n 0, 1) := by decide +kernel
theorem ze_30_0 : z_T g d 30 0 (.ref a :: ls) st h P = z_T g d 30 1 (.ref a :: ls) (.ref a :: st) h P := zt_aloadn zi_30_0 rfl rfl
theorem zi_30_1 : z_ins 30 1 = some (.aload_n 1, 1) := by decide +kernel
theorem ze_30_1 : z_T g d 30 1 (v0 :: .ref a :: ls) st h P = z_T g d 30 2 (v0 :: .ref a :: ls) (.ref a :: st) h P := zt_aloadn zi_30_1 rfl rfl
theorem zi_30_2 : z_ins 30 2 = some (.getfield 32, 3) := by decide +kernel
theorem ze_30_2 : z_T g d 30 2 ls (.ref a :: st) h P = z_gI h.1 a 3 5 (fun x => z_T g d 30 5 ls (.int x :: st) h P) := zt_getI zi_30_2 ((congrArg (fun o => z_fl o 32) zo_30).trans zf_LatinRectangles_Grid_32)
theorem zi_30_5 : z_ins 30 5 = some (.putfield 32, 3) := by decide +kernel
theorem ze_30_5 : z_T g d 30 5 ls (.int x :: .ref a :: st) h P = z_pF h.1 a 3 5 (.int x) (fun f => z_T g d 30 8 ls st (f, h.2) P) := zt_putI zi_30_5 ((congrArg (fun o => z_fl o 32) zo_30).trans zf_LatinRectangles_Grid_32)
theorem zi_30_8 : z_ins 30 8 = some (.aload_n 0, 1) := by decide +kernel
theorem ze_30_8 : z_T g d 30 8 (.ref a :: ls) st h P = z_T g d 30 9 (.ref a :: ls) (.ref a :: st) h P := zt_aloadn zi_30_8 rfl rfl
theorem zi_30_9 : z_ins 30 9 = some (.aload_n 1, 1) := by decide +kernel
theorem ze_30_9 : z_T g d 30 9 (v0 :: .ref a :: ls) st h P = z_T g d 30 10 (v0 :: .ref a :: ls) (.ref a :: st) h P := zt_aloadn zi_30_9 rfl rfl
theorem zi_30_10 : z_ins 30 10 = some (.getfield 36, 3) := by decide +kernel
theorem ze_30_10 : z_T g d 30 10 ls (.ref a :: st) h P = z_gI h.1 a 3 6 (fun x => z_T g d 30 13 ls (.int x :: st) h P) := zt_getI zi_30_10 ((congrArg (fun o => z_fl o 36) zo_30).trans zf_LatinRectangles_Grid_36)
theorem zi_30_13 : z_ins 30 13 = some (.putfield 36, 3) := by decide +kernel
theorem ze_30_13 : z_T g d 30 13 ls (.int x :: .ref a :: st) h P = z_pF h.1 a 3 6 (.int x) (fun f => z_T g d 30 16 ls st (f, h.2) P) := zt_putI zi_30_13 ((congrArg (fun o => z_fl o 36) zo_30).trans zf_LatinRectangles_Grid_36)
theorem zi_30_16 : z_ins 30 16 = some (.aload_n 0, 1) := by decide +kernel
theorem ze_30_16 : z_T g d 30 16 (.ref a :: ls) st h P = z_T g d 30 17 (.ref a :: ls) (.ref a :: st) h P := zt_aloadn zi_30_16 rfl rfl
theorem zi_30_17 : z_ins 30 17 = some (.aload_n 1, 1) := by decide +kernel
theorem ze_30_17 : z_T g d 30 17 (v0 :: .ref a :: ls) st h P = z_T g d 30 18 (v0 :: .ref a :: ls) (.ref a :: st) h P := zt_aloadn zi_30_17 rfl rfl
theorem zi_30_18 : z_ins 30 18 = some (.getfield 39, 3) := by decide +kernel
theorem ze_30_18 : z_T g d 30 18 ls (.ref a :: st) h P = z_gI h.1 a 3 8 (fun x => z_T g d 30 21 ls (.int x :: st) h P) := zt_getI zi_30_18 ((congrArg (fun o => z_fl o 39) zo_30).trans zf_LatinRectangles_Grid_39)
theorem zi_30_21 : z_ins 30 21 = some (.putfield 39, 3) := by decide +kernel
theorem ze_30_21 : z_T g d 30 21 ls (.int x :: .ref a :: st) h P = z_pF h.1 a 3 8 (.int x) (fun f => z_T g d 30 24 ls st (f, h.2) P) := zt_putI zi_30_21 ((congrArg (fun o => z_fl o 39) zo_30).trans zf_LatinRectangles_Grid_39)
theorem zi_30_24 : z_ins 30 24 = some (.aload_n 0, 1) := by decide +kernel
theorem ze_30_24 : z_T g d 30 24 (.ref a :: ls) st h P = z_T g d 30 25 (.ref a :: ls) (.ref a :: st) h P := zt_aloadn zi_30_24 rfl rfl
theorem zi_30_25 : z_ins 30 25 = some (.aload_n 1, 1) := by decide +kernel
theorem ze_30_25 : z_T g d 30 25 (v0 :: .ref a :: ls) st h P = z_T g d 30 26 (v0 :: .ref a :: ls) (.ref a :: st) h P := zt_aloadn zi_30_25 rfl rfl
theorem zi_30_26 : z_ins 30 26 = some (.getfield 42, 3) := by decide +kernel
theorem ze_30_26 : z_T g d 30 26 ls (.ref a :: st) h P = z_gI h.1 a 3 9 (fun x => z_T g d 30 29 ls (.int x :: st) h P) := zt_getI zi_30_26 ((congrArg (fun o => z_fl o 42) zo_30).trans zf_LatinRectangles_Grid_42)
theorem zi_30_29 : z_ins 30 29 = some (.putfield 42, 3) := by decide +kernel
theorem ze_30_29 : z_T g d 30 29 ls (.int x :: .ref a :: st) h P = z_pF h.1 a 3 9 (.int x) (fun f => z_T g d 30 32 ls st (f, h.2) P) := zt_putI zi_30_29 ((congrArg (fun o => z_fl o 42) zo_30).trans zf_LatinRectangles_Grid_42)
theorem zi_30_32 : z_ins 30 32 = some (.iconst 0, 1) := by decide +kernel
theorem ze_30_32 : z_T g d 30 32 ls st h P = z_T g d 30 33 ls (.int (nI 0) :: st) h P := zt_iconst zi_30_32 rfl
theorem zi_30_33 : z_ins 30 33 = some (.istore_n 2, 1) := by decide +kernel
theorem ze_30_33 : z_T g d 30 33 (v0 :: v1 :: v2 :: ls) (.int x :: st) h P = z_T g d 30 34 (v0 :: v1 :: .int x :: ls) st h P := zt_istoren zi_30_33 rfl (Nat.le_add_left 3 _)
theorem zi_30_34 : z_ins 30 34 = some (.iload_n 2, 1) := by decide +kernel
theorem ze_30_34 : z_T g d 30 34 (v0 :: v1 :: .int x :: ls) st h P = z_T g d 30 35 (v0 :: v1 :: .int x :: ls) (.int x :: st) h P := zt_iloadn zi_30_34 rfl rfl
theorem zi_30_35 : z_ins 30 35 = some (.bipush 25, 2) := by decide +kernel
theorem ze_30_35 : z_T g d 30 35 ls st h P = z_T g d 30 37 ls (.int (nI 25) :: st) h P := zt_bipush zi_30_35 rfl
theorem zi_30_37 : z_ins 30 37 = some (.if_icmp .ge 33, 3) := by decide +kernel
theorem ze_30_37 : z_T g d 30 37 ls (.int y :: .int x :: st) h P = (if x < y then z_T g d 30 40 ls st h P else z_T g d 30 70 ls st h P) := zt_icmpge zi_30_37 (by decide)
theorem zi_30_40 : z_ins 30 40 = some (.aload_n 0, 1) := by decide +kernel
theorem ze_30_40 : z_T g d 30 40 (.ref a :: ls) st h P = z_T g d 30 41 (.ref a :: ls) (.ref a :: st) h P := zt_aloadn zi_30_40 rfl rfl
theorem zi_30_41 : z_ins 30 41 = some (.getfield 15, 3) := by decide +kernel
theorem ze_30_41 : z_T g d 30 41 ls (.ref a :: st) h P = z_gR h.1 a 3 1 (fun x => z_T g d 30 44 ls (.ref x :: st) h P) := zt_getR zi_30_41 ((congrArg (fun o => z_fl o 15) zo_30).trans zf_LatinRectangles_Grid_15)
theorem zi_30_44 : z_ins 30 44 = some (.iload_n 2, 1) := by decide +kernel
theorem ze_30_44 : z_T g d 30 44 (v0 :: v1 :: .int x :: ls) st h P = z_T g d 30 45 (v0 :: v1 :: .int x :: ls) (.int x :: st) h P := zt_iloadn zi_30_44 rfl rfl
theorem zi_30_45 : z_ins 30 45 = some (.aload_n 1, 1) := by decide +kernel
theorem ze_30_45 : z_T g d 30 45 (v0 :: .ref a :: ls) st h P = z_T g d 30 46 (v0 :: .ref a :: ls) (.ref a :: st) h P := zt_aloadn zi_30_45 rfl rfl
theorem zi_30_46 : z_ins 30 46 = some (.getfield 15, 3) := by decide +kernel
theorem ze_30_46 : z_T g d 30 46 ls (.ref a :: st) h P = z_gR h.1 a 3 1 (fun x => z_T g d 30 49 ls (.ref x :: st) h P) := zt_getR zi_30_46 ((congrArg (fun o => z_fl o 15) zo_30).trans zf_LatinRectangles_Grid_15)
theorem zi_30_49 : z_ins 30 49 = some (.iload_n 2, 1) := by decide +kernel
theorem ze_30_49 : z_T g d 30 49 (v0 :: v1 :: .int x :: ls) st h P = z_T g d 30 50 (v0 :: v1 :: .int x :: ls) (.int x :: st) h P := zt_iloadn zi_30_49 rfl rfl
theorem zi_30_50 : z_ins 30 50 = some (.baload, 1) := by decide +kernel
theorem ze_30_50 : z_T g d 30 50 ls (.int x :: .ref a :: st) h P = z_aL h.1 a z_tB x (fun v => z_T g d 30 51 ls (.int v :: st) h P) := zt_baload zi_30_50
theorem zi_30_51 : z_ins 30 51 = some (.bastore, 1) := by decide +kernel
theorem ze_30_51 : z_T g d 30 51 ls (.int y :: .int x :: .ref a :: st) h P = z_aS h.1 a z_tB x y (fun f => z_T g d 30 52 ls st (f, h.2) P) := zt_bastore zi_30_51
theorem zi_30_52 : z_ins 30 52 = some (.aload_n 0, 1) := by decide +kernel
theorem ze_30_52 : z_T g d 30 52 (.ref a :: ls) st h P = z_T g d 30 53 (.ref a :: ls) (.ref a :: st) h P := zt_aloadn zi_30_52 rfl rfl
theorem zi_30_53 : z_ins 30 53 = some (.getfield 19, 3) := by decide +kernel
theorem ze_30_53 : z_T g d 30 53 ls (.ref a :: st) h P = z_gR h.1 a 3 2 (fun x => z_T g d 30 56 ls (.ref x :: st) h P) := zt_getR zi_30_53 ((congrArg (fun o => z_fl o 19) zo_30).trans zf_LatinRectangles_Grid_19)
theorem zi_30_56 : z_ins 30 56 = some (.iload_n 2, 1) := by decide +kernel
theorem ze_30_56 : z_T g d 30 56 (v0 :: v1 :: .int x :: ls) st h P = z_T g d 30 57 (v0 :: v1 :: .int x :: ls) (.int x :: st) h P := zt_iloadn zi_30_56 rfl rfl
theorem zi_30_57 : z_ins 30 57 = some (.aload_n 1, 1) := by decide +kernel
theorem ze_30_57 : z_T g d 30 57 (v0 :: .ref a :: ls) st h P = z_T g d 30 58 (v0 :: .ref a :: ls) (.ref a :: st) h P := zt_aloadn zi_30_57 rfl rfl
theorem zi_30_58 : z_ins 30 58 = some (.getfield 19, 3) := by decide +kernel
theorem ze_30_58 : z_T g d 30 58 ls (.ref a :: st) h P = z_gR h.1 a 3 2 (fun x => z_T g d 30 61 ls (.ref x :: st) h P) := zt_getR zi_30_58 ((congrArg (fun o => z_fl o 19) zo_30).trans zf_LatinRectangles_Grid_19)
theorem zi_30_61 : z_ins 30 61 = some (.iload_n 2, 1) := by decide +kernel
theorem ze_30_61 : z_T g d 30 61 (v0 :: v1 :: .int x :: ls) st h P = z_T g d 30 62 (v0 :: v1 :: .int x :: ls) (.int x :: st) h P := zt_iloadn zi_30_61 rfl rfl
theorem zi_30_62 : z_ins 30 62 = some (.iaload, 1) := by decide +kernel
theorem ze_30_62 : z_T g d 30 62 ls (.int x :: .ref a :: st) h P = z_aL h.1 a z_tI x (fun v => z_T g d 30 63 ls (.int v :: st) h P) := zt_iaload zi_30_62
theorem zi_30_63 : z_ins 30 63 = some (.iastore, 1) := by decide +kernel
theorem ze_30_63 : z_T g d 30 63 ls (.int y :: .int x :: .ref a :: st) h P = z_aS h.1 a z_tI x y (fun f => z_T g d 30 64 ls st (f, h.2) P) := zt_iastore zi_30_63
theorem zi_30_64 : z_ins 30 64 = some (.iinc 2 1, 3) := by decide +kernel
theorem ze_30_64 : z_T g d 30 64 (v0 :: v1 :: .int x :: ls) st h P = z_T g d 30 67 (v0 :: v1 :: .int (x + (nI 1)) :: ls) st h P := zt_iinc zi_30_64 rfl rfl
theorem zi_30_67 : z_ins 30 67 = some (.goto (-33), 3) := by decide +kernel
theorem ze_30_67 : z_T g d 30 67 ls st h P = z_T g d 30 34 ls st h P := zt_goto zi_30_67 (by decide)
theorem zi_30_70 : z_ins 30 70 = some (.aload_n 0, 1) := by decide +kernel
theorem ze_30_70 : z_T g d 30 70 (.ref a :: ls) st h P = z_T g d 30 71 (.ref a :: ls) (.ref a :: st) h P := zt_aloadn zi_30_70 rfl rfl
theorem zi_30_71 : z_ins 30 71 = some (.aload_n 1, 1) := by decide +kernel
theorem ze_30_71 : z_T g d 30 71 (v0 :: .ref a :: ls) st h P = z_T g d 30 72 (v0 :: .ref a :: ls) (.ref a :: st) h P := zt_aloadn zi_30_71 rfl rfl
theorem zi_30_72 : z_ins 30 72 = some (.getfield 9, 3) := by decide +kernel
theorem ze_30_72 : z_T g d 30 72 ls (.ref a :: st) h P = z_gR h.1 a 3 0 (fun x => z_T g d 30 75 ls (.ref x :: st) h P) := zt_getR zi_30_72 ((congrArg (fun o => z_fl o 9) zo_30).trans zf_LatinRectangles_Grid_9)
theorem zi_30_75 : z_ins 30 75 = some (.invokevirtual 51, 3) := by decide +kernel
theorem ze_30_75 : z_T g d 30 75 ls (.ref a0 :: .ref a :: st) h P = ((z_okS 8 st = true ∧ z_gO h.1 a 3 ∧ 0 < d) ∧ z_Ca g (d - 1) 31 [.ref a, .ref a0] h (fun r => z_k r (fun v h' => z_T g d 30 78 ls (z_push v st) h' P) P)) := zt_callV (as := [.ref a0]) zi_30_75 ((congrArg (fun o => z_lookup z_prs (o, 51)) zo_30).trans zp_LatinRectangles_Grid_51) ((congrArg (fun o => z_clk o 51) zo_30).trans zk_LatinRectangles_Grid_51) zh_30 zc_31 rfl rfl rfl
theorem zi_30_78 : z_ins 30 78 = some (.return_, 1) := by decide +kernel
theorem ze_30_78 : z_T g d 30 78 ls [] h P = P (.inr none, h) := zt_return zi_30_78 zr_30
-- LatinRectangles$Grid.load([I)V
theorem zo_31 : z_own 31 = "LatinRectangles$Grid" := by decide +kernel
theorem zm_31 : z_maxL 31 = 5 := by decide +kernel
theorem zh_31 : z_hds 31 = [] := by decide +kernel
theorem zr_31 : z_rt 31 = none := by decide +kernel
theorem zn_31 : z_Ca g d 31 [.ref a0, .ref a1] h P = z_T g d 31 0 [.ref a0, .ref a1, z_un, z_un, z_un] [] h P := z_Ca_ent zm_31 rfl rfl
theorem zi_31_0 : z_ins 31 0 = some (.aload_n 0, 1) := by decide +kernel
theorem ze_31_0 : z_T g d 31 0 (.ref a :: ls) st h P = z_T g d 31 1 (.ref a :: ls) (.ref a :: st) h P := zt_aloadn zi_31_0 rfl rfl
theorem zi_31_1 : z_ins 31 1 = some (.invokevirtual 45, 3) := by decide +kernel
theorem ze_31_1 : z_T g d 31 1 ls (.ref a :: st) h P = ((z_okS 8 st = true ∧ z_gO h.1 a 3 ∧ 0 < d) ∧ z_Ca g (d - 1) 29 [.ref a] h (fun r => z_k r (fun v h' => z_T g d 31 4 ls (z_push v st) h' P) P)) := zt_callV (as := []) zi_31_1 ((congrArg (fun o => z_lookup z_prs (o, 45)) zo_31).trans zp_LatinRectangles_Grid_45) ((congrArg (fun o => z_clk o 45) zo_31).trans zk_LatinRectangles_Grid_45) zh_31 zc_29 rfl rfl rfl
theorem zi_31_4 : z_ins 31 4 = some (.iconst 0, 1) := by decide +kernel
theorem ze_31_4 : z_T g d 31 4 ls st h P = z_T g d 31 5 ls (.int (nI 0) :: st) h P := zt_iconst zi_31_4 rfl
theorem zi_31_5 : z_ins 31 5 = some (.istore_n 2, 1) := by decide +kernel
theorem ze_31_5 : z_T g d 31 5 (v0 :: v1 :: v2 :: ls) (.int x :: st) h P = z_T g d 31 6 (v0 :: v1 :: .int x :: ls) st h P := zt_istoren zi_31_5 rfl (Nat.le_add_left 3 _)
theorem zi_31_6 : z_ins 31 6 = some (.iload_n 2, 1) := by decide +kernel
theorem ze_31_6 : z_T g d 31 6 (v0 :: v1 :: .int x :: ls) st h P = z_T g d 31 7 (v0 :: v1 :: .int x :: ls) (.int x :: st) h P := zt_iloadn zi_31_6 rfl rfl
theorem zi_31_7 : z_ins 31 7 = some (.aload_n 0, 1) := by decide +kernel
theorem ze_31_7 : z_T g d 31 7 (.ref a :: ls) st h P = z_T g d 31 8 (.ref a :: ls) (.ref a :: st) h P := zt_aloadn zi_31_7 rfl rfl
theorem zi_31_8 : z_ins 31 8 = some (.getfield 32, 3) := by decide +kernel
theorem ze_31_8 : z_T g d 31 8 ls (.ref a :: st) h P = z_gI h.1 a 3 5 (fun x => z_T g d 31 11 ls (.int x :: st) h P) := zt_getI zi_31_8 ((congrArg (fun o => z_fl o 32) zo_31).trans zf_LatinRectangles_Grid_32)
theorem zi_31_11 : z_ins 31 11 = some (.if_icmp .ge 48, 3) := by decide +kernel
theorem ze_31_11 : z_T g d 31 11 ls (.int y :: .int x :: st) h P = (if x < y then z_T g d 31 14 ls st h P else z_T g d 31 59 ls st h P) := zt_icmpge zi_31_11 (by decide)
theorem zi_31_14 : z_ins 31 14 = some (.iconst 0, 1) := by decide +kernel
theorem ze_31_14 : z_T g d 31 14 ls st h P = z_T g d 31 15 ls (.int (nI 0) :: st) h P := zt_iconst zi_31_14 rfl
theorem zi_31_15 : z_ins 31 15 = some (.istore_n 3, 1) := by decide +kernel
theorem ze_31_15 : z_T g d 31 15 (v0 :: v1 :: v2 :: v3 :: ls) (.int x :: st) h P = z_T g d 31 16 (v0 :: v1 :: v2 :: .int x :: ls) st h P := zt_istoren zi_31_15 rfl (Nat.le_add_left 4 _)
theorem zi_31_16 : z_ins 31 16 = some (.iload_n 3, 1) := by decide +kernel
theorem ze_31_16 : z_T g d 31 16 (v0 :: v1 :: v2 :: .int x :: ls) st h P = z_T g d 31 17 (v0 :: v1 :: v2 :: .int x :: ls) (.int x :: st) h P := zt_iloadn zi_31_16 rfl rfl
theorem zi_31_17 : z_ins 31 17 = some (.aload_n 0, 1) := by decide +kernel
theorem ze_31_17 : z_T g d 31 17 (.ref a :: ls) st h P = z_T g d 31 18 (.ref a :: ls) (.ref a :: st) h P := zt_aloadn zi_31_17 rfl rfl
theorem zi_31_18 : z_ins 31 18 = some (.getfield 36, 3) := by decide +kernel
theorem ze_31_18 : z_T g d 31 18 ls (.ref a :: st) h P = z_gI h.1 a 3 6 (fun x => z_T g d 31 21 ls (.int x :: st) h P) := zt_getI zi_31_18 ((congrArg (fun o => z_fl o 36) zo_31).trans zf_LatinRectangles_Grid_36)
theorem zi_31_21 : z_ins 31 21 = some (.if_icmp .ge 32, 3) := by decide +kernel
theorem ze_31_21 : z_T g d 31 21 ls (.int y :: .int x :: st) h P = (if x < y then z_T g d 31 24 ls st h P else z_T g d 31 53 ls st h P) := zt_icmpge zi_31_21 (by decide)
theorem zi_31_24 : z_ins 31 24 = some (.aload_n 1, 1) := by decide +kernel
theorem ze_31_24 : z_T g d 31 24 (v0 :: .ref a :: ls) st h P = z_T g d 31 25 (v0 :: .ref a :: ls) (.ref a :: st) h P := zt_aloadn zi_31_24 rfl rfl
theorem zi_31_25 : z_ins 31 25 = some (.iload_n 2, 1) := by decide +kernel
theorem ze_31_25 : z_T g d 31 25 (v0 :: v1 :: .int x :: ls) st h P = z_T g d 31 26 (v0 :: v1 :: .int x :: ls) (.int x :: st) h P := zt_iloadn zi_31_25 rfl rfl
theorem zi_31_26 : z_ins 31 26 = some (.iconst 5, 1) := by decide +kernel
theorem ze_31_26 : z_T g d 31 26 ls st h P = z_T g d 31 27 ls (.int (nI 5) :: st) h P := zt_iconst zi_31_26 rfl
theorem zi_31_27 : z_ins 31 27 = some (.imul, 1) := by decide +kernel
theorem ze_31_27 : z_T g d 31 27 ls (.int y :: .int x :: st) h P = z_T g d 31 28 ls (.int (x * y) :: st) h P := zt_bin (f := fun x y => x * y) zi_31_27 rfl (fun _ _ _ => rfl)
theorem zi_31_28 : z_ins 31 28 = some (.iload_n 3, 1) := by decide +kernel
theorem ze_31_28 : z_T g d 31 28 (v0 :: v1 :: v2 :: .int x :: ls) st h P = z_T g d 31 29 (v0 :: v1 :: v2 :: .int x :: ls) (.int x :: st) h P := zt_iloadn zi_31_28 rfl rfl
theorem zi_31_29 : z_ins 31 29 = some (.iadd, 1) := by decide +kernel
theorem ze_31_29 : z_T g d 31 29 ls (.int y :: .int x :: st) h P = z_T g d 31 30 ls (.int (x + y) :: st) h P := zt_bin (f := fun x y => x + y) zi_31_29 rfl (fun _ _ _ => rfl)
theorem zi_31_30 : z_ins 31 30 = some (.iaload, 1) := by decide +kernel
theorem ze_31_30 : z_T g d 31 30 ls (.int x :: .ref a :: st) h P = z_aL h.1 a z_tI x (fun v => z_T g d 31 31 ls (.int v :: st) h P) := zt_iaload zi_31_30
theorem zi_31_31 : z_ins 31 31 = some (.istore 4, 2) := by decide +kernel
theorem ze_31_31 : z_T g d 31 31 (v0 :: v1 :: v2 :: v3 :: v4 :: ls) (.int x :: st) h P = z_T g d 31 33 (v0 :: v1 :: v2 :: v3 :: .int x :: ls) st h P := zt_istore zi_31_31 (Nat.le_add_left 5 _)
theorem zi_31_33 : z_ins 31 33 = some (.iload 4, 2) := by decide +kernel
theorem ze_31_33 : z_T g d 31 33 (v0 :: v1 :: v2 :: v3 :: .int x :: ls) st h P = z_T g d 31 35 (v0 :: v1 :: v2 :: v3 :: .int x :: ls) (.int x :: st) h P := zt_iload zi_31_33 rfl
theorem zi_31_35 : z_ins 31 35 = some (.iconst (-1), 1) := by decide +kernel
theorem ze_31_35 : z_T g d 31 35 ls st h P = z_T g d 31 36 ls (.int (-1) :: st) h P := zt_iconst zi_31_35 rfl
theorem zi_31_36 : z_ins 31 36 = some (.if_icmp .eq 11, 3) := by decide +kernel
theorem ze_31_36 : z_T g d 31 36 ls (.int y :: .int x :: st) h P = (if x = y then z_T g d 31 47 ls st h P else z_T g d 31 39 ls st h P) := zt_icmpeq zi_31_36 (by decide)
theorem zi_31_39 : z_ins 31 39 = some (.aload_n 0, 1) := by decide +kernel
theorem ze_31_39 : z_T g d 31 39 (.ref a :: ls) st h P = z_T g d 31 40 (.ref a :: ls) (.ref a :: st) h P := zt_aloadn zi_31_39 rfl rfl
theorem zi_31_40 : z_ins 31 40 = some (.iload_n 2, 1) := by decide +kernel
theorem ze_31_40 : z_T g d 31 40 (v0 :: v1 :: .int x :: ls) st h P = z_T g d 31 41 (v0 :: v1 :: .int x :: ls) (.int x :: st) h P := zt_iloadn zi_31_40 rfl rfl
theorem zi_31_41 : z_ins 31 41 = some (.iload_n 3, 1) := by decide +kernel
theorem ze_31_41 : z_T g d 31 41 (v0 :: v1 :: v2 :: .int x :: ls) st h P = z_T g d 31 42 (v0 :: v1 :: v2 :: .int x :: ls) (.int x :: st) h P := zt_iloadn zi_31_41 rfl rfl
theorem zi_31_42 : z_ins 31 42 = some (.iload 4, 2) := by decide +kernel
theorem ze_31_42 : z_T g d 31 42 (v0 :: v1 :: v2 :: v3 :: .int x :: ls) st h P = z_T g d 31 44 (v0 :: v1 :: v2 :: v3 :: .int x :: ls) (.int x :: st) h P := zt_iload zi_31_42 rfl
theorem zi_31_44 : z_ins 31 44 = some (.invokevirtual 55, 3) := by decide +kernel
theorem ze_31_44 : z_T g d 31 44 ls (.int x2 :: .int x1 :: .int x0 :: .ref a :: st) h P = ((z_okS 8 st = true ∧ z_gO h.1 a 3 ∧ 0 < d) ∧ z_Ca g (d - 1) 33 [.ref a, .int x0, .int x1, .int x2] h (fun r => z_k r (fun v h' => z_T g d 31 47 ls (z_push v st) h' P) P)) := zt_callV (as := [.int x0, .int x1, .int x2]) zi_31_44 ((congrArg (fun o => z_lookup z_prs (o, 55)) zo_31).trans zp_LatinRectangles_Grid_55) ((congrArg (fun o => z_clk o 55) zo_31).trans zk_LatinRectangles_Grid_55) zh_31 zc_33 rfl rfl rfl
theorem zi_31_47 : z_ins 31 47 = some (.iinc 3 1, 3) := by decide +kernel
theorem ze_31_47 : z_T g d 31 47 (v0 :: v1 :: v2 :: .int x :: ls) st h P = z_T g d 31 50 (v0 :: v1 :: v2 :: .int (x + (nI 1)) :: ls) st h P := zt_iinc zi_31_47 rfl rfl
theorem zi_31_50 : z_ins 31 50 = some (.goto (-34), 3) := by decide +kernel
theorem ze_31_50 : z_T g d 31 50 ls st h P = z_T g d 31 16 ls st h P := zt_goto zi_31_50 (by decide)
theorem zi_31_53 : z_ins 31 53 = some (.iinc 2 1, 3) := by decide +kernel
theorem ze_31_53 : z_T g d 31 53 (v0 :: v1 :: .int x :: ls) st h P = z_T g d 31 56 (v0 :: v1 :: .int (x + (nI 1)) :: ls) st h P := zt_iinc zi_31_53 rfl rfl
theorem zi_31_56 : z_ins 31 56 = some (.goto (-50), 3) := by decide +kernel
theorem ze_31_56 : z_T g d 31 56 ls st h P = z_T g d 31 6 ls st h P := zt_goto zi_31_56 (by decide)
theorem zi_31_59 : z_ins 31 59 = some (.return_, 1) := by decide +kernel
theorem ze_31_59 : z_T g d 31 59 ls [] h P = P (.inr none, h) := zt_return zi_31_59 zr_31
-- LatinRectangles$Grid.store([I)V
theorem zo_32 : z_own 32 = "LatinRectangles$Grid" := by decide +kernel
theorem zm_32 : z_maxL 32 = 3 := by decide +kernel
theorem zh_32 : z_hds 32 = [] := by decide +kernel
theorem zr_32 : z_rt 32 = none := by decide +kernel
theorem zn_32 : z_Ca g d 32 [.ref a0, .ref a1] h P = z_T g d 32 0 [.ref a0, .ref a1, z_un] [] h P := z_Ca_ent zm_32 rfl rfl
theorem zi_32_0 : z_ins 32 0 = some (.iconst 0, 1) := by decide +kernel
theorem ze_32_0 : z_T g d 32 0 ls st h P = z_T g d 32 1 ls (.int (nI 0) :: st) h P := zt_iconst zi_32_0 rfl
theorem zi_32_1 : z_ins 32 1 = some (.istore_n 2, 1) := by decide +kernel
theorem ze_32_1 : z_T g d 32 1 (v0 :: v1 :: v2 :: ls) (.int x :: st) h P = z_T g d 32 2 (v0 :: v1 :: .int x :: ls) st h P := zt_istoren zi_32_1 rfl (Nat.le_add_left 3 _)
theorem zi_32_2 : z_ins 32 2 = some (.iload_n 2, 1) := by decide +kernel
theorem ze_32_2 : z_T g d 32 2 (v0 :: v1 :: .int x :: ls) st h P = z_T g d 32 3 (v0 :: v1 :: .int x :: ls) (.int x :: st) h P := zt_iloadn zi_32_2 rfl rfl
theorem zi_32_3 : z_ins 32 3 = some (.bipush 25, 2) := by decide +kernel
theorem ze_32_3 : z_T g d 32 3 ls st h P = z_T g d 32 5 ls (.int (nI 25) :: st) h P := zt_bipush zi_32_3 rfl
theorem zi_32_5 : z_ins 32 5 = some (.if_icmp .ge 18, 3) := by decide +kernel
theorem ze_32_5 : z_T g d 32 5 ls (.int y :: .int x :: st) h P = (if x < y then z_T g d 32 8 ls st h P else z_T g d 32 23 ls st h P) := zt_icmpge zi_32_5 (by decide)
theorem zi_32_8 : z_ins 32 8 = some (.aload_n 1, 1) := by decide +kernel
theorem ze_32_8 : z_T g d 32 8 (v0 :: .ref a :: ls) st h P = z_T g d 32 9 (v0 :: .ref a :: ls) (.ref a :: st) h P := zt_aloadn zi_32_8 rfl rfl
theorem zi_32_9 : z_ins 32 9 = some (.iload_n 2, 1) := by decide +kernel
theorem ze_32_9 : z_T g d 32 9 (v0 :: v1 :: .int x :: ls) st h P = z_T g d 32 10 (v0 :: v1 :: .int x :: ls) (.int x :: st) h P := zt_iloadn zi_32_9 rfl rfl
theorem zi_32_10 : z_ins 32 10 = some (.aload_n 0, 1) := by decide +kernel
theorem ze_32_10 : z_T g d 32 10 (.ref a :: ls) st h P = z_T g d 32 11 (.ref a :: ls) (.ref a :: st) h P := zt_aloadn zi_32_10 rfl rfl
theorem zi_32_11 : z_ins 32 11 = some (.getfield 9, 3) := by decide +kernel
theorem ze_32_11 : z_T g d 32 11 ls (.ref a :: st) h P = z_gR h.1 a 3 0 (fun x => z_T g d 32 14 ls (.ref x :: st) h P) := zt_getR zi_32_11 ((congrArg (fun o => z_fl o 9) zo_32).trans zf_LatinRectangles_Grid_9)
theorem zi_32_14 : z_ins 32 14 = some (.iload_n 2, 1) := by decide +kernel
theorem ze_32_14 : z_T g d 32 14 (v0 :: v1 :: .int x :: ls) st h P = z_T g d 32 15 (v0 :: v1 :: .int x :: ls) (.int x :: st) h P := zt_iloadn zi_32_14 rfl rfl
theorem zi_32_15 : z_ins 32 15 = some (.iaload, 1) := by decide +kernel
theorem ze_32_15 : z_T g d 32 15 ls (.int x :: .ref a :: st) h P = z_aL h.1 a z_tI x (fun v => z_T g d 32 16 ls (.int v :: st) h P) := zt_iaload zi_32_15
theorem zi_32_16 : z_ins 32 16 = some (.iastore, 1) := by decide +kernel
theorem ze_32_16 : z_T g d 32 16 ls (.int y :: .int x :: .ref a :: st) h P = z_aS h.1 a z_tI x y (fun f => z_T g d 32 17 ls st (f, h.2) P) := zt_iastore zi_32_16
theorem zi_32_17 : z_ins 32 17 = some (.iinc 2 1, 3) := by decide +kernel
theorem ze_32_17 : z_T g d 32 17 (v0 :: v1 :: .int x :: ls) st h P = z_T g d 32 20 (v0 :: v1 :: .int (x + (nI 1)) :: ls) st h P := zt_iinc zi_32_17 rfl rfl
theorem zi_32_20 : z_ins 32 20 = some (.goto (-18), 3) := by decide +kernel
theorem ze_32_20 : z_T g d 32 20 ls st h P = z_T g d 32 2 ls st h P := zt_goto zi_32_20 (by decide)
theorem zi_32_23 : z_ins 32 23 = some (.return_, 1) := by decide +kernel
theorem ze_32_23 : z_T g d 32 23 ls [] h P = P (.inr none, h) := zt_return zi_32_23 zr_32
-- LatinRectangles$Grid.put(III)V
theorem zo_33 : z_own 33 = "LatinRectangles$Grid" := by decide +kernel
theorem zm_33 : z_maxL 33 = 4 := by decide +kernel
theorem zh_33 : z_hds 33 = [] := by decide +kernel
theorem zr_33 : z_rt 33 = none := by decide +kernel
theorem zn_33 : z_Ca g d 33 [.ref a0, .int x1, .int x2, .int x3] h P = z_T g d 33 0 [.ref a0, .int x1, .int x2, .int x3] [] h P := z_Ca_ent zm_33 rfl rfl
theorem zi_33_0 : z_ins 33 0 = some (.aload_n 0, 1) := by decide +kernel
theorem ze_33_0 : z_T g d 33 0 (.ref a :: ls) st h P = z_T g d 33 1 (.ref a :: ls) (.ref a :: st) h P := zt_aloadn zi_33_0 rfl rfl
theorem zi_33_1 : z_ins 33 1 = some (.getfield 9, 3) := by decide +kernel
theorem ze_33_1 : z_T g d 33 1 ls (.ref a :: st) h P = z_gR h.1 a 3 0 (fun x => z_T g d 33 4 ls (.ref x :: st) h P) := zt_getR zi_33_1 ((congrArg (fun o => z_fl o 9) zo_33).trans zf_LatinRectangles_Grid_9)
theorem zi_33_4 : z_ins 33 4 = some (.iload_n 1, 1) := by decide +kernel
theorem ze_33_4 : z_T g d 33 4 (v0 :: .int x :: ls) st h P = z_T g d 33 5 (v0 :: .int x :: ls) (.int x :: st) h P := zt_iloadn zi_33_4 rfl rfl
theorem zi_33_5 : z_ins 33 5 = some (.iconst 5, 1) := by decide +kernel
theorem ze_33_5 : z_T g d 33 5 ls st h P = z_T g d 33 6 ls (.int (nI 5) :: st) h P := zt_iconst zi_33_5 rfl
theorem zi_33_6 : z_ins 33 6 = some (.imul, 1) := by decide +kernel
theorem ze_33_6 : z_T g d 33 6 ls (.int y :: .int x :: st) h P = z_T g d 33 7 ls (.int (x * y) :: st) h P := zt_bin (f := fun x y => x * y) zi_33_6 rfl (fun _ _ _ => rfl)
theorem zi_33_7 : z_ins 33 7 = some (.iload_n 2, 1) := by decide +kernel
theorem ze_33_7 : z_T g d 33 7 (v0 :: v1 :: .int x :: ls) st h P = z_T g d 33 8 (v0 :: v1 :: .int x :: ls) (.int x :: st) h P := zt_iloadn zi_33_7 rfl rfl
theorem zi_33_8 : z_ins 33 8 = some (.iadd, 1) := by decide +kernel
theorem ze_33_8 : z_T g d 33 8 ls (.int y :: .int x :: st) h P = z_T g d 33 9 ls (.int (x + y) :: st) h P := zt_bin (f := fun x y => x + y) zi_33_8 rfl (fun _ _ _ => rfl)
theorem zi_33_9 : z_ins 33 9 = some (.iload_n 3, 1) := by decide +kernel
theorem ze_33_9 : z_T g d 33 9 (v0 :: v1 :: v2 :: .int x :: ls) st h P = z_T g d 33 10 (v0 :: v1 :: v2 :: .int x :: ls) (.int x :: st) h P := zt_iloadn zi_33_9 rfl rfl
theorem zi_33_10 : z_ins 33 10 = some (.iastore, 1) := by decide +kernel
theorem ze_33_10 : z_T g d 33 10 ls (.int y :: .int x :: .ref a :: st) h P = z_aS h.1 a z_tI x y (fun f => z_T g d 33 11 ls st (f, h.2) P) := zt_iastore zi_33_10
theorem zi_33_11 : z_ins 33 11 = some (.aload_n 0, 1) := by decide +kernel
theorem ze_33_11 : z_T g d 33 11 (.ref a :: ls) st h P = z_T g d 33 12 (.ref a :: ls) (.ref a :: st) h P := zt_aloadn zi_33_11 rfl rfl
theorem zi_33_12 : z_ins 33 12 = some (.getfield 22, 3) := by decide +kernel
theorem ze_33_12 : z_T g d 33 12 ls (.ref a :: st) h P = z_gR h.1 a 3 3 (fun x => z_T g d 33 15 ls (.ref x :: st) h P) := zt_getR zi_33_12 ((congrArg (fun o => z_fl o 22) zo_33).trans zf_LatinRectangles_Grid_22)
theorem zi_33_15 : z_ins 33 15 = some (.iload_n 1, 1) := by decide +kernel
theorem ze_33_15 : z_T g d 33 15 (v0 :: .int x :: ls) st h P = z_T g d 33 16 (v0 :: .int x :: ls) (.int x :: st) h P := zt_iloadn zi_33_15 rfl rfl
theorem zi_33_16 : z_ins 33 16 = some (.dup2, 1) := by decide +kernel
theorem ze_33_16 : z_T g d 33 16 ls (.int x :: .ref a :: st) h P = z_T g d 33 17 ls (.int x :: .ref a :: .int x :: .ref a :: st) h P := zt_dup2 zi_33_16
theorem zi_33_17 : z_ins 33 17 = some (.iaload, 1) := by decide +kernel
theorem ze_33_17 : z_T g d 33 17 ls (.int x :: .ref a :: st) h P = z_aL h.1 a z_tI x (fun v => z_T g d 33 18 ls (.int v :: st) h P) := zt_iaload zi_33_17
theorem zi_33_18 : z_ins 33 18 = some (.iconst 1, 1) := by decide +kernel
theorem ze_33_18 : z_T g d 33 18 ls st h P = z_T g d 33 19 ls (.int (nI 1) :: st) h P := zt_iconst zi_33_18 rfl
theorem zi_33_19 : z_ins 33 19 = some (.iload_n 3, 1) := by decide +kernel
theorem ze_33_19 : z_T g d 33 19 (v0 :: v1 :: v2 :: .int x :: ls) st h P = z_T g d 33 20 (v0 :: v1 :: v2 :: .int x :: ls) (.int x :: st) h P := zt_iloadn zi_33_19 rfl rfl
theorem zi_33_20 : z_ins 33 20 = some (.ishl, 1) := by decide +kernel
theorem ze_33_20 : z_T g d 33 20 ls (.int y :: .int x :: st) h P = z_T g d 33 21 ls (.int (x <<< (y &&& 31)) :: st) h P := zt_bin (f := fun x y => x <<< (y &&& 31)) zi_33_20 rfl (fun _ _ _ => rfl)
theorem zi_33_21 : z_ins 33 21 = some (.ior, 1) := by decide +kernel
theorem ze_33_21 : z_T g d 33 21 ls (.int y :: .int x :: st) h P = z_T g d 33 22 ls (.int (x ||| y) :: st) h P := zt_bin (f := fun x y => x ||| y) zi_33_21 rfl (fun _ _ _ => rfl)
theorem zi_33_22 : z_ins 33 22 = some (.iastore, 1) := by decide +kernel
theorem ze_33_22 : z_T g d 33 22 ls (.int y :: .int x :: .ref a :: st) h P = z_aS h.1 a z_tI x y (fun f => z_T g d 33 23 ls st (f, h.2) P) := zt_iastore zi_33_22
theorem zi_33_23 : z_ins 33 23 = some (.aload_n 0, 1) := by decide +kernel
theorem ze_33_23 : z_T g d 33 23 (.ref a :: ls) st h P = z_T g d 33 24 (.ref a :: ls) (.ref a :: st) h P := zt_aloadn zi_33_23 rfl rfl
theorem zi_33_24 : z_ins 33 24 = some (.getfield 25, 3) := by decide +kernel
theorem ze_33_24 : z_T g d 33 24 ls (.ref a :: st) h P = z_gR h.1 a 3 4 (fun x => z_T g d 33 27 ls (.ref x :: st) h P) := zt_getR zi_33_24 ((congrArg (fun o => z_fl o 25) zo_33).trans zf_LatinRectangles_Grid_25)
theorem zi_33_27 : z_ins 33 27 = some (.iload_n 2, 1) := by decide +kernel
theorem ze_33_27 : z_T g d 33 27 (v0 :: v1 :: .int x :: ls) st h P = z_T g d 33 28 (v0 :: v1 :: .int x :: ls) (.int x :: st) h P := zt_iloadn zi_33_27 rfl rfl
theorem zi_33_28 : z_ins 33 28 = some (.dup2, 1) := by decide +kernel
theorem ze_33_28 : z_T g d 33 28 ls (.int x :: .ref a :: st) h P = z_T g d 33 29 ls (.int x :: .ref a :: .int x :: .ref a :: st) h P := zt_dup2 zi_33_28
theorem zi_33_29 : z_ins 33 29 = some (.iaload, 1) := by decide +kernel
theorem ze_33_29 : z_T g d 33 29 ls (.int x :: .ref a :: st) h P = z_aL h.1 a z_tI x (fun v => z_T g d 33 30 ls (.int v :: st) h P) := zt_iaload zi_33_29
theorem zi_33_30 : z_ins 33 30 = some (.iconst 1, 1) := by decide +kernel
theorem ze_33_30 : z_T g d 33 30 ls st h P = z_T g d 33 31 ls (.int (nI 1) :: st) h P := zt_iconst zi_33_30 rfl
theorem zi_33_31 : z_ins 33 31 = some (.iload_n 3, 1) := by decide +kernel
theorem ze_33_31 : z_T g d 33 31 (v0 :: v1 :: v2 :: .int x :: ls) st h P = z_T g d 33 32 (v0 :: v1 :: v2 :: .int x :: ls) (.int x :: st) h P := zt_iloadn zi_33_31 rfl rfl
theorem zi_33_32 : z_ins 33 32 = some (.ishl, 1) := by decide +kernel
theorem ze_33_32 : z_T g d 33 32 ls (.int y :: .int x :: st) h P = z_T g d 33 33 ls (.int (x <<< (y &&& 31)) :: st) h P := zt_bin (f := fun x y => x <<< (y &&& 31)) zi_33_32 rfl (fun _ _ _ => rfl)
theorem zi_33_33 : z_ins 33 33 = some (.ior, 1) := by decide +kernel
theorem ze_33_33 : z_T g d 33 33 ls (.int y :: .int x :: st) h P = z_T g d 33 34 ls (.int (x ||| y) :: st) h P := zt_bin (f := fun x y => x ||| y) zi_33_33 rfl (fun _ _ _ => rfl)
theorem zi_33_34 : z_ins 33 34 = some (.iastore, 1) := by decide +kernel
theorem ze_33_34 : z_T g d 33 34 ls (.int y :: .int x :: .ref a :: st) h P = z_aS h.1 a z_tI x y (fun f => z_T g d 33 35 ls st (f, h.2) P) := zt_iastore zi_33_34
theorem zi_33_35 : z_ins 33 35 = some (.aload_n 0, 1) := by decide +kernel
theorem ze_33_35 : z_T g d 33 35 (.ref a :: ls) st h P = z_T g d 33 36 (.ref a :: ls) (.ref a :: st) h P := zt_aloadn zi_33_35 rfl rfl
theorem zi_33_36 : z_ins 33 36 = some (.dup, 1) := by decide +kernel
theorem ze_33_36 : z_T g d 33 36 ls (.ref a :: st) h P = z_T g d 33 37 ls (.ref a :: .ref a :: st) h P := zt_dupR zi_33_36
theorem ze_33_36_i : z_T g d 33 36 ls (.int x :: st) h P = z_T g d 33 37 ls (.int x :: .int x :: st) h P := zt_dupI zi_33_36
theorem zi_33_37 : z_ins 33 37 = some (.getfield 48, 3) := by decide +kernel
theorem ze_33_37 : z_T g d 33 37 ls (.ref a :: st) h P = z_gI h.1 a 3 7 (fun x => z_T g d 33 40 ls (.int x :: st) h P) := zt_getI zi_33_37 ((congrArg (fun o => z_fl o 48) zo_33).trans zf_LatinRectangles_Grid_48)
theorem zi_33_40 : z_ins 33 40 = some (.iconst 1, 1) := by decide +kernel
theorem ze_33_40 : z_T g d 33 40 ls st h P = z_T g d 33 41 ls (.int (nI 1) :: st) h P := zt_iconst zi_33_40 rfl
theorem zi_33_41 : z_ins 33 41 = some (.iadd, 1) := by decide +kernel
theorem ze_33_41 : z_T g d 33 41 ls (.int y :: .int x :: st) h P = z_T g d 33 42 ls (.int (x + y) :: st) h P := zt_bin (f := fun x y => x + y) zi_33_41 rfl (fun _ _ _ => rfl)
theorem zi_33_42 : z_ins 33 42 = some (.putfield 48, 3) := by decide +kernel
theorem ze_33_42 : z_T g d 33 42 ls (.int x :: .ref a :: st) h P = z_pF h.1 a 3 7 (.int x) (fun f => z_T g d 33 45 ls st (f, h.2) P) := zt_putI zi_33_42 ((congrArg (fun o => z_fl o 48) zo_33).trans zf_LatinRectangles_Grid_48)
theorem zi_33_45 : z_ins 33 45 = some (.return_, 1) := by decide +kernel
theorem ze_33_45 : z_T g d 33 45 ls [] h P = P (.inr none, h) := zt_return zi_33_45 zr_33
-- LatinRectangles$Grid.take(II)V
theorem zo_34 : z_own 34 = "LatinRectangles$Grid" := by decide +kernel
theorem zm_34 : z_maxL 34 = 4 := by decide +kernel
theorem zh_34 : z_hds 34 = [] := by decide +kernel
theorem zr_34 : z_rt 34 = none := by decide +kernel
theorem zn_34 : z_Ca g d 34 [.ref a0, .int x1, .int x2] h P = z_T g d 34 0 [.ref a0, .int x1, .int x2, z_un] [] h P := z_Ca_ent zm_34 rfl rfl
theorem zi_34_0 : z_ins 34 0 = some (.aload_n 0, 1) := by decide +kernel
theorem ze_34_0 : z_T g d 34 0 (.ref a :: ls) st h P = z_T g d 34 1 (.ref a :: ls) (.ref a :: st) h P := zt_aloadn zi_34_0 rfl rfl
theorem zi_34_1 : z_ins 34 1 = some (.getfield 9, 3) := by decide +kernel
theorem ze_34_1 : z_T g d 34 1 ls (.ref a :: st) h P = z_gR h.1 a 3 0 (fun x => z_T g d 34 4 ls (.ref x :: st) h P) := zt_getR zi_34_1 ((congrArg (fun o => z_fl o 9) zo_34).trans zf_LatinRectangles_Grid_9)
theorem zi_34_4 : z_ins 34 4 = some (.iload_n 1, 1) := by decide +kernel
theorem ze_34_4 : z_T g d 34 4 (v0 :: .int x :: ls) st h P = z_T g d 34 5 (v0 :: .int x :: ls) (.int x :: st) h P := zt_iloadn zi_34_4 rfl rfl
theorem zi_34_5 : z_ins 34 5 = some (.iconst 5, 1) := by decide +kernel
theorem ze_34_5 : z_T g d 34 5 ls st h P = z_T g d 34 6 ls (.int (nI 5) :: st) h P := zt_iconst zi_34_5 rfl
theorem zi_34_6 : z_ins 34 6 = some (.imul, 1) := by decide +kernel
theorem ze_34_6 : z_T g d 34 6 ls (.int y :: .int x :: st) h P = z_T g d 34 7 ls (.int (x * y) :: st) h P := zt_bin (f := fun x y => x * y) zi_34_6 rfl (fun _ _ _ => rfl)
theorem zi_34_7 : z_ins 34 7 = some (.iload_n 2, 1) := by decide +kernel
theorem ze_34_7 : z_T g d 34 7 (v0 :: v1 :: .int x :: ls) st h P = z_T g d 34 8 (v0 :: v1 :: .int x :: ls) (.int x :: st) h P := zt_iloadn zi_34_7 rfl rfl
theorem zi_34_8 : z_ins 34 8 = some (.iadd, 1) := by decide +kernel
theorem ze_34_8 : z_T g d 34 8 ls (.int y :: .int x :: st) h P = z_T g d 34 9 ls (.int (x + y) :: st) h P := zt_bin (f := fun x y => x + y) zi_34_8 rfl (fun _ _ _ => rfl)
theorem zi_34_9 : z_ins 34 9 = some (.iaload, 1) := by decide +kernel
theorem ze_34_9 : z_T g d 34 9 ls (.int x :: .ref a :: st) h P = z_aL h.1 a z_tI x (fun v => z_T g d 34 10 ls (.int v :: st) h P) := zt_iaload zi_34_9
theorem zi_34_10 : z_ins 34 10 = some (.istore_n 3, 1) := by decide +kernel
theorem ze_34_10 : z_T g d 34 10 (v0 :: v1 :: v2 :: v3 :: ls) (.int x :: st) h P = z_T g d 34 11 (v0 :: v1 :: v2 :: .int x :: ls) st h P := zt_istoren zi_34_10 rfl (Nat.le_add_left 4 _)
theorem zi_34_11 : z_ins 34 11 = some (.aload_n 0, 1) := by decide +kernel
theorem ze_34_11 : z_T g d 34 11 (.ref a :: ls) st h P = z_T g d 34 12 (.ref a :: ls) (.ref a :: st) h P := zt_aloadn zi_34_11 rfl rfl
theorem zi_34_12 : z_ins 34 12 = some (.getfield 9, 3) := by decide +kernel
theorem ze_34_12 : z_T g d 34 12 ls (.ref a :: st) h P = z_gR h.1 a 3 0 (fun x => z_T g d 34 15 ls (.ref x :: st) h P) := zt_getR zi_34_12 ((congrArg (fun o => z_fl o 9) zo_34).trans zf_LatinRectangles_Grid_9)
theorem zi_34_15 : z_ins 34 15 = some (.iload_n 1, 1) := by decide +kernel
theorem ze_34_15 : z_T g d 34 15 (v0 :: .int x :: ls) st h P = z_T g d 34 16 (v0 :: .int x :: ls) (.int x :: st) h P := zt_iloadn zi_34_15 rfl rfl
theorem zi_34_16 : z_ins 34 16 = some (.iconst 5, 1) := by decide +kernel
theorem ze_34_16 : z_T g d 34 16 ls st h P = z_T g d 34 17 ls (.int (nI 5) :: st) h P := zt_iconst zi_34_16 rfl
theorem zi_34_17 : z_ins 34 17 = some (.imul, 1) := by decide +kernel
theorem ze_34_17 : z_T g d 34 17 ls (.int y :: .int x :: st) h P = z_T g d 34 18 ls (.int (x * y) :: st) h P := zt_bin (f := fun x y => x * y) zi_34_17 rfl (fun _ _ _ => rfl)
theorem zi_34_18 : z_ins 34 18 = some (.iload_n 2, 1) := by decide +kernel
theorem ze_34_18 : z_T g d 34 18 (v0 :: v1 :: .int x :: ls) st h P = z_T g d 34 19 (v0 :: v1 :: .int x :: ls) (.int x :: st) h P := zt_iloadn zi_34_18 rfl rfl
theorem zi_34_19 : z_ins 34 19 = some (.iadd, 1) := by decide +kernel
theorem ze_34_19 : z_T g d 34 19 ls (.int y :: .int x :: st) h P = z_T g d 34 20 ls (.int (x + y) :: st) h P := zt_bin (f := fun x y => x + y) zi_34_19 rfl (fun _ _ _ => rfl)
theorem zi_34_20 : z_ins 34 20 = some (.iconst (-1), 1) := by decide +kernel
theorem ze_34_20 : z_T g d 34 20 ls st h P = z_T g d 34 21 ls (.int (-1) :: st) h P := zt_iconst zi_34_20 rfl
theorem zi_34_21 : z_ins 34 21 = some (.iastore, 1) := by decide +kernel
theorem ze_34_21 : z_T g d 34 21 ls (.int y :: .int x :: .ref a :: st) h P = z_aS h.1 a z_tI x y (fun f => z_T g d 34 22 ls st (f, h.2) P) := zt_iastore zi_34_21
theorem zi_34_22 : z_ins 34 22 = some (.aload_n 0, 1) := by decide +kernel
theorem ze_34_22 : z_T g d 34 22 (.ref a :: ls) st h P = z_T g d 34 23 (.ref a :: ls) (.ref a :: st) h P := zt_aloadn zi_34_22 rfl rfl
theorem zi_34_23 : z_ins 34 23 = some (.getfield 22, 3) := by decide +kernel
theorem ze_34_23 : z_T g d 34 23 ls (.ref a :: st) h P = z_gR h.1 a 3 3 (fun x => z_T g d 34 26 ls (.ref x :: st) h P) := zt_getR zi_34_23 ((congrArg (fun o => z_fl o 22) zo_34).trans zf_LatinRectangles_Grid_22)
theorem zi_34_26 : z_ins 34 26 = some (.iload_n 1, 1) := by decide +kernel
theorem ze_34_26 : z_T g d 34 26 (v0 :: .int x :: ls) st h P = z_T g d 34 27 (v0 :: .int x :: ls) (.int x :: st) h P := zt_iloadn zi_34_26 rfl rfl
theorem zi_34_27 : z_ins 34 27 = some (.dup2, 1) := by decide +kernel
theorem ze_34_27 : z_T g d 34 27 ls (.int x :: .ref a :: st) h P = z_T g d 34 28 ls (.int x :: .ref a :: .int x :: .ref a :: st) h P := zt_dup2 zi_34_27
theorem zi_34_28 : z_ins 34 28 = some (.iaload, 1) := by decide +kernel
theorem ze_34_28 : z_T g d 34 28 ls (.int x :: .ref a :: st) h P = z_aL h.1 a z_tI x (fun v => z_T g d 34 29 ls (.int v :: st) h P) := zt_iaload zi_34_28
theorem zi_34_29 : z_ins 34 29 = some (.iconst 1, 1) := by decide +kernel
theorem ze_34_29 : z_T g d 34 29 ls st h P = z_T g d 34 30 ls (.int (nI 1) :: st) h P := zt_iconst zi_34_29 rfl
theorem zi_34_30 : z_ins 34 30 = some (.iload_n 3, 1) := by decide +kernel
theorem ze_34_30 : z_T g d 34 30 (v0 :: v1 :: v2 :: .int x :: ls) st h P = z_T g d 34 31 (v0 :: v1 :: v2 :: .int x :: ls) (.int x :: st) h P := zt_iloadn zi_34_30 rfl rfl
theorem zi_34_31 : z_ins 34 31 = some (.ishl, 1) := by decide +kernel
theorem ze_34_31 : z_T g d 34 31 ls (.int y :: .int x :: st) h P = z_T g d 34 32 ls (.int (x <<< (y &&& 31)) :: st) h P := zt_bin (f := fun x y => x <<< (y &&& 31)) zi_34_31 rfl (fun _ _ _ => rfl)
theorem zi_34_32 : z_ins 34 32 = some (.iconst (-1), 1) := by decide +kernel
theorem ze_34_32 : z_T g d 34 32 ls st h P = z_T g d 34 33 ls (.int (-1) :: st) h P := zt_iconst zi_34_32 rfl
theorem zi_34_33 : z_ins 34 33 = some (.ixor, 1) := by decide +kernel
theorem ze_34_33 : z_T g d 34 33 ls (.int y :: .int x :: st) h P = z_T g d 34 34 ls (.int (x ^^^ y) :: st) h P := zt_bin (f := fun x y => x ^^^ y) zi_34_33 rfl (fun _ _ _ => rfl)
theorem zi_34_34 : z_ins 34 34 = some (.iand, 1) := by decide +kernel
theorem ze_34_34 : z_T g d 34 34 ls (.int y :: .int x :: st) h P = z_T g d 34 35 ls (.int (x &&& y) :: st) h P := zt_bin (f := fun x y => x &&& y) zi_34_34 rfl (fun _ _ _ => rfl)
theorem zi_34_35 : z_ins 34 35 = some (.iastore, 1) := by decide +kernel
theorem ze_34_35 : z_T g d 34 35 ls (.int y :: .int x :: .ref a :: st) h P = z_aS h.1 a z_tI x y (fun f => z_T g d 34 36 ls st (f, h.2) P) := zt_iastore zi_34_35
theorem zi_34_36 : z_ins 34 36 = some (.aload_n 0, 1) := by decide +kernel
theorem ze_34_36 : z_T g d 34 36 (.ref a :: ls) st h P = z_T g d 34 37 (.ref a :: ls) (.ref a :: st) h P := zt_aloadn zi_34_36 rfl rfl
theorem zi_34_37 : z_ins 34 37 = some (.getfield 25, 3) := by decide +kernel
theorem ze_34_37 : z_T g d 34 37 ls (.ref a :: st) h P = z_gR h.1 a 3 4 (fun x => z_T g d 34 40 ls (.ref x :: st) h P) := zt_getR zi_34_37 ((congrArg (fun o => z_fl o 25) zo_34).trans zf_LatinRectangles_Grid_25)
theorem zi_34_40 : z_ins 34 40 = some (.iload_n 2, 1) := by decide +kernel
theorem ze_34_40 : z_T g d 34 40 (v0 :: v1 :: .int x :: ls) st h P = z_T g d 34 41 (v0 :: v1 :: .int x :: ls) (.int x :: st) h P := zt_iloadn zi_34_40 rfl rfl
theorem zi_34_41 : z_ins 34 41 = some (.dup2, 1) := by decide +kernel
theorem ze_34_41 : z_T g d 34 41 ls (.int x :: .ref a :: st) h P = z_T g d 34 42 ls (.int x :: .ref a :: .int x :: .ref a :: st) h P := zt_dup2 zi_34_41
theorem zi_34_42 : z_ins 34 42 = some (.iaload, 1) := by decide +kernel
theorem ze_34_42 : z_T g d 34 42 ls (.int x :: .ref a :: st) h P = z_aL h.1 a z_tI x (fun v => z_T g d 34 43 ls (.int v :: st) h P) := zt_iaload zi_34_42
theorem zi_34_43 : z_ins 34 43 = some (.iconst 1, 1) := by decide +kernel
theorem ze_34_43 : z_T g d 34 43 ls st h P = z_T g d 34 44 ls (.int (nI 1) :: st) h P := zt_iconst zi_34_43 rfl
theorem zi_34_44 : z_ins 34 44 = some (.iload_n 3, 1) := by decide +kernel
theorem ze_34_44 : z_T g d 34 44 (v0 :: v1 :: v2 :: .int x :: ls) st h P = z_T g d 34 45 (v0 :: v1 :: v2 :: .int x :: ls) (.int x :: st) h P := zt_iloadn zi_34_44 rfl rfl
theorem zi_34_45 : z_ins 34 45 = some (.ishl, 1) := by decide +kernel
theorem ze_34_45 : z_T g d 34 45 ls (.int y :: .int x :: st) h P = z_T g d 34 46 ls (.int (x <<< (y &&& 31)) :: st) h P := zt_bin (f := fun x y => x <<< (y &&& 31)) zi_34_45 rfl (fun _ _ _ => rfl)
theorem zi_34_46 : z_ins 34 46 = some (.iconst (-1), 1) := by decide +kernel
theorem ze_34_46 : z_T g d 34 46 ls st h P = z_T g d 34 47 ls (.int (-1) :: st) h P := zt_iconst zi_34_46 rfl
theorem zi_34_47 : z_ins 34 47 = some (.ixor, 1) := by decide +kernel
theorem ze_34_47 : z_T g d 34 47 ls (.int y :: .int x :: st) h P = z_T g d 34 48 ls (.int (x ^^^ y) :: st) h P := zt_bin (f := fun x y => x ^^^ y) zi_34_47 rfl (fun _ _ _ => rfl)
theorem zi_34_48 : z_ins 34 48 = some (.iand, 1) := by decide +kernel
theorem ze_34_48 : z_T g d 34 48 ls (.int y :: .int x :: st) h P = z_T g d 34 49 ls (.int (x &&& y) :: st) h P := zt_bin (f := fun x y => x &&& y) zi_34_48 rfl (fun _ _ _ => rfl)
theorem zi_34_49 : z_ins 34 49 = some (.iastore, 1) := by decide +kernel
theorem ze_34_49 : z_T g d 34 49 ls (.int y :: .int x :: .ref a :: st) h P = z_aS h.1 a z_tI x y (fun f => z_T g d 34 50 ls st (f, h.2) P) := zt_iastore zi_34_49
theorem zi_34_50 : z_ins 34 50 = some (.aload_n 0, 1) := by decide +kernel
theorem ze_34_50 : z_T g d 34 50 (.ref a :: ls) st h P = z_T g d 34 51 (.ref a :: ls) (.ref a :: st) h P := zt_aloadn zi_34_50 rfl rfl
theorem zi_34_51 : z_ins 34 51 = some (.dup, 1) := by decide +kernel
theorem ze_34_51 : z_T g d 34 51 ls (.ref a :: st) h P = z_T g d 34 52 ls (.ref a :: .ref a :: st) h P := zt_dupR zi_34_51
theorem ze_34_51_i : z_T g d 34 51 ls (.int x :: st) h P = z_T g d 34 52 ls (.int x :: .int x :: st) h P := zt_dupI zi_34_51
theorem zi_34_52 : z_ins 34 52 = some (.getfield 48, 3) := by decide +kernel
theorem ze_34_52 : z_T g d 34 52 ls (.ref a :: st) h P = z_gI h.1 a 3 7 (fun x => z_T g d 34 55 ls (.int x :: st) h P) := zt_getI zi_34_52 ((congrArg (fun o => z_fl o 48) zo_34).trans zf_LatinRectangles_Grid_48)
theorem zi_34_55 : z_ins 34 55 = some (.iconst 1, 1) := by decide +kernel
theorem ze_34_55 : z_T g d 34 55 ls st h P = z_T g d 34 56 ls (.int (nI 1) :: st) h P := zt_iconst zi_34_55 rfl
theorem zi_34_56 : z_ins 34 56 = some (.isub, 1) := by decide +kernel
theorem ze_34_56 : z_T g d 34 56 ls (.int y :: .int x :: st) h P = z_T g d 34 57 ls (.int (x - y) :: st) h P := zt_bin (f := fun x y => x - y) zi_34_56 rfl (fun _ _ _ => rfl)
theorem zi_34_57 : z_ins 34 57 = some (.putfield 48, 3) := by decide +kernel
theorem ze_34_57 : z_T g d 34 57 ls (.int x :: .ref a :: st) h P = z_pF h.1 a 3 7 (.int x) (fun f => z_T g d 34 60 ls st (f, h.2) P) := zt_putI zi_34_57 ((congrArg (fun o => z_fl o 48) zo_34).trans zf_LatinRectangles_Grid_48)
theorem zi_34_60 : z_ins 34 60 = some (.return_, 1) := by decide +kernel
theorem ze_34_60 : z_T g d 34 60 ls [] h P = P (.inr none, h) := zt_return zi_34_60 zr_34
-- LatinRectangles$Grid.give(III)V
theorem zo_35 : z_own 35 = "LatinRectangles$Grid" := by decide +kernel
theorem zm_35 : z_maxL 35 = 4 := by decide +kernel
theorem zh_35 : z_hds 35 = [] := by decide +kernel
theorem zr_35 : z_rt 35 = none := by decide +kernel
theorem zn_35 : z_Ca g d 35 [.ref a0, .int x1, .int x2, .int x3] h P = z_T g d 35 0 [.ref a0, .int x1, .int x2, .int x3] [] h P := z_Ca_ent zm_35 rfl rfl
theorem zi_35_0 : z_ins 35 0 = some (.aload_n 0, 1) := by decide +kernel
theorem ze_35_0 : z_T g d 35 0 (.ref a :: ls) st h P = z_T g d 35 1 (.ref a :: ls) (.ref a :: st) h P := zt_aloadn zi_35_0 rfl rfl
theorem zi_35_1 : z_ins 35 1 = some (.iload_n 1, 1) := by decide +kernel
theorem ze_35_1 : z_T g d 35 1 (v0 :: .int x :: ls) st h P = z_T g d 35 2 (v0 :: .int x :: ls) (.int x :: st) h P := zt_iloadn zi_35_1 rfl rfl
theorem zi_35_2 : z_ins 35 2 = some (.iload_n 2, 1) := by decide +kernel
theorem ze_35_2 : z_T g d 35 2 (v0 :: v1 :: .int x :: ls) st h P = z_T g d 35 3 (v0 :: v1 :: .int x :: ls) (.int x :: st) h P := zt_iloadn zi_35_2 rfl rfl
theorem zi_35_3 : z_ins 35 3 = some (.iload_n 3, 1) := by decide +kernel
theorem ze_35_3 : z_T g d 35 3 (v0 :: v1 :: v2 :: .int x :: ls) st h P = z_T g d 35 4 (v0 :: v1 :: v2 :: .int x :: ls) (.int x :: st) h P := zt_iloadn zi_35_3 rfl rfl
theorem zi_35_4 : z_ins 35 4 = some (.invokevirtual 55, 3) := by decide +kernel
theorem ze_35_4 : z_T g d 35 4 ls (.int x2 :: .int x1 :: .int x0 :: .ref a :: st) h P = ((z_okS 8 st = true ∧ z_gO h.1 a 3 ∧ 0 < d) ∧ z_Ca g (d - 1) 33 [.ref a, .int x0, .int x1, .int x2] h (fun r => z_k r (fun v h' => z_T g d 35 7 ls (z_push v st) h' P) P)) := zt_callV (as := [.int x0, .int x1, .int x2]) zi_35_4 ((congrArg (fun o => z_lookup z_prs (o, 55)) zo_35).trans zp_LatinRectangles_Grid_55) ((congrArg (fun o => z_clk o 55) zo_35).trans zk_LatinRectangles_Grid_55) zh_35 zc_33 rfl rfl rfl
theorem zi_35_7 : z_ins 35 7 = some (.aload_n 0, 1) := by decide +kernel
theorem ze_35_7 : z_T g d 35 7 (.ref a :: ls) st h P = z_T g d 35 8 (.ref a :: ls) (.ref a :: st) h P := zt_aloadn zi_35_7 rfl rfl
theorem zi_35_8 : z_ins 35 8 = some (.getfield 15, 3) := by decide +kernel
theorem ze_35_8 : z_T g d 35 8 ls (.ref a :: st) h P = z_gR h.1 a 3 1 (fun x => z_T g d 35 11 ls (.ref x :: st) h P) := zt_getR zi_35_8 ((congrArg (fun o => z_fl o 15) zo_35).trans zf_LatinRectangles_Grid_15)
theorem zi_35_11 : z_ins 35 11 = some (.iload_n 1, 1) := by decide +kernel
theorem ze_35_11 : z_T g d 35 11 (v0 :: .int x :: ls) st h P = z_T g d 35 12 (v0 :: .int x :: ls) (.int x :: st) h P := zt_iloadn zi_35_11 rfl rfl
theorem zi_35_12 : z_ins 35 12 = some (.iconst 5, 1) := by decide +kernel
theorem ze_35_12 : z_T g d 35 12 ls st h P = z_T g d 35 13 ls (.int (nI 5) :: st) h P := zt_iconst zi_35_12 rfl
theorem zi_35_13 : z_ins 35 13 = some (.imul, 1) := by decide +kernel
theorem ze_35_13 : z_T g d 35 13 ls (.int y :: .int x :: st) h P = z_T g d 35 14 ls (.int (x * y) :: st) h P := zt_bin (f := fun x y => x * y) zi_35_13 rfl (fun _ _ _ => rfl)
theorem zi_35_14 : z_ins 35 14 = some (.iload_n 2, 1) := by decide +kernel
theorem ze_35_14 : z_T g d 35 14 (v0 :: v1 :: .int x :: ls) st h P = z_T g d 35 15 (v0 :: v1 :: .int x :: ls) (.int x :: st) h P := zt_iloadn zi_35_14 rfl rfl
theorem zi_35_15 : z_ins 35 15 = some (.iadd, 1) := by decide +kernel
theorem ze_35_15 : z_T g d 35 15 ls (.int y :: .int x :: st) h P = z_T g d 35 16 ls (.int (x + y) :: st) h P := zt_bin (f := fun x y => x + y) zi_35_15 rfl (fun _ _ _ => rfl)
theorem zi_35_16 : z_ins 35 16 = some (.iconst 1, 1) := by decide +kernel
theorem ze_35_16 : z_T g d 35 16 ls st h P = z_T g d 35 17 ls (.int (nI 1) :: st) h P := zt_iconst zi_35_16 rfl
theorem zi_35_17 : z_ins 35 17 = some (.bastore, 1) := by decide +kernel
theorem ze_35_17 : z_T g d 35 17 ls (.int y :: .int x :: .ref a :: st) h P = z_aS h.1 a z_tB x y (fun f => z_T g d 35 18 ls st (f, h.2) P) := zt_bastore zi_35_17
theorem zi_35_18 : z_ins 35 18 = some (.aload_n 0, 1) := by decide +kernel
theorem ze_35_18 : z_T g d 35 18 (.ref a :: ls) st h P = z_T g d 35 19 (.ref a :: ls) (.ref a :: st) h P := zt_aloadn zi_35_18 rfl rfl
theorem zi_35_19 : z_ins 35 19 = some (.dup, 1) := by decide +kernel
theorem ze_35_19 : z_T g d 35 19 ls (.ref a :: st) h P = z_T g d 35 20 ls (.ref a :: .ref a :: st) h P := zt_dupR zi_35_19
theorem ze_35_19_i : z_T g d 35 19 ls (.int x :: st) h P = z_T g d 35 20 ls (.int x :: .int x :: st) h P := zt_dupI zi_35_19
theorem zi_35_20 : z_ins 35 20 = some (.getfield 39, 3) := by decide +kernel
theorem ze_35_20 : z_T g d 35 20 ls (.ref a :: st) h P = z_gI h.1 a 3 8 (fun x => z_T g d 35 23 ls (.int x :: st) h P) := zt_getI zi_35_20 ((congrArg (fun o => z_fl o 39) zo_35).trans zf_LatinRectangles_Grid_39)
theorem zi_35_23 : z_ins 35 23 = some (.iconst 1, 1) := by decide +kernel
theorem ze_35_23 : z_T g d 35 23 ls st h P = z_T g d 35 24 ls (.int (nI 1) :: st) h P := zt_iconst zi_35_23 rfl
theorem zi_35_24 : z_ins 35 24 = some (.iadd, 1) := by decide +kernel
theorem ze_35_24 : z_T g d 35 24 ls (.int y :: .int x :: st) h P = z_T g d 35 25 ls (.int (x + y) :: st) h P := zt_bin (f := fun x y => x + y) zi_35_24 rfl (fun _ _ _ => rfl)
theorem zi_35_25 : z_ins 35 25 = some (.putfield 39, 3) := by decide +kernel
theorem ze_35_25 : z_T g d 35 25 ls (.int x :: .ref a :: st) h P = z_pF h.1 a 3 8 (.int x) (fun f => z_T g d 35 28 ls st (f, h.2) P) := zt_putI zi_35_25 ((congrArg (fun o => z_fl o 39) zo_35).trans zf_LatinRectangles_Grid_39)
theorem zi_35_28 : z_ins 35 28 = some (.return_, 1) := by decide +kernel
theorem ze_35_28 : z_T g d 35 28 ls [] h P = P (.inr none, h) := zt_return zi_35_28 zr_35
-- LatinRectangles$Grid.forbid(II)V
theorem zo_36 : z_own 36 = "LatinRectangles$Grid" := by decide +kernel
theorem zm_36 : z_maxL 36 = 3 := by decide +kernel
theorem zh_36 : z_hds 36 = [] := by decide +kernel
theorem zr_36 : z_rt 36 = none := by decide +kernel
theorem zn_36 : z_Ca g d 36 [.ref a0, .int x1, .int x2] h P = z_T g d 36 0 [.ref a0, .int x1, .int x2] [] h P := z_Ca_ent zm_36 rfl rfl
theorem zi_36_0 : z_ins 36 0 = some (.aload_n 0, 1) := by decide +kernel
theorem ze_36_0 : z_T g d 36 0 (.ref a :: ls) st h P = z_T g d 36 1 (.ref a :: ls) (.ref a :: st) h P := zt_aloadn zi_36_0 rfl rfl
theorem zi_36_1 : z_ins 36 1 = some (.getfield 19, 3) := by decide +kernel
theorem ze_36_1 : z_T g d 36 1 ls (.ref a :: st) h P = z_gR h.1 a 3 2 (fun x => z_T g d 36 4 ls (.ref x :: st) h P) := zt_getR zi_36_1 ((congrArg (fun o => z_fl o 19) zo_36).trans zf_LatinRectangles_Grid_19)
theorem zi_36_4 : z_ins 36 4 = some (.iload_n 1, 1) := by decide +kernel
theorem ze_36_4 : z_T g d 36 4 (v0 :: .int x :: ls) st h P = z_T g d 36 5 (v0 :: .int x :: ls) (.int x :: st) h P := zt_iloadn zi_36_4 rfl rfl
theorem zi_36_5 : z_ins 36 5 = some (.dup2, 1) := by decide +kernel
theorem ze_36_5 : z_T g d 36 5 ls (.int x :: .ref a :: st) h P = z_T g d 36 6 ls (.int x :: .ref a :: .int x :: .ref a :: st) h P := zt_dup2 zi_36_5
theorem zi_36_6 : z_ins 36 6 = some (.iaload, 1) := by decide +kernel
theorem ze_36_6 : z_T g d 36 6 ls (.int x :: .ref a :: st) h P = z_aL h.1 a z_tI x (fun v => z_T g d 36 7 ls (.int v :: st) h P) := zt_iaload zi_36_6
theorem zi_36_7 : z_ins 36 7 = some (.iconst 1, 1) := by decide +kernel
theorem ze_36_7 : z_T g d 36 7 ls st h P = z_T g d 36 8 ls (.int (nI 1) :: st) h P := zt_iconst zi_36_7 rfl
theorem zi_36_8 : z_ins 36 8 = some (.iload_n 2, 1) := by decide +kernel
theorem ze_36_8 : z_T g d 36 8 (v0 :: v1 :: .int x :: ls) st h P = z_T g d 36 9 (v0 :: v1 :: .int x :: ls) (.int x :: st) h P := zt_iloadn zi_36_8 rfl rfl
theorem zi_36_9 : z_ins 36 9 = some (.ishl, 1) := by decide +kernel
theorem ze_36_9 : z_T g d 36 9 ls (.int y :: .int x :: st) h P = z_T g d 36 10 ls (.int (x <<< (y &&& 31)) :: st) h P := zt_bin (f := fun x y => x <<< (y &&& 31)) zi_36_9 rfl (fun _ _ _ => rfl)
theorem zi_36_10 : z_ins 36 10 = some (.ior, 1) := by decide +kernel
theorem ze_36_10 : z_T g d 36 10 ls (.int y :: .int x :: st) h P = z_T g d 36 11 ls (.int (x ||| y) :: st) h P := zt_bin (f := fun x y => x ||| y) zi_36_10 rfl (fun _ _ _ => rfl)
theorem zi_36_11 : z_ins 36 11 = some (.iastore, 1) := by decide +kernel
theorem ze_36_11 : z_T g d 36 11 ls (.int y :: .int x :: .ref a :: st) h P = z_aS h.1 a z_tI x y (fun f => z_T g d 36 12 ls st (f, h.2) P) := zt_iastore zi_36_11
theorem zi_36_12 : z_ins 36 12 = some (.aload_n 0, 1) := by decide +kernel
theorem ze_36_12 : z_T g d 36 12 (.ref a :: ls) st h P = z_T g d 36 13 (.ref a :: ls) (.ref a :: st) h P := zt_aloadn zi_36_12 rfl rfl
theorem zi_36_13 : z_ins 36 13 = some (.dup, 1) := by decide +kernel
theorem ze_36_13 : z_T g d 36 13 ls (.ref a :: st) h P = z_T g d 36 14 ls (.ref a :: .ref a :: st) h P := zt_dupR zi_36_13
theorem ze_36_13_i : z_T g d 36 13 ls (.int x :: st) h P = z_T g d 36 14 ls (.int x :: .int x :: st) h P := zt_dupI zi_36_13
theorem zi_36_14 : z_ins 36 14 = some (.getfield 42, 3) := by decide +kernel
theorem ze_36_14 : z_T g d 36 14 ls (.ref a :: st) h P = z_gI h.1 a 3 9 (fun x => z_T g d 36 17 ls (.int x :: st) h P) := zt_getI zi_36_14 ((congrArg (fun o => z_fl o 42) zo_36).trans zf_LatinRectangles_Grid_42)
theorem zi_36_17 : z_ins 36 17 = some (.iconst 1, 1) := by decide +kernel
theorem ze_36_17 : z_T g d 36 17 ls st h P = z_T g d 36 18 ls (.int (nI 1) :: st) h P := zt_iconst zi_36_17 rfl
theorem zi_36_18 : z_ins 36 18 = some (.iadd, 1) := by decide +kernel
theorem ze_36_18 : z_T g d 36 18 ls (.int y :: .int x :: st) h P = z_T g d 36 19 ls (.int (x + y) :: st) h P := zt_bin (f := fun x y => x + y) zi_36_18 rfl (fun _ _ _ => rfl)
theorem zi_36_19 : z_ins 36 19 = some (.putfield 42, 3) := by decide +kernel
theorem ze_36_19 : z_T g d 36 19 ls (.int x :: .ref a :: st) h P = z_pF h.1 a 3 9 (.int x) (fun f => z_T g d 36 22 ls st (f, h.2) P) := zt_putI zi_36_19 ((congrArg (fun o => z_fl o 42) zo_36).trans zf_LatinRectangles_Grid_42)
theorem zi_36_22 : z_ins 36 22 = some (.return_, 1) := by decide +kernel
theorem ze_36_22 : z_T g d 36 22 ls [] h P = P (.inr none, h) := zt_return zi_36_22 zr_36
-- LatinRectangles$Grid.isForbidden(II)Z
theorem zo_37 : z_own 37 = "LatinRectangles$Grid" := by decide +kernel
theorem zm_37 : z_maxL 37 = 3 := by decide +kernel
theorem zh_37 : z_hds 37 = [] := by decide +kernel
theorem zr_37 : z_rt 37 = (some .boolean) := by decide +kernel
theorem zn_37 : z_Ca g d 37 [.ref a0, .int x1, .int x2] h P = z_T g d 37 0 [.ref a0, .int x1, .int x2] [] h P := z_Ca_ent zm_37 rfl rfl
theorem zi_37_0 : z_ins 37 0 = some (.aload_n 0, 1) := by decide +kernel
theorem ze_37_0 : z_T g d 37 0 (.ref a :: ls) st h P = z_T g d 37 1 (.ref a :: ls) (.ref a :: st) h P := zt_aloadn zi_37_0 rfl rfl
theorem zi_37_1 : z_ins 37 1 = some (.getfield 19, 3) := by decide +kernel
theorem ze_37_1 : z_T g d 37 1 ls (.ref a :: st) h P = z_gR h.1 a 3 2 (fun x => z_T g d 37 4 ls (.ref x :: st) h P) := zt_getR zi_37_1 ((congrArg (fun o => z_fl o 19) zo_37).trans zf_LatinRectangles_Grid_19)
theorem zi_37_4 : z_ins 37 4 = some (.iload_n 1, 1) := by decide +kernel
theorem ze_37_4 : z_T g d 37 4 (v0 :: .int x :: ls) st h P = z_T g d 37 5 (v0 :: .int x :: ls) (.int x :: st) h P := zt_iloadn zi_37_4 rfl rfl
theorem zi_37_5 : z_ins 37 5 = some (.iaload, 1) := by decide +kernel
theorem ze_37_5 : z_T g d 37 5 ls (.int x :: .ref a :: st) h P = z_aL h.1 a z_tI x (fun v => z_T g d 37 6 ls (.int v :: st) h P) := zt_iaload zi_37_5
theorem zi_37_6 : z_ins 37 6 = some (.iload_n 2, 1) := by decide +kernel
theorem ze_37_6 : z_T g d 37 6 (v0 :: v1 :: .int x :: ls) st h P = z_T g d 37 7 (v0 :: v1 :: .int x :: ls) (.int x :: st) h P := zt_iloadn zi_37_6 rfl rfl
theorem zi_37_7 : z_ins 37 7 = some (.ishr, 1) := by decide +kernel
theorem ze_37_7 : z_T g d 37 7 ls (.int y :: .int x :: st) h P = z_T g d 37 8 ls (.int (x >>> (y &&& 31)) :: st) h P := zt_bin (f := fun x y => x >>> (y &&& 31)) zi_37_7 rfl (fun _ _ _ => rfl)
theorem zi_37_8 : z_ins 37 8 = some (.iconst 1, 1) := by decide +kernel
theorem ze_37_8 : z_T g d 37 8 ls st h P = z_T g d 37 9 ls (.int (nI 1) :: st) h P := zt_iconst zi_37_8 rfl
theorem zi_37_9 : z_ins 37 9 = some (.iand, 1) := by decide +kernel
theorem ze_37_9 : z_T g d 37 9 ls (.int y :: .int x :: st) h P = z_T g d 37 10 ls (.int (x &&& y) :: st) h P := zt_bin (f := fun x y => x &&& y) zi_37_9 rfl (fun _ _ _ => rfl)
theorem zi_37_10 : z_ins 37 10 = some (.ifCond .eq 7, 3) := by decide +kernel
theorem ze_37_10 : z_T g d 37 10 ls (.int x :: st) h P = (if x = nI 0 then z_T g d 37 17 ls st h P else z_T g d 37 13 ls st h P) := zt_ifeq zi_37_10 (by decide)
theorem zi_37_13 : z_ins 37 13 = some (.iconst 1, 1) := by decide +kernel
theorem ze_37_13 : z_T g d 37 13 ls st h P = z_T g d 37 14 ls (.int (nI 1) :: st) h P := zt_iconst zi_37_13 rfl
theorem zi_37_14 : z_ins 37 14 = some (.goto 4, 3) := by decide +kernel
theorem ze_37_14 : z_T g d 37 14 ls st h P = z_T g d 37 18 ls st h P := zt_goto zi_37_14 (by decide)
theorem zi_37_17 : z_ins 37 17 = some (.iconst 0, 1) := by decide +kernel
theorem ze_37_17 : z_T g d 37 17 ls st h P = z_T g d 37 18 ls (.int (nI 0) :: st) h P := zt_iconst zi_37_17 rfl
theorem zi_37_18 : z_ins 37 18 = some (.ireturn, 1) := by decide +kernel
theorem ze_37_18 : z_T g d 37 18 ls [.int x] h P = ((x = nI 0 ∨ x = nI 1) ∧ P (.inr (some (.int x)), h)) := zt_zreturn zi_37_18 zr_37
-- LatinRectangles$Grid.candidateBits(II)I
theorem zo_38 : z_own 38 = "LatinRectangles$Grid" := by decide +kernel
theorem zm_38 : z_maxL 38 = 4 := by decide +kernel
theorem zh_38 : z_hds 38 = [] := by decide +kernel
theorem zr_38 : z_rt 38 = (some .int) := by decide +kernel
theorem zn_38 : z_Ca g d 38 [.ref a0, .int x1, .int x2] h P = z_T g d 38 0 [.ref a0, .int x1, .int x2, z_un] [] h P := z_Ca_ent zm_38 rfl rfl
theorem zi_38_0 : z_ins 38 0 = some (.iload_n 1, 1) := by decide +kernel
theorem ze_38_0 : z_T g d 38 0 (v0 :: .int x :: ls) st h P = z_T g d 38 1 (v0 :: .int x :: ls) (.int x :: st) h P := zt_iloadn zi_38_0 rfl rfl
theorem zi_38_1 : z_ins 38 1 = some (.iconst 5, 1) := by decide +kernel
theorem ze_38_1 : z_T g d 38 1 ls st h P = z_T g d 38 2 ls (.int (nI 5) :: st) h P := zt_iconst zi_38_1 rfl
theorem zi_38_2 : z_ins 38 2 = some (.imul, 1) := by decide +kernel
theorem ze_38_2 : z_T g d 38 2 ls (.int y :: .int x :: st) h P = z_T g d 38 3 ls (.int (x * y) :: st) h P := zt_bin (f := fun x y => x * y) zi_38_2 rfl (fun _ _ _ => rfl)
theorem zi_38_3 : z_ins 38 3 = some (.iload_n 2, 1) := by decide +kernel
theorem ze_38_3 : z_T g d 38 3 (v0 :: v1 :: .int x :: ls) st h P = z_T g d 38 4 (v0 :: v1 :: .int x :: ls) (.int x :: st) h P := zt_iloadn zi_38_3 rfl rfl
theorem zi_38_4 : z_ins 38 4 = some (.iadd, 1) := by decide +kernel
theorem ze_38_4 : z_T g d 38 4 ls (.int y :: .int x :: st) h P = z_T g d 38 5 ls (.int (x + y) :: st) h P := zt_bin (f := fun x y => x + y) zi_38_4 rfl (fun _ _ _ => rfl)
theorem zi_38_5 : z_ins 38 5 = some (.istore_n 3, 1) := by decide +kernel
theorem ze_38_5 : z_T g d 38 5 (v0 :: v1 :: v2 :: v3 :: ls) (.int x :: st) h P = z_T g d 38 6 (v0 :: v1 :: v2 :: .int x :: ls) st h P := zt_istoren zi_38_5 rfl (Nat.le_add_left 4 _)
theorem zi_38_6 : z_ins 38 6 = some (.aload_n 0, 1) := by decide +kernel
theorem ze_38_6 : z_T g d 38 6 (.ref a :: ls) st h P = z_T g d 38 7 (.ref a :: ls) (.ref a :: st) h P := zt_aloadn zi_38_6 rfl rfl
theorem zi_38_7 : z_ins 38 7 = some (.getfield 9, 3) := by decide +kernel
theorem ze_38_7 : z_T g d 38 7 ls (.ref a :: st) h P = z_gR h.1 a 3 0 (fun x => z_T g d 38 10 ls (.ref x :: st) h P) := zt_getR zi_38_7 ((congrArg (fun o => z_fl o 9) zo_38).trans zf_LatinRectangles_Grid_9)
theorem zi_38_10 : z_ins 38 10 = some (.iload_n 3, 1) := by decide +kernel
theorem ze_38_10 : z_T g d 38 10 (v0 :: v1 :: v2 :: .int x :: ls) st h P = z_T g d 38 11 (v0 :: v1 :: v2 :: .int x :: ls) (.int x :: st) h P := zt_iloadn zi_38_10 rfl rfl
theorem zi_38_11 : z_ins 38 11 = some (.iaload, 1) := by decide +kernel
theorem ze_38_11 : z_T g d 38 11 ls (.int x :: .ref a :: st) h P = z_aL h.1 a z_tI x (fun v => z_T g d 38 12 ls (.int v :: st) h P) := zt_iaload zi_38_11
theorem zi_38_12 : z_ins 38 12 = some (.iconst (-1), 1) := by decide +kernel
theorem ze_38_12 : z_T g d 38 12 ls st h P = z_T g d 38 13 ls (.int (-1) :: st) h P := zt_iconst zi_38_12 rfl
theorem zi_38_13 : z_ins 38 13 = some (.if_icmp .eq 5, 3) := by decide +kernel
theorem ze_38_13 : z_T g d 38 13 ls (.int y :: .int x :: st) h P = (if x = y then z_T g d 38 18 ls st h P else z_T g d 38 16 ls st h P) := zt_icmpeq zi_38_13 (by decide)
theorem zi_38_16 : z_ins 38 16 = some (.iconst 0, 1) := by decide +kernel
theorem ze_38_16 : z_T g d 38 16 ls st h P = z_T g d 38 17 ls (.int (nI 0) :: st) h P := zt_iconst zi_38_16 rfl
theorem zi_38_17 : z_ins 38 17 = some (.ireturn, 1) := by decide +kernel
theorem ze_38_17 : z_T g d 38 17 ls [.int x] h P = P (.inr (some (.int x)), h) := zt_ireturn zi_38_17 zr_38
theorem zi_38_18 : z_ins 38 18 = some (.iconst 1, 1) := by decide +kernel
theorem ze_38_18 : z_T g d 38 18 ls st h P = z_T g d 38 19 ls (.int (nI 1) :: st) h P := zt_iconst zi_38_18 rfl
theorem zi_38_19 : z_ins 38 19 = some (.aload_n 0, 1) := by decide +kernel
theorem ze_38_19 : z_T g d 38 19 (.ref a :: ls) st h P = z_T g d 38 20 (.ref a :: ls) (.ref a :: st) h P := zt_aloadn zi_38_19 rfl rfl
theorem zi_38_20 : z_ins 38 20 = some (.getfield 36, 3) := by decide +kernel
theorem ze_38_20 : z_T g d 38 20 ls (.ref a :: st) h P = z_gI h.1 a 3 6 (fun x => z_T g d 38 23 ls (.int x :: st) h P) := zt_getI zi_38_20 ((congrArg (fun o => z_fl o 36) zo_38).trans zf_LatinRectangles_Grid_36)
theorem zi_38_23 : z_ins 38 23 = some (.ishl, 1) := by decide +kernel
theorem ze_38_23 : z_T g d 38 23 ls (.int y :: .int x :: st) h P = z_T g d 38 24 ls (.int (x <<< (y &&& 31)) :: st) h P := zt_bin (f := fun x y => x <<< (y &&& 31)) zi_38_23 rfl (fun _ _ _ => rfl)
theorem zi_38_24 : z_ins 38 24 = some (.iconst 1, 1) := by decide +kernel
theorem ze_38_24 : z_T g d 38 24 ls st h P = z_T g d 38 25 ls (.int (nI 1) :: st) h P := zt_iconst zi_38_24 rfl
theorem zi_38_25 : z_ins 38 25 = some (.isub, 1) := by decide +kernel
theorem ze_38_25 : z_T g d 38 25 ls (.int y :: .int x :: st) h P = z_T g d 38 26 ls (.int (x - y) :: st) h P := zt_bin (f := fun x y => x - y) zi_38_25 rfl (fun _ _ _ => rfl)
theorem zi_38_26 : z_ins 38 26 = some (.aload_n 0, 1) := by decide +kernel
theorem ze_38_26 : z_T g d 38 26 (.ref a :: ls) st h P = z_T g d 38 27 (.ref a :: ls) (.ref a :: st) h P := zt_aloadn zi_38_26 rfl rfl
theorem zi_38_27 : z_ins 38 27 = some (.getfield 22, 3) := by decide +kernel
theorem ze_38_27 : z_T g d 38 27 ls (.ref a :: st) h P = z_gR h.1 a 3 3 (fun x => z_T g d 38 30 ls (.ref x :: st) h P) := zt_getR zi_38_27 ((congrArg (fun o => z_fl o 22) zo_38).trans zf_LatinRectangles_Grid_22)
theorem zi_38_30 : z_ins 38 30 = some (.iload_n 1, 1) := by decide +kernel
theorem ze_38_30 : z_T g d 38 30 (v0 :: .int x :: ls) st h P = z_T g d 38 31 (v0 :: .int x :: ls) (.int x :: st) h P := zt_iloadn zi_38_30 rfl rfl
theorem zi_38_31 : z_ins 38 31 = some (.iaload, 1) := by decide +kernel
theorem ze_38_31 : z_T g d 38 31 ls (.int x :: .ref a :: st) h P = z_aL h.1 a z_tI x (fun v => z_T g d 38 32 ls (.int v :: st) h P) := zt_iaload zi_38_31
theorem zi_38_32 : z_ins 38 32 = some (.aload_n 0, 1) := by decide +kernel
theorem ze_38_32 : z_T g d 38 32 (.ref a :: ls) st h P = z_T g d 38 33 (.ref a :: ls) (.ref a :: st) h P := zt_aloadn zi_38_32 rfl rfl
theorem zi_38_33 : z_ins 38 33 = some (.getfield 25, 3) := by decide +kernel
theorem ze_38_33 : z_T g d 38 33 ls (.ref a :: st) h P = z_gR h.1 a 3 4 (fun x => z_T g d 38 36 ls (.ref x :: st) h P) := zt_getR zi_38_33 ((congrArg (fun o => z_fl o 25) zo_38).trans zf_LatinRectangles_Grid_25)
theorem zi_38_36 : z_ins 38 36 = some (.iload_n 2, 1) := by decide +kernel
theorem ze_38_36 : z_T g d 38 36 (v0 :: v1 :: .int x :: ls) st h P = z_T g d 38 37 (v0 :: v1 :: .int x :: ls) (.int x :: st) h P := zt_iloadn zi_38_36 rfl rfl
theorem zi_38_37 : z_ins 38 37 = some (.iaload, 1) := by decide +kernel
theorem ze_38_37 : z_T g d 38 37 ls (.int x :: .ref a :: st) h P = z_aL h.1 a z_tI x (fun v => z_T g d 38 38 ls (.int v :: st) h P) := zt_iaload zi_38_37
theorem zi_38_38 : z_ins 38 38 = some (.ior, 1) := by decide +kernel
theorem ze_38_38 : z_T g d 38 38 ls (.int y :: .int x :: st) h P = z_T g d 38 39 ls (.int (x ||| y) :: st) h P := zt_bin (f := fun x y => x ||| y) zi_38_38 rfl (fun _ _ _ => rfl)
theorem zi_38_39 : z_ins 38 39 = some (.aload_n 0, 1) := by decide +kernel
theorem ze_38_39 : z_T g d 38 39 (.ref a :: ls) st h P = z_T g d 38 40 (.ref a :: ls) (.ref a :: st) h P := zt_aloadn zi_38_39 rfl rfl
theorem zi_38_40 : z_ins 38 40 = some (.getfield 19, 3) := by decide +kernel
theorem ze_38_40 : z_T g d 38 40 ls (.ref a :: st) h P = z_gR h.1 a 3 2 (fun x => z_T g d 38 43 ls (.ref x :: st) h P) := zt_getR zi_38_40 ((congrArg (fun o => z_fl o 19) zo_38).trans zf_LatinRectangles_Grid_19)
theorem zi_38_43 : z_ins 38 43 = some (.iload_n 3, 1) := by decide +kernel
theorem ze_38_43 : z_T g d 38 43 (v0 :: v1 :: v2 :: .int x :: ls) st h P = z_T g d 38 44 (v0 :: v1 :: v2 :: .int x :: ls) (.int x :: st) h P := zt_iloadn zi_38_43 rfl rfl
theorem zi_38_44 : z_ins 38 44 = some (.iaload, 1) := by decide +kernel
theorem ze_38_44 : z_T g d 38 44 ls (.int x :: .ref a :: st) h P = z_aL h.1 a z_tI x (fun v => z_T g d 38 45 ls (.int v :: st) h P) := zt_iaload zi_38_44
theorem zi_38_45 : z_ins 38 45 = some (.ior, 1) := by decide +kernel
theorem ze_38_45 : z_T g d 38 45 ls (.int y :: .int x :: st) h P = z_T g d 38 46 ls (.int (x ||| y) :: st) h P := zt_bin (f := fun x y => x ||| y) zi_38_45 rfl (fun _ _ _ => rfl)
theorem zi_38_46 : z_ins 38 46 = some (.iconst (-1), 1) := by decide +kernel
theorem ze_38_46 : z_T g d 38 46 ls st h P = z_T g d 38 47 ls (.int (-1) :: st) h P := zt_iconst zi_38_46 rfl
theorem zi_38_47 : z_ins 38 47 = some (.ixor, 1) := by decide +kernel
theorem ze_38_47 : z_T g d 38 47 ls (.int y :: .int x :: st) h P = z_T g d 38 48 ls (.int (x ^^^ y) :: st) h P := zt_bin (f := fun x y => x ^^^ y) zi_38_47 rfl (fun _ _ _ => rfl)
theorem zi_38_48 : z_ins 38 48 = some (.iand, 1) := by decide +kernel
theorem ze_38_48 : z_T g d 38 48 ls (.int y :: .int x :: st) h P = z_T g d 38 49 ls (.int (x &&& y) :: st) h P := zt_bin (f := fun x y => x &&& y) zi_38_48 rfl (fun _ _ _ => rfl)
theorem zi_38_49 : z_ins 38 49 = some (.ireturn, 1) := by decide +kernel
theorem ze_38_49 : z_T g d 38 49 ls [.int x] h P = P (.inr (some (.int x)), h) := zt_ireturn zi_38_49 zr_38
-- LatinRectangles$Grid.isFullRow(I)Z
theorem zo_39 : z_own 39 = "LatinRectangles$Grid" := by decide +kernel
theorem zm_39 : z_maxL 39 = 2 := by decide +kernel
theorem zh_39 : z_hds 39 = [] := by decide +kernel
theorem zr_39 : z_rt 39 = (some .boolean) := by decide +kernel
theorem zn_39 : z_Ca g d 39 [.ref a0, .int x1] h P = z_T g d 39 0 [.ref a0, .int x1] [] h P := z_Ca_ent zm_39 rfl rfl
theorem zi_39_0 : z_ins 39 0 = some (.aload_n 0, 1) := by decide +kernel
theorem ze_39_0 : z_T g d 39 0 (.ref a :: ls) st h P = z_T g d 39 1 (.ref a :: ls) (.ref a :: st) h P := zt_aloadn zi_39_0 rfl rfl
theorem zi_39_1 : z_ins 39 1 = some (.getfield 22, 3) := by decide +kernel
theorem ze_39_1 : z_T g d 39 1 ls (.ref a :: st) h P = z_gR h.1 a 3 3 (fun x => z_T g d 39 4 ls (.ref x :: st) h P) := zt_getR zi_39_1 ((congrArg (fun o => z_fl o 22) zo_39).trans zf_LatinRectangles_Grid_22)
theorem zi_39_4 : z_ins 39 4 = some (.iload_n 1, 1) := by decide +kernel
theorem ze_39_4 : z_T g d 39 4 (v0 :: .int x :: ls) st h P = z_T g d 39 5 (v0 :: .int x :: ls) (.int x :: st) h P := zt_iloadn zi_39_4 rfl rfl
theorem zi_39_5 : z_ins 39 5 = some (.iaload, 1) := by decide +kernel
theorem ze_39_5 : z_T g d 39 5 ls (.int x :: .ref a :: st) h P = z_aL h.1 a z_tI x (fun v => z_T g d 39 6 ls (.int v :: st) h P) := zt_iaload zi_39_5
theorem zi_39_6 : z_ins 39 6 = some (.iconst 1, 1) := by decide +kernel
theorem ze_39_6 : z_T g d 39 6 ls st h P = z_T g d 39 7 ls (.int (nI 1) :: st) h P := zt_iconst zi_39_6 rfl
theorem zi_39_7 : z_ins 39 7 = some (.aload_n 0, 1) := by decide +kernel
theorem ze_39_7 : z_T g d 39 7 (.ref a :: ls) st h P = z_T g d 39 8 (.ref a :: ls) (.ref a :: st) h P := zt_aloadn zi_39_7 rfl rfl
theorem zi_39_8 : z_ins 39 8 = some (.getfield 36, 3) := by decide +kernel
theorem ze_39_8 : z_T g d 39 8 ls (.ref a :: st) h P = z_gI h.1 a 3 6 (fun x => z_T g d 39 11 ls (.int x :: st) h P) := zt_getI zi_39_8 ((congrArg (fun o => z_fl o 36) zo_39).trans zf_LatinRectangles_Grid_36)
theorem zi_39_11 : z_ins 39 11 = some (.ishl, 1) := by decide +kernel
theorem ze_39_11 : z_T g d 39 11 ls (.int y :: .int x :: st) h P = z_T g d 39 12 ls (.int (x <<< (y &&& 31)) :: st) h P := zt_bin (f := fun x y => x <<< (y &&& 31)) zi_39_11 rfl (fun _ _ _ => rfl)
theorem zi_39_12 : z_ins 39 12 = some (.iconst 1, 1) := by decide +kernel
theorem ze_39_12 : z_T g d 39 12 ls st h P = z_T g d 39 13 ls (.int (nI 1) :: st) h P := zt_iconst zi_39_12 rfl
theorem zi_39_13 : z_ins 39 13 = some (.isub, 1) := by decide +kernel
theorem ze_39_13 : z_T g d 39 13 ls (.int y :: .int x :: st) h P = z_T g d 39 14 ls (.int (x - y) :: st) h P := zt_bin (f := fun x y => x - y) zi_39_13 rfl (fun _ _ _ => rfl)
theorem zi_39_14 : z_ins 39 14 = some (.if_icmp .ne 7, 3) := by decide +kernel
theorem ze_39_14 : z_T g d 39 14 ls (.int y :: .int x :: st) h P = (if x = y then z_T g d 39 17 ls st h P else z_T g d 39 21 ls st h P) := zt_icmpne zi_39_14 (by decide)
theorem zi_39_17 : z_ins 39 17 = some (.iconst 1, 1) := by decide +kernel
theorem ze_39_17 : z_T g d 39 17 ls st h P = z_T g d 39 18 ls (.int (nI 1) :: st) h P := zt_iconst zi_39_17 rfl
theorem zi_39_18 : z_ins 39 18 = some (.goto 4, 3) := by decide +kernel
theorem ze_39_18 : z_T g d 39 18 ls st h P = z_T g d 39 22 ls st h P := zt_goto zi_39_18 (by decide)
theorem zi_39_21 : z_ins 39 21 = some (.iconst 0, 1) := by decide +kernel
theorem ze_39_21 : z_T g d 39 21 ls st h P = z_T g d 39 22 ls (.int (nI 0) :: st) h P := zt_iconst zi_39_21 rfl
theorem zi_39_22 : z_ins 39 22 = some (.ireturn, 1) := by decide +kernel
theorem ze_39_22 : z_T g d 39 22 ls [.int x] h P = ((x = nI 0 ∨ x = nI 1) ∧ P (.inr (some (.int x)), h)) := zt_zreturn zi_39_22 zr_39
-- LatinRectangles$Grid.fullRows()I
theorem zo_40 : z_own 40 = "LatinRectangles$Grid" := by decide +kernel
theorem zm_40 : z_maxL 40 = 3 := by decide +kernel
theorem zh_40 : z_hds 40 = [] := by decide +kernel
theorem zr_40 : z_rt 40 = (some .int) := by decide +kernel
theorem zn_40 : z_Ca g d 40 [.ref a0] h P = z_T g d 40 0 [.ref a0, z_un, z_un] [] h P := z_Ca_ent zm_40 rfl rfl
theorem zi_40_0 : z_ins 40 0 = some (.iconst 0, 1) := by decide +kernel
theorem ze_40_0 : z_T g d 40 0 ls st h P = z_T g d 40 1 ls (.int (nI 0) :: st) h P := zt_iconst zi_40_0 rfl
theorem zi_40_1 : z_ins 40 1 = some (.istore_n 1, 1) := by decide +kernel
theorem ze_40_1 : z_T g d 40 1 (v0 :: v1 :: ls) (.int x :: st) h P = z_T g d 40 2 (v0 :: .int x :: ls) st h P := zt_istoren zi_40_1 rfl (Nat.le_add_left 2 _)
theorem zi_40_2 : z_ins 40 2 = some (.iconst 0, 1) := by decide +kernel
theorem ze_40_2 : z_T g d 40 2 ls st h P = z_T g d 40 3 ls (.int (nI 0) :: st) h P := zt_iconst zi_40_2 rfl
theorem zi_40_3 : z_ins 40 3 = some (.istore_n 2, 1) := by decide +kernel
theorem ze_40_3 : z_T g d 40 3 (v0 :: v1 :: v2 :: ls) (.int x :: st) h P = z_T g d 40 4 (v0 :: v1 :: .int x :: ls) st h P := zt_istoren zi_40_3 rfl (Nat.le_add_left 3 _)
theorem zi_40_4 : z_ins 40 4 = some (.iload_n 2, 1) := by decide +kernel
theorem ze_40_4 : z_T g d 40 4 (v0 :: v1 :: .int x :: ls) st h P = z_T g d 40 5 (v0 :: v1 :: .int x :: ls) (.int x :: st) h P := zt_iloadn zi_40_4 rfl rfl
theorem zi_40_5 : z_ins 40 5 = some (.aload_n 0, 1) := by decide +kernel
theorem ze_40_5 : z_T g d 40 5 (.ref a :: ls) st h P = z_T g d 40 6 (.ref a :: ls) (.ref a :: st) h P := zt_aloadn zi_40_5 rfl rfl
theorem zi_40_6 : z_ins 40 6 = some (.getfield 32, 3) := by decide +kernel
theorem ze_40_6 : z_T g d 40 6 ls (.ref a :: st) h P = z_gI h.1 a 3 5 (fun x => z_T g d 40 9 ls (.int x :: st) h P) := zt_getI zi_40_6 ((congrArg (fun o => z_fl o 32) zo_40).trans zf_LatinRectangles_Grid_32)
theorem zi_40_9 : z_ins 40 9 = some (.if_icmp .ge 20, 3) := by decide +kernel
theorem ze_40_9 : z_T g d 40 9 ls (.int y :: .int x :: st) h P = (if x < y then z_T g d 40 12 ls st h P else z_T g d 40 29 ls st h P) := zt_icmpge zi_40_9 (by decide)
theorem zi_40_12 : z_ins 40 12 = some (.aload_n 0, 1) := by decide +kernel
theorem ze_40_12 : z_T g d 40 12 (.ref a :: ls) st h P = z_T g d 40 13 (.ref a :: ls) (.ref a :: st) h P := zt_aloadn zi_40_12 rfl rfl
theorem zi_40_13 : z_ins 40 13 = some (.iload_n 2, 1) := by decide +kernel
theorem ze_40_13 : z_T g d 40 13 (v0 :: v1 :: .int x :: ls) st h P = z_T g d 40 14 (v0 :: v1 :: .int x :: ls) (.int x :: st) h P := zt_iloadn zi_40_13 rfl rfl
theorem zi_40_14 : z_ins 40 14 = some (.invokevirtual 59, 3) := by decide +kernel
theorem ze_40_14 : z_T g d 40 14 ls (.int x0 :: .ref a :: st) h P = ((z_okS 8 st = true ∧ z_gO h.1 a 3 ∧ 0 < d) ∧ z_Ca g (d - 1) 39 [.ref a, .int x0] h (fun r => z_k r (fun v h' => z_T g d 40 17 ls (z_push v st) h' P) P)) := zt_callV (as := [.int x0]) zi_40_14 ((congrArg (fun o => z_lookup z_prs (o, 59)) zo_40).trans zp_LatinRectangles_Grid_59) ((congrArg (fun o => z_clk o 59) zo_40).trans zk_LatinRectangles_Grid_59) zh_40 zc_39 rfl rfl rfl
theorem zi_40_17 : z_ins 40 17 = some (.ifCond .eq 6, 3) := by decide +kernel
theorem ze_40_17 : z_T g d 40 17 ls (.int x :: st) h P = (if x = nI 0 then z_T g d 40 23 ls st h P else z_T g d 40 20 ls st h P) := zt_ifeq zi_40_17 (by decide)
theorem zi_40_20 : z_ins 40 20 = some (.iinc 1 1, 3) := by decide +kernel
theorem ze_40_20 : z_T g d 40 20 (v0 :: .int x :: ls) st h P = z_T g d 40 23 (v0 :: .int (x + (nI 1)) :: ls) st h P := zt_iinc zi_40_20 rfl rfl
theorem zi_40_23 : z_ins 40 23 = some (.iinc 2 1, 3) := by decide +kernel
theorem ze_40_23 : z_T g d 40 23 (v0 :: v1 :: .int x :: ls) st h P = z_T g d 40 26 (v0 :: v1 :: .int (x + (nI 1)) :: ls) st h P := zt_iinc zi_40_23 rfl rfl
theorem zi_40_26 : z_ins 40 26 = some (.goto (-22), 3) := by decide +kernel
theorem ze_40_26 : z_T g d 40 26 ls st h P = z_T g d 40 4 ls st h P := zt_goto zi_40_26 (by decide)
theorem zi_40_29 : z_ins 40 29 = some (.iload_n 1, 1) := by decide +kernel
theorem ze_40_29 : z_T g d 40 29 (v0 :: .int x :: ls) st h P = z_T g d 40 30 (v0 :: .int x :: ls) (.int x :: st) h P := zt_iloadn zi_40_29 rfl rfl
theorem zi_40_30 : z_ins 40 30 = some (.ireturn, 1) := by decide +kernel
theorem ze_40_30 : z_T g d 40 30 ls [.int x] h P = P (.inr (some (.int x)), h) := zt_ireturn zi_40_30 zr_40
-- LatinRectangles$Grid.deadCells()I
theorem zo_41 : z_own 41 = "LatinRectangles$Grid" := by decide +kernel
theorem zm_41 : z_maxL 41 = 4 := by decide +kernel
theorem zh_41 : z_hds 41 = [] := by decide +kernel
theorem zr_41 : z_rt 41 = (some .int) := by decide +kernel
theorem zn_41 : z_Ca g d 41 [.ref a0] h P = z_T g d 41 0 [.ref a0, z_un, z_un, z_un] [] h P := z_Ca_ent zm_41 rfl rfl
theorem zi_41_0 : z_ins 41 0 = some (.iconst 0, 1) := by decide +kernel
theorem ze_41_0 : z_T g d 41 0 ls st h P = z_T g d 41 1 ls (.int (nI 0) :: st) h P := zt_iconst zi_41_0 rfl
theorem zi_41_1 : z_ins 41 1 = some (.istore_n 1, 1) := by decide +kernel
theorem ze_41_1 : z_T g d 41 1 (v0 :: v1 :: ls) (.int x :: st) h P = z_T g d 41 2 (v0 :: .int x :: ls) st h P := zt_istoren zi_41_1 rfl (Nat.le_add_left 2 _)
theorem zi_41_2 : z_ins 41 2 = some (.iconst 0, 1) := by decide +kernel
theorem ze_41_2 : z_T g d 41 2 ls st h P = z_T g d 41 3 ls (.int (nI 0) :: st) h P := zt_iconst zi_41_2 rfl
theorem zi_41_3 : z_ins 41 3 = some (.istore_n 2, 1) := by decide +kernel
theorem ze_41_3 : z_T g d 41 3 (v0 :: v1 :: v2 :: ls) (.int x :: st) h P = z_T g d 41 4 (v0 :: v1 :: .int x :: ls) st h P := zt_istoren zi_41_3 rfl (Nat.le_add_left 3 _)
theorem zi_41_4 : z_ins 41 4 = some (.iload_n 2, 1) := by decide +kernel
theorem ze_41_4 : z_T g d 41 4 (v0 :: v1 :: .int x :: ls) st h P = z_T g d 41 5 (v0 :: v1 :: .int x :: ls) (.int x :: st) h P := zt_iloadn zi_41_4 rfl rfl
theorem zi_41_5 : z_ins 41 5 = some (.aload_n 0, 1) := by decide +kernel
theorem ze_41_5 : z_T g d 41 5 (.ref a :: ls) st h P = z_T g d 41 6 (.ref a :: ls) (.ref a :: st) h P := zt_aloadn zi_41_5 rfl rfl
theorem zi_41_6 : z_ins 41 6 = some (.getfield 32, 3) := by decide +kernel
theorem ze_41_6 : z_T g d 41 6 ls (.ref a :: st) h P = z_gI h.1 a 3 5 (fun x => z_T g d 41 9 ls (.int x :: st) h P) := zt_getI zi_41_6 ((congrArg (fun o => z_fl o 32) zo_41).trans zf_LatinRectangles_Grid_32)
theorem zi_41_9 : z_ins 41 9 = some (.if_icmp .ge 51, 3) := by decide +kernel
theorem ze_41_9 : z_T g d 41 9 ls (.int y :: .int x :: st) h P = (if x < y then z_T g d 41 12 ls st h P else z_T g d 41 60 ls st h P) := zt_icmpge zi_41_9 (by decide)
theorem zi_41_12 : z_ins 41 12 = some (.iconst 0, 1) := by decide +kernel
theorem ze_41_12 : z_T g d 41 12 ls st h P = z_T g d 41 13 ls (.int (nI 0) :: st) h P := zt_iconst zi_41_12 rfl
theorem zi_41_13 : z_ins 41 13 = some (.istore_n 3, 1) := by decide +kernel
theorem ze_41_13 : z_T g d 41 13 (v0 :: v1 :: v2 :: v3 :: ls) (.int x :: st) h P = z_T g d 41 14 (v0 :: v1 :: v2 :: .int x :: ls) st h P := zt_istoren zi_41_13 rfl (Nat.le_add_left 4 _)
theorem zi_41_14 : z_ins 41 14 = some (.iload_n 3, 1) := by decide +kernel
theorem ze_41_14 : z_T g d 41 14 (v0 :: v1 :: v2 :: .int x :: ls) st h P = z_T g d 41 15 (v0 :: v1 :: v2 :: .int x :: ls) (.int x :: st) h P := zt_iloadn zi_41_14 rfl rfl
theorem zi_41_15 : z_ins 41 15 = some (.aload_n 0, 1) := by decide +kernel
theorem ze_41_15 : z_T g d 41 15 (.ref a :: ls) st h P = z_T g d 41 16 (.ref a :: ls) (.ref a :: st) h P := zt_aloadn zi_41_15 rfl rfl
theorem zi_41_16 : z_ins 41 16 = some (.getfield 36, 3) := by decide +kernel
theorem ze_41_16 : z_T g d 41 16 ls (.ref a :: st) h P = z_gI h.1 a 3 6 (fun x => z_T g d 41 19 ls (.int x :: st) h P) := zt_getI zi_41_16 ((congrArg (fun o => z_fl o 36) zo_41).trans zf_LatinRectangles_Grid_36)
theorem zi_41_19 : z_ins 41 19 = some (.if_icmp .ge 35, 3) := by decide +kernel
theorem ze_41_19 : z_T g d 41 19 ls (.int y :: .int x :: st) h P = (if x < y then z_T g d 41 22 ls st h P else z_T g d 41 54 ls st h P) := zt_icmpge zi_41_19 (by decide)
theorem zi_41_22 : z_ins 41 22 = some (.aload_n 0, 1) := by decide +kernel
theorem ze_41_22 : z_T g d 41 22 (.ref a :: ls) st h P = z_T g d 41 23 (.ref a :: ls) (.ref a :: st) h P := zt_aloadn zi_41_22 rfl rfl
theorem zi_41_23 : z_ins 41 23 = some (.getfield 9, 3) := by decide +kernel
theorem ze_41_23 : z_T g d 41 23 ls (.ref a :: st) h P = z_gR h.1 a 3 0 (fun x => z_T g d 41 26 ls (.ref x :: st) h P) := zt_getR zi_41_23 ((congrArg (fun o => z_fl o 9) zo_41).trans zf_LatinRectangles_Grid_9)
theorem zi_41_26 : z_ins 41 26 = some (.iload_n 2, 1) := by decide +kernel
theorem ze_41_26 : z_T g d 41 26 (v0 :: v1 :: .int x :: ls) st h P = z_T g d 41 27 (v0 :: v1 :: .int x :: ls) (.int x :: st) h P := zt_iloadn zi_41_26 rfl rfl
theorem zi_41_27 : z_ins 41 27 = some (.iconst 5, 1) := by decide +kernel
theorem ze_41_27 : z_T g d 41 27 ls st h P = z_T g d 41 28 ls (.int (nI 5) :: st) h P := zt_iconst zi_41_27 rfl
theorem zi_41_28 : z_ins 41 28 = some (.imul, 1) := by decide +kernel
theorem ze_41_28 : z_T g d 41 28 ls (.int y :: .int x :: st) h P = z_T g d 41 29 ls (.int (x * y) :: st) h P := zt_bin (f := fun x y => x * y) zi_41_28 rfl (fun _ _ _ => rfl)
theorem zi_41_29 : z_ins 41 29 = some (.iload_n 3, 1) := by decide +kernel
theorem ze_41_29 : z_T g d 41 29 (v0 :: v1 :: v2 :: .int x :: ls) st h P = z_T g d 41 30 (v0 :: v1 :: v2 :: .int x :: ls) (.int x :: st) h P := zt_iloadn zi_41_29 rfl rfl
theorem zi_41_30 : z_ins 41 30 = some (.iadd, 1) := by decide +kernel
theorem ze_41_30 : z_T g d 41 30 ls (.int y :: .int x :: st) h P = z_T g d 41 31 ls (.int (x + y) :: st) h P := zt_bin (f := fun x y => x + y) zi_41_30 rfl (fun _ _ _ => rfl)
theorem zi_41_31 : z_ins 41 31 = some (.iaload, 1) := by decide +kernel
theorem ze_41_31 : z_T g d 41 31 ls (.int x :: .ref a :: st) h P = z_aL h.1 a z_tI x (fun v => z_T g d 41 32 ls (.int v :: st) h P) := zt_iaload zi_41_31
theorem zi_41_32 : z_ins 41 32 = some (.iconst (-1), 1) := by decide +kernel
theorem ze_41_32 : z_T g d 41 32 ls st h P = z_T g d 41 33 ls (.int (-1) :: st) h P := zt_iconst zi_41_32 rfl
theorem zi_41_33 : z_ins 41 33 = some (.if_icmp .ne 15, 3) := by decide +kernel
theorem ze_41_33 : z_T g d 41 33 ls (.int y :: .int x :: st) h P = (if x = y then z_T g d 41 36 ls st h P else z_T g d 41 48 ls st h P) := zt_icmpne zi_41_33 (by decide)
theorem zi_41_36 : z_ins 41 36 = some (.aload_n 0, 1) := by decide +kernel
theorem ze_41_36 : z_T g d 41 36 (.ref a :: ls) st h P = z_T g d 41 37 (.ref a :: ls) (.ref a :: st) h P := zt_aloadn zi_41_36 rfl rfl
theorem zi_41_37 : z_ins 41 37 = some (.iload_n 2, 1) := by decide +kernel
theorem ze_41_37 : z_T g d 41 37 (v0 :: v1 :: .int x :: ls) st h P = z_T g d 41 38 (v0 :: v1 :: .int x :: ls) (.int x :: st) h P := zt_iloadn zi_41_37 rfl rfl
theorem zi_41_38 : z_ins 41 38 = some (.iload_n 3, 1) := by decide +kernel
theorem ze_41_38 : z_T g d 41 38 (v0 :: v1 :: v2 :: .int x :: ls) st h P = z_T g d 41 39 (v0 :: v1 :: v2 :: .int x :: ls) (.int x :: st) h P := zt_iloadn zi_41_38 rfl rfl
theorem zi_41_39 : z_ins 41 39 = some (.invokevirtual 63, 3) := by decide +kernel
theorem ze_41_39 : z_T g d 41 39 ls (.int x1 :: .int x0 :: .ref a :: st) h P = ((z_okS 8 st = true ∧ z_gO h.1 a 3 ∧ 0 < d) ∧ z_Ca g (d - 1) 38 [.ref a, .int x0, .int x1] h (fun r => z_k r (fun v h' => z_T g d 41 42 ls (z_push v st) h' P) P)) := zt_callV (as := [.int x0, .int x1]) zi_41_39 ((congrArg (fun o => z_lookup z_prs (o, 63)) zo_41).trans zp_LatinRectangles_Grid_63) ((congrArg (fun o => z_clk o 63) zo_41).trans zk_LatinRectangles_Grid_63) zh_41 zc_38 rfl rfl rfl
theorem zi_41_42 : z_ins 41 42 = some (.ifCond .ne 6, 3) := by decide +kernel
theorem ze_41_42 : z_T g d 41 42 ls (.int x :: st) h P = (if x = nI 0 then z_T g d 41 45 ls st h P else z_T g d 41 48 ls st h P) := zt_ifne zi_41_42 (by decide)
theorem zi_41_45 : z_ins 41 45 = some (.iinc 1 1, 3) := by decide +kernel
theorem ze_41_45 : z_T g d 41 45 (v0 :: .int x :: ls) st h P = z_T g d 41 48 (v0 :: .int (x + (nI 1)) :: ls) st h P := zt_iinc zi_41_45 rfl rfl
theorem zi_41_48 : z_ins 41 48 = some (.iinc 3 1, 3) := by decide +kernel
theorem ze_41_48 : z_T g d 41 48 (v0 :: v1 :: v2 :: .int x :: ls) st h P = z_T g d 41 51 (v0 :: v1 :: v2 :: .int (x + (nI 1)) :: ls) st h P := zt_iinc zi_41_48 rfl rfl
theorem zi_41_51 : z_ins 41 51 = some (.goto (-37), 3) := by decide +kernel
theorem ze_41_51 : z_T g d 41 51 ls st h P = z_T g d 41 14 ls st h P := zt_goto zi_41_51 (by decide)
theorem zi_41_54 : z_ins 41 54 = some (.iinc 2 1, 3) := by decide +kernel
theorem ze_41_54 : z_T g d 41 54 (v0 :: v1 :: .int x :: ls) st h P = z_T g d 41 57 (v0 :: v1 :: .int (x + (nI 1)) :: ls) st h P := zt_iinc zi_41_54 rfl rfl
theorem zi_41_57 : z_ins 41 57 = some (.goto (-53), 3) := by decide +kernel
theorem ze_41_57 : z_T g d 41 57 ls st h P = z_T g d 41 4 ls st h P := zt_goto zi_41_57 (by decide)
theorem zi_41_60 : z_ins 41 60 = some (.iload_n 1, 1) := by decide +kernel
theorem ze_41_60 : z_T g d 41 60 (v0 :: .int x :: ls) st h P = z_T g d 41 61 (v0 :: .int x :: ls) (.int x :: st) h P := zt_iloadn zi_41_60 rfl rfl
theorem zi_41_61 : z_ins 41 61 = some (.ireturn, 1) := by decide +kernel
theorem ze_41_61 : z_T g d 41 61 ls [.int x] h P = P (.inr (some (.int x)), h) := zt_ireturn zi_41_61 zr_41
-- LatinRectangles$Grid.usesOf(I)I
theorem zo_42 : z_own 42 = "LatinRectangles$Grid" := by decide +kernel
theorem zm_42 : z_maxL 42 = 5 := by decide +kernel
theorem zh_42 : z_hds 42 = [] := by decide +kernel
theorem zr_42 : z_rt 42 = (some .int) := by decide +kernel
theorem zn_42 : z_Ca g d 42 [.ref a0, .int x1] h P = z_T g d 42 0 [.ref a0, .int x1, z_un, z_un, z_un] [] h P := z_Ca_ent zm_42 rfl rfl
theorem zi_42_0 : z_ins 42 0 = some (.iload_n 1, 1) := by decide +kernel
theorem ze_42_0 : z_T g d 42 0 (v0 :: .int x :: ls) st h P = z_T g d 42 1 (v0 :: .int x :: ls) (.int x :: st) h P := zt_iloadn zi_42_0 rfl rfl
theorem zi_42_1 : z_ins 42 1 = some (.ifCond .ge 5, 3) := by decide +kernel
theorem ze_42_1 : z_T g d 42 1 ls (.int x :: st) h P = (if x < nI 0 then z_T g d 42 4 ls st h P else z_T g d 42 6 ls st h P) := zt_ifge zi_42_1 (by decide)
theorem zi_42_4 : z_ins 42 4 = some (.iconst 0, 1) := by decide +kernel
theorem ze_42_4 : z_T g d 42 4 ls st h P = z_T g d 42 5 ls (.int (nI 0) :: st) h P := zt_iconst zi_42_4 rfl
theorem zi_42_5 : z_ins 42 5 = some (.ireturn, 1) := by decide +kernel
theorem ze_42_5 : z_T g d 42 5 ls [.int x] h P = P (.inr (some (.int x)), h) := zt_ireturn zi_42_5 zr_42
theorem zi_42_6 : z_ins 42 6 = some (.iconst 0, 1) := by decide +kernel
theorem ze_42_6 : z_T g d 42 6 ls st h P = z_T g d 42 7 ls (.int (nI 0) :: st) h P := zt_iconst zi_42_6 rfl
theorem zi_42_7 : z_ins 42 7 = some (.istore_n 2, 1) := by decide +kernel
theorem ze_42_7 : z_T g d 42 7 (v0 :: v1 :: v2 :: ls) (.int x :: st) h P = z_T g d 42 8 (v0 :: v1 :: .int x :: ls) st h P := zt_istoren zi_42_7 rfl (Nat.le_add_left 3 _)
theorem zi_42_8 : z_ins 42 8 = some (.iconst 0, 1) := by decide +kernel
theorem ze_42_8 : z_T g d 42 8 ls st h P = z_T g d 42 9 ls (.int (nI 0) :: st) h P := zt_iconst zi_42_8 rfl
theorem zi_42_9 : z_ins 42 9 = some (.istore_n 3, 1) := by decide +kernel
theorem ze_42_9 : z_T g d 42 9 (v0 :: v1 :: v2 :: v3 :: ls) (.int x :: st) h P = z_T g d 42 10 (v0 :: v1 :: v2 :: .int x :: ls) st h P := zt_istoren zi_42_9 rfl (Nat.le_add_left 4 _)
theorem zi_42_10 : z_ins 42 10 = some (.iload_n 3, 1) := by decide +kernel
theorem ze_42_10 : z_T g d 42 10 (v0 :: v1 :: v2 :: .int x :: ls) st h P = z_T g d 42 11 (v0 :: v1 :: v2 :: .int x :: ls) (.int x :: st) h P := zt_iloadn zi_42_10 rfl rfl
theorem zi_42_11 : z_ins 42 11 = some (.aload_n 0, 1) := by decide +kernel
theorem ze_42_11 : z_T g d 42 11 (.ref a :: ls) st h P = z_T g d 42 12 (.ref a :: ls) (.ref a :: st) h P := zt_aloadn zi_42_11 rfl rfl
theorem zi_42_12 : z_ins 42 12 = some (.getfield 32, 3) := by decide +kernel
theorem ze_42_12 : z_T g d 42 12 ls (.ref a :: st) h P = z_gI h.1 a 3 5 (fun x => z_T g d 42 15 ls (.int x :: st) h P) := zt_getI zi_42_12 ((congrArg (fun o => z_fl o 32) zo_42).trans zf_LatinRectangles_Grid_32)
theorem zi_42_15 : z_ins 42 15 = some (.if_icmp .ge 45, 3) := by decide +kernel
theorem ze_42_15 : z_T g d 42 15 ls (.int y :: .int x :: st) h P = (if x < y then z_T g d 42 18 ls st h P else z_T g d 42 60 ls st h P) := zt_icmpge zi_42_15 (by decide)
theorem zi_42_18 : z_ins 42 18 = some (.iconst 0, 1) := by decide +kernel
theorem ze_42_18 : z_T g d 42 18 ls st h P = z_T g d 42 19 ls (.int (nI 0) :: st) h P := zt_iconst zi_42_18 rfl
theorem zi_42_19 : z_ins 42 19 = some (.istore 4, 2) := by decide +kernel
theorem ze_42_19 : z_T g d 42 19 (v0 :: v1 :: v2 :: v3 :: v4 :: ls) (.int x :: st) h P = z_T g d 42 21 (v0 :: v1 :: v2 :: v3 :: .int x :: ls) st h P := zt_istore zi_42_19 (Nat.le_add_left 5 _)
theorem zi_42_21 : z_ins 42 21 = some (.iload 4, 2) := by decide +kernel
theorem ze_42_21 : z_T g d 42 21 (v0 :: v1 :: v2 :: v3 :: .int x :: ls) st h P = z_T g d 42 23 (v0 :: v1 :: v2 :: v3 :: .int x :: ls) (.int x :: st) h P := zt_iload zi_42_21 rfl
theorem zi_42_23 : z_ins 42 23 = some (.aload_n 0, 1) := by decide +kernel
theorem ze_42_23 : z_T g d 42 23 (.ref a :: ls) st h P = z_T g d 42 24 (.ref a :: ls) (.ref a :: st) h P := zt_aloadn zi_42_23 rfl rfl
theorem zi_42_24 : z_ins 42 24 = some (.getfield 36, 3) := by decide +kernel
theorem ze_42_24 : z_T g d 42 24 ls (.ref a :: st) h P = z_gI h.1 a 3 6 (fun x => z_T g d 42 27 ls (.int x :: st) h P) := zt_getI zi_42_24 ((congrArg (fun o => z_fl o 36) zo_42).trans zf_LatinRectangles_Grid_36)
theorem zi_42_27 : z_ins 42 27 = some (.if_icmp .ge 27, 3) := by decide +kernel
theorem ze_42_27 : z_T g d 42 27 ls (.int y :: .int x :: st) h P = (if x < y then z_T g d 42 30 ls st h P else z_T g d 42 54 ls st h P) := zt_icmpge zi_42_27 (by decide)
theorem zi_42_30 : z_ins 42 30 = some (.aload_n 0, 1) := by decide +kernel
theorem ze_42_30 : z_T g d 42 30 (.ref a :: ls) st h P = z_T g d 42 31 (.ref a :: ls) (.ref a :: st) h P := zt_aloadn zi_42_30 rfl rfl
theorem zi_42_31 : z_ins 42 31 = some (.getfield 9, 3) := by decide +kernel
theorem ze_42_31 : z_T g d 42 31 ls (.ref a :: st) h P = z_gR h.1 a 3 0 (fun x => z_T g d 42 34 ls (.ref x :: st) h P) := zt_getR zi_42_31 ((congrArg (fun o => z_fl o 9) zo_42).trans zf_LatinRectangles_Grid_9)
theorem zi_42_34 : z_ins 42 34 = some (.iload_n 3, 1) := by decide +kernel
theorem ze_42_34 : z_T g d 42 34 (v0 :: v1 :: v2 :: .int x :: ls) st h P = z_T g d 42 35 (v0 :: v1 :: v2 :: .int x :: ls) (.int x :: st) h P := zt_iloadn zi_42_34 rfl rfl
theorem zi_42_35 : z_ins 42 35 = some (.iconst 5, 1) := by decide +kernel
theorem ze_42_35 : z_T g d 42 35 ls st h P = z_T g d 42 36 ls (.int (nI 5) :: st) h P := zt_iconst zi_42_35 rfl
theorem zi_42_36 : z_ins 42 36 = some (.imul, 1) := by decide +kernel
theorem ze_42_36 : z_T g d 42 36 ls (.int y :: .int x :: st) h P = z_T g d 42 37 ls (.int (x * y) :: st) h P := zt_bin (f := fun x y => x * y) zi_42_36 rfl (fun _ _ _ => rfl)
theorem zi_42_37 : z_ins 42 37 = some (.iload 4, 2) := by decide +kernel
theorem ze_42_37 : z_T g d 42 37 (v0 :: v1 :: v2 :: v3 :: .int x :: ls) st h P = z_T g d 42 39 (v0 :: v1 :: v2 :: v3 :: .int x :: ls) (.int x :: st) h P := zt_iload zi_42_37 rfl
theorem zi_42_39 : z_ins 42 39 = some (.iadd, 1) := by decide +kernel
theorem ze_42_39 : z_T g d 42 39 ls (.int y :: .int x :: st) h P = z_T g d 42 40 ls (.int (x + y) :: st) h P := zt_bin (f := fun x y => x + y) zi_42_39 rfl (fun _ _ _ => rfl)
theorem zi_42_40 : z_ins 42 40 = some (.iaload, 1) := by decide +kernel
theorem ze_42_40 : z_T g d 42 40 ls (.int x :: .ref a :: st) h P = z_aL h.1 a z_tI x (fun v => z_T g d 42 41 ls (.int v :: st) h P) := zt_iaload zi_42_40
theorem zi_42_41 : z_ins 42 41 = some (.iload_n 1, 1) := by decide +kernel
theorem ze_42_41 : z_T g d 42 41 (v0 :: .int x :: ls) st h P = z_T g d 42 42 (v0 :: .int x :: ls) (.int x :: st) h P := zt_iloadn zi_42_41 rfl rfl
theorem zi_42_42 : z_ins 42 42 = some (.if_icmp .ne 6, 3) := by decide +kernel
theorem ze_42_42 : z_T g d 42 42 ls (.int y :: .int x :: st) h P = (if x = y then z_T g d 42 45 ls st h P else z_T g d 42 48 ls st h P) := zt_icmpne zi_42_42 (by decide)
theorem zi_42_45 : z_ins 42 45 = some (.iinc 2 1, 3) := by decide +kernel
theorem ze_42_45 : z_T g d 42 45 (v0 :: v1 :: .int x :: ls) st h P = z_T g d 42 48 (v0 :: v1 :: .int (x + (nI 1)) :: ls) st h P := zt_iinc zi_42_45 rfl rfl
theorem zi_42_48 : z_ins 42 48 = some (.iinc 4 1, 3) := by decide +kernel
theorem ze_42_48 : z_T g d 42 48 (v0 :: v1 :: v2 :: v3 :: .int x :: ls) st h P = z_T g d 42 51 (v0 :: v1 :: v2 :: v3 :: .int (x + (nI 1)) :: ls) st h P := zt_iinc zi_42_48 rfl rfl
theorem zi_42_51 : z_ins 42 51 = some (.goto (-30), 3) := by decide +kernel
theorem ze_42_51 : z_T g d 42 51 ls st h P = z_T g d 42 21 ls st h P := zt_goto zi_42_51 (by decide)
theorem zi_42_54 : z_ins 42 54 = some (.iinc 3 1, 3) := by decide +kernel
theorem ze_42_54 : z_T g d 42 54 (v0 :: v1 :: v2 :: .int x :: ls) st h P = z_T g d 42 57 (v0 :: v1 :: v2 :: .int (x + (nI 1)) :: ls) st h P := zt_iinc zi_42_54 rfl rfl
theorem zi_42_57 : z_ins 42 57 = some (.goto (-47), 3) := by decide +kernel
theorem ze_42_57 : z_T g d 42 57 ls st h P = z_T g d 42 10 ls st h P := zt_goto zi_42_57 (by decide)
theorem zi_42_60 : z_ins 42 60 = some (.iload_n 2, 1) := by decide +kernel
theorem ze_42_60 : z_T g d 42 60 (v0 :: v1 :: .int x :: ls) st h P = z_T g d 42 61 (v0 :: v1 :: .int x :: ls) (.int x :: st) h P := zt_iloadn zi_42_60 rfl rfl
theorem zi_42_61 : z_ins 42 61 = some (.ireturn, 1) := by decide +kernel
theorem ze_42_61 : z_T g d 42 61 ls [.int x] h P = P (.inr (some (.int x)), h) := zt_ireturn zi_42_61 zr_42
-- LatinRectangles$History.<init>()V
theorem zo_43 : z_own 43 = "LatinRectangles$History" := by decide +kernel
theorem zm_43 : z_maxL 43 = 1 := by decide +kernel
theorem zh_43 : z_hds 43 = [] := by decide +kernel
theorem zr_43 : z_rt 43 = none := by decide +kernel
theorem zn_43 : z_Ca g d 43 [.ref a0] h P = z_T g d 43 0 [.ref a0] [] h P := z_Ca_ent zm_43 rfl rfl
theorem zi_43_0 : z_ins 43 0 = some (.aload_n 0, 1) := by decide +kernel
theorem ze_43_0 : z_T g d 43 0 (.ref a :: ls) st h P = z_T g d 43 1 (.ref a :: ls) (.ref a :: st) h P := zt_aloadn zi_43_0 rfl rfl
theorem zi_43_1 : z_ins 43 1 = some (.invokespecial 3, 3) := by decide +kernel
theorem ze_43_1 : z_T g d 43 1 ls (.ref a :: st) h P = (z_okS 8 st = true ∧ z_T g d 43 4 ls st h P) := zt_objInit zi_43_1 ((congrArg (fun o => z_lookup z_ois (o, 3)) zo_43).trans zq_LatinRectangles_History_3)
theorem zi_43_4 : z_ins 43 4 = some (.aload_n 0, 1) := by decide +kernel
theorem ze_43_4 : z_T g d 43 4 (.ref a :: ls) st h P = z_T g d 43 5 (.ref a :: ls) (.ref a :: st) h P := zt_aloadn zi_43_4 rfl rfl
theorem zi_43_5 : z_ins 43 5 = some (.bipush 10, 2) := by decide +kernel
theorem ze_43_5 : z_T g d 43 5 ls st h P = z_T g d 43 7 ls (.int (nI 10) :: st) h P := zt_bipush zi_43_5 rfl
theorem zi_43_7 : z_ins 43 7 = some (.bipush 25, 2) := by decide +kernel
theorem ze_43_7 : z_T g d 43 7 ls st h P = z_T g d 43 9 ls (.int (nI 25) :: st) h P := zt_bipush zi_43_7 rfl
theorem zi_43_9 : z_ins 43 9 = some (.multianewarray 9 2, 4) := by decide +kernel
theorem ze_43_9 : z_T g d 43 9 ls (.int y :: .int x :: st) h P = z_nM h x y (fun q h' => z_T g d 43 13 ls (.ref q :: st) h' P) := zt_multi zi_43_9 (by decide +kernel)
theorem zi_43_13 : z_ins 43 13 = some (.putfield 11, 3) := by decide +kernel
theorem ze_43_13 : z_T g d 43 13 ls (.ref b :: .ref a :: st) h P = z_pF h.1 a 4 0 (.ref b) (fun f => z_T g d 43 16 ls st (f, h.2) P) := zt_putR zi_43_13 ((congrArg (fun o => z_fl o 11) zo_43).trans zf_LatinRectangles_History_11) (by decide +kernel)
theorem zi_43_16 : z_ins 43 16 = some (.return_, 1) := by decide +kernel
theorem ze_43_16 : z_T g d 43 16 ls [] h P = P (.inr none, h) := zt_return zi_43_16 zr_43
-- LatinRectangles$History.clear()V
theorem zo_44 : z_own 44 = "LatinRectangles$History" := by decide +kernel
theorem zm_44 : z_maxL 44 = 1 := by decide +kernel
theorem zh_44 : z_hds 44 = [] := by decide +kernel
theorem zr_44 : z_rt 44 = none := by decide +kernel
theorem zn_44 : z_Ca g d 44 [.ref a0] h P = z_T g d 44 0 [.ref a0] [] h P := z_Ca_ent zm_44 rfl rfl
theorem zi_44_0 : z_ins 44 0 = some (.aload_n 0, 1) := by decide +kernel
theorem ze_44_0 : z_T g d 44 0 (.ref a :: ls) st h P = z_T g d 44 1 (.ref a :: ls) (.ref a :: st) h P := zt_aloadn zi_44_0 rfl rfl
theorem zi_44_1 : z_ins 44 1 = some (.iconst 0, 1) := by decide +kernel
theorem ze_44_1 : z_T g d 44 1 ls st h P = z_T g d 44 2 ls (.int (nI 0) :: st) h P := zt_iconst zi_44_1 rfl
theorem zi_44_2 : z_ins 44 2 = some (.putfield 16, 3) := by decide +kernel
theorem ze_44_2 : z_T g d 44 2 ls (.int x :: .ref a :: st) h P = z_pF h.1 a 4 1 (.int x) (fun f => z_T g d 44 5 ls st (f, h.2) P) := zt_putI zi_44_2 ((congrArg (fun o => z_fl o 16) zo_44).trans zf_LatinRectangles_History_16)
theorem zi_44_5 : z_ins 44 5 = some (.aload_n 0, 1) := by decide +kernel
theorem ze_44_5 : z_T g d 44 5 (.ref a :: ls) st h P = z_T g d 44 6 (.ref a :: ls) (.ref a :: st) h P := zt_aloadn zi_44_5 rfl rfl
theorem zi_44_6 : z_ins 44 6 = some (.iconst 0, 1) := by decide +kernel
theorem ze_44_6 : z_T g d 44 6 ls st h P = z_T g d 44 7 ls (.int (nI 0) :: st) h P := zt_iconst zi_44_6 rfl
theorem zi_44_7 : z_ins 44 7 = some (.putfield 20, 3) := by decide +kernel
theorem ze_44_7 : z_T g d 44 7 ls (.int x :: .ref a :: st) h P = z_pF h.1 a 4 2 (.int x) (fun f => z_T g d 44 10 ls st (f, h.2) P) := zt_putI zi_44_7 ((congrArg (fun o => z_fl o 20) zo_44).trans zf_LatinRectangles_History_20)
theorem zi_44_10 : z_ins 44 10 = some (.return_, 1) := by decide +kernel
theorem ze_44_10 : z_T g d 44 10 ls [] h P = P (.inr none, h) := zt_return zi_44_10 zr_44
-- LatinRectangles$History.record(LLatinRectangles$Grid;)V
theorem zo_45 : z_own 45 = "LatinRectangles$History" := by decide +kernel
theorem zm_45 : z_maxL 45 = 2 := by decide +kernel
theorem zh_45 : z_hds 45 = [] := by decide +kernel
theorem zr_45 : z_rt 45 = none := by decide +kernel
theorem zn_45 : z_Ca g d 45 [.ref a0, .ref a1] h P = z_T g d 45 0 [.ref a0, .ref a1] [] h P := z_Ca_ent zm_45 rfl rfl
theorem zi_45_0 : z_ins 45 0 = some (.aload_n 1, 1) := by decide +kernel
theorem ze_45_0 : z_T g d 45 0 (v0 :: .ref a :: ls) st h P = z_T g d 45 1 (v0 :: .ref a :: ls) (.ref a :: st) h P := zt_aloadn zi_45_0 rfl rfl
theorem zi_45_1 : z_ins 45 1 = some (.aload_n 0, 1) := by decide +kernel
theorem ze_45_1 : z_T g d 45 1 (.ref a :: ls) st h P = z_T g d 45 2 (.ref a :: ls) (.ref a :: st) h P := zt_aloadn zi_45_1 rfl rfl
theorem zi_45_2 : z_ins 45 2 = some (.getfield 11, 3) := by decide +kernel
theorem ze_45_2 : z_T g d 45 2 ls (.ref a :: st) h P = z_gR h.1 a 4 0 (fun x => z_T g d 45 5 ls (.ref x :: st) h P) := zt_getR zi_45_2 ((congrArg (fun o => z_fl o 11) zo_45).trans zf_LatinRectangles_History_11)
theorem zi_45_5 : z_ins 45 5 = some (.aload_n 0, 1) := by decide +kernel
theorem ze_45_5 : z_T g d 45 5 (.ref a :: ls) st h P = z_T g d 45 6 (.ref a :: ls) (.ref a :: st) h P := zt_aloadn zi_45_5 rfl rfl
theorem zi_45_6 : z_ins 45 6 = some (.getfield 16, 3) := by decide +kernel
theorem ze_45_6 : z_T g d 45 6 ls (.ref a :: st) h P = z_gI h.1 a 4 1 (fun x => z_T g d 45 9 ls (.int x :: st) h P) := zt_getI zi_45_6 ((congrArg (fun o => z_fl o 16) zo_45).trans zf_LatinRectangles_History_16)
theorem zi_45_9 : z_ins 45 9 = some (.aaload, 1) := by decide +kernel
theorem ze_45_9 : z_T g d 45 9 ls (.int x :: .ref a :: st) h P = z_qL h.1 a x (fun v => z_T g d 45 10 ls (.ref v :: st) h P) := zt_aaload zi_45_9
theorem zi_45_10 : z_ins 45 10 = some (.invokevirtual 23, 3) := by decide +kernel
theorem ze_45_10 : z_T g d 45 10 ls (.ref a0 :: .ref a :: st) h P = ((z_okS 8 st = true ∧ z_gO h.1 a 3 ∧ 0 < d) ∧ z_Ca g (d - 1) 32 [.ref a, .ref a0] h (fun r => z_k r (fun v h' => z_T g d 45 13 ls (z_push v st) h' P) P)) := zt_callV (as := [.ref a0]) zi_45_10 ((congrArg (fun o => z_lookup z_prs (o, 23)) zo_45).trans zp_LatinRectangles_History_23) ((congrArg (fun o => z_clk o 23) zo_45).trans zk_LatinRectangles_History_23) zh_45 zc_32 rfl rfl rfl
theorem zi_45_13 : z_ins 45 13 = some (.aload_n 0, 1) := by decide +kernel
theorem ze_45_13 : z_T g d 45 13 (.ref a :: ls) st h P = z_T g d 45 14 (.ref a :: ls) (.ref a :: st) h P := zt_aloadn zi_45_13 rfl rfl
theorem zi_45_14 : z_ins 45 14 = some (.aload_n 0, 1) := by decide +kernel
theorem ze_45_14 : z_T g d 45 14 (.ref a :: ls) st h P = z_T g d 45 15 (.ref a :: ls) (.ref a :: st) h P := zt_aloadn zi_45_14 rfl rfl
theorem zi_45_15 : z_ins 45 15 = some (.getfield 16, 3) := by decide +kernel
theorem ze_45_15 : z_T g d 45 15 ls (.ref a :: st) h P = z_gI h.1 a 4 1 (fun x => z_T g d 45 18 ls (.int x :: st) h P) := zt_getI zi_45_15 ((congrArg (fun o => z_fl o 16) zo_45).trans zf_LatinRectangles_History_16)
theorem zi_45_18 : z_ins 45 18 = some (.iconst 1, 1) := by decide +kernel
theorem ze_45_18 : z_T g d 45 18 ls st h P = z_T g d 45 19 ls (.int (nI 1) :: st) h P := zt_iconst zi_45_18 rfl
theorem zi_45_19 : z_ins 45 19 = some (.iadd, 1) := by decide +kernel
theorem ze_45_19 : z_T g d 45 19 ls (.int y :: .int x :: st) h P = z_T g d 45 20 ls (.int (x + y) :: st) h P := zt_bin (f := fun x y => x + y) zi_45_19 rfl (fun _ _ _ => rfl)
theorem zi_45_20 : z_ins 45 20 = some (.bipush 10, 2) := by decide +kernel
theorem ze_45_20 : z_T g d 45 20 ls st h P = z_T g d 45 22 ls (.int (nI 10) :: st) h P := zt_bipush zi_45_20 rfl
theorem zi_45_22 : z_ins 45 22 = some (.irem, 1) := by decide +kernel
theorem ze_45_22 : z_T g d 45 22 ls (.int y :: .int x :: st) h P = (¬ y = nI 0 ∧ z_T g d 45 23 ls (.int (x - x / y * y) :: st) h P) := zt_irem zi_45_22
theorem zi_45_23 : z_ins 45 23 = some (.putfield 16, 3) := by decide +kernel
theorem ze_45_23 : z_T g d 45 23 ls (.int x :: .ref a :: st) h P = z_pF h.1 a 4 1 (.int x) (fun f => z_T g d 45 26 ls st (f, h.2) P) := zt_putI zi_45_23 ((congrArg (fun o => z_fl o 16) zo_45).trans zf_LatinRectangles_History_16)
theorem zi_45_26 : z_ins 45 26 = some (.aload_n 0, 1) := by decide +kernel
theorem ze_45_26 : z_T g d 45 26 (.ref a :: ls) st h P = z_T g d 45 27 (.ref a :: ls) (.ref a :: st) h P := zt_aloadn zi_45_26 rfl rfl
theorem zi_45_27 : z_ins 45 27 = some (.aload_n 0, 1) := by decide +kernel
theorem ze_45_27 : z_T g d 45 27 (.ref a :: ls) st h P = z_T g d 45 28 (.ref a :: ls) (.ref a :: st) h P := zt_aloadn zi_45_27 rfl rfl
theorem zi_45_28 : z_ins 45 28 = some (.getfield 20, 3) := by decide +kernel
theorem ze_45_28 : z_T g d 45 28 ls (.ref a :: st) h P = z_gI h.1 a 4 2 (fun x => z_T g d 45 31 ls (.int x :: st) h P) := zt_getI zi_45_28 ((congrArg (fun o => z_fl o 20) zo_45).trans zf_LatinRectangles_History_20)
theorem zi_45_31 : z_ins 45 31 = some (.iconst 1, 1) := by decide +kernel
theorem ze_45_31 : z_T g d 45 31 ls st h P = z_T g d 45 32 ls (.int (nI 1) :: st) h P := zt_iconst zi_45_31 rfl
theorem zi_45_32 : z_ins 45 32 = some (.iadd, 1) := by decide +kernel
theorem ze_45_32 : z_T g d 45 32 ls (.int y :: .int x :: st) h P = z_T g d 45 33 ls (.int (x + y) :: st) h P := zt_bin (f := fun x y => x + y) zi_45_32 rfl (fun _ _ _ => rfl)
theorem zi_45_33 : z_ins 45 33 = some (.bipush 10, 2) := by decide +kernel
theorem ze_45_33 : z_T g d 45 33 ls st h P = z_T g d 45 35 ls (.int (nI 10) :: st) h P := zt_bipush zi_45_33 rfl
theorem zi_45_35 : z_ins 45 35 = some (.invokestatic 29, 3) := by decide +kernel
theorem ze_45_35 (hok : z_okS 8 (.int y :: .int x :: st) = true) : z_T g d 45 35 ls (.int y :: .int x :: st) h P = z_T g d 45 38 ls (.int (if y < x then y else x) :: st) h P := zt_primS zi_45_35 ((congrArg (fun o => z_lookup z_prs (o, 29)) zo_45).trans zq_LatinRectangles_History_29) (by decide) hok rfl
theorem zi_45_38 : z_ins 45 38 = some (.putfield 20, 3) := by decide +kernel
theorem ze_45_38 : z_T g d 45 38 ls (.int x :: .ref a :: st) h P = z_pF h.1 a 4 2 (.int x) (fun f => z_T g d 45 41 ls st (f, h.2) P) := zt_putI zi_45_38 ((congrArg (fun o => z_fl o 20) zo_45).trans zf_LatinRectangles_History_20)
theorem zi_45_41 : z_ins 45 41 = some (.return_, 1) := by decide +kernel
theorem ze_45_41 : z_T g d 45 41 ls [] h P = P (.inr none, h) := zt_return zi_45_41 zr_45
-- LatinRectangles$History.stepBack(LLatinRectangles$Grid;)I
theorem zo_46 : z_own 46 = "LatinRectangles$History" := by decide +kernel
theorem zm_46 : z_maxL 46 = 2 := by decide +kernel
theorem zh_46 : z_hds 46 = [] := by decide +kernel
theorem zr_46 : z_rt 46 = (some .int) := by decide +kernel
theorem zn_46 : z_Ca g d 46 [.ref a0, .ref a1] h P = z_T g d 46 0 [.ref a0, .ref a1] [] h P := z_Ca_ent zm_46 rfl rfl
theorem zi_46_0 : z_ins 46 0 = some (.aload_n 0, 1) := by decide +kernel
theorem ze_46_0 : z_T g d 46 0 (.ref a :: ls) st h P = z_T g d 46 1 (.ref a :: ls) (.ref a :: st) h P := zt_aloadn zi_46_0 rfl rfl
theorem zi_46_1 : z_ins 46 1 = some (.getfield 20, 3) := by decide +kernel
theorem ze_46_1 : z_T g d 46 1 ls (.ref a :: st) h P = z_gI h.1 a 4 2 (fun x => z_T g d 46 4 ls (.int x :: st) h P) := zt_getI zi_46_1 ((congrArg (fun o => z_fl o 20) zo_46).trans zf_LatinRectangles_History_20)
theorem zi_46_4 : z_ins 46 4 = some (.ifCond .ne 5, 3) := by decide +kernel
theorem ze_46_4 : z_T g d 46 4 ls (.int x :: st) h P = (if x = nI 0 then z_T g d 46 7 ls st h P else z_T g d 46 9 ls st h P) := zt_ifne zi_46_4 (by decide)
theorem zi_46_7 : z_ins 46 7 = some (.iconst (-1), 1) := by decide +kernel
theorem ze_46_7 : z_T g d 46 7 ls st h P = z_T g d 46 8 ls (.int (-1) :: st) h P := zt_iconst zi_46_7 rfl
theorem zi_46_8 : z_ins 46 8 = some (.ireturn, 1) := by decide +kernel
theorem ze_46_8 : z_T g d 46 8 ls [.int x] h P = P (.inr (some (.int x)), h) := zt_ireturn zi_46_8 zr_46
theorem zi_46_9 : z_ins 46 9 = some (.aload_n 0, 1) := by decide +kernel
theorem ze_46_9 : z_T g d 46 9 (.ref a :: ls) st h P = z_T g d 46 10 (.ref a :: ls) (.ref a :: st) h P := zt_aloadn zi_46_9 rfl rfl
theorem zi_46_10 : z_ins 46 10 = some (.aload_n 0, 1) := by decide +kernel
theorem ze_46_10 : z_T g d 46 10 (.ref a :: ls) st h P = z_T g d 46 11 (.ref a :: ls) (.ref a :: st) h P := zt_aloadn zi_46_10 rfl rfl
theorem zi_46_11 : z_ins 46 11 = some (.getfield 16, 3) := by decide +kernel
theorem ze_46_11 : z_T g d 46 11 ls (.ref a :: st) h P = z_gI h.1 a 4 1 (fun x => z_T g d 46 14 ls (.int x :: st) h P) := zt_getI zi_46_11 ((congrArg (fun o => z_fl o 16) zo_46).trans zf_LatinRectangles_History_16)
theorem zi_46_14 : z_ins 46 14 = some (.bipush 10, 2) := by decide +kernel
theorem ze_46_14 : z_T g d 46 14 ls st h P = z_T g d 46 16 ls (.int (nI 10) :: st) h P := zt_bipush zi_46_14 rfl
theorem zi_46_16 : z_ins 46 16 = some (.iadd, 1) := by decide +kernel
theorem ze_46_16 : z_T g d 46 16 ls (.int y :: .int x :: st) h P = z_T g d 46 17 ls (.int (x + y) :: st) h P := zt_bin (f := fun x y => x + y) zi_46_16 rfl (fun _ _ _ => rfl)
theorem zi_46_17 : z_ins 46 17 = some (.iconst 1, 1) := by decide +kernel
theorem ze_46_17 : z_T g d 46 17 ls st h P = z_T g d 46 18 ls (.int (nI 1) :: st) h P := zt_iconst zi_46_17 rfl
theorem zi_46_18 : z_ins 46 18 = some (.isub, 1) := by decide +kernel
theorem ze_46_18 : z_T g d 46 18 ls (.int y :: .int x :: st) h P = z_T g d 46 19 ls (.int (x - y) :: st) h P := zt_bin (f := fun x y => x - y) zi_46_18 rfl (fun _ _ _ => rfl)
theorem zi_46_19 : z_ins 46 19 = some (.bipush 10, 2) := by decide +kernel
theorem ze_46_19 : z_T g d 46 19 ls st h P = z_T g d 46 21 ls (.int (nI 10) :: st) h P := zt_bipush zi_46_19 rfl
theorem zi_46_21 : z_ins 46 21 = some (.irem, 1) := by decide +kernel
theorem ze_46_21 : z_T g d 46 21 ls (.int y :: .int x :: st) h P = (¬ y = nI 0 ∧ z_T g d 46 22 ls (.int (x - x / y * y) :: st) h P) := zt_irem zi_46_21
theorem zi_46_22 : z_ins 46 22 = some (.putfield 16, 3) := by decide +kernel
theorem ze_46_22 : z_T g d 46 22 ls (.int x :: .ref a :: st) h P = z_pF h.1 a 4 1 (.int x) (fun f => z_T g d 46 25 ls st (f, h.2) P) := zt_putI zi_46_22 ((congrArg (fun o => z_fl o 16) zo_46).trans zf_LatinRectangles_History_16)
theorem zi_46_25 : z_ins 46 25 = some (.aload_n 0, 1) := by decide +kernel
theorem ze_46_25 : z_T g d 46 25 (.ref a :: ls) st h P = z_T g d 46 26 (.ref a :: ls) (.ref a :: st) h P := zt_aloadn zi_46_25 rfl rfl
theorem zi_46_26 : z_ins 46 26 = some (.dup, 1) := by decide +kernel
theorem ze_46_26 : z_T g d 46 26 ls (.ref a :: st) h P = z_T g d 46 27 ls (.ref a :: .ref a :: st) h P := zt_dupR zi_46_26
theorem ze_46_26_i : z_T g d 46 26 ls (.int x :: st) h P = z_T g d 46 27 ls (.int x :: .int x :: st) h P := zt_dupI zi_46_26
theorem zi_46_27 : z_ins 46 27 = some (.getfield 20, 3) := by decide +kernel
theorem ze_46_27 : z_T g d 46 27 ls (.ref a :: st) h P = z_gI h.1 a 4 2 (fun x => z_T g d 46 30 ls (.int x :: st) h P) := zt_getI zi_46_27 ((congrArg (fun o => z_fl o 20) zo_46).trans zf_LatinRectangles_History_20)
theorem zi_46_30 : z_ins 46 30 = some (.iconst 1, 1) := by decide +kernel
theorem ze_46_30 : z_T g d 46 30 ls st h P = z_T g d 46 31 ls (.int (nI 1) :: st) h P := zt_iconst zi_46_30 rfl
theorem zi_46_31 : z_ins 46 31 = some (.isub, 1) := by decide +kernel
theorem ze_46_31 : z_T g d 46 31 ls (.int y :: .int x :: st) h P = z_T g d 46 32 ls (.int (x - y) :: st) h P := zt_bin (f := fun x y => x - y) zi_46_31 rfl (fun _ _ _ => rfl)
theorem zi_46_32 : z_ins 46 32 = some (.putfield 20, 3) := by decide +kernel
theorem ze_46_32 : z_T g d 46 32 ls (.int x :: .ref a :: st) h P = z_pF h.1 a 4 2 (.int x) (fun f => z_T g d 46 35 ls st (f, h.2) P) := zt_putI zi_46_32 ((congrArg (fun o => z_fl o 20) zo_46).trans zf_LatinRectangles_History_20)
theorem zi_46_35 : z_ins 46 35 = some (.aload_n 1, 1) := by decide +kernel
theorem ze_46_35 : z_T g d 46 35 (v0 :: .ref a :: ls) st h P = z_T g d 46 36 (v0 :: .ref a :: ls) (.ref a :: st) h P := zt_aloadn zi_46_35 rfl rfl
theorem zi_46_36 : z_ins 46 36 = some (.aload_n 0, 1) := by decide +kernel
theorem ze_46_36 : z_T g d 46 36 (.ref a :: ls) st h P = z_T g d 46 37 (.ref a :: ls) (.ref a :: st) h P := zt_aloadn zi_46_36 rfl rfl
theorem zi_46_37 : z_ins 46 37 = some (.getfield 11, 3) := by decide +kernel
theorem ze_46_37 : z_T g d 46 37 ls (.ref a :: st) h P = z_gR h.1 a 4 0 (fun x => z_T g d 46 40 ls (.ref x :: st) h P) := zt_getR zi_46_37 ((congrArg (fun o => z_fl o 11) zo_46).trans zf_LatinRectangles_History_11)
theorem zi_46_40 : z_ins 46 40 = some (.aload_n 0, 1) := by decide +kernel
theorem ze_46_40 : z_T g d 46 40 (.ref a :: ls) st h P = z_T g d 46 41 (.ref a :: ls) (.ref a :: st) h P := zt_aloadn zi_46_40 rfl rfl
theorem zi_46_41 : z_ins 46 41 = some (.getfield 16, 3) := by decide +kernel
theorem ze_46_41 : z_T g d 46 41 ls (.ref a :: st) h P = z_gI h.1 a 4 1 (fun x => z_T g d 46 44 ls (.int x :: st) h P) := zt_getI zi_46_41 ((congrArg (fun o => z_fl o 16) zo_46).trans zf_LatinRectangles_History_16)
theorem zi_46_44 : z_ins 46 44 = some (.aaload, 1) := by decide +kernel
theorem ze_46_44 : z_T g d 46 44 ls (.int x :: .ref a :: st) h P = z_qL h.1 a x (fun v => z_T g d 46 45 ls (.ref v :: st) h P) := zt_aaload zi_46_44
theorem zi_46_45 : z_ins 46 45 = some (.invokevirtual 35, 3) := by decide +kernel
theorem ze_46_45 : z_T g d 46 45 ls (.ref a0 :: .ref a :: st) h P = ((z_okS 8 st = true ∧ z_gO h.1 a 3 ∧ 0 < d) ∧ z_Ca g (d - 1) 31 [.ref a, .ref a0] h (fun r => z_k r (fun v h' => z_T g d 46 48 ls (z_push v st) h' P) P)) := zt_callV (as := [.ref a0]) zi_46_45 ((congrArg (fun o => z_lookup z_prs (o, 35)) zo_46).trans zp_LatinRectangles_History_35) ((congrArg (fun o => z_clk o 35) zo_46).trans zk_LatinRectangles_History_35) zh_46 zc_31 rfl rfl rfl
theorem zi_46_48 : z_ins 46 48 = some (.aload_n 0, 1) := by decide +kernel
theorem ze_46_48 : z_T g d 46 48 (.ref a :: ls) st h P = z_T g d 46 49 (.ref a :: ls) (.ref a :: st) h P := zt_aloadn zi_46_48 rfl rfl
theorem zi_46_49 : z_ins 46 49 = some (.getfield 20, 3) := by decide +kernel
theorem ze_46_49 : z_T g d 46 49 ls (.ref a :: st) h P = z_gI h.1 a 4 2 (fun x => z_T g d 46 52 ls (.int x :: st) h P) := zt_getI zi_46_49 ((congrArg (fun o => z_fl o 20) zo_46).trans zf_LatinRectangles_History_20)
theorem zi_46_52 : z_ins 46 52 = some (.ireturn, 1) := by decide +kernel
theorem ze_46_52 : z_T g d 46 52 ls [.int x] h P = P (.inr (some (.int x)), h) := zt_ireturn zi_46_52 zr_46
-- LatinRectangles$Snapshots.<init>()V
theorem zo_57 : z_own 57 = "LatinRectangles$Snapshots" := by decide +kernel
theorem zm_57 : z_maxL 57 = 1 := by decide +kernel
theorem zh_57 : z_hds 57 = [] := by decide +kernel
theorem zr_57 : z_rt 57 = none := by decide +kernel
theorem zn_57 : z_Ca g d 57 [.ref a0] h P = z_T g d 57 0 [.ref a0] [] h P := z_Ca_ent zm_57 rfl rfl
theorem zi_57_0 : z_ins 57 0 = some (.aload_n 0, 1) := by decide +kernel
theorem ze_57_0 : z_T g d 57 0 (.ref a :: ls) st h P = z_T g d 57 1 (.ref a :: ls) (.ref a :: st) h P := zt_aloadn zi_57_0 rfl rfl
theorem zi_57_1 : z_ins 57 1 = some (.invokespecial 3, 3) := by decide +kernel
theorem ze_57_1 : z_T g d 57 1 ls (.ref a :: st) h P = (z_okS 8 st = true ∧ z_T g d 57 4 ls st h P) := zt_objInit zi_57_1 ((congrArg (fun o => z_lookup z_ois (o, 3)) zo_57).trans zq_LatinRectangles_Snapshots_3)
theorem zi_57_4 : z_ins 57 4 = some (.aload_n 0, 1) := by decide +kernel
theorem ze_57_4 : z_T g d 57 4 (.ref a :: ls) st h P = z_T g d 57 5 (.ref a :: ls) (.ref a :: st) h P := zt_aloadn zi_57_4 rfl rfl
theorem zi_57_5 : z_ins 57 5 = some (.iconst 2, 1) := by decide +kernel
theorem ze_57_5 : z_T g d 57 5 ls st h P = z_T g d 57 6 ls (.int (nI 2) :: st) h P := zt_iconst zi_57_5 rfl
theorem zi_57_6 : z_ins 57 6 = some (.bipush 25, 2) := by decide +kernel
theorem ze_57_6 : z_T g d 57 6 ls st h P = z_T g d 57 8 ls (.int (nI 25) :: st) h P := zt_bipush zi_57_6 rfl
theorem zi_57_8 : z_ins 57 8 = some (.multianewarray 9 2, 4) := by decide +kernel
theorem ze_57_8 : z_T g d 57 8 ls (.int y :: .int x :: st) h P = z_nM h x y (fun q h' => z_T g d 57 12 ls (.ref q :: st) h' P) := zt_multi zi_57_8 (by decide +kernel)
theorem zi_57_12 : z_ins 57 12 = some (.putfield 11, 3) := by decide +kernel
theorem ze_57_12 : z_T g d 57 12 ls (.ref b :: .ref a :: st) h P = z_pF h.1 a 6 0 (.ref b) (fun f => z_T g d 57 15 ls st (f, h.2) P) := zt_putR zi_57_12 ((congrArg (fun o => z_fl o 11) zo_57).trans zf_LatinRectangles_Snapshots_11) (by decide +kernel)
theorem zi_57_15 : z_ins 57 15 = some (.aload_n 0, 1) := by decide +kernel
theorem ze_57_15 : z_T g d 57 15 (.ref a :: ls) st h P = z_T g d 57 16 (.ref a :: ls) (.ref a :: st) h P := zt_aloadn zi_57_15 rfl rfl
theorem zi_57_16 : z_ins 57 16 = some (.iconst 2, 1) := by decide +kernel
theorem ze_57_16 : z_T g d 57 16 ls st h P = z_T g d 57 17 ls (.int (nI 2) :: st) h P := zt_iconst zi_57_16 rfl
theorem zi_57_17 : z_ins 57 17 = some (.newarray .boolean, 2) := by decide +kernel
theorem ze_57_17 : z_T g d 57 17 ls (.int x :: st) h P = z_nA h .boolean x (fun q h' => z_T g d 57 19 ls (.ref q :: st) h' P) := zt_newarray zi_57_17
theorem zi_57_19 : z_ins 57 19 = some (.putfield 16, 3) := by decide +kernel
theorem ze_57_19 : z_T g d 57 19 ls (.ref b :: .ref a :: st) h P = z_pF h.1 a 6 1 (.ref b) (fun f => z_T g d 57 22 ls st (f, h.2) P) := zt_putR zi_57_19 ((congrArg (fun o => z_fl o 16) zo_57).trans zf_LatinRectangles_Snapshots_16) (by decide +kernel)
theorem zi_57_22 : z_ins 57 22 = some (.return_, 1) := by decide +kernel
theorem ze_57_22 : z_T g d 57 22 ls [] h P = P (.inr none, h) := zt_return zi_57_22 zr_57
-- LatinRectangles$Snapshots.clear()V
theorem zo_58 : z_own 58 = "LatinRectangles$Snapshots" := by decide +kernel
theorem zm_58 : z_maxL 58 = 2 := by decide +kernel
theorem zh_58 : z_hds 58 = [] := by decide +kernel
theorem zr_58 : z_rt 58 = none := by decide +kernel
theorem zn_58 : z_Ca g d 58 [.ref a0] h P = z_T g d 58 0 [.ref a0, z_un] [] h P := z_Ca_ent zm_58 rfl rfl
theorem zi_58_0 : z_ins 58 0 = some (.iconst 0, 1) := by decide +kernel
theorem ze_58_0 : z_T g d 58 0 ls st h P = z_T g d 58 1 ls (.int (nI 0) :: st) h P := zt_iconst zi_58_0 rfl
theorem zi_58_1 : z_ins 58 1 = some (.istore_n 1, 1) := by decide +kernel
theorem ze_58_1 : z_T g d 58 1 (v0 :: v1 :: ls) (.int x :: st) h P = z_T g d 58 2 (v0 :: .int x :: ls) st h P := zt_istoren zi_58_1 rfl (Nat.le_add_left 2 _)
theorem zi_58_2 : z_ins 58 2 = some (.iload_n 1, 1) := by decide +kernel
theorem ze_58_2 : z_T g d 58 2 (v0 :: .int x :: ls) st h P = z_T g d 58 3 (v0 :: .int x :: ls) (.int x :: st) h P := zt_iloadn zi_58_2 rfl rfl
theorem zi_58_3 : z_ins 58 3 = some (.iconst 2, 1) := by decide +kernel
theorem ze_58_3 : z_T g d 58 3 ls st h P = z_T g d 58 4 ls (.int (nI 2) :: st) h P := zt_iconst zi_58_3 rfl
theorem zi_58_4 : z_ins 58 4 = some (.if_icmp .ge 16, 3) := by decide +kernel
theorem ze_58_4 : z_T g d 58 4 ls (.int y :: .int x :: st) h P = (if x < y then z_T g d 58 7 ls st h P else z_T g d 58 20 ls st h P) := zt_icmpge zi_58_4 (by decide)
theorem zi_58_7 : z_ins 58 7 = some (.aload_n 0, 1) := by decide +kernel
theorem ze_58_7 : z_T g d 58 7 (.ref a :: ls) st h P = z_T g d 58 8 (.ref a :: ls) (.ref a :: st) h P := zt_aloadn zi_58_7 rfl rfl
theorem zi_58_8 : z_ins 58 8 = some (.getfield 16, 3) := by decide +kernel
theorem ze_58_8 : z_T g d 58 8 ls (.ref a :: st) h P = z_gR h.1 a 6 1 (fun x => z_T g d 58 11 ls (.ref x :: st) h P) := zt_getR zi_58_8 ((congrArg (fun o => z_fl o 16) zo_58).trans zf_LatinRectangles_Snapshots_16)
theorem zi_58_11 : z_ins 58 11 = some (.iload_n 1, 1) := by decide +kernel
theorem ze_58_11 : z_T g d 58 11 (v0 :: .int x :: ls) st h P = z_T g d 58 12 (v0 :: .int x :: ls) (.int x :: st) h P := zt_iloadn zi_58_11 rfl rfl
theorem zi_58_12 : z_ins 58 12 = some (.iconst 0, 1) := by decide +kernel
theorem ze_58_12 : z_T g d 58 12 ls st h P = z_T g d 58 13 ls (.int (nI 0) :: st) h P := zt_iconst zi_58_12 rfl
theorem zi_58_13 : z_ins 58 13 = some (.bastore, 1) := by decide +kernel
theorem ze_58_13 : z_T g d 58 13 ls (.int y :: .int x :: .ref a :: st) h P = z_aS h.1 a z_tB x y (fun f => z_T g d 58 14 ls st (f, h.2) P) := zt_bastore zi_58_13
theorem zi_58_14 : z_ins 58 14 = some (.iinc 1 1, 3) := by decide +kernel
theorem ze_58_14 : z_T g d 58 14 (v0 :: .int x :: ls) st h P = z_T g d 58 17 (v0 :: .int (x + (nI 1)) :: ls) st h P := zt_iinc zi_58_14 rfl rfl
theorem zi_58_17 : z_ins 58 17 = some (.goto (-15), 3) := by decide +kernel
theorem ze_58_17 : z_T g d 58 17 ls st h P = z_T g d 58 2 ls st h P := zt_goto zi_58_17 (by decide)
theorem zi_58_20 : z_ins 58 20 = some (.return_, 1) := by decide +kernel
theorem ze_58_20 : z_T g d 58 20 ls [] h P = P (.inr none, h) := zt_return zi_58_20 zr_58
-- LatinRectangles$Snapshots.save(ILLatinRectangles$Grid;)Z
theorem zo_59 : z_own 59 = "LatinRectangles$Snapshots" := by decide +kernel
theorem zm_59 : z_maxL 59 = 4 := by decide +kernel
theorem zh_59 : z_hds 59 = [] := by decide +kernel
theorem zr_59 : z_rt 59 = (some .boolean) := by decide +kernel
theorem zn_59 : z_Ca g d 59 [.ref a0, .int x1, .ref a2] h P = z_T g d 59 0 [.ref a0, .int x1, .ref a2, z_un] [] h P := z_Ca_ent zm_59 rfl rfl
theorem zi_59_0 : z_ins 59 0 = some (.aload_n 0, 1) := by decide +kernel
theorem ze_59_0 : z_T g d 59 0 (.ref a :: ls) st h P = z_T g d 59 1 (.ref a :: ls) (.ref a :: st) h P := zt_aloadn zi_59_0 rfl rfl
theorem zi_59_1 : z_ins 59 1 = some (.getfield 16, 3) := by decide +kernel
theorem ze_59_1 : z_T g d 59 1 ls (.ref a :: st) h P = z_gR h.1 a 6 1 (fun x => z_T g d 59 4 ls (.ref x :: st) h P) := zt_getR zi_59_1 ((congrArg (fun o => z_fl o 16) zo_59).trans zf_LatinRectangles_Snapshots_16)
theorem zi_59_4 : z_ins 59 4 = some (.iload_n 1, 1) := by decide +kernel
theorem ze_59_4 : z_T g d 59 4 (v0 :: .int x :: ls) st h P = z_T g d 59 5 (v0 :: .int x :: ls) (.int x :: st) h P := zt_iloadn zi_59_4 rfl rfl
theorem zi_59_5 : z_ins 59 5 = some (.baload, 1) := by decide +kernel
theorem ze_59_5 : z_T g d 59 5 ls (.int x :: .ref a :: st) h P = z_aL h.1 a z_tB x (fun v => z_T g d 59 6 ls (.int v :: st) h P) := zt_baload zi_59_5
theorem zi_59_6 : z_ins 59 6 = some (.istore_n 3, 1) := by decide +kernel
theorem ze_59_6 : z_T g d 59 6 (v0 :: v1 :: v2 :: v3 :: ls) (.int x :: st) h P = z_T g d 59 7 (v0 :: v1 :: v2 :: .int x :: ls) st h P := zt_istoren zi_59_6 rfl (Nat.le_add_left 4 _)
theorem zi_59_7 : z_ins 59 7 = some (.aload_n 2, 1) := by decide +kernel
theorem ze_59_7 : z_T g d 59 7 (v0 :: v1 :: .ref a :: ls) st h P = z_T g d 59 8 (v0 :: v1 :: .ref a :: ls) (.ref a :: st) h P := zt_aloadn zi_59_7 rfl rfl
theorem zi_59_8 : z_ins 59 8 = some (.aload_n 0, 1) := by decide +kernel
theorem ze_59_8 : z_T g d 59 8 (.ref a :: ls) st h P = z_T g d 59 9 (.ref a :: ls) (.ref a :: st) h P := zt_aloadn zi_59_8 rfl rfl
theorem zi_59_9 : z_ins 59 9 = some (.getfield 11, 3) := by decide +kernel
theorem ze_59_9 : z_T g d 59 9 ls (.ref a :: st) h P = z_gR h.1 a 6 0 (fun x => z_T g d 59 12 ls (.ref x :: st) h P) := zt_getR zi_59_9 ((congrArg (fun o => z_fl o 11) zo_59).trans zf_LatinRectangles_Snapshots_11)
theorem zi_59_12 : z_ins 59 12 = some (.iload_n 1, 1) := by decide +kernel
theorem ze_59_12 : z_T g d 59 12 (v0 :: .int x :: ls) st h P = z_T g d 59 13 (v0 :: .int x :: ls) (.int x :: st) h P := zt_iloadn zi_59_12 rfl rfl
theorem zi_59_13 : z_ins 59 13 = some (.aaload, 1) := by decide +kernel
theorem ze_59_13 : z_T g d 59 13 ls (.int x :: .ref a :: st) h P = z_qL h.1 a x (fun v => z_T g d 59 14 ls (.ref v :: st) h P) := zt_aaload zi_59_13
theorem zi_59_14 : z_ins 59 14 = some (.invokevirtual 20, 3) := by decide +kernel
theorem ze_59_14 : z_T g d 59 14 ls (.ref a0 :: .ref a :: st) h P = ((z_okS 8 st = true ∧ z_gO h.1 a 3 ∧ 0 < d) ∧ z_Ca g (d - 1) 32 [.ref a, .ref a0] h (fun r => z_k r (fun v h' => z_T g d 59 17 ls (z_push v st) h' P) P)) := zt_callV (as := [.ref a0]) zi_59_14 ((congrArg (fun o => z_lookup z_prs (o, 20)) zo_59).trans zp_LatinRectangles_Snapshots_20) ((congrArg (fun o => z_clk o 20) zo_59).trans zk_LatinRectangles_Snapshots_20) zh_59 zc_32 rfl rfl rfl
theorem zi_59_17 : z_ins 59 17 = some (.aload_n 0, 1) := by decide +kernel
theorem ze_59_17 : z_T g d 59 17 (.ref a :: ls) st h P = z_T g d 59 18 (.ref a :: ls) (.ref a :: st) h P := zt_aloadn zi_59_17 rfl rfl
theorem zi_59_18 : z_ins 59 18 = some (.getfield 16, 3) := by decide +kernel
theorem ze_59_18 : z_T g d 59 18 ls (.ref a :: st) h P = z_gR h.1 a 6 1 (fun x => z_T g d 59 21 ls (.ref x :: st) h P) := zt_getR zi_59_18 ((congrArg (fun o => z_fl o 16) zo_59).trans zf_LatinRectangles_Snapshots_16)
theorem zi_59_21 : z_ins 59 21 = some (.iload_n 1, 1) := by decide +kernel
theorem ze_59_21 : z_T g d 59 21 (v0 :: .int x :: ls) st h P = z_T g d 59 22 (v0 :: .int x :: ls) (.int x :: st) h P := zt_iloadn zi_59_21 rfl rfl
theorem zi_59_22 : z_ins 59 22 = some (.iconst 1, 1) := by decide +kernel
theorem ze_59_22 : z_T g d 59 22 ls st h P = z_T g d 59 23 ls (.int (nI 1) :: st) h P := zt_iconst zi_59_22 rfl
theorem zi_59_23 : z_ins 59 23 = some (.bastore, 1) := by decide +kernel
theorem ze_59_23 : z_T g d 59 23 ls (.int y :: .int x :: .ref a :: st) h P = z_aS h.1 a z_tB x y (fun f => z_T g d 59 24 ls st (f, h.2) P) := zt_bastore zi_59_23
theorem zi_59_24 : z_ins 59 24 = some (.iload_n 3, 1) := by decide +kernel
theorem ze_59_24 : z_T g d 59 24 (v0 :: v1 :: v2 :: .int x :: ls) st h P = z_T g d 59 25 (v0 :: v1 :: v2 :: .int x :: ls) (.int x :: st) h P := zt_iloadn zi_59_24 rfl rfl
theorem zi_59_25 : z_ins 59 25 = some (.ireturn, 1) := by decide +kernel
theorem ze_59_25 : z_T g d 59 25 ls [.int x] h P = ((x = nI 0 ∨ x = nI 1) ∧ P (.inr (some (.int x)), h)) := zt_zreturn zi_59_25 zr_59
-- LatinRectangles$Snapshots.countChanged(ILLatinRectangles$Grid;)I
theorem zo_60 : z_own 60 = "LatinRectangles$Snapshots" := by decide +kernel
theorem zm_60 : z_maxL 60 = 5 := by decide +kernel
theorem zh_60 : z_hds 60 = [] := by decide +kernel
theorem zr_60 : z_rt 60 = (some .int) := by decide +kernel
theorem zn_60 : z_Ca g d 60 [.ref a0, .int x1, .ref a2] h P = z_T g d 60 0 [.ref a0, .int x1, .ref a2, z_un, z_un] [] h P := z_Ca_ent zm_60 rfl rfl
theorem zi_60_0 : z_ins 60 0 = some (.iconst 0, 1) := by decide +kernel
theorem ze_60_0 : z_T g d 60 0 ls st h P = z_T g d 60 1 ls (.int (nI 0) :: st) h P := zt_iconst zi_60_0 rfl
theorem zi_60_1 : z_ins 60 1 = some (.istore_n 3, 1) := by decide +kernel
theorem ze_60_1 : z_T g d 60 1 (v0 :: v1 :: v2 :: v3 :: ls) (.int x :: st) h P = z_T g d 60 2 (v0 :: v1 :: v2 :: .int x :: ls) st h P := zt_istoren zi_60_1 rfl (Nat.le_add_left 4 _)
theorem zi_60_2 : z_ins 60 2 = some (.iconst 0, 1) := by decide +kernel
theorem ze_60_2 : z_T g d 60 2 ls st h P = z_T g d 60 3 ls (.int (nI 0) :: st) h P := zt_iconst zi_60_2 rfl
theorem zi_60_3 : z_ins 60 3 = some (.istore 4, 2) := by decide +kernel
theorem ze_60_3 : z_T g d 60 3 (v0 :: v1 :: v2 :: v3 :: v4 :: ls) (.int x :: st) h P = z_T g d 60 5 (v0 :: v1 :: v2 :: v3 :: .int x :: ls) st h P := zt_istore zi_60_3 (Nat.le_add_left 5 _)
theorem zi_60_5 : z_ins 60 5 = some (.iload 4, 2) := by decide +kernel
theorem ze_60_5 : z_T g d 60 5 (v0 :: v1 :: v2 :: v3 :: .int x :: ls) st h P = z_T g d 60 7 (v0 :: v1 :: v2 :: v3 :: .int x :: ls) (.int x :: st) h P := zt_iload zi_60_5 rfl
theorem zi_60_7 : z_ins 60 7 = some (.bipush 25, 2) := by decide +kernel
theorem ze_60_7 : z_T g d 60 7 ls st h P = z_T g d 60 9 ls (.int (nI 25) :: st) h P := zt_bipush zi_60_7 rfl
theorem zi_60_9 : z_ins 60 9 = some (.if_icmp .ge 31, 3) := by decide +kernel
theorem ze_60_9 : z_T g d 60 9 ls (.int y :: .int x :: st) h P = (if x < y then z_T g d 60 12 ls st h P else z_T g d 60 40 ls st h P) := zt_icmpge zi_60_9 (by decide)
theorem zi_60_12 : z_ins 60 12 = some (.aload_n 2, 1) := by decide +kernel
theorem ze_60_12 : z_T g d 60 12 (v0 :: v1 :: .ref a :: ls) st h P = z_T g d 60 13 (v0 :: v1 :: .ref a :: ls) (.ref a :: st) h P := zt_aloadn zi_60_12 rfl rfl
theorem zi_60_13 : z_ins 60 13 = some (.getfield 26, 3) := by decide +kernel
theorem ze_60_13 : z_T g d 60 13 ls (.ref a :: st) h P = z_gR h.1 a 3 0 (fun x => z_T g d 60 16 ls (.ref x :: st) h P) := zt_getR zi_60_13 ((congrArg (fun o => z_fl o 26) zo_60).trans zf_LatinRectangles_Snapshots_26)
theorem zi_60_16 : z_ins 60 16 = some (.iload 4, 2) := by decide +kernel
theorem ze_60_16 : z_T g d 60 16 (v0 :: v1 :: v2 :: v3 :: .int x :: ls) st h P = z_T g d 60 18 (v0 :: v1 :: v2 :: v3 :: .int x :: ls) (.int x :: st) h P := zt_iload zi_60_16 rfl
theorem zi_60_18 : z_ins 60 18 = some (.iaload, 1) := by decide +kernel
theorem ze_60_18 : z_T g d 60 18 ls (.int x :: .ref a :: st) h P = z_aL h.1 a z_tI x (fun v => z_T g d 60 19 ls (.int v :: st) h P) := zt_iaload zi_60_18
theorem zi_60_19 : z_ins 60 19 = some (.aload_n 0, 1) := by decide +kernel
theorem ze_60_19 : z_T g d 60 19 (.ref a :: ls) st h P = z_T g d 60 20 (.ref a :: ls) (.ref a :: st) h P := zt_aloadn zi_60_19 rfl rfl
theorem zi_60_20 : z_ins 60 20 = some (.getfield 11, 3) := by decide +kernel
theorem ze_60_20 : z_T g d 60 20 ls (.ref a :: st) h P = z_gR h.1 a 6 0 (fun x => z_T g d 60 23 ls (.ref x :: st) h P) := zt_getR zi_60_20 ((congrArg (fun o => z_fl o 11) zo_60).trans zf_LatinRectangles_Snapshots_11)
theorem zi_60_23 : z_ins 60 23 = some (.iload_n 1, 1) := by decide +kernel
theorem ze_60_23 : z_T g d 60 23 (v0 :: .int x :: ls) st h P = z_T g d 60 24 (v0 :: .int x :: ls) (.int x :: st) h P := zt_iloadn zi_60_23 rfl rfl
theorem zi_60_24 : z_ins 60 24 = some (.aaload, 1) := by decide +kernel
theorem ze_60_24 : z_T g d 60 24 ls (.int x :: .ref a :: st) h P = z_qL h.1 a x (fun v => z_T g d 60 25 ls (.ref v :: st) h P) := zt_aaload zi_60_24
theorem zi_60_25 : z_ins 60 25 = some (.iload 4, 2) := by decide +kernel
theorem ze_60_25 : z_T g d 60 25 (v0 :: v1 :: v2 :: v3 :: .int x :: ls) st h P = z_T g d 60 27 (v0 :: v1 :: v2 :: v3 :: .int x :: ls) (.int x :: st) h P := zt_iload zi_60_25 rfl
theorem zi_60_27 : z_ins 60 27 = some (.iaload, 1) := by decide +kernel
theorem ze_60_27 : z_T g d 60 27 ls (.int x :: .ref a :: st) h P = z_aL h.1 a z_tI x (fun v => z_T g d 60 28 ls (.int v :: st) h P) := zt_iaload zi_60_27
theorem zi_60_28 : z_ins 60 28 = some (.if_icmp .eq 6, 3) := by decide +kernel
theorem ze_60_28 : z_T g d 60 28 ls (.int y :: .int x :: st) h P = (if x = y then z_T g d 60 34 ls st h P else z_T g d 60 31 ls st h P) := zt_icmpeq zi_60_28 (by decide)
theorem zi_60_31 : z_ins 60 31 = some (.iinc 3 1, 3) := by decide +kernel
theorem ze_60_31 : z_T g d 60 31 (v0 :: v1 :: v2 :: .int x :: ls) st h P = z_T g d 60 34 (v0 :: v1 :: v2 :: .int (x + (nI 1)) :: ls) st h P := zt_iinc zi_60_31 rfl rfl
theorem zi_60_34 : z_ins 60 34 = some (.iinc 4 1, 3) := by decide +kernel
theorem ze_60_34 : z_T g d 60 34 (v0 :: v1 :: v2 :: v3 :: .int x :: ls) st h P = z_T g d 60 37 (v0 :: v1 :: v2 :: v3 :: .int (x + (nI 1)) :: ls) st h P := zt_iinc zi_60_34 rfl rfl
theorem zi_60_37 : z_ins 60 37 = some (.goto (-32), 3) := by decide +kernel
theorem ze_60_37 : z_T g d 60 37 ls st h P = z_T g d 60 5 ls st h P := zt_goto zi_60_37 (by decide)
theorem zi_60_40 : z_ins 60 40 = some (.iload_n 3, 1) := by decide +kernel
theorem ze_60_40 : z_T g d 60 40 (v0 :: v1 :: v2 :: .int x :: ls) st h P = z_T g d 60 41 (v0 :: v1 :: v2 :: .int x :: ls) (.int x :: st) h P := zt_iloadn zi_60_40 rfl rfl
theorem zi_60_41 : z_ins 60 41 = some (.ireturn, 1) := by decide +kernel
theorem ze_60_41 : z_T g d 60 41 ls [.int x] h P = P (.inr (some (.int x)), h) := zt_ireturn zi_60_41 zr_60
-- LatinRectangles$Snapshots.differsByTrade(ILLatinRectangles$Grid;)Z
theorem zo_61 : z_own 61 = "LatinRectangles$Snapshots" := by decide +kernel
theorem zm_61 : z_maxL 61 = 5 := by decide +kernel
theorem zh_61 : z_hds 61 = [] := by decide +kernel
theorem zr_61 : z_rt 61 = (some .boolean) := by decide +kernel
theorem zn_61 : z_Ca g d 61 [.ref a0, .int x1, .ref a2] h P = z_T g d 61 0 [.ref a0, .int x1, .ref a2, z_un, z_un] [] h P := z_Ca_ent zm_61 rfl rfl
theorem zi_61_0 : z_ins 61 0 = some (.aload_n 0, 1) := by decide +kernel
theorem ze_61_0 : z_T g d 61 0 (.ref a :: ls) st h P = z_T g d 61 1 (.ref a :: ls) (.ref a :: st) h P := zt_aloadn zi_61_0 rfl rfl
theorem zi_61_1 : z_ins 61 1 = some (.iload_n 1, 1) := by decide +kernel
theorem ze_61_1 : z_T g d 61 1 (v0 :: .int x :: ls) st h P = z_T g d 61 2 (v0 :: .int x :: ls) (.int x :: st) h P := zt_iloadn zi_61_1 rfl rfl
theorem zi_61_2 : z_ins 61 2 = some (.aload_n 2, 1) := by decide +kernel
theorem ze_61_2 : z_T g d 61 2 (v0 :: v1 :: .ref a :: ls) st h P = z_T g d 61 3 (v0 :: v1 :: .ref a :: ls) (.ref a :: st) h P := zt_aloadn zi_61_2 rfl rfl
theorem zi_61_3 : z_ins 61 3 = some (.invokevirtual 30, 3) := by decide +kernel
theorem ze_61_3 : z_T g d 61 3 ls (.ref a1 :: .int x0 :: .ref a :: st) h P = ((z_okS 8 st = true ∧ z_gO h.1 a 6 ∧ 0 < d) ∧ z_Ca g (d - 1) 60 [.ref a, .int x0, .ref a1] h (fun r => z_k r (fun v h' => z_T g d 61 6 ls (z_push v st) h' P) P)) := zt_callV (as := [.int x0, .ref a1]) zi_61_3 ((congrArg (fun o => z_lookup z_prs (o, 30)) zo_61).trans zp_LatinRectangles_Snapshots_30) ((congrArg (fun o => z_clk o 30) zo_61).trans zk_LatinRectangles_Snapshots_30) zh_61 zc_60 rfl rfl rfl
theorem zi_61_6 : z_ins 61 6 = some (.ifCond .ne 5, 3) := by decide +kernel
theorem ze_61_6 : z_T g d 61 6 ls (.int x :: st) h P = (if x = nI 0 then z_T g d 61 9 ls st h P else z_T g d 61 11 ls st h P) := zt_ifne zi_61_6 (by decide)
theorem zi_61_9 : z_ins 61 9 = some (.iconst 0, 1) := by decide +kernel
theorem ze_61_9 : z_T g d 61 9 ls st h P = z_T g d 61 10 ls (.int (nI 0) :: st) h P := zt_iconst zi_61_9 rfl
theorem zi_61_10 : z_ins 61 10 = some (.ireturn, 1) := by decide +kernel
theorem ze_61_10 : z_T g d 61 10 ls [.int x] h P = ((x = nI 0 ∨ x = nI 1) ∧ P (.inr (some (.int x)), h)) := zt_zreturn zi_61_10 zr_61
theorem zi_61_11 : z_ins 61 11 = some (.aload_n 0, 1) := by decide +kernel
theorem ze_61_11 : z_T g d 61 11 (.ref a :: ls) st h P = z_T g d 61 12 (.ref a :: ls) (.ref a :: st) h P := zt_aloadn zi_61_11 rfl rfl
theorem zi_61_12 : z_ins 61 12 = some (.getfield 11, 3) := by decide +kernel
theorem ze_61_12 : z_T g d 61 12 ls (.ref a :: st) h P = z_gR h.1 a 6 0 (fun x => z_T g d 61 15 ls (.ref x :: st) h P) := zt_getR zi_61_12 ((congrArg (fun o => z_fl o 11) zo_61).trans zf_LatinRectangles_Snapshots_11)
theorem zi_61_15 : z_ins 61 15 = some (.iload_n 1, 1) := by decide +kernel
theorem ze_61_15 : z_T g d 61 15 (v0 :: .int x :: ls) st h P = z_T g d 61 16 (v0 :: .int x :: ls) (.int x :: st) h P := zt_iloadn zi_61_15 rfl rfl
theorem zi_61_16 : z_ins 61 16 = some (.aaload, 1) := by decide +kernel
theorem ze_61_16 : z_T g d 61 16 ls (.int x :: .ref a :: st) h P = z_qL h.1 a x (fun v => z_T g d 61 17 ls (.ref v :: st) h P) := zt_aaload zi_61_16
theorem zi_61_17 : z_ins 61 17 = some (.astore_n 3, 1) := by decide +kernel
theorem ze_61_17 : z_T g d 61 17 (v0 :: v1 :: v2 :: v3 :: ls) (.ref a :: st) h P = z_T g d 61 18 (v0 :: v1 :: v2 :: .ref a :: ls) st h P := zt_astoren zi_61_17 rfl (Nat.le_add_left 4 _)
theorem zi_61_18 : z_ins 61 18 = some (.iconst 0, 1) := by decide +kernel
theorem ze_61_18 : z_T g d 61 18 ls st h P = z_T g d 61 19 ls (.int (nI 0) :: st) h P := zt_iconst zi_61_18 rfl
theorem zi_61_19 : z_ins 61 19 = some (.istore 4, 2) := by decide +kernel
theorem ze_61_19 : z_T g d 61 19 (v0 :: v1 :: v2 :: v3 :: v4 :: ls) (.int x :: st) h P = z_T g d 61 21 (v0 :: v1 :: v2 :: v3 :: .int x :: ls) st h P := zt_istore zi_61_19 (Nat.le_add_left 5 _)
theorem zi_61_21 : z_ins 61 21 = some (.iload 4, 2) := by decide +kernel
theorem ze_61_21 : z_T g d 61 21 (v0 :: v1 :: v2 :: v3 :: .int x :: ls) st h P = z_T g d 61 23 (v0 :: v1 :: v2 :: v3 :: .int x :: ls) (.int x :: st) h P := zt_iload zi_61_21 rfl
theorem zi_61_23 : z_ins 61 23 = some (.bipush 25, 2) := by decide +kernel
theorem ze_61_23 : z_T g d 61 23 ls st h P = z_T g d 61 25 ls (.int (nI 25) :: st) h P := zt_bipush zi_61_23 rfl
theorem zi_61_25 : z_ins 61 25 = some (.if_icmp .ge 44, 3) := by decide +kernel
theorem ze_61_25 : z_T g d 61 25 ls (.int y :: .int x :: st) h P = (if x < y then z_T g d 61 28 ls st h P else z_T g d 61 69 ls st h P) := zt_icmpge zi_61_25 (by decide)
theorem zi_61_28 : z_ins 61 28 = some (.aload_n 2, 1) := by decide +kernel
theorem ze_61_28 : z_T g d 61 28 (v0 :: v1 :: .ref a :: ls) st h P = z_T g d 61 29 (v0 :: v1 :: .ref a :: ls) (.ref a :: st) h P := zt_aloadn zi_61_28 rfl rfl
theorem zi_61_29 : z_ins 61 29 = some (.getfield 26, 3) := by decide +kernel
theorem ze_61_29 : z_T g d 61 29 ls (.ref a :: st) h P = z_gR h.1 a 3 0 (fun x => z_T g d 61 32 ls (.ref x :: st) h P) := zt_getR zi_61_29 ((congrArg (fun o => z_fl o 26) zo_61).trans zf_LatinRectangles_Snapshots_26)
theorem zi_61_32 : z_ins 61 32 = some (.iload 4, 2) := by decide +kernel
theorem ze_61_32 : z_T g d 61 32 (v0 :: v1 :: v2 :: v3 :: .int x :: ls) st h P = z_T g d 61 34 (v0 :: v1 :: v2 :: v3 :: .int x :: ls) (.int x :: st) h P := zt_iload zi_61_32 rfl
theorem zi_61_34 : z_ins 61 34 = some (.iaload, 1) := by decide +kernel
theorem ze_61_34 : z_T g d 61 34 ls (.int x :: .ref a :: st) h P = z_aL h.1 a z_tI x (fun v => z_T g d 61 35 ls (.int v :: st) h P) := zt_iaload zi_61_34
theorem zi_61_35 : z_ins 61 35 = some (.aload_n 3, 1) := by decide +kernel
theorem ze_61_35 : z_T g d 61 35 (v0 :: v1 :: v2 :: .ref a :: ls) st h P = z_T g d 61 36 (v0 :: v1 :: v2 :: .ref a :: ls) (.ref a :: st) h P := zt_aloadn zi_61_35 rfl rfl
theorem zi_61_36 : z_ins 61 36 = some (.iload 4, 2) := by decide +kernel
theorem ze_61_36 : z_T g d 61 36 (v0 :: v1 :: v2 :: v3 :: .int x :: ls) st h P = z_T g d 61 38 (v0 :: v1 :: v2 :: v3 :: .int x :: ls) (.int x :: st) h P := zt_iload zi_61_36 rfl
theorem zi_61_38 : z_ins 61 38 = some (.iaload, 1) := by decide +kernel
theorem ze_61_38 : z_T g d 61 38 ls (.int x :: .ref a :: st) h P = z_aL h.1 a z_tI x (fun v => z_T g d 61 39 ls (.int v :: st) h P) := zt_iaload zi_61_38
theorem zi_61_39 : z_ins 61 39 = some (.if_icmp .eq 24, 3) := by decide +kernel
theorem ze_61_39 : z_T g d 61 39 ls (.int y :: .int x :: st) h P = (if x = y then z_T g d 61 63 ls st h P else z_T g d 61 42 ls st h P) := zt_icmpeq zi_61_39 (by decide)
theorem zi_61_42 : z_ins 61 42 = some (.aload_n 2, 1) := by decide +kernel
theorem ze_61_42 : z_T g d 61 42 (v0 :: v1 :: .ref a :: ls) st h P = z_T g d 61 43 (v0 :: v1 :: .ref a :: ls) (.ref a :: st) h P := zt_aloadn zi_61_42 rfl rfl
theorem zi_61_43 : z_ins 61 43 = some (.getfield 26, 3) := by decide +kernel
theorem ze_61_43 : z_T g d 61 43 ls (.ref a :: st) h P = z_gR h.1 a 3 0 (fun x => z_T g d 61 46 ls (.ref x :: st) h P) := zt_getR zi_61_43 ((congrArg (fun o => z_fl o 26) zo_61).trans zf_LatinRectangles_Snapshots_26)
theorem zi_61_46 : z_ins 61 46 = some (.iload 4, 2) := by decide +kernel
theorem ze_61_46 : z_T g d 61 46 (v0 :: v1 :: v2 :: v3 :: .int x :: ls) st h P = z_T g d 61 48 (v0 :: v1 :: v2 :: v3 :: .int x :: ls) (.int x :: st) h P := zt_iload zi_61_46 rfl
theorem zi_61_48 : z_ins 61 48 = some (.iaload, 1) := by decide +kernel
theorem ze_61_48 : z_T g d 61 48 ls (.int x :: .ref a :: st) h P = z_aL h.1 a z_tI x (fun v => z_T g d 61 49 ls (.int v :: st) h P) := zt_iaload zi_61_48
theorem zi_61_49 : z_ins 61 49 = some (.iconst (-1), 1) := by decide +kernel
theorem ze_61_49 : z_T g d 61 49 ls st h P = z_T g d 61 50 ls (.int (-1) :: st) h P := zt_iconst zi_61_49 rfl
theorem zi_61_50 : z_ins 61 50 = some (.if_icmp .eq 11, 3) := by decide +kernel
theorem ze_61_50 : z_T g d 61 50 ls (.int y :: .int x :: st) h P = (if x = y then z_T g d 61 61 ls st h P else z_T g d 61 53 ls st h P) := zt_icmpeq zi_61_50 (by decide)
theorem zi_61_53 : z_ins 61 53 = some (.aload_n 3, 1) := by decide +kernel
theorem ze_61_53 : z_T g d 61 53 (v0 :: v1 :: v2 :: .ref a :: ls) st h P = z_T g d 61 54 (v0 :: v1 :: v2 :: .ref a :: ls) (.ref a :: st) h P := zt_aloadn zi_61_53 rfl rfl
theorem zi_61_54 : z_ins 61 54 = some (.iload 4, 2) := by decide +kernel
theorem ze_61_54 : z_T g d 61 54 (v0 :: v1 :: v2 :: v3 :: .int x :: ls) st h P = z_T g d 61 56 (v0 :: v1 :: v2 :: v3 :: .int x :: ls) (.int x :: st) h P := zt_iload zi_61_54 rfl
theorem zi_61_56 : z_ins 61 56 = some (.iaload, 1) := by decide +kernel
theorem ze_61_56 : z_T g d 61 56 ls (.int x :: .ref a :: st) h P = z_aL h.1 a z_tI x (fun v => z_T g d 61 57 ls (.int v :: st) h P) := zt_iaload zi_61_56
theorem zi_61_57 : z_ins 61 57 = some (.iconst (-1), 1) := by decide +kernel
theorem ze_61_57 : z_T g d 61 57 ls st h P = z_T g d 61 58 ls (.int (-1) :: st) h P := zt_iconst zi_61_57 rfl
theorem zi_61_58 : z_ins 61 58 = some (.if_icmp .ne 5, 3) := by decide +kernel
theorem ze_61_58 : z_T g d 61 58 ls (.int y :: .int x :: st) h P = (if x = y then z_T g d 61 61 ls st h P else z_T g d 61 63 ls st h P) := zt_icmpne zi_61_58 (by decide)
theorem zi_61_61 : z_ins 61 61 = some (.iconst 0, 1) := by decide +kernel
theorem ze_61_61 : z_T g d 61 61 ls st h P = z_T g d 61 62 ls (.int (nI 0) :: st) h P := zt_iconst zi_61_61 rfl
theorem zi_61_62 : z_ins 61 62 = some (.ireturn, 1) := by decide +kernel
theorem ze_61_62 : z_T g d 61 62 ls [.int x] h P = ((x = nI 0 ∨ x = nI 1) ∧ P (.inr (some (.int x)), h)) := zt_zreturn zi_61_62 zr_61
theorem zi_61_63 : z_ins 61 63 = some (.iinc 4 1, 3) := by decide +kernel
theorem ze_61_63 : z_T g d 61 63 (v0 :: v1 :: v2 :: v3 :: .int x :: ls) st h P = z_T g d 61 66 (v0 :: v1 :: v2 :: v3 :: .int (x + (nI 1)) :: ls) st h P := zt_iinc zi_61_63 rfl rfl
theorem zi_61_66 : z_ins 61 66 = some (.goto (-45), 3) := by decide +kernel
theorem ze_61_66 : z_T g d 61 66 ls st h P = z_T g d 61 21 ls st h P := zt_goto zi_61_66 (by decide)
theorem zi_61_69 : z_ins 61 69 = some (.iconst 0, 1) := by decide +kernel
theorem ze_61_69 : z_T g d 61 69 ls st h P = z_T g d 61 70 ls (.int (nI 0) :: st) h P := zt_iconst zi_61_69 rfl
theorem zi_61_70 : z_ins 61 70 = some (.istore 4, 2) := by decide +kernel
theorem ze_61_70 : z_T g d 61 70 (v0 :: v1 :: v2 :: v3 :: v4 :: ls) (.int x :: st) h P = z_T g d 61 72 (v0 :: v1 :: v2 :: v3 :: .int x :: ls) st h P := zt_istore zi_61_70 (Nat.le_add_left 5 _)
theorem zi_61_72 : z_ins 61 72 = some (.iload 4, 2) := by decide +kernel
theorem ze_61_72 : z_T g d 61 72 (v0 :: v1 :: v2 :: v3 :: .int x :: ls) st h P = z_T g d 61 74 (v0 :: v1 :: v2 :: v3 :: .int x :: ls) (.int x :: st) h P := zt_iload zi_61_72 rfl
theorem zi_61_74 : z_ins 61 74 = some (.iconst 5, 1) := by decide +kernel
theorem ze_61_74 : z_T g d 61 74 ls st h P = z_T g d 61 75 ls (.int (nI 5) :: st) h P := zt_iconst zi_61_74 rfl
theorem zi_61_75 : z_ins 61 75 = some (.if_icmp .ge 65, 3) := by decide +kernel
theorem ze_61_75 : z_T g d 61 75 ls (.int y :: .int x :: st) h P = (if x < y then z_T g d 61 78 ls st h P else z_T g d 61 140 ls st h P) := zt_icmpge zi_61_75 (by decide)
theorem zi_61_78 : z_ins 61 78 = some (.aload_n 2, 1) := by decide +kernel
theorem ze_61_78 : z_T g d 61 78 (v0 :: v1 :: .ref a :: ls) st h P = z_T g d 61 79 (v0 :: v1 :: .ref a :: ls) (.ref a :: st) h P := zt_aloadn zi_61_78 rfl rfl
theorem zi_61_79 : z_ins 61 79 = some (.getfield 26, 3) := by decide +kernel
theorem ze_61_79 : z_T g d 61 79 ls (.ref a :: st) h P = z_gR h.1 a 3 0 (fun x => z_T g d 61 82 ls (.ref x :: st) h P) := zt_getR zi_61_79 ((congrArg (fun o => z_fl o 26) zo_61).trans zf_LatinRectangles_Snapshots_26)
theorem zi_61_82 : z_ins 61 82 = some (.aload_n 3, 1) := by decide +kernel
theorem ze_61_82 : z_T g d 61 82 (v0 :: v1 :: v2 :: .ref a :: ls) st h P = z_T g d 61 83 (v0 :: v1 :: v2 :: .ref a :: ls) (.ref a :: st) h P := zt_aloadn zi_61_82 rfl rfl
theorem zi_61_83 : z_ins 61 83 = some (.iload 4, 2) := by decide +kernel
theorem ze_61_83 : z_T g d 61 83 (v0 :: v1 :: v2 :: v3 :: .int x :: ls) st h P = z_T g d 61 85 (v0 :: v1 :: v2 :: v3 :: .int x :: ls) (.int x :: st) h P := zt_iload zi_61_83 rfl
theorem zi_61_85 : z_ins 61 85 = some (.iconst 5, 1) := by decide +kernel
theorem ze_61_85 : z_T g d 61 85 ls st h P = z_T g d 61 86 ls (.int (nI 5) :: st) h P := zt_iconst zi_61_85 rfl
theorem zi_61_86 : z_ins 61 86 = some (.imul, 1) := by decide +kernel
theorem ze_61_86 : z_T g d 61 86 ls (.int y :: .int x :: st) h P = z_T g d 61 87 ls (.int (x * y) :: st) h P := zt_bin (f := fun x y => x * y) zi_61_86 rfl (fun _ _ _ => rfl)
theorem zi_61_87 : z_ins 61 87 = some (.iconst 1, 1) := by decide +kernel
theorem ze_61_87 : z_T g d 61 87 ls st h P = z_T g d 61 88 ls (.int (nI 1) :: st) h P := zt_iconst zi_61_87 rfl
theorem zi_61_88 : z_ins 61 88 = some (.invokestatic 34, 3) := by decide +kernel
theorem ze_61_88 : z_T g d 61 88 ls (.int x3 :: .int x2 :: .ref a1 :: .ref a0 :: st) h P = ((z_okS 8 st = true ∧ 0 < d) ∧ z_Ca g (d - 1) 62 [.ref a0, .ref a1, .int x2, .int x3] h (fun r => z_k r (fun v h' => z_T g d 61 91 ls (z_push v st) h' P) P)) := zt_callS0 (as := [.ref a0, .ref a1, .int x2, .int x3]) zi_61_88 ((congrArg (fun o => z_lookup z_prs (o, 34)) zo_61).trans zp_LatinRectangles_Snapshots_34) ((congrArg (fun o => z_clk o 34) zo_61).trans zk_LatinRectangles_Snapshots_34) zh_61 rfl rfl rfl
theorem zi_61_91 : z_ins 61 91 = some (.aload_n 3, 1) := by decide +kernel
theorem ze_61_91 : z_T g d 61 91 (v0 :: v1 :: v2 :: .ref a :: ls) st h P = z_T g d 61 92 (v0 :: v1 :: v2 :: .ref a :: ls) (.ref a :: st) h P := zt_aloadn zi_61_91 rfl rfl
theorem zi_61_92 : z_ins 61 92 = some (.aload_n 2, 1) := by decide +kernel
theorem ze_61_92 : z_T g d 61 92 (v0 :: v1 :: .ref a :: ls) st h P = z_T g d 61 93 (v0 :: v1 :: .ref a :: ls) (.ref a :: st) h P := zt_aloadn zi_61_92 rfl rfl
theorem zi_61_93 : z_ins 61 93 = some (.getfield 26, 3) := by decide +kernel
theorem ze_61_93 : z_T g d 61 93 ls (.ref a :: st) h P = z_gR h.1 a 3 0 (fun x => z_T g d 61 96 ls (.ref x :: st) h P) := zt_getR zi_61_93 ((congrArg (fun o => z_fl o 26) zo_61).trans zf_LatinRectangles_Snapshots_26)
theorem zi_61_96 : z_ins 61 96 = some (.iload 4, 2) := by decide +kernel
theorem ze_61_96 : z_T g d 61 96 (v0 :: v1 :: v2 :: v3 :: .int x :: ls) st h P = z_T g d 61 98 (v0 :: v1 :: v2 :: v3 :: .int x :: ls) (.int x :: st) h P := zt_iload zi_61_96 rfl
theorem zi_61_98 : z_ins 61 98 = some (.iconst 5, 1) := by decide +kernel
theorem ze_61_98 : z_T g d 61 98 ls st h P = z_T g d 61 99 ls (.int (nI 5) :: st) h P := zt_iconst zi_61_98 rfl
theorem zi_61_99 : z_ins 61 99 = some (.imul, 1) := by decide +kernel
theorem ze_61_99 : z_T g d 61 99 ls (.int y :: .int x :: st) h P = z_T g d 61 100 ls (.int (x * y) :: st) h P := zt_bin (f := fun x y => x * y) zi_61_99 rfl (fun _ _ _ => rfl)
theorem zi_61_100 : z_ins 61 100 = some (.iconst 1, 1) := by decide +kernel
theorem ze_61_100 : z_T g d 61 100 ls st h P = z_T g d 61 101 ls (.int (nI 1) :: st) h P := zt_iconst zi_61_100 rfl
theorem zi_61_101 : z_ins 61 101 = some (.invokestatic 34, 3) := by decide +kernel
theorem ze_61_101 : z_T g d 61 101 ls (.int x3 :: .int x2 :: .ref a1 :: .ref a0 :: st) h P = ((z_okS 8 st = true ∧ 0 < d) ∧ z_Ca g (d - 1) 62 [.ref a0, .ref a1, .int x2, .int x3] h (fun r => z_k r (fun v h' => z_T g d 61 104 ls (z_push v st) h' P) P)) := zt_callS0 (as := [.ref a0, .ref a1, .int x2, .int x3]) zi_61_101 ((congrArg (fun o => z_lookup z_prs (o, 34)) zo_61).trans zp_LatinRectangles_Snapshots_34) ((congrArg (fun o => z_clk o 34) zo_61).trans zk_LatinRectangles_Snapshots_34) zh_61 rfl rfl rfl
theorem zi_61_104 : z_ins 61 104 = some (.if_icmp .ne 28, 3) := by decide +kernel
theorem ze_61_104 : z_T g d 61 104 ls (.int y :: .int x :: st) h P = (if x = y then z_T g d 61 107 ls st h P else z_T g d 61 132 ls st h P) := zt_icmpne zi_61_104 (by decide)
theorem zi_61_107 : z_ins 61 107 = some (.aload_n 2, 1) := by decide +kernel
theorem ze_61_107 : z_T g d 61 107 (v0 :: v1 :: .ref a :: ls) st h P = z_T g d 61 108 (v0 :: v1 :: .ref a :: ls) (.ref a :: st) h P := zt_aloadn zi_61_107 rfl rfl
theorem zi_61_108 : z_ins 61 108 = some (.getfield 26, 3) := by decide +kernel
theorem ze_61_108 : z_T g d 61 108 ls (.ref a :: st) h P = z_gR h.1 a 3 0 (fun x => z_T g d 61 111 ls (.ref x :: st) h P) := zt_getR zi_61_108 ((congrArg (fun o => z_fl o 26) zo_61).trans zf_LatinRectangles_Snapshots_26)
theorem zi_61_111 : z_ins 61 111 = some (.aload_n 3, 1) := by decide +kernel
theorem ze_61_111 : z_T g d 61 111 (v0 :: v1 :: v2 :: .ref a :: ls) st h P = z_T g d 61 112 (v0 :: v1 :: v2 :: .ref a :: ls) (.ref a :: st) h P := zt_aloadn zi_61_111 rfl rfl
theorem zi_61_112 : z_ins 61 112 = some (.iload 4, 2) := by decide +kernel
theorem ze_61_112 : z_T g d 61 112 (v0 :: v1 :: v2 :: v3 :: .int x :: ls) st h P = z_T g d 61 114 (v0 :: v1 :: v2 :: v3 :: .int x :: ls) (.int x :: st) h P := zt_iload zi_61_112 rfl
theorem zi_61_114 : z_ins 61 114 = some (.iconst 5, 1) := by decide +kernel
theorem ze_61_114 : z_T g d 61 114 ls st h P = z_T g d 61 115 ls (.int (nI 5) :: st) h P := zt_iconst zi_61_114 rfl
theorem zi_61_115 : z_ins 61 115 = some (.invokestatic 34, 3) := by decide +kernel
theorem ze_61_115 : z_T g d 61 115 ls (.int x3 :: .int x2 :: .ref a1 :: .ref a0 :: st) h P = ((z_okS 8 st = true ∧ 0 < d) ∧ z_Ca g (d - 1) 62 [.ref a0, .ref a1, .int x2, .int x3] h (fun r => z_k r (fun v h' => z_T g d 61 118 ls (z_push v st) h' P) P)) := zt_callS0 (as := [.ref a0, .ref a1, .int x2, .int x3]) zi_61_115 ((congrArg (fun o => z_lookup z_prs (o, 34)) zo_61).trans zp_LatinRectangles_Snapshots_34) ((congrArg (fun o => z_clk o 34) zo_61).trans zk_LatinRectangles_Snapshots_34) zh_61 rfl rfl rfl
theorem zi_61_118 : z_ins 61 118 = some (.aload_n 3, 1) := by decide +kernel
theorem ze_61_118 : z_T g d 61 118 (v0 :: v1 :: v2 :: .ref a :: ls) st h P = z_T g d 61 119 (v0 :: v1 :: v2 :: .ref a :: ls) (.ref a :: st) h P := zt_aloadn zi_61_118 rfl rfl
theorem zi_61_119 : z_ins 61 119 = some (.aload_n 2, 1) := by decide +kernel
theorem ze_61_119 : z_T g d 61 119 (v0 :: v1 :: .ref a :: ls) st h P = z_T g d 61 120 (v0 :: v1 :: .ref a :: ls) (.ref a :: st) h P := zt_aloadn zi_61_119 rfl rfl
theorem zi_61_120 : z_ins 61 120 = some (.getfield 26, 3) := by decide +kernel
theorem ze_61_120 : z_T g d 61 120 ls (.ref a :: st) h P = z_gR h.1 a 3 0 (fun x => z_T g d 61 123 ls (.ref x :: st) h P) := zt_getR zi_61_120 ((congrArg (fun o => z_fl o 26) zo_61).trans zf_LatinRectangles_Snapshots_26)
theorem zi_61_123 : z_ins 61 123 = some (.iload 4, 2) := by decide +kernel
theorem ze_61_123 : z_T g d 61 123 (v0 :: v1 :: v2 :: v3 :: .int x :: ls) st h P = z_T g d 61 125 (v0 :: v1 :: v2 :: v3 :: .int x :: ls) (.int x :: st) h P := zt_iload zi_61_123 rfl
theorem zi_61_125 : z_ins 61 125 = some (.iconst 5, 1) := by decide +kernel
theorem ze_61_125 : z_T g d 61 125 ls st h P = z_T g d 61 126 ls (.int (nI 5) :: st) h P := zt_iconst zi_61_125 rfl
theorem zi_61_126 : z_ins 61 126 = some (.invokestatic 34, 3) := by decide +kernel
theorem ze_61_126 : z_T g d 61 126 ls (.int x3 :: .int x2 :: .ref a1 :: .ref a0 :: st) h P = ((z_okS 8 st = true ∧ 0 < d) ∧ z_Ca g (d - 1) 62 [.ref a0, .ref a1, .int x2, .int x3] h (fun r => z_k r (fun v h' => z_T g d 61 129 ls (z_push v st) h' P) P)) := zt_callS0 (as := [.ref a0, .ref a1, .int x2, .int x3]) zi_61_126 ((congrArg (fun o => z_lookup z_prs (o, 34)) zo_61).trans zp_LatinRectangles_Snapshots_34) ((congrArg (fun o => z_clk o 34) zo_61).trans zk_LatinRectangles_Snapshots_34) zh_61 rfl rfl rfl
theorem zi_61_129 : z_ins 61 129 = some (.if_icmp .eq 5, 3) := by decide +kernel
theorem ze_61_129 : z_T g d 61 129 ls (.int y :: .int x :: st) h P = (if x = y then z_T g d 61 134 ls st h P else z_T g d 61 132 ls st h P) := zt_icmpeq zi_61_129 (by decide)
theorem zi_61_132 : z_ins 61 132 = some (.iconst 0, 1) := by decide +kernel
theorem ze_61_132 : z_T g d 61 132 ls st h P = z_T g d 61 133 ls (.int (nI 0) :: st) h P := zt_iconst zi_61_132 rfl
theorem zi_61_133 : z_ins 61 133 = some (.ireturn, 1) := by decide +kernel
theorem ze_61_133 : z_T g d 61 133 ls [.int x] h P = ((x = nI 0 ∨ x = nI 1) ∧ P (.inr (some (.int x)), h)) := zt_zreturn zi_61_133 zr_61
theorem zi_61_134 : z_ins 61 134 = some (.iinc 4 1, 3) := by decide +kernel
theorem ze_61_134 : z_T g d 61 134 (v0 :: v1 :: v2 :: v3 :: .int x :: ls) st h P = z_T g d 61 137 (v0 :: v1 :: v2 :: v3 :: .int (x + (nI 1)) :: ls) st h P := zt_iinc zi_61_134 rfl rfl
theorem zi_61_137 : z_ins 61 137 = some (.goto (-65), 3) := by decide +kernel
theorem ze_61_137 : z_T g d 61 137 ls st h P = z_T g d 61 72 ls st h P := zt_goto zi_61_137 (by decide)
theorem zi_61_140 : z_ins 61 140 = some (.iconst 1, 1) := by decide +kernel
theorem ze_61_140 : z_T g d 61 140 ls st h P = z_T g d 61 141 ls (.int (nI 1) :: st) h P := zt_iconst zi_61_140 rfl
theorem zi_61_141 : z_ins 61 141 = some (.ireturn, 1) := by decide +kernel
theorem ze_61_141 : z_T g d 61 141 ls [.int x] h P = ((x = nI 0 ∨ x = nI 1) ∧ P (.inr (some (.int x)), h)) := zt_zreturn zi_61_141 zr_61
-- LatinRectangles$Snapshots.changedBits([I[III)I
theorem zo_62 : z_own 62 = "LatinRectangles$Snapshots" := by decide +kernel
theorem zm_62 : z_maxL 62 = 7 := by decide +kernel
theorem zh_62 : z_hds 62 = [] := by decide +kernel
theorem zr_62 : z_rt 62 = (some .int) := by decide +kernel
theorem zn_62 : z_Ca g d 62 [.ref a0, .ref a1, .int x2, .int x3] h P = z_T g d 62 0 [.ref a0, .ref a1, .int x2, .int x3, z_un, z_un, z_un] [] h P := z_Ca_ent zm_62 rfl rfl
theorem zi_62_0 : z_ins 62 0 = some (.iconst 0, 1) := by decide +kernel
theorem ze_62_0 : z_T g d 62 0 ls st h P = z_T g d 62 1 ls (.int (nI 0) :: st) h P := zt_iconst zi_62_0 rfl
theorem zi_62_1 : z_ins 62 1 = some (.istore 4, 2) := by decide +kernel
theorem ze_62_1 : z_T g d 62 1 (v0 :: v1 :: v2 :: v3 :: v4 :: ls) (.int x :: st) h P = z_T g d 62 3 (v0 :: v1 :: v2 :: v3 :: .int x :: ls) st h P := zt_istore zi_62_1 (Nat.le_add_left 5 _)
theorem zi_62_3 : z_ins 62 3 = some (.iconst 0, 1) := by decide +kernel
theorem ze_62_3 : z_T g d 62 3 ls st h P = z_T g d 62 4 ls (.int (nI 0) :: st) h P := zt_iconst zi_62_3 rfl
theorem zi_62_4 : z_ins 62 4 = some (.istore 5, 2) := by decide +kernel
theorem ze_62_4 : z_T g d 62 4 (v0 :: v1 :: v2 :: v3 :: v4 :: v5 :: ls) (.int x :: st) h P = z_T g d 62 6 (v0 :: v1 :: v2 :: v3 :: v4 :: .int x :: ls) st h P := zt_istore zi_62_4 (Nat.le_add_left 6 _)
theorem zi_62_6 : z_ins 62 6 = some (.iload 5, 2) := by decide +kernel
theorem ze_62_6 : z_T g d 62 6 (v0 :: v1 :: v2 :: v3 :: v4 :: .int x :: ls) st h P = z_T g d 62 8 (v0 :: v1 :: v2 :: v3 :: v4 :: .int x :: ls) (.int x :: st) h P := zt_iload zi_62_6 rfl
theorem zi_62_8 : z_ins 62 8 = some (.iconst 5, 1) := by decide +kernel
theorem ze_62_8 : z_T g d 62 8 ls st h P = z_T g d 62 9 ls (.int (nI 5) :: st) h P := zt_iconst zi_62_8 rfl
theorem zi_62_9 : z_ins 62 9 = some (.if_icmp .ge 39, 3) := by decide +kernel
theorem ze_62_9 : z_T g d 62 9 ls (.int y :: .int x :: st) h P = (if x < y then z_T g d 62 12 ls st h P else z_T g d 62 48 ls st h P) := zt_icmpge zi_62_9 (by decide)
theorem zi_62_12 : z_ins 62 12 = some (.iload_n 2, 1) := by decide +kernel
theorem ze_62_12 : z_T g d 62 12 (v0 :: v1 :: .int x :: ls) st h P = z_T g d 62 13 (v0 :: v1 :: .int x :: ls) (.int x :: st) h P := zt_iloadn zi_62_12 rfl rfl
theorem zi_62_13 : z_ins 62 13 = some (.iload 5, 2) := by decide +kernel
theorem ze_62_13 : z_T g d 62 13 (v0 :: v1 :: v2 :: v3 :: v4 :: .int x :: ls) st h P = z_T g d 62 15 (v0 :: v1 :: v2 :: v3 :: v4 :: .int x :: ls) (.int x :: st) h P := zt_iload zi_62_13 rfl
theorem zi_62_15 : z_ins 62 15 = some (.iload_n 3, 1) := by decide +kernel
theorem ze_62_15 : z_T g d 62 15 (v0 :: v1 :: v2 :: .int x :: ls) st h P = z_T g d 62 16 (v0 :: v1 :: v2 :: .int x :: ls) (.int x :: st) h P := zt_iloadn zi_62_15 rfl rfl
theorem zi_62_16 : z_ins 62 16 = some (.imul, 1) := by decide +kernel
theorem ze_62_16 : z_T g d 62 16 ls (.int y :: .int x :: st) h P = z_T g d 62 17 ls (.int (x * y) :: st) h P := zt_bin (f := fun x y => x * y) zi_62_16 rfl (fun _ _ _ => rfl)
theorem zi_62_17 : z_ins 62 17 = some (.iadd, 1) := by decide +kernel
theorem ze_62_17 : z_T g d 62 17 ls (.int y :: .int x :: st) h P = z_T g d 62 18 ls (.int (x + y) :: st) h P := zt_bin (f := fun x y => x + y) zi_62_17 rfl (fun _ _ _ => rfl)
theorem zi_62_18 : z_ins 62 18 = some (.istore 6, 2) := by decide +kernel
theorem ze_62_18 : z_T g d 62 18 (v0 :: v1 :: v2 :: v3 :: v4 :: v5 :: v6 :: ls) (.int x :: st) h P = z_T g d 62 20 (v0 :: v1 :: v2 :: v3 :: v4 :: v5 :: .int x :: ls) st h P := zt_istore zi_62_18 (Nat.le_add_left 7 _)
theorem zi_62_20 : z_ins 62 20 = some (.aload_n 0, 1) := by decide +kernel
theorem ze_62_20 : z_T g d 62 20 (.ref a :: ls) st h P = z_T g d 62 21 (.ref a :: ls) (.ref a :: st) h P := zt_aloadn zi_62_20 rfl rfl
theorem zi_62_21 : z_ins 62 21 = some (.iload 6, 2) := by decide +kernel
theorem ze_62_21 : z_T g d 62 21 (v0 :: v1 :: v2 :: v3 :: v4 :: v5 :: .int x :: ls) st h P = z_T g d 62 23 (v0 :: v1 :: v2 :: v3 :: v4 :: v5 :: .int x :: ls) (.int x :: st) h P := zt_iload zi_62_21 rfl
theorem zi_62_23 : z_ins 62 23 = some (.iaload, 1) := by decide +kernel
theorem ze_62_23 : z_T g d 62 23 ls (.int x :: .ref a :: st) h P = z_aL h.1 a z_tI x (fun v => z_T g d 62 24 ls (.int v :: st) h P) := zt_iaload zi_62_23
theorem zi_62_24 : z_ins 62 24 = some (.aload_n 1, 1) := by decide +kernel
theorem ze_62_24 : z_T g d 62 24 (v0 :: .ref a :: ls) st h P = z_T g d 62 25 (v0 :: .ref a :: ls) (.ref a :: st) h P := zt_aloadn zi_62_24 rfl rfl
theorem zi_62_25 : z_ins 62 25 = some (.iload 6, 2) := by decide +kernel
theorem ze_62_25 : z_T g d 62 25 (v0 :: v1 :: v2 :: v3 :: v4 :: v5 :: .int x :: ls) st h P = z_T g d 62 27 (v0 :: v1 :: v2 :: v3 :: v4 :: v5 :: .int x :: ls) (.int x :: st) h P := zt_iload zi_62_25 rfl
theorem zi_62_27 : z_ins 62 27 = some (.iaload, 1) := by decide +kernel
theorem ze_62_27 : z_T g d 62 27 ls (.int x :: .ref a :: st) h P = z_aL h.1 a z_tI x (fun v => z_T g d 62 28 ls (.int v :: st) h P) := zt_iaload zi_62_27
theorem zi_62_28 : z_ins 62 28 = some (.if_icmp .eq 14, 3) := by decide +kernel
theorem ze_62_28 : z_T g d 62 28 ls (.int y :: .int x :: st) h P = (if x = y then z_T g d 62 42 ls st h P else z_T g d 62 31 ls st h P) := zt_icmpeq zi_62_28 (by decide)
theorem zi_62_31 : z_ins 62 31 = some (.iload 4, 2) := by decide +kernel
theorem ze_62_31 : z_T g d 62 31 (v0 :: v1 :: v2 :: v3 :: .int x :: ls) st h P = z_T g d 62 33 (v0 :: v1 :: v2 :: v3 :: .int x :: ls) (.int x :: st) h P := zt_iload zi_62_31 rfl
theorem zi_62_33 : z_ins 62 33 = some (.iconst 1, 1) := by decide +kernel
theorem ze_62_33 : z_T g d 62 33 ls st h P = z_T g d 62 34 ls (.int (nI 1) :: st) h P := zt_iconst zi_62_33 rfl
theorem zi_62_34 : z_ins 62 34 = some (.aload_n 0, 1) := by decide +kernel
theorem ze_62_34 : z_T g d 62 34 (.ref a :: ls) st h P = z_T g d 62 35 (.ref a :: ls) (.ref a :: st) h P := zt_aloadn zi_62_34 rfl rfl
theorem zi_62_35 : z_ins 62 35 = some (.iload 6, 2) := by decide +kernel
theorem ze_62_35 : z_T g d 62 35 (v0 :: v1 :: v2 :: v3 :: v4 :: v5 :: .int x :: ls) st h P = z_T g d 62 37 (v0 :: v1 :: v2 :: v3 :: v4 :: v5 :: .int x :: ls) (.int x :: st) h P := zt_iload zi_62_35 rfl
theorem zi_62_37 : z_ins 62 37 = some (.iaload, 1) := by decide +kernel
theorem ze_62_37 : z_T g d 62 37 ls (.int x :: .ref a :: st) h P = z_aL h.1 a z_tI x (fun v => z_T g d 62 38 ls (.int v :: st) h P) := zt_iaload zi_62_37
theorem zi_62_38 : z_ins 62 38 = some (.ishl, 1) := by decide +kernel
theorem ze_62_38 : z_T g d 62 38 ls (.int y :: .int x :: st) h P = z_T g d 62 39 ls (.int (x <<< (y &&& 31)) :: st) h P := zt_bin (f := fun x y => x <<< (y &&& 31)) zi_62_38 rfl (fun _ _ _ => rfl)
theorem zi_62_39 : z_ins 62 39 = some (.ior, 1) := by decide +kernel
theorem ze_62_39 : z_T g d 62 39 ls (.int y :: .int x :: st) h P = z_T g d 62 40 ls (.int (x ||| y) :: st) h P := zt_bin (f := fun x y => x ||| y) zi_62_39 rfl (fun _ _ _ => rfl)
theorem zi_62_40 : z_ins 62 40 = some (.istore 4, 2) := by decide +kernel
theorem ze_62_40 : z_T g d 62 40 (v0 :: v1 :: v2 :: v3 :: v4 :: ls) (.int x :: st) h P = z_T g d 62 42 (v0 :: v1 :: v2 :: v3 :: .int x :: ls) st h P := zt_istore zi_62_40 (Nat.le_add_left 5 _)
theorem zi_62_42 : z_ins 62 42 = some (.iinc 5 1, 3) := by decide +kernel
theorem ze_62_42 : z_T g d 62 42 (v0 :: v1 :: v2 :: v3 :: v4 :: .int x :: ls) st h P = z_T g d 62 45 (v0 :: v1 :: v2 :: v3 :: v4 :: .int (x + (nI 1)) :: ls) st h P := zt_iinc zi_62_42 rfl rfl
theorem zi_62_45 : z_ins 62 45 = some (.goto (-39), 3) := by decide +kernel
theorem ze_62_45 : z_T g d 62 45 ls st h P = z_T g d 62 6 ls st h P := zt_goto zi_62_45 (by decide)
theorem zi_62_48 : z_ins 62 48 = some (.iload 4, 2) := by decide +kernel
theorem ze_62_48 : z_T g d 62 48 (v0 :: v1 :: v2 :: v3 :: .int x :: ls) st h P = z_T g d 62 50 (v0 :: v1 :: v2 :: v3 :: .int x :: ls) (.int x :: st) h P := zt_iload zi_62_48 rfl
theorem zi_62_50 : z_ins 62 50 = some (.ireturn, 1) := by decide +kernel
theorem ze_62_50 : z_T g d 62 50 ls [.int x] h P = P (.inr (some (.int x)), h) := zt_ireturn zi_62_50 zr_62
-- java/lang/Integer.bitCount(I)I
theorem zo_201 : z_own 201 = "java/lang/Integer" := by decide +kernel
theorem zm_201 : z_maxL 201 = 1 := by decide +kernel
theorem zh_201 : z_hds 201 = [] := by decide +kernel
theorem zr_201 : z_rt 201 = (some .int) := by decide +kernel
theorem zn_201 : z_Ca g d 201 [.int x0] h P = z_T g d 201 0 [.int x0] [] h P := z_Ca_ent zm_201 rfl rfl
theorem zi_201_0 : z_ins 201 0 = some (.iload_n 0, 1) := by decide +kernel
theorem ze_201_0 : z_T g d 201 0 (.int x :: ls) st h P = z_T g d 201 1 (.int x :: ls) (.int x :: st) h P := zt_iloadn zi_201_0 rfl rfl
theorem zi_201_1 : z_ins 201 1 = some (.iload_n 0, 1) := by decide +kernel
theorem ze_201_1 : z_T g d 201 1 (.int x :: ls) st h P = z_T g d 201 2 (.int x :: ls) (.int x :: st) h P := zt_iloadn zi_201_1 rfl rfl
theorem zi_201_2 : z_ins 201 2 = some (.iconst 1, 1) := by decide +kernel
theorem ze_201_2 : z_T g d 201 2 ls st h P = z_T g d 201 3 ls (.int (nI 1) :: st) h P := zt_iconst zi_201_2 rfl
theorem zi_201_3 : z_ins 201 3 = some (.iushr, 1) := by decide +kernel
theorem ze_201_3 : z_T g d 201 3 ls (.int y :: .int x :: st) h P = z_T g d 201 4 ls (.int ((x.toUInt32 >>> (y.toUInt32 &&& Int32.toUInt32 31)).toInt32) :: st) h P := zt_bin (f := fun x y => (x.toUInt32 >>> (y.toUInt32 &&& Int32.toUInt32 31)).toInt32) zi_201_3 rfl (fun _ _ _ => rfl)
theorem zi_201_4 : z_ins 201 4 = some (.ldc_w 265, 3) := by decide +kernel
theorem ze_201_4 : z_T g d 201 4 ls st h P = z_T g d 201 7 ls (.int 1431655765 :: st) h P := zt_ldcw zi_201_4 ((congrArg (fun o => z_lookup z_kss (o, 265)) zo_201).trans zq_java_lang_Integer_265)
theorem zi_201_7 : z_ins 201 7 = some (.iand, 1) := by decide +kernel
theorem ze_201_7 : z_T g d 201 7 ls (.int y :: .int x :: st) h P = z_T g d 201 8 ls (.int (x &&& y) :: st) h P := zt_bin (f := fun x y => x &&& y) zi_201_7 rfl (fun _ _ _ => rfl)
theorem zi_201_8 : z_ins 201 8 = some (.isub, 1) := by decide +kernel
theorem ze_201_8 : z_T g d 201 8 ls (.int y :: .int x :: st) h P = z_T g d 201 9 ls (.int (x - y) :: st) h P := zt_bin (f := fun x y => x - y) zi_201_8 rfl (fun _ _ _ => rfl)
theorem zi_201_9 : z_ins 201 9 = some (.istore_n 0, 1) := by decide +kernel
theorem ze_201_9 : z_T g d 201 9 (v0 :: ls) (.int x :: st) h P = z_T g d 201 10 (.int x :: ls) st h P := zt_istoren zi_201_9 rfl (Nat.le_add_left 1 _)
theorem zi_201_10 : z_ins 201 10 = some (.iload_n 0, 1) := by decide +kernel
theorem ze_201_10 : z_T g d 201 10 (.int x :: ls) st h P = z_T g d 201 11 (.int x :: ls) (.int x :: st) h P := zt_iloadn zi_201_10 rfl rfl
theorem zi_201_11 : z_ins 201 11 = some (.ldc_w 266, 3) := by decide +kernel
theorem ze_201_11 : z_T g d 201 11 ls st h P = z_T g d 201 14 ls (.int 858993459 :: st) h P := zt_ldcw zi_201_11 ((congrArg (fun o => z_lookup z_kss (o, 266)) zo_201).trans zq_java_lang_Integer_266)
theorem zi_201_14 : z_ins 201 14 = some (.iand, 1) := by decide +kernel
theorem ze_201_14 : z_T g d 201 14 ls (.int y :: .int x :: st) h P = z_T g d 201 15 ls (.int (x &&& y) :: st) h P := zt_bin (f := fun x y => x &&& y) zi_201_14 rfl (fun _ _ _ => rfl)
theorem zi_201_15 : z_ins 201 15 = some (.iload_n 0, 1) := by decide +kernel
theorem ze_201_15 : z_T g d 201 15 (.int x :: ls) st h P = z_T g d 201 16 (.int x :: ls) (.int x :: st) h P := zt_iloadn zi_201_15 rfl rfl
theorem zi_201_16 : z_ins 201 16 = some (.iconst 2, 1) := by decide +kernel
theorem ze_201_16 : z_T g d 201 16 ls st h P = z_T g d 201 17 ls (.int (nI 2) :: st) h P := zt_iconst zi_201_16 rfl
theorem zi_201_17 : z_ins 201 17 = some (.iushr, 1) := by decide +kernel
theorem ze_201_17 : z_T g d 201 17 ls (.int y :: .int x :: st) h P = z_T g d 201 18 ls (.int ((x.toUInt32 >>> (y.toUInt32 &&& Int32.toUInt32 31)).toInt32) :: st) h P := zt_bin (f := fun x y => (x.toUInt32 >>> (y.toUInt32 &&& Int32.toUInt32 31)).toInt32) zi_201_17 rfl (fun _ _ _ => rfl)
theorem zi_201_18 : z_ins 201 18 = some (.ldc_w 266, 3) := by decide +kernel
theorem ze_201_18 : z_T g d 201 18 ls st h P = z_T g d 201 21 ls (.int 858993459 :: st) h P := zt_ldcw zi_201_18 ((congrArg (fun o => z_lookup z_kss (o, 266)) zo_201).trans zq_java_lang_Integer_266)
theorem zi_201_21 : z_ins 201 21 = some (.iand, 1) := by decide +kernel
theorem ze_201_21 : z_T g d 201 21 ls (.int y :: .int x :: st) h P = z_T g d 201 22 ls (.int (x &&& y) :: st) h P := zt_bin (f := fun x y => x &&& y) zi_201_21 rfl (fun _ _ _ => rfl)
theorem zi_201_22 : z_ins 201 22 = some (.iadd, 1) := by decide +kernel
theorem ze_201_22 : z_T g d 201 22 ls (.int y :: .int x :: st) h P = z_T g d 201 23 ls (.int (x + y) :: st) h P := zt_bin (f := fun x y => x + y) zi_201_22 rfl (fun _ _ _ => rfl)
theorem zi_201_23 : z_ins 201 23 = some (.istore_n 0, 1) := by decide +kernel
theorem ze_201_23 : z_T g d 201 23 (v0 :: ls) (.int x :: st) h P = z_T g d 201 24 (.int x :: ls) st h P := zt_istoren zi_201_23 rfl (Nat.le_add_left 1 _)
theorem zi_201_24 : z_ins 201 24 = some (.iload_n 0, 1) := by decide +kernel
theorem ze_201_24 : z_T g d 201 24 (.int x :: ls) st h P = z_T g d 201 25 (.int x :: ls) (.int x :: st) h P := zt_iloadn zi_201_24 rfl rfl
theorem zi_201_25 : z_ins 201 25 = some (.iload_n 0, 1) := by decide +kernel
theorem ze_201_25 : z_T g d 201 25 (.int x :: ls) st h P = z_T g d 201 26 (.int x :: ls) (.int x :: st) h P := zt_iloadn zi_201_25 rfl rfl
theorem zi_201_26 : z_ins 201 26 = some (.iconst 4, 1) := by decide +kernel
theorem ze_201_26 : z_T g d 201 26 ls st h P = z_T g d 201 27 ls (.int (nI 4) :: st) h P := zt_iconst zi_201_26 rfl
theorem zi_201_27 : z_ins 201 27 = some (.iushr, 1) := by decide +kernel
theorem ze_201_27 : z_T g d 201 27 ls (.int y :: .int x :: st) h P = z_T g d 201 28 ls (.int ((x.toUInt32 >>> (y.toUInt32 &&& Int32.toUInt32 31)).toInt32) :: st) h P := zt_bin (f := fun x y => (x.toUInt32 >>> (y.toUInt32 &&& Int32.toUInt32 31)).toInt32) zi_201_27 rfl (fun _ _ _ => rfl)
theorem zi_201_28 : z_ins 201 28 = some (.iadd, 1) := by decide +kernel
theorem ze_201_28 : z_T g d 201 28 ls (.int y :: .int x :: st) h P = z_T g d 201 29 ls (.int (x + y) :: st) h P := zt_bin (f := fun x y => x + y) zi_201_28 rfl (fun _ _ _ => rfl)
theorem zi_201_29 : z_ins 201 29 = some (.ldc_w 267, 3) := by decide +kernel
theorem ze_201_29 : z_T g d 201 29 ls st h P = z_T g d 201 32 ls (.int 252645135 :: st) h P := zt_ldcw zi_201_29 ((congrArg (fun o => z_lookup z_kss (o, 267)) zo_201).trans zq_java_lang_Integer_267)
theorem zi_201_32 : z_ins 201 32 = some (.iand, 1) := by decide +kernel
theorem ze_201_32 : z_T g d 201 32 ls (.int y :: .int x :: st) h P = z_T g d 201 33 ls (.int (x &&& y) :: st) h P := zt_bin (f := fun x y => x &&& y) zi_201_32 rfl (fun _ _ _ => rfl)
theorem zi_201_33 : z_ins 201 33 = some (.istore_n 0, 1) := by decide +kernel
theorem ze_201_33 : z_T g d 201 33 (v0 :: ls) (.int x :: st) h P = z_T g d 201 34 (.int x :: ls) st h P := zt_istoren zi_201_33 rfl (Nat.le_add_left 1 _)
theorem zi_201_34 : z_ins 201 34 = some (.iload_n 0, 1) := by decide +kernel
theorem ze_201_34 : z_T g d 201 34 (.int x :: ls) st h P = z_T g d 201 35 (.int x :: ls) (.int x :: st) h P := zt_iloadn zi_201_34 rfl rfl
theorem zi_201_35 : z_ins 201 35 = some (.iload_n 0, 1) := by decide +kernel
theorem ze_201_35 : z_T g d 201 35 (.int x :: ls) st h P = z_T g d 201 36 (.int x :: ls) (.int x :: st) h P := zt_iloadn zi_201_35 rfl rfl
theorem zi_201_36 : z_ins 201 36 = some (.bipush 8, 2) := by decide +kernel
theorem ze_201_36 : z_T g d 201 36 ls st h P = z_T g d 201 38 ls (.int (nI 8) :: st) h P := zt_bipush zi_201_36 rfl
theorem zi_201_38 : z_ins 201 38 = some (.iushr, 1) := by decide +kernel
theorem ze_201_38 : z_T g d 201 38 ls (.int y :: .int x :: st) h P = z_T g d 201 39 ls (.int ((x.toUInt32 >>> (y.toUInt32 &&& Int32.toUInt32 31)).toInt32) :: st) h P := zt_bin (f := fun x y => (x.toUInt32 >>> (y.toUInt32 &&& Int32.toUInt32 31)).toInt32) zi_201_38 rfl (fun _ _ _ => rfl)
theorem zi_201_39 : z_ins 201 39 = some (.iadd, 1) := by decide +kernel
theorem ze_201_39 : z_T g d 201 39 ls (.int y :: .int x :: st) h P = z_T g d 201 40 ls (.int (x + y) :: st) h P := zt_bin (f := fun x y => x + y) zi_201_39 rfl (fun _ _ _ => rfl)
theorem zi_201_40 : z_ins 201 40 = some (.istore_n 0, 1) := by decide +kernel
theorem ze_201_40 : z_T g d 201 40 (v0 :: ls) (.int x :: st) h P = z_T g d 201 41 (.int x :: ls) st h P := zt_istoren zi_201_40 rfl (Nat.le_add_left 1 _)
theorem zi_201_41 : z_ins 201 41 = some (.iload_n 0, 1) := by decide +kernel
theorem ze_201_41 : z_T g d 201 41 (.int x :: ls) st h P = z_T g d 201 42 (.int x :: ls) (.int x :: st) h P := zt_iloadn zi_201_41 rfl rfl
theorem zi_201_42 : z_ins 201 42 = some (.iload_n 0, 1) := by decide +kernel
theorem ze_201_42 : z_T g d 201 42 (.int x :: ls) st h P = z_T g d 201 43 (.int x :: ls) (.int x :: st) h P := zt_iloadn zi_201_42 rfl rfl
theorem zi_201_43 : z_ins 201 43 = some (.bipush 16, 2) := by decide +kernel
theorem ze_201_43 : z_T g d 201 43 ls st h P = z_T g d 201 45 ls (.int (nI 16) :: st) h P := zt_bipush zi_201_43 rfl
theorem zi_201_45 : z_ins 201 45 = some (.iushr, 1) := by decide +kernel
theorem ze_201_45 : z_T g d 201 45 ls (.int y :: .int x :: st) h P = z_T g d 201 46 ls (.int ((x.toUInt32 >>> (y.toUInt32 &&& Int32.toUInt32 31)).toInt32) :: st) h P := zt_bin (f := fun x y => (x.toUInt32 >>> (y.toUInt32 &&& Int32.toUInt32 31)).toInt32) zi_201_45 rfl (fun _ _ _ => rfl)
theorem zi_201_46 : z_ins 201 46 = some (.iadd, 1) := by decide +kernel
theorem ze_201_46 : z_T g d 201 46 ls (.int y :: .int x :: st) h P = z_T g d 201 47 ls (.int (x + y) :: st) h P := zt_bin (f := fun x y => x + y) zi_201_46 rfl (fun _ _ _ => rfl)
theorem zi_201_47 : z_ins 201 47 = some (.istore_n 0, 1) := by decide +kernel
theorem ze_201_47 : z_T g d 201 47 (v0 :: ls) (.int x :: st) h P = z_T g d 201 48 (.int x :: ls) st h P := zt_istoren zi_201_47 rfl (Nat.le_add_left 1 _)
theorem zi_201_48 : z_ins 201 48 = some (.iload_n 0, 1) := by decide +kernel
theorem ze_201_48 : z_T g d 201 48 (.int x :: ls) st h P = z_T g d 201 49 (.int x :: ls) (.int x :: st) h P := zt_iloadn zi_201_48 rfl rfl
theorem zi_201_49 : z_ins 201 49 = some (.bipush 63, 2) := by decide +kernel
theorem ze_201_49 : z_T g d 201 49 ls st h P = z_T g d 201 51 ls (.int (nI 63) :: st) h P := zt_bipush zi_201_49 rfl
theorem zi_201_51 : z_ins 201 51 = some (.iand, 1) := by decide +kernel
theorem ze_201_51 : z_T g d 201 51 ls (.int y :: .int x :: st) h P = z_T g d 201 52 ls (.int (x &&& y) :: st) h P := zt_bin (f := fun x y => x &&& y) zi_201_51 rfl (fun _ _ _ => rfl)
theorem zi_201_52 : z_ins 201 52 = some (.ireturn, 1) := by decide +kernel
theorem ze_201_52 : z_T g d 201 52 ls [.int x] h P = P (.inr (some (.int x)), h) := zt_ireturn zi_201_52 zr_201
end
