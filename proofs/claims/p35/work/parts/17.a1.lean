section
variable {g : z_G} {d : Nat} {h : z_H} {P : z_Res → Prop} {ls st : List Value} {v0 v1 v2 v3 v4 v5 v6 v7 v8 v9 v10 v11 vw : Value} {x y x0 x1 x2 x3 x4 x5 x6 : Int32} {a b a0 a1 a2 a3 a4 a5 k0 k1 k2 : Nat}
-- LatinRectangles$Forces.<init>(LLatinRectangles$Grid;)V
theorem zm_15 : z_maxL 15 = 2 := by decide +kernel
theorem zh_15 : z_hds 15 = [] := by decide +kernel
theorem zj_15 : z_jdk 15 = false := by decide +kernel
theorem zr_15 : z_rt 15 = none := by decide +kernel
theorem zn_15 : z_Ca g d 15 [.ref a0, .ref a1] h P = z_T g d 15 0 [.ref a0, .ref a1] [] h P := z_Ca_ent zm_15 rfl rfl
theorem zi_15_0 : z_ins 15 0 = some (.aload_n 0, 1) := by decide +kernel
theorem ze_15_0 : z_T g d 15 0 (.ref a :: ls) st h P = z_T g d 15 1 (.ref a :: ls) (.ref a :: st) h P := zt_aloadn zi_15_0 rfl rfl
theorem zi_15_1 : z_ins 15 1 = some (.invokespecial 3, 3) := by decide +kernel
theorem ze_15_1 : z_T g d 15 1 ls (.ref a :: st) h P = (z_okS 8 st = true ∧ z_T g d 15 4 ls st h P) := zt_objInit zi_15_1 ((congrArg (fun o => z_lookup z_ois (o, 3)) zo_15).trans zq_ois_LatinRectangles_Forces_3)
theorem zi_15_4 : z_ins 15 4 = some (.aload_n 0, 1) := by decide +kernel
theorem ze_15_4 : z_T g d 15 4 (.ref a :: ls) st h P = z_T g d 15 5 (.ref a :: ls) (.ref a :: st) h P := zt_aloadn zi_15_4 rfl rfl
theorem zi_15_5 : z_ins 15 5 = some (.aload_n 1, 1) := by decide +kernel
theorem ze_15_5 : z_T g d 15 5 (v0 :: .ref a :: ls) st h P = z_T g d 15 6 (v0 :: .ref a :: ls) (.ref a :: st) h P := zt_aloadn zi_15_5 rfl rfl
theorem zi_15_6 : z_ins 15 6 = some (.putfield 9, 3) := by decide +kernel
theorem ze_15_6 : z_T g d 15 6 ls (.ref b :: .ref a :: st) h P = z_pF h.1 a 2 0 (.ref b) (fun f => z_T g d 15 9 ls st (f, h.2) P) := zt_put zi_15_6 ((congrArg (fun o => z_fl o 9) zo_15).trans zf_LatinRectangles_Forces_9) (by decide +kernel) rfl rfl
theorem zi_15_9 : z_ins 15 9 = some (.return_, 1) := by decide +kernel
theorem ze_15_9 : z_T g d 15 9 ls [] h P = P (.inr none, h) := zt_return zi_15_9 zr_15
-- LatinRectangles$Forces.count()I
theorem zm_16 : z_maxL 16 = 4 := by decide +kernel
theorem zh_16 : z_hds 16 = [] := by decide +kernel
theorem zj_16 : z_jdk 16 = false := by decide +kernel
theorem zr_16 : z_rt 16 = (some .int) := by decide +kernel
theorem zn_16 : z_Ca g d 16 [.ref a0] h P = z_T g d 16 0 [.ref a0, z_un, z_un, z_un] [] h P := z_Ca_ent zm_16 rfl rfl
theorem zi_16_0 : z_ins 16 0 = some (.iconst 0, 1) := by decide +kernel
theorem ze_16_0 : z_T g d 16 0 ls st h P = z_T g d 16 1 ls (.int (nI 0) :: st) h P := zt_iconst zi_16_0 rfl
theorem zi_16_1 : z_ins 16 1 = some (.istore_n 1, 1) := by decide +kernel
theorem ze_16_1 : z_T g d 16 1 (v0 :: v1 :: ls) (.int x :: st) h P = z_T g d 16 2 (v0 :: .int x :: ls) st h P := zt_istoren zi_16_1 rfl (Nat.le_add_left 2 _)
theorem zi_16_2 : z_ins 16 2 = some (.iconst 0, 1) := by decide +kernel
theorem ze_16_2 : z_T g d 16 2 ls st h P = z_T g d 16 3 ls (.int (nI 0) :: st) h P := zt_iconst zi_16_2 rfl
theorem zi_16_3 : z_ins 16 3 = some (.istore_n 2, 1) := by decide +kernel
theorem ze_16_3 : z_T g d 16 3 (v0 :: v1 :: v2 :: ls) (.int x :: st) h P = z_T g d 16 4 (v0 :: v1 :: .int x :: ls) st h P := zt_istoren zi_16_3 rfl (Nat.le_add_left 3 _)
theorem zi_16_4 : z_ins 16 4 = some (.iload_n 2, 1) := by decide +kernel
theorem ze_16_4 : z_T g d 16 4 (v0 :: v1 :: .int x :: ls) st h P = z_T g d 16 5 (v0 :: v1 :: .int x :: ls) (.int x :: st) h P := zt_iloadn zi_16_4 rfl rfl
theorem zi_16_5 : z_ins 16 5 = some (.aload_n 0, 1) := by decide +kernel
theorem ze_16_5 : z_T g d 16 5 (.ref a :: ls) st h P = z_T g d 16 6 (.ref a :: ls) (.ref a :: st) h P := zt_aloadn zi_16_5 rfl rfl
theorem zi_16_6 : z_ins 16 6 = some (.getfield 9, 3) := by decide +kernel
theorem ze_16_6 : z_T g d 16 6 ls (.ref a :: st) h P = z_gR h.1 a 2 0 (fun x => z_T g d 16 9 ls (x :: st) h P) := zt_getR zi_16_6 ((congrArg (fun o => z_fl o 9) zo_16).trans zf_LatinRectangles_Forces_9)
theorem zi_16_9 : z_ins 16 9 = some (.getfield 15, 3) := by decide +kernel
theorem ze_16_9 : z_T g d 16 9 ls (.ref a :: st) h P = z_gI h.1 a 3 5 (fun x => z_T g d 16 12 ls (.int x :: st) h P) := zt_getI zi_16_9 ((congrArg (fun o => z_fl o 15) zo_16).trans zf_LatinRectangles_Forces_15)
theorem zi_16_12 : z_ins 16 12 = some (.if_icmp .ge 40, 3) := by decide +kernel
theorem ze_16_12 : z_T g d 16 12 ls (.int y :: .int x :: st) h P = (if x < y then z_T g d 16 15 ls st h P else z_T g d 16 52 ls st h P) := zt_icmpge zi_16_12 (by decide)
theorem zi_16_15 : z_ins 16 15 = some (.iconst 0, 1) := by decide +kernel
theorem ze_16_15 : z_T g d 16 15 ls st h P = z_T g d 16 16 ls (.int (nI 0) :: st) h P := zt_iconst zi_16_15 rfl
theorem zi_16_16 : z_ins 16 16 = some (.istore_n 3, 1) := by decide +kernel
theorem ze_16_16 : z_T g d 16 16 (v0 :: v1 :: v2 :: v3 :: ls) (.int x :: st) h P = z_T g d 16 17 (v0 :: v1 :: v2 :: .int x :: ls) st h P := zt_istoren zi_16_16 rfl (Nat.le_add_left 4 _)
theorem zi_16_17 : z_ins 16 17 = some (.iload_n 3, 1) := by decide +kernel
theorem ze_16_17 : z_T g d 16 17 (v0 :: v1 :: v2 :: .int x :: ls) st h P = z_T g d 16 18 (v0 :: v1 :: v2 :: .int x :: ls) (.int x :: st) h P := zt_iloadn zi_16_17 rfl rfl
theorem zi_16_18 : z_ins 16 18 = some (.aload_n 0, 1) := by decide +kernel
theorem ze_16_18 : z_T g d 16 18 (.ref a :: ls) st h P = z_T g d 16 19 (.ref a :: ls) (.ref a :: st) h P := zt_aloadn zi_16_18 rfl rfl
theorem zi_16_19 : z_ins 16 19 = some (.getfield 9, 3) := by decide +kernel
theorem ze_16_19 : z_T g d 16 19 ls (.ref a :: st) h P = z_gR h.1 a 2 0 (fun x => z_T g d 16 22 ls (x :: st) h P) := zt_getR zi_16_19 ((congrArg (fun o => z_fl o 9) zo_16).trans zf_LatinRectangles_Forces_9)
theorem zi_16_22 : z_ins 16 22 = some (.getfield 21, 3) := by decide +kernel
theorem ze_16_22 : z_T g d 16 22 ls (.ref a :: st) h P = z_gI h.1 a 3 6 (fun x => z_T g d 16 25 ls (.int x :: st) h P) := zt_getI zi_16_22 ((congrArg (fun o => z_fl o 21) zo_16).trans zf_LatinRectangles_Forces_21)
theorem zi_16_25 : z_ins 16 25 = some (.if_icmp .ge 21, 3) := by decide +kernel
theorem ze_16_25 : z_T g d 16 25 ls (.int y :: .int x :: st) h P = (if x < y then z_T g d 16 28 ls st h P else z_T g d 16 46 ls st h P) := zt_icmpge zi_16_25 (by decide)
theorem zi_16_28 : z_ins 16 28 = some (.aload_n 0, 1) := by decide +kernel
theorem ze_16_28 : z_T g d 16 28 (.ref a :: ls) st h P = z_T g d 16 29 (.ref a :: ls) (.ref a :: st) h P := zt_aloadn zi_16_28 rfl rfl
theorem zi_16_29 : z_ins 16 29 = some (.iload_n 2, 1) := by decide +kernel
theorem ze_16_29 : z_T g d 16 29 (v0 :: v1 :: .int x :: ls) st h P = z_T g d 16 30 (v0 :: v1 :: .int x :: ls) (.int x :: st) h P := zt_iloadn zi_16_29 rfl rfl
theorem zi_16_30 : z_ins 16 30 = some (.iload_n 3, 1) := by decide +kernel
theorem ze_16_30 : z_T g d 16 30 (v0 :: v1 :: v2 :: .int x :: ls) st h P = z_T g d 16 31 (v0 :: v1 :: v2 :: .int x :: ls) (.int x :: st) h P := zt_iloadn zi_16_30 rfl rfl
theorem zi_16_31 : z_ins 16 31 = some (.invokevirtual 24, 3) := by decide +kernel
theorem ze_16_31 : z_T g d 16 31 ls (.int x1 :: .int x0 :: .ref a :: st) h P = ((z_okS 8 st = true ∧ z_gO h.1 a 2 ∧ 0 < d) ∧ z_Ca g (d - 1) 18 [.ref a, .int x0, .int x1] h (fun r => z_k r (fun v h' => z_T g d 16 34 ls (z_push v st) h' P) P)) := zt_cV (as := [.int x0, .int x1]) (kk := 0) zi_16_31 rfl (zt_call zj_16 zh_16) (z_opV ((congrArg (fun o => z_lookup z_cns (o, 24)) zo_16).trans zq_cns_LatinRectangles_Forces_24) ((congrArg (fun o => z_lookup z_prs (o, 24)) zo_16).trans zq_prs_LatinRectangles_Forces_24)) ((congrArg (fun o => z_clk o 24) zo_16).trans zk_LatinRectangles_Forces_24) rfl rfl rfl rfl (z_rcv0 zc_18)
theorem zi_16_34 : z_ins 16 34 = some (.ifCond .eq 6, 3) := by decide +kernel
theorem ze_16_34 : z_T g d 16 34 ls (.int x :: st) h P = (if x = nI 0 then z_T g d 16 40 ls st h P else z_T g d 16 37 ls st h P) := zt_ifeq zi_16_34 (by decide)
theorem zi_16_37 : z_ins 16 37 = some (.iinc 1 1, 3) := by decide +kernel
theorem ze_16_37 : z_T g d 16 37 (v0 :: .int x :: ls) st h P = z_T g d 16 40 (v0 :: .int (x + (nI 1)) :: ls) st h P := zt_iinc zi_16_37 rfl rfl
theorem zi_16_40 : z_ins 16 40 = some (.iinc 3 1, 3) := by decide +kernel
theorem ze_16_40 : z_T g d 16 40 (v0 :: v1 :: v2 :: .int x :: ls) st h P = z_T g d 16 43 (v0 :: v1 :: v2 :: .int (x + (nI 1)) :: ls) st h P := zt_iinc zi_16_40 rfl rfl
theorem zi_16_43 : z_ins 16 43 = some (.goto (-26), 3) := by decide +kernel
theorem ze_16_43 : z_T g d 16 43 ls st h P = z_T g d 16 17 ls st h P := zt_goto zi_16_43 (by decide)
theorem zi_16_46 : z_ins 16 46 = some (.iinc 2 1, 3) := by decide +kernel
theorem ze_16_46 : z_T g d 16 46 (v0 :: v1 :: .int x :: ls) st h P = z_T g d 16 49 (v0 :: v1 :: .int (x + (nI 1)) :: ls) st h P := zt_iinc zi_16_46 rfl rfl
theorem zi_16_49 : z_ins 16 49 = some (.goto (-45), 3) := by decide +kernel
theorem ze_16_49 : z_T g d 16 49 ls st h P = z_T g d 16 4 ls st h P := zt_goto zi_16_49 (by decide)
theorem zi_16_52 : z_ins 16 52 = some (.iload_n 1, 1) := by decide +kernel
theorem ze_16_52 : z_T g d 16 52 (v0 :: .int x :: ls) st h P = z_T g d 16 53 (v0 :: .int x :: ls) (.int x :: st) h P := zt_iloadn zi_16_52 rfl rfl
theorem zi_16_53 : z_ins 16 53 = some (.ireturn, 1) := by decide +kernel
theorem ze_16_53 : z_T g d 16 53 ls [.int x] h P = P (.inr (some (.int x)), h) := zt_ireturn zi_16_53 zr_16
-- LatinRectangles$Forces.cellByPlace(I)I
theorem zm_17 : z_maxL 17 = 5 := by decide +kernel
theorem zh_17 : z_hds 17 = [] := by decide +kernel
theorem zj_17 : z_jdk 17 = false := by decide +kernel
theorem zr_17 : z_rt 17 = (some .int) := by decide +kernel
theorem zn_17 : z_Ca g d 17 [.ref a0, .int x1] h P = z_T g d 17 0 [.ref a0, .int x1, z_un, z_un, z_un] [] h P := z_Ca_ent zm_17 rfl rfl
theorem zi_17_0 : z_ins 17 0 = some (.iload_n 1, 1) := by decide +kernel
theorem ze_17_0 : z_T g d 17 0 (v0 :: .int x :: ls) st h P = z_T g d 17 1 (v0 :: .int x :: ls) (.int x :: st) h P := zt_iloadn zi_17_0 rfl rfl
theorem zi_17_1 : z_ins 17 1 = some (.istore_n 2, 1) := by decide +kernel
theorem ze_17_1 : z_T g d 17 1 (v0 :: v1 :: v2 :: ls) (.int x :: st) h P = z_T g d 17 2 (v0 :: v1 :: .int x :: ls) st h P := zt_istoren zi_17_1 rfl (Nat.le_add_left 3 _)
theorem zi_17_2 : z_ins 17 2 = some (.iconst 0, 1) := by decide +kernel
theorem ze_17_2 : z_T g d 17 2 ls st h P = z_T g d 17 3 ls (.int (nI 0) :: st) h P := zt_iconst zi_17_2 rfl
theorem zi_17_3 : z_ins 17 3 = some (.istore_n 3, 1) := by decide +kernel
theorem ze_17_3 : z_T g d 17 3 (v0 :: v1 :: v2 :: v3 :: ls) (.int x :: st) h P = z_T g d 17 4 (v0 :: v1 :: v2 :: .int x :: ls) st h P := zt_istoren zi_17_3 rfl (Nat.le_add_left 4 _)
theorem zi_17_4 : z_ins 17 4 = some (.iload_n 3, 1) := by decide +kernel
theorem ze_17_4 : z_T g d 17 4 (v0 :: v1 :: v2 :: .int x :: ls) st h P = z_T g d 17 5 (v0 :: v1 :: v2 :: .int x :: ls) (.int x :: st) h P := zt_iloadn zi_17_4 rfl rfl
theorem zi_17_5 : z_ins 17 5 = some (.aload_n 0, 1) := by decide +kernel
theorem ze_17_5 : z_T g d 17 5 (.ref a :: ls) st h P = z_T g d 17 6 (.ref a :: ls) (.ref a :: st) h P := zt_aloadn zi_17_5 rfl rfl
theorem zi_17_6 : z_ins 17 6 = some (.getfield 9, 3) := by decide +kernel
theorem ze_17_6 : z_T g d 17 6 ls (.ref a :: st) h P = z_gR h.1 a 2 0 (fun x => z_T g d 17 9 ls (x :: st) h P) := zt_getR zi_17_6 ((congrArg (fun o => z_fl o 9) zo_17).trans zf_LatinRectangles_Forces_9)
theorem zi_17_9 : z_ins 17 9 = some (.getfield 15, 3) := by decide +kernel
theorem ze_17_9 : z_T g d 17 9 ls (.ref a :: st) h P = z_gI h.1 a 3 5 (fun x => z_T g d 17 12 ls (.int x :: st) h P) := zt_getI zi_17_9 ((congrArg (fun o => z_fl o 15) zo_17).trans zf_LatinRectangles_Forces_15)
theorem zi_17_12 : z_ins 17 12 = some (.if_icmp .ge 54, 3) := by decide +kernel
theorem ze_17_12 : z_T g d 17 12 ls (.int y :: .int x :: st) h P = (if x < y then z_T g d 17 15 ls st h P else z_T g d 17 66 ls st h P) := zt_icmpge zi_17_12 (by decide)
theorem zi_17_15 : z_ins 17 15 = some (.iconst 0, 1) := by decide +kernel
theorem ze_17_15 : z_T g d 17 15 ls st h P = z_T g d 17 16 ls (.int (nI 0) :: st) h P := zt_iconst zi_17_15 rfl
theorem zi_17_16 : z_ins 17 16 = some (.istore 4, 2) := by decide +kernel
theorem ze_17_16 : z_T g d 17 16 (v0 :: v1 :: v2 :: v3 :: v4 :: ls) (.int x :: st) h P = z_T g d 17 18 (v0 :: v1 :: v2 :: v3 :: .int x :: ls) st h P := zt_istore zi_17_16 (Nat.le_add_left 5 _)
theorem zi_17_18 : z_ins 17 18 = some (.iload 4, 2) := by decide +kernel
theorem ze_17_18 : z_T g d 17 18 (v0 :: v1 :: v2 :: v3 :: .int x :: ls) st h P = z_T g d 17 20 (v0 :: v1 :: v2 :: v3 :: .int x :: ls) (.int x :: st) h P := zt_iload zi_17_18 rfl
theorem zi_17_20 : z_ins 17 20 = some (.aload_n 0, 1) := by decide +kernel
theorem ze_17_20 : z_T g d 17 20 (.ref a :: ls) st h P = z_T g d 17 21 (.ref a :: ls) (.ref a :: st) h P := zt_aloadn zi_17_20 rfl rfl
theorem zi_17_21 : z_ins 17 21 = some (.getfield 9, 3) := by decide +kernel
theorem ze_17_21 : z_T g d 17 21 ls (.ref a :: st) h P = z_gR h.1 a 2 0 (fun x => z_T g d 17 24 ls (x :: st) h P) := zt_getR zi_17_21 ((congrArg (fun o => z_fl o 9) zo_17).trans zf_LatinRectangles_Forces_9)
theorem zi_17_24 : z_ins 17 24 = some (.getfield 21, 3) := by decide +kernel
theorem ze_17_24 : z_T g d 17 24 ls (.ref a :: st) h P = z_gI h.1 a 3 6 (fun x => z_T g d 17 27 ls (.int x :: st) h P) := zt_getI zi_17_24 ((congrArg (fun o => z_fl o 21) zo_17).trans zf_LatinRectangles_Forces_21)
theorem zi_17_27 : z_ins 17 27 = some (.if_icmp .ge 33, 3) := by decide +kernel
theorem ze_17_27 : z_T g d 17 27 ls (.int y :: .int x :: st) h P = (if x < y then z_T g d 17 30 ls st h P else z_T g d 17 60 ls st h P) := zt_icmpge zi_17_27 (by decide)
theorem zi_17_30 : z_ins 17 30 = some (.aload_n 0, 1) := by decide +kernel
theorem ze_17_30 : z_T g d 17 30 (.ref a :: ls) st h P = z_T g d 17 31 (.ref a :: ls) (.ref a :: st) h P := zt_aloadn zi_17_30 rfl rfl
theorem zi_17_31 : z_ins 17 31 = some (.iload_n 3, 1) := by decide +kernel
theorem ze_17_31 : z_T g d 17 31 (v0 :: v1 :: v2 :: .int x :: ls) st h P = z_T g d 17 32 (v0 :: v1 :: v2 :: .int x :: ls) (.int x :: st) h P := zt_iloadn zi_17_31 rfl rfl
theorem zi_17_32 : z_ins 17 32 = some (.iload 4, 2) := by decide +kernel
theorem ze_17_32 : z_T g d 17 32 (v0 :: v1 :: v2 :: v3 :: .int x :: ls) st h P = z_T g d 17 34 (v0 :: v1 :: v2 :: v3 :: .int x :: ls) (.int x :: st) h P := zt_iload zi_17_32 rfl
theorem zi_17_34 : z_ins 17 34 = some (.invokevirtual 24, 3) := by decide +kernel
theorem ze_17_34 : z_T g d 17 34 ls (.int x1 :: .int x0 :: .ref a :: st) h P = ((z_okS 8 st = true ∧ z_gO h.1 a 2 ∧ 0 < d) ∧ z_Ca g (d - 1) 18 [.ref a, .int x0, .int x1] h (fun r => z_k r (fun v h' => z_T g d 17 37 ls (z_push v st) h' P) P)) := zt_cV (as := [.int x0, .int x1]) (kk := 0) zi_17_34 rfl (zt_call zj_17 zh_17) (z_opV ((congrArg (fun o => z_lookup z_cns (o, 24)) zo_17).trans zq_cns_LatinRectangles_Forces_24) ((congrArg (fun o => z_lookup z_prs (o, 24)) zo_17).trans zq_prs_LatinRectangles_Forces_24)) ((congrArg (fun o => z_clk o 24) zo_17).trans zk_LatinRectangles_Forces_24) rfl rfl rfl rfl (z_rcv0 zc_18)
theorem zi_17_37 : z_ins 17 37 = some (.ifCond .eq 17, 3) := by decide +kernel
theorem ze_17_37 : z_T g d 17 37 ls (.int x :: st) h P = (if x = nI 0 then z_T g d 17 54 ls st h P else z_T g d 17 40 ls st h P) := zt_ifeq zi_17_37 (by decide)
theorem zi_17_40 : z_ins 17 40 = some (.iload_n 2, 1) := by decide +kernel
theorem ze_17_40 : z_T g d 17 40 (v0 :: v1 :: .int x :: ls) st h P = z_T g d 17 41 (v0 :: v1 :: .int x :: ls) (.int x :: st) h P := zt_iloadn zi_17_40 rfl rfl
theorem zi_17_41 : z_ins 17 41 = some (.ifCond .ne 10, 3) := by decide +kernel
theorem ze_17_41 : z_T g d 17 41 ls (.int x :: st) h P = (if x = nI 0 then z_T g d 17 44 ls st h P else z_T g d 17 51 ls st h P) := zt_ifne zi_17_41 (by decide)
theorem zi_17_44 : z_ins 17 44 = some (.iload_n 3, 1) := by decide +kernel
theorem ze_17_44 : z_T g d 17 44 (v0 :: v1 :: v2 :: .int x :: ls) st h P = z_T g d 17 45 (v0 :: v1 :: v2 :: .int x :: ls) (.int x :: st) h P := zt_iloadn zi_17_44 rfl rfl
theorem zi_17_45 : z_ins 17 45 = some (.iconst 5, 1) := by decide +kernel
theorem ze_17_45 : z_T g d 17 45 ls st h P = z_T g d 17 46 ls (.int (nI 5) :: st) h P := zt_iconst zi_17_45 rfl
theorem zi_17_46 : z_ins 17 46 = some (.imul, 1) := by decide +kernel
theorem ze_17_46 : z_T g d 17 46 ls (.int y :: .int x :: st) h P = z_T g d 17 47 ls (.int (x * y) :: st) h P := zt_bin (f := fun x y => x * y) zi_17_46 rfl (fun _ _ _ => rfl)
theorem zi_17_47 : z_ins 17 47 = some (.iload 4, 2) := by decide +kernel
theorem ze_17_47 : z_T g d 17 47 (v0 :: v1 :: v2 :: v3 :: .int x :: ls) st h P = z_T g d 17 49 (v0 :: v1 :: v2 :: v3 :: .int x :: ls) (.int x :: st) h P := zt_iload zi_17_47 rfl
theorem zi_17_49 : z_ins 17 49 = some (.iadd, 1) := by decide +kernel
theorem ze_17_49 : z_T g d 17 49 ls (.int y :: .int x :: st) h P = z_T g d 17 50 ls (.int (x + y) :: st) h P := zt_bin (f := fun x y => x + y) zi_17_49 rfl (fun _ _ _ => rfl)
theorem zi_17_50 : z_ins 17 50 = some (.ireturn, 1) := by decide +kernel
theorem ze_17_50 : z_T g d 17 50 ls [.int x] h P = P (.inr (some (.int x)), h) := zt_ireturn zi_17_50 zr_17
theorem zi_17_51 : z_ins 17 51 = some (.iinc 2 (-1), 3) := by decide +kernel
theorem ze_17_51 : z_T g d 17 51 (v0 :: v1 :: .int x :: ls) st h P = z_T g d 17 54 (v0 :: v1 :: .int (x + (-1)) :: ls) st h P := zt_iinc zi_17_51 rfl rfl
theorem zi_17_54 : z_ins 17 54 = some (.iinc 4 1, 3) := by decide +kernel
theorem ze_17_54 : z_T g d 17 54 (v0 :: v1 :: v2 :: v3 :: .int x :: ls) st h P = z_T g d 17 57 (v0 :: v1 :: v2 :: v3 :: .int (x + (nI 1)) :: ls) st h P := zt_iinc zi_17_54 rfl rfl
theorem zi_17_57 : z_ins 17 57 = some (.goto (-39), 3) := by decide +kernel
theorem ze_17_57 : z_T g d 17 57 ls st h P = z_T g d 17 18 ls st h P := zt_goto zi_17_57 (by decide)
theorem zi_17_60 : z_ins 17 60 = some (.iinc 3 1, 3) := by decide +kernel
theorem ze_17_60 : z_T g d 17 60 (v0 :: v1 :: v2 :: .int x :: ls) st h P = z_T g d 17 63 (v0 :: v1 :: v2 :: .int (x + (nI 1)) :: ls) st h P := zt_iinc zi_17_60 rfl rfl
theorem zi_17_63 : z_ins 17 63 = some (.goto (-59), 3) := by decide +kernel
theorem ze_17_63 : z_T g d 17 63 ls st h P = z_T g d 17 4 ls st h P := zt_goto zi_17_63 (by decide)
theorem zi_17_66 : z_ins 17 66 = some (.iconst (-1), 1) := by decide +kernel
theorem ze_17_66 : z_T g d 17 66 ls st h P = z_T g d 17 67 ls (.int (-1) :: st) h P := zt_iconst zi_17_66 rfl
theorem zi_17_67 : z_ins 17 67 = some (.ireturn, 1) := by decide +kernel
theorem ze_17_67 : z_T g d 17 67 ls [.int x] h P = P (.inr (some (.int x)), h) := zt_ireturn zi_17_67 zr_17
-- LatinRectangles$Forces.reasonFor(II)I
theorem zm_18 : z_maxL 18 = 4 := by decide +kernel
theorem zh_18 : z_hds 18 = [] := by decide +kernel
theorem zj_18 : z_jdk 18 = false := by decide +kernel
theorem zr_18 : z_rt 18 = (some .int) := by decide +kernel
theorem zn_18 : z_Ca g d 18 [.ref a0, .int x1, .int x2] h P = z_T g d 18 0 [.ref a0, .int x1, .int x2, z_un] [] h P := z_Ca_ent zm_18 rfl rfl
theorem zi_18_0 : z_ins 18 0 = some (.iconst 1, 1) := by decide +kernel
theorem ze_18_0 : z_T g d 18 0 ls st h P = z_T g d 18 1 ls (.int (nI 1) :: st) h P := zt_iconst zi_18_0 rfl
theorem zi_18_1 : z_ins 18 1 = some (.istore_n 3, 1) := by decide +kernel
theorem ze_18_1 : z_T g d 18 1 (v0 :: v1 :: v2 :: v3 :: ls) (.int x :: st) h P = z_T g d 18 2 (v0 :: v1 :: v2 :: .int x :: ls) st h P := zt_istoren zi_18_1 rfl (Nat.le_add_left 4 _)
theorem zi_18_2 : z_ins 18 2 = some (.iload_n 3, 1) := by decide +kernel
theorem ze_18_2 : z_T g d 18 2 (v0 :: v1 :: v2 :: .int x :: ls) st h P = z_T g d 18 3 (v0 :: v1 :: v2 :: .int x :: ls) (.int x :: st) h P := zt_iloadn zi_18_2 rfl rfl
theorem zi_18_3 : z_ins 18 3 = some (.iconst 3, 1) := by decide +kernel
theorem ze_18_3 : z_T g d 18 3 ls st h P = z_T g d 18 4 ls (.int (nI 3) :: st) h P := zt_iconst zi_18_3 rfl
theorem zi_18_4 : z_ins 18 4 = some (.if_icmp .gt 21, 3) := by decide +kernel
theorem ze_18_4 : z_T g d 18 4 ls (.int y :: .int x :: st) h P = (if y < x then z_T g d 18 25 ls st h P else z_T g d 18 7 ls st h P) := zt_icmpgt zi_18_4 (by decide)
theorem zi_18_7 : z_ins 18 7 = some (.aload_n 0, 1) := by decide +kernel
theorem ze_18_7 : z_T g d 18 7 (.ref a :: ls) st h P = z_T g d 18 8 (.ref a :: ls) (.ref a :: st) h P := zt_aloadn zi_18_7 rfl rfl
theorem zi_18_8 : z_ins 18 8 = some (.iload_n 1, 1) := by decide +kernel
theorem ze_18_8 : z_T g d 18 8 (v0 :: .int x :: ls) st h P = z_T g d 18 9 (v0 :: .int x :: ls) (.int x :: st) h P := zt_iloadn zi_18_8 rfl rfl
theorem zi_18_9 : z_ins 18 9 = some (.iload_n 2, 1) := by decide +kernel
theorem ze_18_9 : z_T g d 18 9 (v0 :: v1 :: .int x :: ls) st h P = z_T g d 18 10 (v0 :: v1 :: .int x :: ls) (.int x :: st) h P := zt_iloadn zi_18_9 rfl rfl
theorem zi_18_10 : z_ins 18 10 = some (.iload_n 3, 1) := by decide +kernel
theorem ze_18_10 : z_T g d 18 10 (v0 :: v1 :: v2 :: .int x :: ls) st h P = z_T g d 18 11 (v0 :: v1 :: v2 :: .int x :: ls) (.int x :: st) h P := zt_iloadn zi_18_10 rfl rfl
theorem zi_18_11 : z_ins 18 11 = some (.invokevirtual 28, 3) := by decide +kernel
theorem ze_18_11 : z_T g d 18 11 ls (.int x2 :: .int x1 :: .int x0 :: .ref a :: st) h P = ((z_okS 8 st = true ∧ z_gO h.1 a 2 ∧ 0 < d) ∧ z_Ca g (d - 1) 20 [.ref a, .int x0, .int x1, .int x2] h (fun r => z_k r (fun v h' => z_T g d 18 14 ls (z_push v st) h' P) P)) := zt_cV (as := [.int x0, .int x1, .int x2]) (kk := 0) zi_18_11 rfl (zt_call zj_18 zh_18) (z_opV ((congrArg (fun o => z_lookup z_cns (o, 28)) zo_18).trans zq_cns_LatinRectangles_Forces_28) ((congrArg (fun o => z_lookup z_prs (o, 28)) zo_18).trans zq_prs_LatinRectangles_Forces_28)) ((congrArg (fun o => z_clk o 28) zo_18).trans zk_LatinRectangles_Forces_28) rfl rfl rfl rfl (z_rcv0 zc_20)
theorem zi_18_14 : z_ins 18 14 = some (.ifCond .eq 5, 3) := by decide +kernel
theorem ze_18_14 : z_T g d 18 14 ls (.int x :: st) h P = (if x = nI 0 then z_T g d 18 19 ls st h P else z_T g d 18 17 ls st h P) := zt_ifeq zi_18_14 (by decide)
theorem zi_18_17 : z_ins 18 17 = some (.iload_n 3, 1) := by decide +kernel
theorem ze_18_17 : z_T g d 18 17 (v0 :: v1 :: v2 :: .int x :: ls) st h P = z_T g d 18 18 (v0 :: v1 :: v2 :: .int x :: ls) (.int x :: st) h P := zt_iloadn zi_18_17 rfl rfl
theorem zi_18_18 : z_ins 18 18 = some (.ireturn, 1) := by decide +kernel
theorem ze_18_18 : z_T g d 18 18 ls [.int x] h P = P (.inr (some (.int x)), h) := zt_ireturn zi_18_18 zr_18
theorem zi_18_19 : z_ins 18 19 = some (.iinc 3 1, 3) := by decide +kernel
theorem ze_18_19 : z_T g d 18 19 (v0 :: v1 :: v2 :: .int x :: ls) st h P = z_T g d 18 22 (v0 :: v1 :: v2 :: .int (x + (nI 1)) :: ls) st h P := zt_iinc zi_18_19 rfl rfl
theorem zi_18_22 : z_ins 18 22 = some (.goto (-20), 3) := by decide +kernel
theorem ze_18_22 : z_T g d 18 22 ls st h P = z_T g d 18 2 ls st h P := zt_goto zi_18_22 (by decide)
theorem zi_18_25 : z_ins 18 25 = some (.iconst 0, 1) := by decide +kernel
theorem ze_18_25 : z_T g d 18 25 ls st h P = z_T g d 18 26 ls (.int (nI 0) :: st) h P := zt_iconst zi_18_25 rfl
theorem zi_18_26 : z_ins 18 26 = some (.ireturn, 1) := by decide +kernel
theorem ze_18_26 : z_T g d 18 26 ls [.int x] h P = P (.inr (some (.int x)), h) := zt_ireturn zi_18_26 zr_18
-- LatinRectangles$Forces.symbolFor(II)I
theorem zm_19 : z_maxL 19 = 5 := by decide +kernel
theorem zh_19 : z_hds 19 = [] := by decide +kernel
theorem zj_19 : z_jdk 19 = false := by decide +kernel
theorem zr_19 : z_rt 19 = (some .int) := by decide +kernel
theorem zn_19 : z_Ca g d 19 [.ref a0, .int x1, .int x2] h P = z_T g d 19 0 [.ref a0, .int x1, .int x2, z_un, z_un] [] h P := z_Ca_ent zm_19 rfl rfl
theorem zi_19_0 : z_ins 19 0 = some (.aload_n 0, 1) := by decide +kernel
theorem ze_19_0 : z_T g d 19 0 (.ref a :: ls) st h P = z_T g d 19 1 (.ref a :: ls) (.ref a :: st) h P := zt_aloadn zi_19_0 rfl rfl
theorem zi_19_1 : z_ins 19 1 = some (.iload_n 1, 1) := by decide +kernel
theorem ze_19_1 : z_T g d 19 1 (v0 :: .int x :: ls) st h P = z_T g d 19 2 (v0 :: .int x :: ls) (.int x :: st) h P := zt_iloadn zi_19_1 rfl rfl
theorem zi_19_2 : z_ins 19 2 = some (.iload_n 2, 1) := by decide +kernel
theorem ze_19_2 : z_T g d 19 2 (v0 :: v1 :: .int x :: ls) st h P = z_T g d 19 3 (v0 :: v1 :: .int x :: ls) (.int x :: st) h P := zt_iloadn zi_19_2 rfl rfl
theorem zi_19_3 : z_ins 19 3 = some (.aload_n 0, 1) := by decide +kernel
theorem ze_19_3 : z_T g d 19 3 (.ref a :: ls) st h P = z_T g d 19 4 (.ref a :: ls) (.ref a :: st) h P := zt_aloadn zi_19_3 rfl rfl
theorem zi_19_4 : z_ins 19 4 = some (.iload_n 1, 1) := by decide +kernel
theorem ze_19_4 : z_T g d 19 4 (v0 :: .int x :: ls) st h P = z_T g d 19 5 (v0 :: .int x :: ls) (.int x :: st) h P := zt_iloadn zi_19_4 rfl rfl
theorem zi_19_5 : z_ins 19 5 = some (.iload_n 2, 1) := by decide +kernel
theorem ze_19_5 : z_T g d 19 5 (v0 :: v1 :: .int x :: ls) st h P = z_T g d 19 6 (v0 :: v1 :: .int x :: ls) (.int x :: st) h P := zt_iloadn zi_19_5 rfl rfl
theorem zi_19_6 : z_ins 19 6 = some (.invokevirtual 24, 3) := by decide +kernel
theorem ze_19_6 : z_T g d 19 6 ls (.int x1 :: .int x0 :: .ref a :: st) h P = ((z_okS 8 st = true ∧ z_gO h.1 a 2 ∧ 0 < d) ∧ z_Ca g (d - 1) 18 [.ref a, .int x0, .int x1] h (fun r => z_k r (fun v h' => z_T g d 19 9 ls (z_push v st) h' P) P)) := zt_cV (as := [.int x0, .int x1]) (kk := 0) zi_19_6 rfl (zt_call zj_19 zh_19) (z_opV ((congrArg (fun o => z_lookup z_cns (o, 24)) zo_19).trans zq_cns_LatinRectangles_Forces_24) ((congrArg (fun o => z_lookup z_prs (o, 24)) zo_19).trans zq_prs_LatinRectangles_Forces_24)) ((congrArg (fun o => z_clk o 24) zo_19).trans zk_LatinRectangles_Forces_24) rfl rfl rfl rfl (z_rcv0 zc_18)
theorem zi_19_9 : z_ins 19 9 = some (.invokevirtual 28, 3) := by decide +kernel
theorem ze_19_9 : z_T g d 19 9 ls (.int x2 :: .int x1 :: .int x0 :: .ref a :: st) h P = ((z_okS 8 st = true ∧ z_gO h.1 a 2 ∧ 0 < d) ∧ z_Ca g (d - 1) 20 [.ref a, .int x0, .int x1, .int x2] h (fun r => z_k r (fun v h' => z_T g d 19 12 ls (z_push v st) h' P) P)) := zt_cV (as := [.int x0, .int x1, .int x2]) (kk := 0) zi_19_9 rfl (zt_call zj_19 zh_19) (z_opV ((congrArg (fun o => z_lookup z_cns (o, 28)) zo_19).trans zq_cns_LatinRectangles_Forces_28) ((congrArg (fun o => z_lookup z_prs (o, 28)) zo_19).trans zq_prs_LatinRectangles_Forces_28)) ((congrArg (fun o => z_clk o 28) zo_19).trans zk_LatinRectangles_Forces_28) rfl rfl rfl rfl (z_rcv0 zc_20)
theorem zi_19_12 : z_ins 19 12 = some (.istore_n 3, 1) := by decide +kernel
theorem ze_19_12 : z_T g d 19 12 (v0 :: v1 :: v2 :: v3 :: ls) (.int x :: st) h P = z_T g d 19 13 (v0 :: v1 :: v2 :: .int x :: ls) st h P := zt_istoren zi_19_12 rfl (Nat.le_add_left 4 _)
theorem zi_19_13 : z_ins 19 13 = some (.iconst 0, 1) := by decide +kernel
theorem ze_19_13 : z_T g d 19 13 ls st h P = z_T g d 19 14 ls (.int (nI 0) :: st) h P := zt_iconst zi_19_13 rfl
theorem zi_19_14 : z_ins 19 14 = some (.istore 4, 2) := by decide +kernel
theorem ze_19_14 : z_T g d 19 14 (v0 :: v1 :: v2 :: v3 :: v4 :: ls) (.int x :: st) h P = z_T g d 19 16 (v0 :: v1 :: v2 :: v3 :: .int x :: ls) st h P := zt_istore zi_19_14 (Nat.le_add_left 5 _)
theorem zi_19_16 : z_ins 19 16 = some (.iload 4, 2) := by decide +kernel
theorem ze_19_16 : z_T g d 19 16 (v0 :: v1 :: v2 :: v3 :: .int x :: ls) st h P = z_T g d 19 18 (v0 :: v1 :: v2 :: v3 :: .int x :: ls) (.int x :: st) h P := zt_iload zi_19_16 rfl
theorem zi_19_18 : z_ins 19 18 = some (.aload_n 0, 1) := by decide +kernel
theorem ze_19_18 : z_T g d 19 18 (.ref a :: ls) st h P = z_T g d 19 19 (.ref a :: ls) (.ref a :: st) h P := zt_aloadn zi_19_18 rfl rfl
theorem zi_19_19 : z_ins 19 19 = some (.getfield 9, 3) := by decide +kernel
theorem ze_19_19 : z_T g d 19 19 ls (.ref a :: st) h P = z_gR h.1 a 2 0 (fun x => z_T g d 19 22 ls (x :: st) h P) := zt_getR zi_19_19 ((congrArg (fun o => z_fl o 9) zo_19).trans zf_LatinRectangles_Forces_9)
theorem zi_19_22 : z_ins 19 22 = some (.getfield 21, 3) := by decide +kernel
theorem ze_19_22 : z_T g d 19 22 ls (.ref a :: st) h P = z_gI h.1 a 3 6 (fun x => z_T g d 19 25 ls (.int x :: st) h P) := zt_getI zi_19_22 ((congrArg (fun o => z_fl o 21) zo_19).trans zf_LatinRectangles_Forces_21)
theorem zi_19_25 : z_ins 19 25 = some (.if_icmp .ge 21, 3) := by decide +kernel
theorem ze_19_25 : z_T g d 19 25 ls (.int y :: .int x :: st) h P = (if x < y then z_T g d 19 28 ls st h P else z_T g d 19 46 ls st h P) := zt_icmpge zi_19_25 (by decide)
theorem zi_19_28 : z_ins 19 28 = some (.iload_n 3, 1) := by decide +kernel
theorem ze_19_28 : z_T g d 19 28 (v0 :: v1 :: v2 :: .int x :: ls) st h P = z_T g d 19 29 (v0 :: v1 :: v2 :: .int x :: ls) (.int x :: st) h P := zt_iloadn zi_19_28 rfl rfl
theorem zi_19_29 : z_ins 19 29 = some (.iload 4, 2) := by decide +kernel
theorem ze_19_29 : z_T g d 19 29 (v0 :: v1 :: v2 :: v3 :: .int x :: ls) st h P = z_T g d 19 31 (v0 :: v1 :: v2 :: v3 :: .int x :: ls) (.int x :: st) h P := zt_iload zi_19_29 rfl
theorem zi_19_31 : z_ins 19 31 = some (.ishr, 1) := by decide +kernel
theorem ze_19_31 : z_T g d 19 31 ls (.int y :: .int x :: st) h P = z_T g d 19 32 ls (.int (x >>> (y &&& 31)) :: st) h P := zt_bin (f := fun x y => x >>> (y &&& 31)) zi_19_31 rfl (fun _ _ _ => rfl)
theorem zi_19_32 : z_ins 19 32 = some (.iconst 1, 1) := by decide +kernel
theorem ze_19_32 : z_T g d 19 32 ls st h P = z_T g d 19 33 ls (.int (nI 1) :: st) h P := zt_iconst zi_19_32 rfl
theorem zi_19_33 : z_ins 19 33 = some (.iand, 1) := by decide +kernel
theorem ze_19_33 : z_T g d 19 33 ls (.int y :: .int x :: st) h P = z_T g d 19 34 ls (.int (x &&& y) :: st) h P := zt_bin (f := fun x y => x &&& y) zi_19_33 rfl (fun _ _ _ => rfl)
theorem zi_19_34 : z_ins 19 34 = some (.ifCond .eq 6, 3) := by decide +kernel
theorem ze_19_34 : z_T g d 19 34 ls (.int x :: st) h P = (if x = nI 0 then z_T g d 19 40 ls st h P else z_T g d 19 37 ls st h P) := zt_ifeq zi_19_34 (by decide)
theorem zi_19_37 : z_ins 19 37 = some (.iload 4, 2) := by decide +kernel
theorem ze_19_37 : z_T g d 19 37 (v0 :: v1 :: v2 :: v3 :: .int x :: ls) st h P = z_T g d 19 39 (v0 :: v1 :: v2 :: v3 :: .int x :: ls) (.int x :: st) h P := zt_iload zi_19_37 rfl
theorem zi_19_39 : z_ins 19 39 = some (.ireturn, 1) := by decide +kernel
theorem ze_19_39 : z_T g d 19 39 ls [.int x] h P = P (.inr (some (.int x)), h) := zt_ireturn zi_19_39 zr_19
theorem zi_19_40 : z_ins 19 40 = some (.iinc 4 1, 3) := by decide +kernel
theorem ze_19_40 : z_T g d 19 40 (v0 :: v1 :: v2 :: v3 :: .int x :: ls) st h P = z_T g d 19 43 (v0 :: v1 :: v2 :: v3 :: .int (x + (nI 1)) :: ls) st h P := zt_iinc zi_19_40 rfl rfl
theorem zi_19_43 : z_ins 19 43 = some (.goto (-27), 3) := by decide +kernel
theorem ze_19_43 : z_T g d 19 43 ls st h P = z_T g d 19 16 ls st h P := zt_goto zi_19_43 (by decide)
theorem zi_19_46 : z_ins 19 46 = some (.iconst (-1), 1) := by decide +kernel
theorem ze_19_46 : z_T g d 19 46 ls st h P = z_T g d 19 47 ls (.int (-1) :: st) h P := zt_iconst zi_19_46 rfl
theorem zi_19_47 : z_ins 19 47 = some (.ireturn, 1) := by decide +kernel
theorem ze_19_47 : z_T g d 19 47 ls [.int x] h P = P (.inr (some (.int x)), h) := zt_ireturn zi_19_47 zr_19
-- LatinRectangles$Forces.bitsByReason(III)I
theorem zm_20 : z_maxL 20 = 5 := by decide +kernel
theorem zh_20 : z_hds 20 = [] := by decide +kernel
theorem zj_20 : z_jdk 20 = false := by decide +kernel
theorem zr_20 : z_rt 20 = (some .int) := by decide +kernel
theorem zn_20 : z_Ca g d 20 [.ref a0, .int x1, .int x2, .int x3] h P = z_T g d 20 0 [.ref a0, .int x1, .int x2, .int x3, z_un] [] h P := z_Ca_ent zm_20 rfl rfl
theorem zi_20_0 : z_ins 20 0 = some (.aload_n 0, 1) := by decide +kernel
theorem ze_20_0 : z_T g d 20 0 (.ref a :: ls) st h P = z_T g d 20 1 (.ref a :: ls) (.ref a :: st) h P := zt_aloadn zi_20_0 rfl rfl
theorem zi_20_1 : z_ins 20 1 = some (.getfield 9, 3) := by decide +kernel
theorem ze_20_1 : z_T g d 20 1 ls (.ref a :: st) h P = z_gR h.1 a 2 0 (fun x => z_T g d 20 4 ls (x :: st) h P) := zt_getR zi_20_1 ((congrArg (fun o => z_fl o 9) zo_20).trans zf_LatinRectangles_Forces_9)
theorem zi_20_4 : z_ins 20 4 = some (.iload_n 1, 1) := by decide +kernel
theorem ze_20_4 : z_T g d 20 4 (v0 :: .int x :: ls) st h P = z_T g d 20 5 (v0 :: .int x :: ls) (.int x :: st) h P := zt_iloadn zi_20_4 rfl rfl
theorem zi_20_5 : z_ins 20 5 = some (.iload_n 2, 1) := by decide +kernel
theorem ze_20_5 : z_T g d 20 5 (v0 :: v1 :: .int x :: ls) st h P = z_T g d 20 6 (v0 :: v1 :: .int x :: ls) (.int x :: st) h P := zt_iloadn zi_20_5 rfl rfl
theorem zi_20_6 : z_ins 20 6 = some (.invokevirtual 32, 3) := by decide +kernel
theorem ze_20_6 : z_T g d 20 6 ls (.int x1 :: .int x0 :: .ref a :: st) h P = ((z_okS 8 st = true ∧ z_gO h.1 a 3 ∧ 0 < d) ∧ z_Ca g (d - 1) 34 [.ref a, .int x0, .int x1] h (fun r => z_k r (fun v h' => z_T g d 20 9 ls (z_push v st) h' P) P)) := zt_cV (as := [.int x0, .int x1]) (kk := 0) zi_20_6 rfl (zt_call zj_20 zh_20) (z_opV ((congrArg (fun o => z_lookup z_cns (o, 32)) zo_20).trans zq_cns_LatinRectangles_Forces_32) ((congrArg (fun o => z_lookup z_prs (o, 32)) zo_20).trans zq_prs_LatinRectangles_Forces_32)) ((congrArg (fun o => z_clk o 32) zo_20).trans zk_LatinRectangles_Forces_32) rfl rfl rfl rfl (z_rcv0 zc_34)
theorem zi_20_9 : z_ins 20 9 = some (.istore 4, 2) := by decide +kernel
theorem ze_20_9 : z_T g d 20 9 (v0 :: v1 :: v2 :: v3 :: v4 :: ls) (.int x :: st) h P = z_T g d 20 11 (v0 :: v1 :: v2 :: v3 :: .int x :: ls) st h P := zt_istore zi_20_9 (Nat.le_add_left 5 _)
theorem zi_20_11 : z_ins 20 11 = some (.iload_n 3, 1) := by decide +kernel
theorem ze_20_11 : z_T g d 20 11 (v0 :: v1 :: v2 :: .int x :: ls) st h P = z_T g d 20 12 (v0 :: v1 :: v2 :: .int x :: ls) (.int x :: st) h P := zt_iloadn zi_20_11 rfl rfl
theorem zi_20_12 : z_ins 20 12 = some (.iconst 1, 1) := by decide +kernel
theorem ze_20_12 : z_T g d 20 12 ls st h P = z_T g d 20 13 ls (.int (nI 1) :: st) h P := zt_iconst zi_20_12 rfl
theorem zi_20_13 : z_ins 20 13 = some (.if_icmp .ne 19, 3) := by decide +kernel
theorem ze_20_13 : z_T g d 20 13 ls (.int y :: .int x :: st) h P = (if x = y then z_T g d 20 16 ls st h P else z_T g d 20 32 ls st h P) := zt_icmpne zi_20_13 (by decide)
theorem zi_20_16 : z_ins 20 16 = some (.iload 4, 2) := by decide +kernel
theorem ze_20_16 : z_T g d 20 16 (v0 :: v1 :: v2 :: v3 :: .int x :: ls) st h P = z_T g d 20 18 (v0 :: v1 :: v2 :: v3 :: .int x :: ls) (.int x :: st) h P := zt_iload zi_20_16 rfl
theorem zi_20_18 : z_ins 20 18 = some (.invokestatic 35, 3) := by decide +kernel
theorem ze_20_18 : z_T g d 20 18 ls (.int x0 :: st) h P = ((z_okS 8 st = true ∧ 0 < d) ∧ z_Ca g (d - 1) 121 [.int x0] h (fun r => z_k r (fun v h' => z_T g d 20 21 ls (z_push v st) h' P) P)) := zt_cS (as := [.int x0]) (kk := 1) zi_20_18 rfl (zt_call zj_20 zh_20) (z_opT ((congrArg (fun o => z_lookup z_cps (o, 35)) zo_20).trans zq_cps_LatinRectangles_Forces_35) ((congrArg (fun o => z_lookup z_prs (o, 35)) zo_20).trans zq_prs_LatinRectangles_Forces_35)) ((congrArg (fun o => z_clk o 35) zo_20).trans zk_LatinRectangles_Forces_35) rfl rfl rfl rfl rfl
theorem zi_20_21 : z_ins 20 21 = some (.iconst 1, 1) := by decide +kernel
theorem ze_20_21 : z_T g d 20 21 ls st h P = z_T g d 20 22 ls (.int (nI 1) :: st) h P := zt_iconst zi_20_21 rfl
theorem zi_20_22 : z_ins 20 22 = some (.if_icmp .ne 8, 3) := by decide +kernel
theorem ze_20_22 : z_T g d 20 22 ls (.int y :: .int x :: st) h P = (if x = y then z_T g d 20 25 ls st h P else z_T g d 20 30 ls st h P) := zt_icmpne zi_20_22 (by decide)
theorem zi_20_25 : z_ins 20 25 = some (.iload 4, 2) := by decide +kernel
theorem ze_20_25 : z_T g d 20 25 (v0 :: v1 :: v2 :: v3 :: .int x :: ls) st h P = z_T g d 20 27 (v0 :: v1 :: v2 :: v3 :: .int x :: ls) (.int x :: st) h P := zt_iload zi_20_25 rfl
theorem zi_20_27 : z_ins 20 27 = some (.goto 4, 3) := by decide +kernel
theorem ze_20_27 : z_T g d 20 27 ls st h P = z_T g d 20 31 ls st h P := zt_goto zi_20_27 (by decide)
theorem zi_20_30 : z_ins 20 30 = some (.iconst 0, 1) := by decide +kernel
theorem ze_20_30 : z_T g d 20 30 ls st h P = z_T g d 20 31 ls (.int (nI 0) :: st) h P := zt_iconst zi_20_30 rfl
theorem zi_20_31 : z_ins 20 31 = some (.ireturn, 1) := by decide +kernel
theorem ze_20_31 : z_T g d 20 31 ls [.int x] h P = P (.inr (some (.int x)), h) := zt_ireturn zi_20_31 zr_20
theorem zi_20_32 : z_ins 20 32 = some (.iload_n 3, 1) := by decide +kernel
theorem ze_20_32 : z_T g d 20 32 (v0 :: v1 :: v2 :: .int x :: ls) st h P = z_T g d 20 33 (v0 :: v1 :: v2 :: .int x :: ls) (.int x :: st) h P := zt_iloadn zi_20_32 rfl rfl
theorem zi_20_33 : z_ins 20 33 = some (.iconst 2, 1) := by decide +kernel
theorem ze_20_33 : z_T g d 20 33 ls st h P = z_T g d 20 34 ls (.int (nI 2) :: st) h P := zt_iconst zi_20_33 rfl
theorem zi_20_34 : z_ins 20 34 = some (.if_icmp .ne 15, 3) := by decide +kernel
theorem ze_20_34 : z_T g d 20 34 ls (.int y :: .int x :: st) h P = (if x = y then z_T g d 20 37 ls st h P else z_T g d 20 49 ls st h P) := zt_icmpne zi_20_34 (by decide)
theorem zi_20_37 : z_ins 20 37 = some (.iload 4, 2) := by decide +kernel
theorem ze_20_37 : z_T g d 20 37 (v0 :: v1 :: v2 :: v3 :: .int x :: ls) st h P = z_T g d 20 39 (v0 :: v1 :: v2 :: v3 :: .int x :: ls) (.int x :: st) h P := zt_iload zi_20_37 rfl
theorem zi_20_39 : z_ins 20 39 = some (.aload_n 0, 1) := by decide +kernel
theorem ze_20_39 : z_T g d 20 39 (.ref a :: ls) st h P = z_T g d 20 40 (.ref a :: ls) (.ref a :: st) h P := zt_aloadn zi_20_39 rfl rfl
theorem zi_20_40 : z_ins 20 40 = some (.iload_n 1, 1) := by decide +kernel
theorem ze_20_40 : z_T g d 20 40 (v0 :: .int x :: ls) st h P = z_T g d 20 41 (v0 :: .int x :: ls) (.int x :: st) h P := zt_iloadn zi_20_40 rfl rfl
theorem zi_20_41 : z_ins 20 41 = some (.iload_n 2, 1) := by decide +kernel
theorem ze_20_41 : z_T g d 20 41 (v0 :: v1 :: .int x :: ls) st h P = z_T g d 20 42 (v0 :: v1 :: .int x :: ls) (.int x :: st) h P := zt_iloadn zi_20_41 rfl rfl
theorem zi_20_42 : z_ins 20 42 = some (.invokevirtual 41, 3) := by decide +kernel
theorem ze_20_42 : z_T g d 20 42 ls (.int x1 :: .int x0 :: .ref a :: st) h P = ((z_okS 8 st = true ∧ z_gO h.1 a 2 ∧ 0 < d) ∧ z_Ca g (d - 1) 21 [.ref a, .int x0, .int x1] h (fun r => z_k r (fun v h' => z_T g d 20 45 ls (z_push v st) h' P) P)) := zt_cV (as := [.int x0, .int x1]) (kk := 0) zi_20_42 rfl (zt_call zj_20 zh_20) (z_opV ((congrArg (fun o => z_lookup z_cns (o, 41)) zo_20).trans zq_cns_LatinRectangles_Forces_41) ((congrArg (fun o => z_lookup z_prs (o, 41)) zo_20).trans zq_prs_LatinRectangles_Forces_41)) ((congrArg (fun o => z_clk o 41) zo_20).trans zk_LatinRectangles_Forces_41) rfl rfl rfl rfl (z_rcv0 zc_21)
theorem zi_20_45 : z_ins 20 45 = some (.iconst (-1), 1) := by decide +kernel
theorem ze_20_45 : z_T g d 20 45 ls st h P = z_T g d 20 46 ls (.int (-1) :: st) h P := zt_iconst zi_20_45 rfl
theorem zi_20_46 : z_ins 20 46 = some (.ixor, 1) := by decide +kernel
theorem ze_20_46 : z_T g d 20 46 ls (.int y :: .int x :: st) h P = z_T g d 20 47 ls (.int (x ^^^ y) :: st) h P := zt_bin (f := fun x y => x ^^^ y) zi_20_46 rfl (fun _ _ _ => rfl)
theorem zi_20_47 : z_ins 20 47 = some (.iand, 1) := by decide +kernel
theorem ze_20_47 : z_T g d 20 47 ls (.int y :: .int x :: st) h P = z_T g d 20 48 ls (.int (x &&& y) :: st) h P := zt_bin (f := fun x y => x &&& y) zi_20_47 rfl (fun _ _ _ => rfl)
theorem zi_20_48 : z_ins 20 48 = some (.ireturn, 1) := by decide +kernel
theorem ze_20_48 : z_T g d 20 48 ls [.int x] h P = P (.inr (some (.int x)), h) := zt_ireturn zi_20_48 zr_20
theorem zi_20_49 : z_ins 20 49 = some (.aload_n 0, 1) := by decide +kernel
theorem ze_20_49 : z_T g d 20 49 (.ref a :: ls) st h P = z_T g d 20 50 (.ref a :: ls) (.ref a :: st) h P := zt_aloadn zi_20_49 rfl rfl
theorem zi_20_50 : z_ins 20 50 = some (.getfield 9, 3) := by decide +kernel
theorem ze_20_50 : z_T g d 20 50 ls (.ref a :: st) h P = z_gR h.1 a 2 0 (fun x => z_T g d 20 53 ls (x :: st) h P) := zt_getR zi_20_50 ((congrArg (fun o => z_fl o 9) zo_20).trans zf_LatinRectangles_Forces_9)
theorem zi_20_53 : z_ins 20 53 = some (.getfield 15, 3) := by decide +kernel
theorem ze_20_53 : z_T g d 20 53 ls (.ref a :: st) h P = z_gI h.1 a 3 5 (fun x => z_T g d 20 56 ls (.int x :: st) h P) := zt_getI zi_20_53 ((congrArg (fun o => z_fl o 15) zo_20).trans zf_LatinRectangles_Forces_15)
theorem zi_20_56 : z_ins 20 56 = some (.aload_n 0, 1) := by decide +kernel
theorem ze_20_56 : z_T g d 20 56 (.ref a :: ls) st h P = z_T g d 20 57 (.ref a :: ls) (.ref a :: st) h P := zt_aloadn zi_20_56 rfl rfl
theorem zi_20_57 : z_ins 20 57 = some (.getfield 9, 3) := by decide +kernel
theorem ze_20_57 : z_T g d 20 57 ls (.ref a :: st) h P = z_gR h.1 a 2 0 (fun x => z_T g d 20 60 ls (x :: st) h P) := zt_getR zi_20_57 ((congrArg (fun o => z_fl o 9) zo_20).trans zf_LatinRectangles_Forces_9)
theorem zi_20_60 : z_ins 20 60 = some (.getfield 21, 3) := by decide +kernel
theorem ze_20_60 : z_T g d 20 60 ls (.ref a :: st) h P = z_gI h.1 a 3 6 (fun x => z_T g d 20 63 ls (.int x :: st) h P) := zt_getI zi_20_60 ((congrArg (fun o => z_fl o 21) zo_20).trans zf_LatinRectangles_Forces_21)
theorem zi_20_63 : z_ins 20 63 = some (.if_icmp .ne 17, 3) := by decide +kernel
theorem ze_20_63 : z_T g d 20 63 ls (.int y :: .int x :: st) h P = (if x = y then z_T g d 20 66 ls st h P else z_T g d 20 80 ls st h P) := zt_icmpne zi_20_63 (by decide)
theorem zi_20_66 : z_ins 20 66 = some (.iload 4, 2) := by decide +kernel
theorem ze_20_66 : z_T g d 20 66 (v0 :: v1 :: v2 :: v3 :: .int x :: ls) st h P = z_T g d 20 68 (v0 :: v1 :: v2 :: v3 :: .int x :: ls) (.int x :: st) h P := zt_iload zi_20_66 rfl
theorem zi_20_68 : z_ins 20 68 = some (.aload_n 0, 1) := by decide +kernel
theorem ze_20_68 : z_T g d 20 68 (.ref a :: ls) st h P = z_T g d 20 69 (.ref a :: ls) (.ref a :: st) h P := zt_aloadn zi_20_68 rfl rfl
theorem zi_20_69 : z_ins 20 69 = some (.iload_n 1, 1) := by decide +kernel
theorem ze_20_69 : z_T g d 20 69 (v0 :: .int x :: ls) st h P = z_T g d 20 70 (v0 :: .int x :: ls) (.int x :: st) h P := zt_iloadn zi_20_69 rfl rfl
theorem zi_20_70 : z_ins 20 70 = some (.iload_n 2, 1) := by decide +kernel
theorem ze_20_70 : z_T g d 20 70 (v0 :: v1 :: .int x :: ls) st h P = z_T g d 20 71 (v0 :: v1 :: .int x :: ls) (.int x :: st) h P := zt_iloadn zi_20_70 rfl rfl
theorem zi_20_71 : z_ins 20 71 = some (.invokevirtual 44, 3) := by decide +kernel
theorem ze_20_71 : z_T g d 20 71 ls (.int x1 :: .int x0 :: .ref a :: st) h P = ((z_okS 8 st = true ∧ z_gO h.1 a 2 ∧ 0 < d) ∧ z_Ca g (d - 1) 22 [.ref a, .int x0, .int x1] h (fun r => z_k r (fun v h' => z_T g d 20 74 ls (z_push v st) h' P) P)) := zt_cV (as := [.int x0, .int x1]) (kk := 0) zi_20_71 rfl (zt_call zj_20 zh_20) (z_opV ((congrArg (fun o => z_lookup z_cns (o, 44)) zo_20).trans zq_cns_LatinRectangles_Forces_44) ((congrArg (fun o => z_lookup z_prs (o, 44)) zo_20).trans zq_prs_LatinRectangles_Forces_44)) ((congrArg (fun o => z_clk o 44) zo_20).trans zk_LatinRectangles_Forces_44) rfl rfl rfl rfl (z_rcv0 zc_22)
theorem zi_20_74 : z_ins 20 74 = some (.iconst (-1), 1) := by decide +kernel
theorem ze_20_74 : z_T g d 20 74 ls st h P = z_T g d 20 75 ls (.int (-1) :: st) h P := zt_iconst zi_20_74 rfl
theorem zi_20_75 : z_ins 20 75 = some (.ixor, 1) := by decide +kernel
theorem ze_20_75 : z_T g d 20 75 ls (.int y :: .int x :: st) h P = z_T g d 20 76 ls (.int (x ^^^ y) :: st) h P := zt_bin (f := fun x y => x ^^^ y) zi_20_75 rfl (fun _ _ _ => rfl)
theorem zi_20_76 : z_ins 20 76 = some (.iand, 1) := by decide +kernel
theorem ze_20_76 : z_T g d 20 76 ls (.int y :: .int x :: st) h P = z_T g d 20 77 ls (.int (x &&& y) :: st) h P := zt_bin (f := fun x y => x &&& y) zi_20_76 rfl (fun _ _ _ => rfl)
theorem zi_20_77 : z_ins 20 77 = some (.goto 4, 3) := by decide +kernel
theorem ze_20_77 : z_T g d 20 77 ls st h P = z_T g d 20 81 ls st h P := zt_goto zi_20_77 (by decide)
theorem zi_20_80 : z_ins 20 80 = some (.iconst 0, 1) := by decide +kernel
theorem ze_20_80 : z_T g d 20 80 ls st h P = z_T g d 20 81 ls (.int (nI 0) :: st) h P := zt_iconst zi_20_80 rfl
theorem zi_20_81 : z_ins 20 81 = some (.ireturn, 1) := by decide +kernel
theorem ze_20_81 : z_T g d 20 81 ls [.int x] h P = P (.inr (some (.int x)), h) := zt_ireturn zi_20_81 zr_20
-- LatinRectangles$Forces.elsewhereInRow(II)I
theorem zm_21 : z_maxL 21 = 5 := by decide +kernel
theorem zh_21 : z_hds 21 = [] := by decide +kernel
theorem zj_21 : z_jdk 21 = false := by decide +kernel
theorem zr_21 : z_rt 21 = (some .int) := by decide +kernel
theorem zn_21 : z_Ca g d 21 [.ref a0, .int x1, .int x2] h P = z_T g d 21 0 [.ref a0, .int x1, .int x2, z_un, z_un] [] h P := z_Ca_ent zm_21 rfl rfl
theorem zi_21_0 : z_ins 21 0 = some (.iconst 0, 1) := by decide +kernel
theorem ze_21_0 : z_T g d 21 0 ls st h P = z_T g d 21 1 ls (.int (nI 0) :: st) h P := zt_iconst zi_21_0 rfl
theorem zi_21_1 : z_ins 21 1 = some (.istore_n 3, 1) := by decide +kernel
theorem ze_21_1 : z_T g d 21 1 (v0 :: v1 :: v2 :: v3 :: ls) (.int x :: st) h P = z_T g d 21 2 (v0 :: v1 :: v2 :: .int x :: ls) st h P := zt_istoren zi_21_1 rfl (Nat.le_add_left 4 _)
theorem zi_21_2 : z_ins 21 2 = some (.iconst 0, 1) := by decide +kernel
theorem ze_21_2 : z_T g d 21 2 ls st h P = z_T g d 21 3 ls (.int (nI 0) :: st) h P := zt_iconst zi_21_2 rfl
theorem zi_21_3 : z_ins 21 3 = some (.istore 4, 2) := by decide +kernel
theorem ze_21_3 : z_T g d 21 3 (v0 :: v1 :: v2 :: v3 :: v4 :: ls) (.int x :: st) h P = z_T g d 21 5 (v0 :: v1 :: v2 :: v3 :: .int x :: ls) st h P := zt_istore zi_21_3 (Nat.le_add_left 5 _)
theorem zi_21_5 : z_ins 21 5 = some (.iload 4, 2) := by decide +kernel
theorem ze_21_5 : z_T g d 21 5 (v0 :: v1 :: v2 :: v3 :: .int x :: ls) st h P = z_T g d 21 7 (v0 :: v1 :: v2 :: v3 :: .int x :: ls) (.int x :: st) h P := zt_iload zi_21_5 rfl
theorem zi_21_7 : z_ins 21 7 = some (.aload_n 0, 1) := by decide +kernel
theorem ze_21_7 : z_T g d 21 7 (.ref a :: ls) st h P = z_T g d 21 8 (.ref a :: ls) (.ref a :: st) h P := zt_aloadn zi_21_7 rfl rfl
theorem zi_21_8 : z_ins 21 8 = some (.getfield 9, 3) := by decide +kernel
theorem ze_21_8 : z_T g d 21 8 ls (.ref a :: st) h P = z_gR h.1 a 2 0 (fun x => z_T g d 21 11 ls (x :: st) h P) := zt_getR zi_21_8 ((congrArg (fun o => z_fl o 9) zo_21).trans zf_LatinRectangles_Forces_9)
theorem zi_21_11 : z_ins 21 11 = some (.getfield 21, 3) := by decide +kernel
theorem ze_21_11 : z_T g d 21 11 ls (.ref a :: st) h P = z_gI h.1 a 3 6 (fun x => z_T g d 21 14 ls (.int x :: st) h P) := zt_getI zi_21_11 ((congrArg (fun o => z_fl o 21) zo_21).trans zf_LatinRectangles_Forces_21)
theorem zi_21_14 : z_ins 21 14 = some (.if_icmp .ge 28, 3) := by decide +kernel
theorem ze_21_14 : z_T g d 21 14 ls (.int y :: .int x :: st) h P = (if x < y then z_T g d 21 17 ls st h P else z_T g d 21 42 ls st h P) := zt_icmpge zi_21_14 (by decide)
theorem zi_21_17 : z_ins 21 17 = some (.iload 4, 2) := by decide +kernel
theorem ze_21_17 : z_T g d 21 17 (v0 :: v1 :: v2 :: v3 :: .int x :: ls) st h P = z_T g d 21 19 (v0 :: v1 :: v2 :: v3 :: .int x :: ls) (.int x :: st) h P := zt_iload zi_21_17 rfl
theorem zi_21_19 : z_ins 21 19 = some (.iload_n 2, 1) := by decide +kernel
theorem ze_21_19 : z_T g d 21 19 (v0 :: v1 :: .int x :: ls) st h P = z_T g d 21 20 (v0 :: v1 :: .int x :: ls) (.int x :: st) h P := zt_iloadn zi_21_19 rfl rfl
theorem zi_21_20 : z_ins 21 20 = some (.if_icmp .eq 16, 3) := by decide +kernel
theorem ze_21_20 : z_T g d 21 20 ls (.int y :: .int x :: st) h P = (if x = y then z_T g d 21 36 ls st h P else z_T g d 21 23 ls st h P) := zt_icmpeq zi_21_20 (by decide)
theorem zi_21_23 : z_ins 21 23 = some (.iload_n 3, 1) := by decide +kernel
theorem ze_21_23 : z_T g d 21 23 (v0 :: v1 :: v2 :: .int x :: ls) st h P = z_T g d 21 24 (v0 :: v1 :: v2 :: .int x :: ls) (.int x :: st) h P := zt_iloadn zi_21_23 rfl rfl
theorem zi_21_24 : z_ins 21 24 = some (.aload_n 0, 1) := by decide +kernel
theorem ze_21_24 : z_T g d 21 24 (.ref a :: ls) st h P = z_T g d 21 25 (.ref a :: ls) (.ref a :: st) h P := zt_aloadn zi_21_24 rfl rfl
theorem zi_21_25 : z_ins 21 25 = some (.getfield 9, 3) := by decide +kernel
theorem ze_21_25 : z_T g d 21 25 ls (.ref a :: st) h P = z_gR h.1 a 2 0 (fun x => z_T g d 21 28 ls (x :: st) h P) := zt_getR zi_21_25 ((congrArg (fun o => z_fl o 9) zo_21).trans zf_LatinRectangles_Forces_9)
theorem zi_21_28 : z_ins 21 28 = some (.iload_n 1, 1) := by decide +kernel
theorem ze_21_28 : z_T g d 21 28 (v0 :: .int x :: ls) st h P = z_T g d 21 29 (v0 :: .int x :: ls) (.int x :: st) h P := zt_iloadn zi_21_28 rfl rfl
theorem zi_21_29 : z_ins 21 29 = some (.iload 4, 2) := by decide +kernel
theorem ze_21_29 : z_T g d 21 29 (v0 :: v1 :: v2 :: v3 :: .int x :: ls) st h P = z_T g d 21 31 (v0 :: v1 :: v2 :: v3 :: .int x :: ls) (.int x :: st) h P := zt_iload zi_21_29 rfl
theorem zi_21_31 : z_ins 21 31 = some (.invokevirtual 32, 3) := by decide +kernel
theorem ze_21_31 : z_T g d 21 31 ls (.int x1 :: .int x0 :: .ref a :: st) h P = ((z_okS 8 st = true ∧ z_gO h.1 a 3 ∧ 0 < d) ∧ z_Ca g (d - 1) 34 [.ref a, .int x0, .int x1] h (fun r => z_k r (fun v h' => z_T g d 21 34 ls (z_push v st) h' P) P)) := zt_cV (as := [.int x0, .int x1]) (kk := 0) zi_21_31 rfl (zt_call zj_21 zh_21) (z_opV ((congrArg (fun o => z_lookup z_cns (o, 32)) zo_21).trans zq_cns_LatinRectangles_Forces_32) ((congrArg (fun o => z_lookup z_prs (o, 32)) zo_21).trans zq_prs_LatinRectangles_Forces_32)) ((congrArg (fun o => z_clk o 32) zo_21).trans zk_LatinRectangles_Forces_32) rfl rfl rfl rfl (z_rcv0 zc_34)
theorem zi_21_34 : z_ins 21 34 = some (.ior, 1) := by decide +kernel
theorem ze_21_34 : z_T g d 21 34 ls (.int y :: .int x :: st) h P = z_T g d 21 35 ls (.int (x ||| y) :: st) h P := zt_bin (f := fun x y => x ||| y) zi_21_34 rfl (fun _ _ _ => rfl)
theorem zi_21_35 : z_ins 21 35 = some (.istore_n 3, 1) := by decide +kernel
theorem ze_21_35 : z_T g d 21 35 (v0 :: v1 :: v2 :: v3 :: ls) (.int x :: st) h P = z_T g d 21 36 (v0 :: v1 :: v2 :: .int x :: ls) st h P := zt_istoren zi_21_35 rfl (Nat.le_add_left 4 _)
theorem zi_21_36 : z_ins 21 36 = some (.iinc 4 1, 3) := by decide +kernel
theorem ze_21_36 : z_T g d 21 36 (v0 :: v1 :: v2 :: v3 :: .int x :: ls) st h P = z_T g d 21 39 (v0 :: v1 :: v2 :: v3 :: .int (x + (nI 1)) :: ls) st h P := zt_iinc zi_21_36 rfl rfl
theorem zi_21_39 : z_ins 21 39 = some (.goto (-34), 3) := by decide +kernel
theorem ze_21_39 : z_T g d 21 39 ls st h P = z_T g d 21 5 ls st h P := zt_goto zi_21_39 (by decide)
theorem zi_21_42 : z_ins 21 42 = some (.iload_n 3, 1) := by decide +kernel
theorem ze_21_42 : z_T g d 21 42 (v0 :: v1 :: v2 :: .int x :: ls) st h P = z_T g d 21 43 (v0 :: v1 :: v2 :: .int x :: ls) (.int x :: st) h P := zt_iloadn zi_21_42 rfl rfl
theorem zi_21_43 : z_ins 21 43 = some (.ireturn, 1) := by decide +kernel
theorem ze_21_43 : z_T g d 21 43 ls [.int x] h P = P (.inr (some (.int x)), h) := zt_ireturn zi_21_43 zr_21
-- LatinRectangles$Forces.elsewhereInColumn(II)I
theorem zm_22 : z_maxL 22 = 5 := by decide +kernel
theorem zh_22 : z_hds 22 = [] := by decide +kernel
theorem zj_22 : z_jdk 22 = false := by decide +kernel
theorem zr_22 : z_rt 22 = (some .int) := by decide +kernel
theorem zn_22 : z_Ca g d 22 [.ref a0, .int x1, .int x2] h P = z_T g d 22 0 [.ref a0, .int x1, .int x2, z_un, z_un] [] h P := z_Ca_ent zm_22 rfl rfl
theorem zi_22_0 : z_ins 22 0 = some (.iconst 0, 1) := by decide +kernel
theorem ze_22_0 : z_T g d 22 0 ls st h P = z_T g d 22 1 ls (.int (nI 0) :: st) h P := zt_iconst zi_22_0 rfl
theorem zi_22_1 : z_ins 22 1 = some (.istore_n 3, 1) := by decide +kernel
theorem ze_22_1 : z_T g d 22 1 (v0 :: v1 :: v2 :: v3 :: ls) (.int x :: st) h P = z_T g d 22 2 (v0 :: v1 :: v2 :: .int x :: ls) st h P := zt_istoren zi_22_1 rfl (Nat.le_add_left 4 _)
theorem zi_22_2 : z_ins 22 2 = some (.iconst 0, 1) := by decide +kernel
theorem ze_22_2 : z_T g d 22 2 ls st h P = z_T g d 22 3 ls (.int (nI 0) :: st) h P := zt_iconst zi_22_2 rfl
theorem zi_22_3 : z_ins 22 3 = some (.istore 4, 2) := by decide +kernel
theorem ze_22_3 : z_T g d 22 3 (v0 :: v1 :: v2 :: v3 :: v4 :: ls) (.int x :: st) h P = z_T g d 22 5 (v0 :: v1 :: v2 :: v3 :: .int x :: ls) st h P := zt_istore zi_22_3 (Nat.le_add_left 5 _)
theorem zi_22_5 : z_ins 22 5 = some (.iload 4, 2) := by decide +kernel
theorem ze_22_5 : z_T g d 22 5 (v0 :: v1 :: v2 :: v3 :: .int x :: ls) st h P = z_T g d 22 7 (v0 :: v1 :: v2 :: v3 :: .int x :: ls) (.int x :: st) h P := zt_iload zi_22_5 rfl
theorem zi_22_7 : z_ins 22 7 = some (.aload_n 0, 1) := by decide +kernel
theorem ze_22_7 : z_T g d 22 7 (.ref a :: ls) st h P = z_T g d 22 8 (.ref a :: ls) (.ref a :: st) h P := zt_aloadn zi_22_7 rfl rfl
theorem zi_22_8 : z_ins 22 8 = some (.getfield 9, 3) := by decide +kernel
theorem ze_22_8 : z_T g d 22 8 ls (.ref a :: st) h P = z_gR h.1 a 2 0 (fun x => z_T g d 22 11 ls (x :: st) h P) := zt_getR zi_22_8 ((congrArg (fun o => z_fl o 9) zo_22).trans zf_LatinRectangles_Forces_9)
theorem zi_22_11 : z_ins 22 11 = some (.getfield 15, 3) := by decide +kernel
theorem ze_22_11 : z_T g d 22 11 ls (.ref a :: st) h P = z_gI h.1 a 3 5 (fun x => z_T g d 22 14 ls (.int x :: st) h P) := zt_getI zi_22_11 ((congrArg (fun o => z_fl o 15) zo_22).trans zf_LatinRectangles_Forces_15)
theorem zi_22_14 : z_ins 22 14 = some (.if_icmp .ge 28, 3) := by decide +kernel
theorem ze_22_14 : z_T g d 22 14 ls (.int y :: .int x :: st) h P = (if x < y then z_T g d 22 17 ls st h P else z_T g d 22 42 ls st h P) := zt_icmpge zi_22_14 (by decide)
theorem zi_22_17 : z_ins 22 17 = some (.iload 4, 2) := by decide +kernel
theorem ze_22_17 : z_T g d 22 17 (v0 :: v1 :: v2 :: v3 :: .int x :: ls) st h P = z_T g d 22 19 (v0 :: v1 :: v2 :: v3 :: .int x :: ls) (.int x :: st) h P := zt_iload zi_22_17 rfl
theorem zi_22_19 : z_ins 22 19 = some (.iload_n 1, 1) := by decide +kernel
theorem ze_22_19 : z_T g d 22 19 (v0 :: .int x :: ls) st h P = z_T g d 22 20 (v0 :: .int x :: ls) (.int x :: st) h P := zt_iloadn zi_22_19 rfl rfl
theorem zi_22_20 : z_ins 22 20 = some (.if_icmp .eq 16, 3) := by decide +kernel
theorem ze_22_20 : z_T g d 22 20 ls (.int y :: .int x :: st) h P = (if x = y then z_T g d 22 36 ls st h P else z_T g d 22 23 ls st h P) := zt_icmpeq zi_22_20 (by decide)
theorem zi_22_23 : z_ins 22 23 = some (.iload_n 3, 1) := by decide +kernel
theorem ze_22_23 : z_T g d 22 23 (v0 :: v1 :: v2 :: .int x :: ls) st h P = z_T g d 22 24 (v0 :: v1 :: v2 :: .int x :: ls) (.int x :: st) h P := zt_iloadn zi_22_23 rfl rfl
theorem zi_22_24 : z_ins 22 24 = some (.aload_n 0, 1) := by decide +kernel
theorem ze_22_24 : z_T g d 22 24 (.ref a :: ls) st h P = z_T g d 22 25 (.ref a :: ls) (.ref a :: st) h P := zt_aloadn zi_22_24 rfl rfl
theorem zi_22_25 : z_ins 22 25 = some (.getfield 9, 3) := by decide +kernel
theorem ze_22_25 : z_T g d 22 25 ls (.ref a :: st) h P = z_gR h.1 a 2 0 (fun x => z_T g d 22 28 ls (x :: st) h P) := zt_getR zi_22_25 ((congrArg (fun o => z_fl o 9) zo_22).trans zf_LatinRectangles_Forces_9)
theorem zi_22_28 : z_ins 22 28 = some (.iload 4, 2) := by decide +kernel
theorem ze_22_28 : z_T g d 22 28 (v0 :: v1 :: v2 :: v3 :: .int x :: ls) st h P = z_T g d 22 30 (v0 :: v1 :: v2 :: v3 :: .int x :: ls) (.int x :: st) h P := zt_iload zi_22_28 rfl
theorem zi_22_30 : z_ins 22 30 = some (.iload_n 2, 1) := by decide +kernel
theorem ze_22_30 : z_T g d 22 30 (v0 :: v1 :: .int x :: ls) st h P = z_T g d 22 31 (v0 :: v1 :: .int x :: ls) (.int x :: st) h P := zt_iloadn zi_22_30 rfl rfl
theorem zi_22_31 : z_ins 22 31 = some (.invokevirtual 32, 3) := by decide +kernel
theorem ze_22_31 : z_T g d 22 31 ls (.int x1 :: .int x0 :: .ref a :: st) h P = ((z_okS 8 st = true ∧ z_gO h.1 a 3 ∧ 0 < d) ∧ z_Ca g (d - 1) 34 [.ref a, .int x0, .int x1] h (fun r => z_k r (fun v h' => z_T g d 22 34 ls (z_push v st) h' P) P)) := zt_cV (as := [.int x0, .int x1]) (kk := 0) zi_22_31 rfl (zt_call zj_22 zh_22) (z_opV ((congrArg (fun o => z_lookup z_cns (o, 32)) zo_22).trans zq_cns_LatinRectangles_Forces_32) ((congrArg (fun o => z_lookup z_prs (o, 32)) zo_22).trans zq_prs_LatinRectangles_Forces_32)) ((congrArg (fun o => z_clk o 32) zo_22).trans zk_LatinRectangles_Forces_32) rfl rfl rfl rfl (z_rcv0 zc_34)
theorem zi_22_34 : z_ins 22 34 = some (.ior, 1) := by decide +kernel
theorem ze_22_34 : z_T g d 22 34 ls (.int y :: .int x :: st) h P = z_T g d 22 35 ls (.int (x ||| y) :: st) h P := zt_bin (f := fun x y => x ||| y) zi_22_34 rfl (fun _ _ _ => rfl)
theorem zi_22_35 : z_ins 22 35 = some (.istore_n 3, 1) := by decide +kernel
theorem ze_22_35 : z_T g d 22 35 (v0 :: v1 :: v2 :: v3 :: ls) (.int x :: st) h P = z_T g d 22 36 (v0 :: v1 :: v2 :: .int x :: ls) st h P := zt_istoren zi_22_35 rfl (Nat.le_add_left 4 _)
theorem zi_22_36 : z_ins 22 36 = some (.iinc 4 1, 3) := by decide +kernel
theorem ze_22_36 : z_T g d 22 36 (v0 :: v1 :: v2 :: v3 :: .int x :: ls) st h P = z_T g d 22 39 (v0 :: v1 :: v2 :: v3 :: .int (x + (nI 1)) :: ls) st h P := zt_iinc zi_22_36 rfl rfl
theorem zi_22_39 : z_ins 22 39 = some (.goto (-34), 3) := by decide +kernel
theorem ze_22_39 : z_T g d 22 39 ls st h P = z_T g d 22 5 ls st h P := zt_goto zi_22_39 (by decide)
theorem zi_22_42 : z_ins 22 42 = some (.iload_n 3, 1) := by decide +kernel
theorem ze_22_42 : z_T g d 22 42 (v0 :: v1 :: v2 :: .int x :: ls) st h P = z_T g d 22 43 (v0 :: v1 :: v2 :: .int x :: ls) (.int x :: st) h P := zt_iloadn zi_22_42 rfl rfl
theorem zi_22_43 : z_ins 22 43 = some (.ireturn, 1) := by decide +kernel
theorem ze_22_43 : z_T g d 22 43 ls [.int x] h P = P (.inr (some (.int x)), h) := zt_ireturn zi_22_43 zr_22
-- LatinRectangles$Grid.<init>()V
theorem zm_23 : z_maxL 23 = 1 := by decide +kernel
theorem zh_23 : z_hds 23 = [] := by decide +kernel
theorem zj_23 : z_jdk 23 = false := by decide +kernel
theorem zr_23 : z_rt 23 = none := by decide +kernel
theorem zn_23 : z_Ca g d 23 [.ref a0] h P = z_T g d 23 0 [.ref a0] [] h P := z_Ca_ent zm_23 rfl rfl
theorem zi_23_0 : z_ins 23 0 = some (.aload_n 0, 1) := by decide +kernel
theorem ze_23_0 : z_T g d 23 0 (.ref a :: ls) st h P = z_T g d 23 1 (.ref a :: ls) (.ref a :: st) h P := zt_aloadn zi_23_0 rfl rfl
theorem zi_23_1 : z_ins 23 1 = some (.invokespecial 3, 3) := by decide +kernel
theorem ze_23_1 : z_T g d 23 1 ls (.ref a :: st) h P = (z_okS 8 st = true ∧ z_T g d 23 4 ls st h P) := zt_objInit zi_23_1 ((congrArg (fun o => z_lookup z_ois (o, 3)) zo_23).trans zq_ois_LatinRectangles_Grid_3)
theorem zi_23_4 : z_ins 23 4 = some (.aload_n 0, 1) := by decide +kernel
theorem ze_23_4 : z_T g d 23 4 (.ref a :: ls) st h P = z_T g d 23 5 (.ref a :: ls) (.ref a :: st) h P := zt_aloadn zi_23_4 rfl rfl
theorem zi_23_5 : z_ins 23 5 = some (.bipush 25, 2) := by decide +kernel
theorem ze_23_5 : z_T g d 23 5 ls st h P = z_T g d 23 7 ls (.int (nI 25) :: st) h P := zt_bipush zi_23_5 rfl
theorem zi_23_7 : z_ins 23 7 = some (.newarray .int, 2) := by decide +kernel
theorem ze_23_7 : z_T g d 23 7 ls (.int x :: st) h P = z_nA h .int x (fun q h' => z_T g d 23 9 ls (.ref q :: st) h' P) := zt_newarray zi_23_7
theorem zi_23_9 : z_ins 23 9 = some (.putfield 9, 3) := by decide +kernel
theorem ze_23_9 : z_T g d 23 9 ls (.ref b :: .ref a :: st) h P = z_pF h.1 a 3 0 (.ref b) (fun f => z_T g d 23 12 ls st (f, h.2) P) := zt_put zi_23_9 ((congrArg (fun o => z_fl o 9) zo_23).trans zf_LatinRectangles_Grid_9) (by decide +kernel) rfl rfl
theorem zi_23_12 : z_ins 23 12 = some (.aload_n 0, 1) := by decide +kernel
theorem ze_23_12 : z_T g d 23 12 (.ref a :: ls) st h P = z_T g d 23 13 (.ref a :: ls) (.ref a :: st) h P := zt_aloadn zi_23_12 rfl rfl
theorem zi_23_13 : z_ins 23 13 = some (.bipush 25, 2) := by decide +kernel
theorem ze_23_13 : z_T g d 23 13 ls st h P = z_T g d 23 15 ls (.int (nI 25) :: st) h P := zt_bipush zi_23_13 rfl
theorem zi_23_15 : z_ins 23 15 = some (.newarray .boolean, 2) := by decide +kernel
theorem ze_23_15 : z_T g d 23 15 ls (.int x :: st) h P = z_nA h .boolean x (fun q h' => z_T g d 23 17 ls (.ref q :: st) h' P) := zt_newarray zi_23_15
theorem zi_23_17 : z_ins 23 17 = some (.putfield 15, 3) := by decide +kernel
theorem ze_23_17 : z_T g d 23 17 ls (.ref b :: .ref a :: st) h P = z_pF h.1 a 3 1 (.ref b) (fun f => z_T g d 23 20 ls st (f, h.2) P) := zt_put zi_23_17 ((congrArg (fun o => z_fl o 15) zo_23).trans zf_LatinRectangles_Grid_15) (by decide +kernel) rfl rfl
theorem zi_23_20 : z_ins 23 20 = some (.aload_n 0, 1) := by decide +kernel
theorem ze_23_20 : z_T g d 23 20 (.ref a :: ls) st h P = z_T g d 23 21 (.ref a :: ls) (.ref a :: st) h P := zt_aloadn zi_23_20 rfl rfl
theorem zi_23_21 : z_ins 23 21 = some (.bipush 25, 2) := by decide +kernel
theorem ze_23_21 : z_T g d 23 21 ls st h P = z_T g d 23 23 ls (.int (nI 25) :: st) h P := zt_bipush zi_23_21 rfl
theorem zi_23_23 : z_ins 23 23 = some (.newarray .int, 2) := by decide +kernel
theorem ze_23_23 : z_T g d 23 23 ls (.int x :: st) h P = z_nA h .int x (fun q h' => z_T g d 23 25 ls (.ref q :: st) h' P) := zt_newarray zi_23_23
theorem zi_23_25 : z_ins 23 25 = some (.putfield 19, 3) := by decide +kernel
theorem ze_23_25 : z_T g d 23 25 ls (.ref b :: .ref a :: st) h P = z_pF h.1 a 3 2 (.ref b) (fun f => z_T g d 23 28 ls st (f, h.2) P) := zt_put zi_23_25 ((congrArg (fun o => z_fl o 19) zo_23).trans zf_LatinRectangles_Grid_19) (by decide +kernel) rfl rfl
theorem zi_23_28 : z_ins 23 28 = some (.aload_n 0, 1) := by decide +kernel
theorem ze_23_28 : z_T g d 23 28 (.ref a :: ls) st h P = z_T g d 23 29 (.ref a :: ls) (.ref a :: st) h P := zt_aloadn zi_23_28 rfl rfl
theorem zi_23_29 : z_ins 23 29 = some (.iconst 5, 1) := by decide +kernel
theorem ze_23_29 : z_T g d 23 29 ls st h P = z_T g d 23 30 ls (.int (nI 5) :: st) h P := zt_iconst zi_23_29 rfl
theorem zi_23_30 : z_ins 23 30 = some (.newarray .int, 2) := by decide +kernel
theorem ze_23_30 : z_T g d 23 30 ls (.int x :: st) h P = z_nA h .int x (fun q h' => z_T g d 23 32 ls (.ref q :: st) h' P) := zt_newarray zi_23_30
theorem zi_23_32 : z_ins 23 32 = some (.putfield 22, 3) := by decide +kernel
theorem ze_23_32 : z_T g d 23 32 ls (.ref b :: .ref a :: st) h P = z_pF h.1 a 3 3 (.ref b) (fun f => z_T g d 23 35 ls st (f, h.2) P) := zt_put zi_23_32 ((congrArg (fun o => z_fl o 22) zo_23).trans zf_LatinRectangles_Grid_22) (by decide +kernel) rfl rfl
theorem zi_23_35 : z_ins 23 35 = some (.aload_n 0, 1) := by decide +kernel
theorem ze_23_35 : z_T g d 23 35 (.ref a :: ls) st h P = z_T g d 23 36 (.ref a :: ls) (.ref a :: st) h P := zt_aloadn zi_23_35 rfl rfl
theorem zi_23_36 : z_ins 23 36 = some (.iconst 5, 1) := by decide +kernel
theorem ze_23_36 : z_T g d 23 36 ls st h P = z_T g d 23 37 ls (.int (nI 5) :: st) h P := zt_iconst zi_23_36 rfl
theorem zi_23_37 : z_ins 23 37 = some (.newarray .int, 2) := by decide +kernel
theorem ze_23_37 : z_T g d 23 37 ls (.int x :: st) h P = z_nA h .int x (fun q h' => z_T g d 23 39 ls (.ref q :: st) h' P) := zt_newarray zi_23_37
theorem zi_23_39 : z_ins 23 39 = some (.putfield 25, 3) := by decide +kernel
theorem ze_23_39 : z_T g d 23 39 ls (.ref b :: .ref a :: st) h P = z_pF h.1 a 3 4 (.ref b) (fun f => z_T g d 23 42 ls st (f, h.2) P) := zt_put zi_23_39 ((congrArg (fun o => z_fl o 25) zo_23).trans zf_LatinRectangles_Grid_25) (by decide +kernel) rfl rfl
theorem zi_23_42 : z_ins 23 42 = some (.aload_n 0, 1) := by decide +kernel
theorem ze_23_42 : z_T g d 23 42 (.ref a :: ls) st h P = z_T g d 23 43 (.ref a :: ls) (.ref a :: st) h P := zt_aloadn zi_23_42 rfl rfl
theorem zi_23_43 : z_ins 23 43 = some (.iconst 2, 1) := by decide +kernel
theorem ze_23_43 : z_T g d 23 43 ls st h P = z_T g d 23 44 ls (.int (nI 2) :: st) h P := zt_iconst zi_23_43 rfl
theorem zi_23_44 : z_ins 23 44 = some (.iconst 2, 1) := by decide +kernel
theorem ze_23_44 : z_T g d 23 44 ls st h P = z_T g d 23 45 ls (.int (nI 2) :: st) h P := zt_iconst zi_23_44 rfl
theorem zi_23_45 : z_ins 23 45 = some (.invokevirtual 28, 3) := by decide +kernel
theorem ze_23_45 : z_T g d 23 45 ls (.int x1 :: .int x0 :: .ref a :: st) h P = ((z_okS 8 st = true ∧ z_gO h.1 a 3 ∧ 0 < d) ∧ z_Ca g (d - 1) 24 [.ref a, .int x0, .int x1] h (fun r => z_k r (fun v h' => z_T g d 23 48 ls (z_push v st) h' P) P)) := zt_cV (as := [.int x0, .int x1]) (kk := 0) zi_23_45 rfl (zt_call zj_23 zh_23) (z_opV ((congrArg (fun o => z_lookup z_cns (o, 28)) zo_23).trans zq_cns_LatinRectangles_Grid_28) ((congrArg (fun o => z_lookup z_prs (o, 28)) zo_23).trans zq_prs_LatinRectangles_Grid_28)) ((congrArg (fun o => z_clk o 28) zo_23).trans zk_LatinRectangles_Grid_28) rfl rfl rfl rfl (z_rcv0 zc_24)
theorem zi_23_48 : z_ins 23 48 = some (.return_, 1) := by decide +kernel
theorem ze_23_48 : z_T g d 23 48 ls [] h P = P (.inr none, h) := zt_return zi_23_48 zr_23
-- LatinRectangles$Grid.begin(II)V
theorem zm_24 : z_maxL 24 = 4 := by decide +kernel
theorem zh_24 : z_hds 24 = [] := by decide +kernel
theorem zj_24 : z_jdk 24 = false := by decide +kernel
theorem zr_24 : z_rt 24 = none := by decide +kernel
theorem zn_24 : z_Ca g d 24 [.ref a0, .int x1, .int x2] h P = z_T g d 24 0 [.ref a0, .int x1, .int x2, z_un] [] h P := z_Ca_ent zm_24 rfl rfl
theorem zi_24_0 : z_ins 24 0 = some (.aload_n 0, 1) := by decide +kernel
theorem ze_24_0 : z_T g d 24 0 (.ref a :: ls) st h P = z_T g d 24 1 (.ref a :: ls) (.ref a :: st) h P := zt_aloadn zi_24_0 rfl rfl
theorem zi_24_1 : z_ins 24 1 = some (.iload_n 1, 1) := by decide +kernel
theorem ze_24_1 : z_T g d 24 1 (v0 :: .int x :: ls) st h P = z_T g d 24 2 (v0 :: .int x :: ls) (.int x :: st) h P := zt_iloadn zi_24_1 rfl rfl
theorem zi_24_2 : z_ins 24 2 = some (.putfield 32, 3) := by decide +kernel
theorem ze_24_2 : z_T g d 24 2 ls (.int x :: .ref a :: st) h P = z_pF h.1 a 3 5 (.int x) (fun f => z_T g d 24 5 ls st (f, h.2) P) := zt_put zi_24_2 ((congrArg (fun o => z_fl o 32) zo_24).trans zf_LatinRectangles_Grid_32) (by decide +kernel) rfl rfl
theorem zi_24_5 : z_ins 24 5 = some (.aload_n 0, 1) := by decide +kernel
theorem ze_24_5 : z_T g d 24 5 (.ref a :: ls) st h P = z_T g d 24 6 (.ref a :: ls) (.ref a :: st) h P := zt_aloadn zi_24_5 rfl rfl
theorem zi_24_6 : z_ins 24 6 = some (.iload_n 2, 1) := by decide +kernel
theorem ze_24_6 : z_T g d 24 6 (v0 :: v1 :: .int x :: ls) st h P = z_T g d 24 7 (v0 :: v1 :: .int x :: ls) (.int x :: st) h P := zt_iloadn zi_24_6 rfl rfl
theorem zi_24_7 : z_ins 24 7 = some (.putfield 36, 3) := by decide +kernel
theorem ze_24_7 : z_T g d 24 7 ls (.int x :: .ref a :: st) h P = z_pF h.1 a 3 6 (.int x) (fun f => z_T g d 24 10 ls st (f, h.2) P) := zt_put zi_24_7 ((congrArg (fun o => z_fl o 36) zo_24).trans zf_LatinRectangles_Grid_36) (by decide +kernel) rfl rfl
theorem zi_24_10 : z_ins 24 10 = some (.aload_n 0, 1) := by decide +kernel
theorem ze_24_10 : z_T g d 24 10 (.ref a :: ls) st h P = z_T g d 24 11 (.ref a :: ls) (.ref a :: st) h P := zt_aloadn zi_24_10 rfl rfl
theorem zi_24_11 : z_ins 24 11 = some (.iconst 0, 1) := by decide +kernel
theorem ze_24_11 : z_T g d 24 11 ls st h P = z_T g d 24 12 ls (.int (nI 0) :: st) h P := zt_iconst zi_24_11 rfl
theorem zi_24_12 : z_ins 24 12 = some (.putfield 39, 3) := by decide +kernel
theorem ze_24_12 : z_T g d 24 12 ls (.int x :: .ref a :: st) h P = z_pF h.1 a 3 8 (.int x) (fun f => z_T g d 24 15 ls st (f, h.2) P) := zt_put zi_24_12 ((congrArg (fun o => z_fl o 39) zo_24).trans zf_LatinRectangles_Grid_39) (by decide +kernel) rfl rfl
theorem zi_24_15 : z_ins 24 15 = some (.aload_n 0, 1) := by decide +kernel
theorem ze_24_15 : z_T g d 24 15 (.ref a :: ls) st h P = z_T g d 24 16 (.ref a :: ls) (.ref a :: st) h P := zt_aloadn zi_24_15 rfl rfl
theorem zi_24_16 : z_ins 24 16 = some (.iconst 0, 1) := by decide +kernel
theorem ze_24_16 : z_T g d 24 16 ls st h P = z_T g d 24 17 ls (.int (nI 0) :: st) h P := zt_iconst zi_24_16 rfl
theorem zi_24_17 : z_ins 24 17 = some (.putfield 42, 3) := by decide +kernel
theorem ze_24_17 : z_T g d 24 17 ls (.int x :: .ref a :: st) h P = z_pF h.1 a 3 9 (.int x) (fun f => z_T g d 24 20 ls st (f, h.2) P) := zt_put zi_24_17 ((congrArg (fun o => z_fl o 42) zo_24).trans zf_LatinRectangles_Grid_42) (by decide +kernel) rfl rfl
theorem zi_24_20 : z_ins 24 20 = some (.iconst 0, 1) := by decide +kernel
theorem ze_24_20 : z_T g d 24 20 ls st h P = z_T g d 24 21 ls (.int (nI 0) :: st) h P := zt_iconst zi_24_20 rfl
theorem zi_24_21 : z_ins 24 21 = some (.istore_n 3, 1) := by decide +kernel
theorem ze_24_21 : z_T g d 24 21 (v0 :: v1 :: v2 :: v3 :: ls) (.int x :: st) h P = z_T g d 24 22 (v0 :: v1 :: v2 :: .int x :: ls) st h P := zt_istoren zi_24_21 rfl (Nat.le_add_left 4 _)
theorem zi_24_22 : z_ins 24 22 = some (.iload_n 3, 1) := by decide +kernel
theorem ze_24_22 : z_T g d 24 22 (v0 :: v1 :: v2 :: .int x :: ls) st h P = z_T g d 24 23 (v0 :: v1 :: v2 :: .int x :: ls) (.int x :: st) h P := zt_iloadn zi_24_22 rfl rfl
theorem zi_24_23 : z_ins 24 23 = some (.bipush 25, 2) := by decide +kernel
theorem ze_24_23 : z_T g d 24 23 ls st h P = z_T g d 24 25 ls (.int (nI 25) :: st) h P := zt_bipush zi_24_23 rfl
theorem zi_24_25 : z_ins 24 25 = some (.if_icmp .ge 23, 3) := by decide +kernel
theorem ze_24_25 : z_T g d 24 25 ls (.int y :: .int x :: st) h P = (if x < y then z_T g d 24 28 ls st h P else z_T g d 24 48 ls st h P) := zt_icmpge zi_24_25 (by decide)
theorem zi_24_28 : z_ins 24 28 = some (.aload_n 0, 1) := by decide +kernel
theorem ze_24_28 : z_T g d 24 28 (.ref a :: ls) st h P = z_T g d 24 29 (.ref a :: ls) (.ref a :: st) h P := zt_aloadn zi_24_28 rfl rfl
theorem zi_24_29 : z_ins 24 29 = some (.getfield 15, 3) := by decide +kernel
theorem ze_24_29 : z_T g d 24 29 ls (.ref a :: st) h P = z_gR h.1 a 3 1 (fun x => z_T g d 24 32 ls (x :: st) h P) := zt_getR zi_24_29 ((congrArg (fun o => z_fl o 15) zo_24).trans zf_LatinRectangles_Grid_15)
theorem zi_24_32 : z_ins 24 32 = some (.iload_n 3, 1) := by decide +kernel
theorem ze_24_32 : z_T g d 24 32 (v0 :: v1 :: v2 :: .int x :: ls) st h P = z_T g d 24 33 (v0 :: v1 :: v2 :: .int x :: ls) (.int x :: st) h P := zt_iloadn zi_24_32 rfl rfl
theorem zi_24_33 : z_ins 24 33 = some (.iconst 0, 1) := by decide +kernel
theorem ze_24_33 : z_T g d 24 33 ls st h P = z_T g d 24 34 ls (.int (nI 0) :: st) h P := zt_iconst zi_24_33 rfl
theorem zi_24_34 : z_ins 24 34 = some (.bastore, 1) := by decide +kernel
theorem ze_24_34 : z_T g d 24 34 ls (.int y :: .int x :: .ref a :: st) h P = z_aS h.1 a z_tB x y (fun f => z_T g d 24 35 ls st (f, h.2) P) := zt_bastore zi_24_34
theorem zi_24_35 : z_ins 24 35 = some (.aload_n 0, 1) := by decide +kernel
theorem ze_24_35 : z_T g d 24 35 (.ref a :: ls) st h P = z_T g d 24 36 (.ref a :: ls) (.ref a :: st) h P := zt_aloadn zi_24_35 rfl rfl
theorem zi_24_36 : z_ins 24 36 = some (.getfield 19, 3) := by decide +kernel
theorem ze_24_36 : z_T g d 24 36 ls (.ref a :: st) h P = z_gR h.1 a 3 2 (fun x => z_T g d 24 39 ls (x :: st) h P) := zt_getR zi_24_36 ((congrArg (fun o => z_fl o 19) zo_24).trans zf_LatinRectangles_Grid_19)
theorem zi_24_39 : z_ins 24 39 = some (.iload_n 3, 1) := by decide +kernel
theorem ze_24_39 : z_T g d 24 39 (v0 :: v1 :: v2 :: .int x :: ls) st h P = z_T g d 24 40 (v0 :: v1 :: v2 :: .int x :: ls) (.int x :: st) h P := zt_iloadn zi_24_39 rfl rfl
theorem zi_24_40 : z_ins 24 40 = some (.iconst 0, 1) := by decide +kernel
theorem ze_24_40 : z_T g d 24 40 ls st h P = z_T g d 24 41 ls (.int (nI 0) :: st) h P := zt_iconst zi_24_40 rfl
theorem zi_24_41 : z_ins 24 41 = some (.iastore, 1) := by decide +kernel
theorem ze_24_41 : z_T g d 24 41 ls (.int y :: .int x :: .ref a :: st) h P = z_aS h.1 a z_tI x y (fun f => z_T g d 24 42 ls st (f, h.2) P) := zt_iastore zi_24_41
theorem zi_24_42 : z_ins 24 42 = some (.iinc 3 1, 3) := by decide +kernel
theorem ze_24_42 : z_T g d 24 42 (v0 :: v1 :: v2 :: .int x :: ls) st h P = z_T g d 24 45 (v0 :: v1 :: v2 :: .int (x + (nI 1)) :: ls) st h P := zt_iinc zi_24_42 rfl rfl
theorem zi_24_45 : z_ins 24 45 = some (.goto (-23), 3) := by decide +kernel
theorem ze_24_45 : z_T g d 24 45 ls st h P = z_T g d 24 22 ls st h P := zt_goto zi_24_45 (by decide)
theorem zi_24_48 : z_ins 24 48 = some (.aload_n 0, 1) := by decide +kernel
theorem ze_24_48 : z_T g d 24 48 (.ref a :: ls) st h P = z_T g d 24 49 (.ref a :: ls) (.ref a :: st) h P := zt_aloadn zi_24_48 rfl rfl
theorem zi_24_49 : z_ins 24 49 = some (.invokevirtual 45, 3) := by decide +kernel
theorem ze_24_49 : z_T g d 24 49 ls (.ref a :: st) h P = ((z_okS 8 st = true ∧ z_gO h.1 a 3 ∧ 0 < d) ∧ z_Ca g (d - 1) 25 [.ref a] h (fun r => z_k r (fun v h' => z_T g d 24 52 ls (z_push v st) h' P) P)) := zt_cV (as := []) (kk := 0) zi_24_49 rfl (zt_call zj_24 zh_24) (z_opV ((congrArg (fun o => z_lookup z_cns (o, 45)) zo_24).trans zq_cns_LatinRectangles_Grid_45) ((congrArg (fun o => z_lookup z_prs (o, 45)) zo_24).trans zq_prs_LatinRectangles_Grid_45)) ((congrArg (fun o => z_clk o 45) zo_24).trans zk_LatinRectangles_Grid_45) rfl rfl rfl rfl (z_rcv0 zc_25)
theorem zi_24_52 : z_ins 24 52 = some (.return_, 1) := by decide +kernel
theorem ze_24_52 : z_T g d 24 52 ls [] h P = P (.inr none, h) := zt_return zi_24_52 zr_24
-- LatinRectangles$Grid.clearCells()V
theorem zm_25 : z_maxL 25 = 2 := by decide +kernel
theorem zh_25 : z_hds 25 = [] := by decide +kernel
theorem zj_25 : z_jdk 25 = false := by decide +kernel
theorem zr_25 : z_rt 25 = none := by decide +kernel
theorem zn_25 : z_Ca g d 25 [.ref a0] h P = z_T g d 25 0 [.ref a0, z_un] [] h P := z_Ca_ent zm_25 rfl rfl
theorem zi_25_0 : z_ins 25 0 = some (.aload_n 0, 1) := by decide +kernel
theorem ze_25_0 : z_T g d 25 0 (.ref a :: ls) st h P = z_T g d 25 1 (.ref a :: ls) (.ref a :: st) h P := zt_aloadn zi_25_0 rfl rfl
theorem zi_25_1 : z_ins 25 1 = some (.iconst 0, 1) := by decide +kernel
theorem ze_25_1 : z_T g d 25 1 ls st h P = z_T g d 25 2 ls (.int (nI 0) :: st) h P := zt_iconst zi_25_1 rfl
theorem zi_25_2 : z_ins 25 2 = some (.putfield 48, 3) := by decide +kernel
theorem ze_25_2 : z_T g d 25 2 ls (.int x :: .ref a :: st) h P = z_pF h.1 a 3 7 (.int x) (fun f => z_T g d 25 5 ls st (f, h.2) P) := zt_put zi_25_2 ((congrArg (fun o => z_fl o 48) zo_25).trans zf_LatinRectangles_Grid_48) (by decide +kernel) rfl rfl
theorem zi_25_5 : z_ins 25 5 = some (.iconst 0, 1) := by decide +kernel
theorem ze_25_5 : z_T g d 25 5 ls st h P = z_T g d 25 6 ls (.int (nI 0) :: st) h P := zt_iconst zi_25_5 rfl
theorem zi_25_6 : z_ins 25 6 = some (.istore_n 1, 1) := by decide +kernel
theorem ze_25_6 : z_T g d 25 6 (v0 :: v1 :: ls) (.int x :: st) h P = z_T g d 25 7 (v0 :: .int x :: ls) st h P := zt_istoren zi_25_6 rfl (Nat.le_add_left 2 _)
theorem zi_25_7 : z_ins 25 7 = some (.iload_n 1, 1) := by decide +kernel
theorem ze_25_7 : z_T g d 25 7 (v0 :: .int x :: ls) st h P = z_T g d 25 8 (v0 :: .int x :: ls) (.int x :: st) h P := zt_iloadn zi_25_7 rfl rfl
theorem zi_25_8 : z_ins 25 8 = some (.bipush 25, 2) := by decide +kernel
theorem ze_25_8 : z_T g d 25 8 ls st h P = z_T g d 25 10 ls (.int (nI 25) :: st) h P := zt_bipush zi_25_8 rfl
theorem zi_25_10 : z_ins 25 10 = some (.if_icmp .ge 16, 3) := by decide +kernel
theorem ze_25_10 : z_T g d 25 10 ls (.int y :: .int x :: st) h P = (if x < y then z_T g d 25 13 ls st h P else z_T g d 25 26 ls st h P) := zt_icmpge zi_25_10 (by decide)
theorem zi_25_13 : z_ins 25 13 = some (.aload_n 0, 1) := by decide +kernel
theorem ze_25_13 : z_T g d 25 13 (.ref a :: ls) st h P = z_T g d 25 14 (.ref a :: ls) (.ref a :: st) h P := zt_aloadn zi_25_13 rfl rfl
theorem zi_25_14 : z_ins 25 14 = some (.getfield 9, 3) := by decide +kernel
theorem ze_25_14 : z_T g d 25 14 ls (.ref a :: st) h P = z_gR h.1 a 3 0 (fun x => z_T g d 25 17 ls (x :: st) h P) := zt_getR zi_25_14 ((congrArg (fun o => z_fl o 9) zo_25).trans zf_LatinRectangles_Grid_9)
theorem zi_25_17 : z_ins 25 17 = some (.iload_n 1, 1) := by decide +kernel
theorem ze_25_17 : z_T g d 25 17 (v0 :: .int x :: ls) st h P = z_T g d 25 18 (v0 :: .int x :: ls) (.int x :: st) h P := zt_iloadn zi_25_17 rfl rfl
theorem zi_25_18 : z_ins 25 18 = some (.iconst (-1), 1) := by decide +kernel
theorem ze_25_18 : z_T g d 25 18 ls st h P = z_T g d 25 19 ls (.int (-1) :: st) h P := zt_iconst zi_25_18 rfl
theorem zi_25_19 : z_ins 25 19 = some (.iastore, 1) := by decide +kernel
theorem ze_25_19 : z_T g d 25 19 ls (.int y :: .int x :: .ref a :: st) h P = z_aS h.1 a z_tI x y (fun f => z_T g d 25 20 ls st (f, h.2) P) := zt_iastore zi_25_19
theorem zi_25_20 : z_ins 25 20 = some (.iinc 1 1, 3) := by decide +kernel
theorem ze_25_20 : z_T g d 25 20 (v0 :: .int x :: ls) st h P = z_T g d 25 23 (v0 :: .int (x + (nI 1)) :: ls) st h P := zt_iinc zi_25_20 rfl rfl
theorem zi_25_23 : z_ins 25 23 = some (.goto (-16), 3) := by decide +kernel
theorem ze_25_23 : z_T g d 25 23 ls st h P = z_T g d 25 7 ls st h P := zt_goto zi_25_23 (by decide)
theorem zi_25_26 : z_ins 25 26 = some (.iconst 0, 1) := by decide +kernel
theorem ze_25_26 : z_T g d 25 26 ls st h P = z_T g d 25 27 ls (.int (nI 0) :: st) h P := zt_iconst zi_25_26 rfl
theorem zi_25_27 : z_ins 25 27 = some (.istore_n 1, 1) := by decide +kernel
theorem ze_25_27 : z_T g d 25 27 (v0 :: v1 :: ls) (.int x :: st) h P = z_T g d 25 28 (v0 :: .int x :: ls) st h P := zt_istoren zi_25_27 rfl (Nat.le_add_left 2 _)
theorem zi_25_28 : z_ins 25 28 = some (.iload_n 1, 1) := by decide +kernel
theorem ze_25_28 : z_T g d 25 28 (v0 :: .int x :: ls) st h P = z_T g d 25 29 (v0 :: .int x :: ls) (.int x :: st) h P := zt_iloadn zi_25_28 rfl rfl
theorem zi_25_29 : z_ins 25 29 = some (.iconst 5, 1) := by decide +kernel
theorem ze_25_29 : z_T g d 25 29 ls st h P = z_T g d 25 30 ls (.int (nI 5) :: st) h P := zt_iconst zi_25_29 rfl
theorem zi_25_30 : z_ins 25 30 = some (.if_icmp .ge 23, 3) := by decide +kernel
theorem ze_25_30 : z_T g d 25 30 ls (.int y :: .int x :: st) h P = (if x < y then z_T g d 25 33 ls st h P else z_T g d 25 53 ls st h P) := zt_icmpge zi_25_30 (by decide)
theorem zi_25_33 : z_ins 25 33 = some (.aload_n 0, 1) := by decide +kernel
theorem ze_25_33 : z_T g d 25 33 (.ref a :: ls) st h P = z_T g d 25 34 (.ref a :: ls) (.ref a :: st) h P := zt_aloadn zi_25_33 rfl rfl
theorem zi_25_34 : z_ins 25 34 = some (.getfield 22, 3) := by decide +kernel
theorem ze_25_34 : z_T g d 25 34 ls (.ref a :: st) h P = z_gR h.1 a 3 3 (fun x => z_T g d 25 37 ls (x :: st) h P) := zt_getR zi_25_34 ((congrArg (fun o => z_fl o 22) zo_25).trans zf_LatinRectangles_Grid_22)
theorem zi_25_37 : z_ins 25 37 = some (.iload_n 1, 1) := by decide +kernel
theorem ze_25_37 : z_T g d 25 37 (v0 :: .int x :: ls) st h P = z_T g d 25 38 (v0 :: .int x :: ls) (.int x :: st) h P := zt_iloadn zi_25_37 rfl rfl
theorem zi_25_38 : z_ins 25 38 = some (.iconst 0, 1) := by decide +kernel
theorem ze_25_38 : z_T g d 25 38 ls st h P = z_T g d 25 39 ls (.int (nI 0) :: st) h P := zt_iconst zi_25_38 rfl
theorem zi_25_39 : z_ins 25 39 = some (.iastore, 1) := by decide +kernel
theorem ze_25_39 : z_T g d 25 39 ls (.int y :: .int x :: .ref a :: st) h P = z_aS h.1 a z_tI x y (fun f => z_T g d 25 40 ls st (f, h.2) P) := zt_iastore zi_25_39
theorem zi_25_40 : z_ins 25 40 = some (.aload_n 0, 1) := by decide +kernel
theorem ze_25_40 : z_T g d 25 40 (.ref a :: ls) st h P = z_T g d 25 41 (.ref a :: ls) (.ref a :: st) h P := zt_aloadn zi_25_40 rfl rfl
theorem zi_25_41 : z_ins 25 41 = some (.getfield 25, 3) := by decide +kernel
theorem ze_25_41 : z_T g d 25 41 ls (.ref a :: st) h P = z_gR h.1 a 3 4 (fun x => z_T g d 25 44 ls (x :: st) h P) := zt_getR zi_25_41 ((congrArg (fun o => z_fl o 25) zo_25).trans zf_LatinRectangles_Grid_25)
theorem zi_25_44 : z_ins 25 44 = some (.iload_n 1, 1) := by decide +kernel
theorem ze_25_44 : z_T g d 25 44 (v0 :: .int x :: ls) st h P = z_T g d 25 45 (v0 :: .int x :: ls) (.int x :: st) h P := zt_iloadn zi_25_44 rfl rfl
theorem zi_25_45 : z_ins 25 45 = some (.iconst 0, 1) := by decide +kernel
theorem ze_25_45 : z_T g d 25 45 ls st h P = z_T g d 25 46 ls (.int (nI 0) :: st) h P := zt_iconst zi_25_45 rfl
theorem zi_25_46 : z_ins 25 46 = some (.iastore, 1) := by decide +kernel
theorem ze_25_46 : z_T g d 25 46 ls (.int y :: .int x :: .ref a :: st) h P = z_aS h.1 a z_tI x y (fun f => z_T g d 25 47 ls st (f, h.2) P) := zt_iastore zi_25_46
theorem zi_25_47 : z_ins 25 47 = some (.iinc 1 1, 3) := by decide +kernel
theorem ze_25_47 : z_T g d 25 47 (v0 :: .int x :: ls) st h P = z_T g d 25 50 (v0 :: .int (x + (nI 1)) :: ls) st h P := zt_iinc zi_25_47 rfl rfl
theorem zi_25_50 : z_ins 25 50 = some (.goto (-22), 3) := by decide +kernel
theorem ze_25_50 : z_T g d 25 50 ls st h P = z_T g d 25 28 ls st h P := zt_goto zi_25_50 (by decide)
theorem zi_25_53 : z_ins 25 53 = some (.return_, 1) := by decide +kernel
theorem ze_25_53 : z_T g d 25 53 ls [] h P = P (.inr none, h) := zt_return zi_25_53 zr_25
-- LatinRectangles$Grid.copyFrom(LLatinRectangles$Grid;)V
theorem zm_26 : z_maxL 26 = 3 := by decide +kernel
theorem zh_26 : z_hds 26 = [] := by decide +kernel
theorem zj_26 : z_jdk 26 = false := by decide +kernel
theorem zr_26 : z_rt 26 = none := by decide +kernel
theorem zn_26 : z_Ca g d 26 [.ref a0, .ref a1] h P = z_T g d 26 0 [.ref a0, .ref a1, z_un] [] h P := z_Ca_ent zm_26 rfl rfl
theorem zi_26_0 : z_ins 26 0 = some (.aload_n 0, 1) := by decide +kernel
theorem ze_26_0 : z_T g d 26 0 (.ref a :: ls) st h P = z_T g d 26 1 (.ref a :: ls) (.ref a :: st) h P := zt_aloadn zi_26_0 rfl rfl
theorem zi_26_1 : z_ins 26 1 = some (.aload_n 1, 1) := by decide +kernel
theorem ze_26_1 : z_T g d 26 1 (v0 :: .ref a :: ls) st h P = z_T g d 26 2 (v0 :: .ref a :: ls) (.ref a :: st) h P := zt_aloadn zi_26_1 rfl rfl
theorem zi_26_2 : z_ins 26 2 = some (.getfield 32, 3) := by decide +kernel
theorem ze_26_2 : z_T g d 26 2 ls (.ref a :: st) h P = z_gI h.1 a 3 5 (fun x => z_T g d 26 5 ls (.int x :: st) h P) := zt_getI zi_26_2 ((congrArg (fun o => z_fl o 32) zo_26).trans zf_LatinRectangles_Grid_32)
theorem zi_26_5 : z_ins 26 5 = some (.putfield 32, 3) := by decide +kernel
theorem ze_26_5 : z_T g d 26 5 ls (.int x :: .ref a :: st) h P = z_pF h.1 a 3 5 (.int x) (fun f => z_T g d 26 8 ls st (f, h.2) P) := zt_put zi_26_5 ((congrArg (fun o => z_fl o 32) zo_26).trans zf_LatinRectangles_Grid_32) (by decide +kernel) rfl rfl
theorem zi_26_8 : z_ins 26 8 = some (.aload_n 0, 1) := by decide +kernel
theorem ze_26_8 : z_T g d 26 8 (.ref a :: ls) st h P = z_T g d 26 9 (.ref a :: ls) (.ref a :: st) h P := zt_aloadn zi_26_8 rfl rfl
theorem zi_26_9 : z_ins 26 9 = some (.aload_n 1, 1) := by decide +kernel
theorem ze_26_9 : z_T g d 26 9 (v0 :: .ref a :: ls) st h P = z_T g d 26 10 (v0 :: .ref a :: ls) (.ref a :: st) h P := zt_aloadn zi_26_9 rfl rfl
theorem zi_26_10 : z_ins 26 10 = some (.getfield 36, 3) := by decide +kernel
theorem ze_26_10 : z_T g d 26 10 ls (.ref a :: st) h P = z_gI h.1 a 3 6 (fun x => z_T g d 26 13 ls (.int x :: st) h P) := zt_getI zi_26_10 ((congrArg (fun o => z_fl o 36) zo_26).trans zf_LatinRectangles_Grid_36)
theorem zi_26_13 : z_ins 26 13 = some (.putfield 36, 3) := by decide +kernel
theorem ze_26_13 : z_T g d 26 13 ls (.int x :: .ref a :: st) h P = z_pF h.1 a 3 6 (.int x) (fun f => z_T g d 26 16 ls st (f, h.2) P) := zt_put zi_26_13 ((congrArg (fun o => z_fl o 36) zo_26).trans zf_LatinRectangles_Grid_36) (by decide +kernel) rfl rfl
theorem zi_26_16 : z_ins 26 16 = some (.aload_n 0, 1) := by decide +kernel
theorem ze_26_16 : z_T g d 26 16 (.ref a :: ls) st h P = z_T g d 26 17 (.ref a :: ls) (.ref a :: st) h P := zt_aloadn zi_26_16 rfl rfl
theorem zi_26_17 : z_ins 26 17 = some (.aload_n 1, 1) := by decide +kernel
theorem ze_26_17 : z_T g d 26 17 (v0 :: .ref a :: ls) st h P = z_T g d 26 18 (v0 :: .ref a :: ls) (.ref a :: st) h P := zt_aloadn zi_26_17 rfl rfl
theorem zi_26_18 : z_ins 26 18 = some (.getfield 39, 3) := by decide +kernel
theorem ze_26_18 : z_T g d 26 18 ls (.ref a :: st) h P = z_gI h.1 a 3 8 (fun x => z_T g d 26 21 ls (.int x :: st) h P) := zt_getI zi_26_18 ((congrArg (fun o => z_fl o 39) zo_26).trans zf_LatinRectangles_Grid_39)
theorem zi_26_21 : z_ins 26 21 = some (.putfield 39, 3) := by decide +kernel
theorem ze_26_21 : z_T g d 26 21 ls (.int x :: .ref a :: st) h P = z_pF h.1 a 3 8 (.int x) (fun f => z_T g d 26 24 ls st (f, h.2) P) := zt_put zi_26_21 ((congrArg (fun o => z_fl o 39) zo_26).trans zf_LatinRectangles_Grid_39) (by decide +kernel) rfl rfl
theorem zi_26_24 : z_ins 26 24 = some (.aload_n 0, 1) := by decide +kernel
theorem ze_26_24 : z_T g d 26 24 (.ref a :: ls) st h P = z_T g d 26 25 (.ref a :: ls) (.ref a :: st) h P := zt_aloadn zi_26_24 rfl rfl
theorem zi_26_25 : z_ins 26 25 = some (.aload_n 1, 1) := by decide +kernel
theorem ze_26_25 : z_T g d 26 25 (v0 :: .ref a :: ls) st h P = z_T g d 26 26 (v0 :: .ref a :: ls) (.ref a :: st) h P := zt_aloadn zi_26_25 rfl rfl
theorem zi_26_26 : z_ins 26 26 = some (.getfield 42, 3) := by decide +kernel
theorem ze_26_26 : z_T g d 26 26 ls (.ref a :: st) h P = z_gI h.1 a 3 9 (fun x => z_T g d 26 29 ls (.int x :: st) h P) := zt_getI zi_26_26 ((congrArg (fun o => z_fl o 42) zo_26).trans zf_LatinRectangles_Grid_42)
theorem zi_26_29 : z_ins 26 29 = some (.putfield 42, 3) := by decide +kernel
theorem ze_26_29 : z_T g d 26 29 ls (.int x :: .ref a :: st) h P = z_pF h.1 a 3 9 (.int x) (fun f => z_T g d 26 32 ls st (f, h.2) P) := zt_put zi_26_29 ((congrArg (fun o => z_fl o 42) zo_26).trans zf_LatinRectangles_Grid_42) (by decide +kernel) rfl rfl
theorem zi_26_32 : z_ins 26 32 = some (.iconst 0, 1) := by decide +kernel
theorem ze_26_32 : z_T g d 26 32 ls st h P = z_T g d 26 33 ls (.int (nI 0) :: st) h P := zt_iconst zi_26_32 rfl
theorem zi_26_33 : z_ins 26 33 = some (.istore_n 2, 1) := by decide +kernel
theorem ze_26_33 : z_T g d 26 33 (v0 :: v1 :: v2 :: ls) (.int x :: st) h P = z_T g d 26 34 (v0 :: v1 :: .int x :: ls) st h P := zt_istoren zi_26_33 rfl (Nat.le_add_left 3 _)
theorem zi_26_34 : z_ins 26 34 = some (.iload_n 2, 1) := by decide +kernel
theorem ze_26_34 : z_T g d 26 34 (v0 :: v1 :: .int x :: ls) st h P = z_T g d 26 35 (v0 :: v1 :: .int x :: ls) (.int x :: st) h P := zt_iloadn zi_26_34 rfl rfl
theorem zi_26_35 : z_ins 26 35 = some (.bipush 25, 2) := by decide +kernel
theorem ze_26_35 : z_T g d 26 35 ls st h P = z_T g d 26 37 ls (.int (nI 25) :: st) h P := zt_bipush zi_26_35 rfl
theorem zi_26_37 : z_ins 26 37 = some (.if_icmp .ge 33, 3) := by decide +kernel
theorem ze_26_37 : z_T g d 26 37 ls (.int y :: .int x :: st) h P = (if x < y then z_T g d 26 40 ls st h P else z_T g d 26 70 ls st h P) := zt_icmpge zi_26_37 (by decide)
theorem zi_26_40 : z_ins 26 40 = some (.aload_n 0, 1) := by decide +kernel
theorem ze_26_40 : z_T g d 26 40 (.ref a :: ls) st h P = z_T g d 26 41 (.ref a :: ls) (.ref a :: st) h P := zt_aloadn zi_26_40 rfl rfl
theorem zi_26_41 : z_ins 26 41 = some (.getfield 15, 3) := by decide +kernel
theorem ze_26_41 : z_T g d 26 41 ls (.ref a :: st) h P = z_gR h.1 a 3 1 (fun x => z_T g d 26 44 ls (x :: st) h P) := zt_getR zi_26_41 ((congrArg (fun o => z_fl o 15) zo_26).trans zf_LatinRectangles_Grid_15)
theorem zi_26_44 : z_ins 26 44 = some (.iload_n 2, 1) := by decide +kernel
theorem ze_26_44 : z_T g d 26 44 (v0 :: v1 :: .int x :: ls) st h P = z_T g d 26 45 (v0 :: v1 :: .int x :: ls) (.int x :: st) h P := zt_iloadn zi_26_44 rfl rfl
theorem zi_26_45 : z_ins 26 45 = some (.aload_n 1, 1) := by decide +kernel
theorem ze_26_45 : z_T g d 26 45 (v0 :: .ref a :: ls) st h P = z_T g d 26 46 (v0 :: .ref a :: ls) (.ref a :: st) h P := zt_aloadn zi_26_45 rfl rfl
theorem zi_26_46 : z_ins 26 46 = some (.getfield 15, 3) := by decide +kernel
theorem ze_26_46 : z_T g d 26 46 ls (.ref a :: st) h P = z_gR h.1 a 3 1 (fun x => z_T g d 26 49 ls (x :: st) h P) := zt_getR zi_26_46 ((congrArg (fun o => z_fl o 15) zo_26).trans zf_LatinRectangles_Grid_15)
theorem zi_26_49 : z_ins 26 49 = some (.iload_n 2, 1) := by decide +kernel
theorem ze_26_49 : z_T g d 26 49 (v0 :: v1 :: .int x :: ls) st h P = z_T g d 26 50 (v0 :: v1 :: .int x :: ls) (.int x :: st) h P := zt_iloadn zi_26_49 rfl rfl
theorem zi_26_50 : z_ins 26 50 = some (.baload, 1) := by decide +kernel
theorem ze_26_50 : z_T g d 26 50 ls (.int x :: .ref a :: st) h P = z_aL h.1 a z_tB x (fun v => z_T g d 26 51 ls (.int v :: st) h P) := zt_baload zi_26_50
theorem zi_26_51 : z_ins 26 51 = some (.bastore, 1) := by decide +kernel
theorem ze_26_51 : z_T g d 26 51 ls (.int y :: .int x :: .ref a :: st) h P = z_aS h.1 a z_tB x y (fun f => z_T g d 26 52 ls st (f, h.2) P) := zt_bastore zi_26_51
theorem zi_26_52 : z_ins 26 52 = some (.aload_n 0, 1) := by decide +kernel
theorem ze_26_52 : z_T g d 26 52 (.ref a :: ls) st h P = z_T g d 26 53 (.ref a :: ls) (.ref a :: st) h P := zt_aloadn zi_26_52 rfl rfl
theorem zi_26_53 : z_ins 26 53 = some (.getfield 19, 3) := by decide +kernel
theorem ze_26_53 : z_T g d 26 53 ls (.ref a :: st) h P = z_gR h.1 a 3 2 (fun x => z_T g d 26 56 ls (x :: st) h P) := zt_getR zi_26_53 ((congrArg (fun o => z_fl o 19) zo_26).trans zf_LatinRectangles_Grid_19)
theorem zi_26_56 : z_ins 26 56 = some (.iload_n 2, 1) := by decide +kernel
theorem ze_26_56 : z_T g d 26 56 (v0 :: v1 :: .int x :: ls) st h P = z_T g d 26 57 (v0 :: v1 :: .int x :: ls) (.int x :: st) h P := zt_iloadn zi_26_56 rfl rfl
theorem zi_26_57 : z_ins 26 57 = some (.aload_n 1, 1) := by decide +kernel
theorem ze_26_57 : z_T g d 26 57 (v0 :: .ref a :: ls) st h P = z_T g d 26 58 (v0 :: .ref a :: ls) (.ref a :: st) h P := zt_aloadn zi_26_57 rfl rfl
theorem zi_26_58 : z_ins 26 58 = some (.getfield 19, 3) := by decide +kernel
theorem ze_26_58 : z_T g d 26 58 ls (.ref a :: st) h P = z_gR h.1 a 3 2 (fun x => z_T g d 26 61 ls (x :: st) h P) := zt_getR zi_26_58 ((congrArg (fun o => z_fl o 19) zo_26).trans zf_LatinRectangles_Grid_19)
theorem zi_26_61 : z_ins 26 61 = some (.iload_n 2, 1) := by decide +kernel
theorem ze_26_61 : z_T g d 26 61 (v0 :: v1 :: .int x :: ls) st h P = z_T g d 26 62 (v0 :: v1 :: .int x :: ls) (.int x :: st) h P := zt_iloadn zi_26_61 rfl rfl
theorem zi_26_62 : z_ins 26 62 = some (.iaload, 1) := by decide +kernel
theorem ze_26_62 : z_T g d 26 62 ls (.int x :: .ref a :: st) h P = z_aL h.1 a z_tI x (fun v => z_T g d 26 63 ls (.int v :: st) h P) := zt_iaload zi_26_62
theorem zi_26_63 : z_ins 26 63 = some (.iastore, 1) := by decide +kernel
theorem ze_26_63 : z_T g d 26 63 ls (.int y :: .int x :: .ref a :: st) h P = z_aS h.1 a z_tI x y (fun f => z_T g d 26 64 ls st (f, h.2) P) := zt_iastore zi_26_63
theorem zi_26_64 : z_ins 26 64 = some (.iinc 2 1, 3) := by decide +kernel
theorem ze_26_64 : z_T g d 26 64 (v0 :: v1 :: .int x :: ls) st h P = z_T g d 26 67 (v0 :: v1 :: .int (x + (nI 1)) :: ls) st h P := zt_iinc zi_26_64 rfl rfl
theorem zi_26_67 : z_ins 26 67 = some (.goto (-33), 3) := by decide +kernel
theorem ze_26_67 : z_T g d 26 67 ls st h P = z_T g d 26 34 ls st h P := zt_goto zi_26_67 (by decide)
theorem zi_26_70 : z_ins 26 70 = some (.aload_n 0, 1) := by decide +kernel
theorem ze_26_70 : z_T g d 26 70 (.ref a :: ls) st h P = z_T g d 26 71 (.ref a :: ls) (.ref a :: st) h P := zt_aloadn zi_26_70 rfl rfl
theorem zi_26_71 : z_ins 26 71 = some (.aload_n 1, 1) := by decide +kernel
theorem ze_26_71 : z_T g d 26 71 (v0 :: .ref a :: ls) st h P = z_T g d 26 72 (v0 :: .ref a :: ls) (.ref a :: st) h P := zt_aloadn zi_26_71 rfl rfl
theorem zi_26_72 : z_ins 26 72 = some (.getfield 9, 3) := by decide +kernel
theorem ze_26_72 : z_T g d 26 72 ls (.ref a :: st) h P = z_gR h.1 a 3 0 (fun x => z_T g d 26 75 ls (x :: st) h P) := zt_getR zi_26_72 ((congrArg (fun o => z_fl o 9) zo_26).trans zf_LatinRectangles_Grid_9)
theorem zi_26_75 : z_ins 26 75 = some (.invokevirtual 51, 3) := by decide +kernel
theorem ze_26_75 : z_T g d 26 75 ls (.ref a0 :: .ref a :: st) h P = ((z_okS 8 st = true ∧ z_gO h.1 a 3 ∧ 0 < d) ∧ z_Ca g (d - 1) 27 [.ref a, .ref a0] h (fun r => z_k r (fun v h' => z_T g d 26 78 ls (z_push v st) h' P) P)) := zt_cV (as := [.ref a0]) (kk := 0) zi_26_75 rfl (zt_call zj_26 zh_26) (z_opV ((congrArg (fun o => z_lookup z_cns (o, 51)) zo_26).trans zq_cns_LatinRectangles_Grid_51) ((congrArg (fun o => z_lookup z_prs (o, 51)) zo_26).trans zq_prs_LatinRectangles_Grid_51)) ((congrArg (fun o => z_clk o 51) zo_26).trans zk_LatinRectangles_Grid_51) rfl rfl rfl rfl (z_rcv0 zc_27)
theorem zi_26_78 : z_ins 26 78 = some (.return_, 1) := by decide +kernel
theorem ze_26_78 : z_T g d 26 78 ls [] h P = P (.inr none, h) := zt_return zi_26_78 zr_26
-- LatinRectangles$Grid.load([I)V
theorem zm_27 : z_maxL 27 = 5 := by decide +kernel
theorem zh_27 : z_hds 27 = [] := by decide +kernel
theorem zj_27 : z_jdk 27 = false := by decide +kernel
theorem zr_27 : z_rt 27 = none := by decide +kernel
theorem zn_27 : z_Ca g d 27 [.ref a0, .ref a1] h P = z_T g d 27 0 [.ref a0, .ref a1, z_un, z_un, z_un] [] h P := z_Ca_ent zm_27 rfl rfl
theorem zi_27_0 : z_ins 27 0 = some (.aload_n 0, 1) := by decide +kernel
theorem ze_27_0 : z_T g d 27 0 (.ref a :: ls) st h P = z_T g d 27 1 (.ref a :: ls) (.ref a :: st) h P := zt_aloadn zi_27_0 rfl rfl
theorem zi_27_1 : z_ins 27 1 = some (.invokevirtual 45, 3) := by decide +kernel
theorem ze_27_1 : z_T g d 27 1 ls (.ref a :: st) h P = ((z_okS 8 st = true ∧ z_gO h.1 a 3 ∧ 0 < d) ∧ z_Ca g (d - 1) 25 [.ref a] h (fun r => z_k r (fun v h' => z_T g d 27 4 ls (z_push v st) h' P) P)) := zt_cV (as := []) (kk := 0) zi_27_1 rfl (zt_call zj_27 zh_27) (z_opV ((congrArg (fun o => z_lookup z_cns (o, 45)) zo_27).trans zq_cns_LatinRectangles_Grid_45) ((congrArg (fun o => z_lookup z_prs (o, 45)) zo_27).trans zq_prs_LatinRectangles_Grid_45)) ((congrArg (fun o => z_clk o 45) zo_27).trans zk_LatinRectangles_Grid_45) rfl rfl rfl rfl (z_rcv0 zc_25)
theorem zi_27_4 : z_ins 27 4 = some (.iconst 0, 1) := by decide +kernel
theorem ze_27_4 : z_T g d 27 4 ls st h P = z_T g d 27 5 ls (.int (nI 0) :: st) h P := zt_iconst zi_27_4 rfl
theorem zi_27_5 : z_ins 27 5 = some (.istore_n 2, 1) := by decide +kernel
theorem ze_27_5 : z_T g d 27 5 (v0 :: v1 :: v2 :: ls) (.int x :: st) h P = z_T g d 27 6 (v0 :: v1 :: .int x :: ls) st h P := zt_istoren zi_27_5 rfl (Nat.le_add_left 3 _)
theorem zi_27_6 : z_ins 27 6 = some (.iload_n 2, 1) := by decide +kernel
theorem ze_27_6 : z_T g d 27 6 (v0 :: v1 :: .int x :: ls) st h P = z_T g d 27 7 (v0 :: v1 :: .int x :: ls) (.int x :: st) h P := zt_iloadn zi_27_6 rfl rfl
theorem zi_27_7 : z_ins 27 7 = some (.aload_n 0, 1) := by decide +kernel
theorem ze_27_7 : z_T g d 27 7 (.ref a :: ls) st h P = z_T g d 27 8 (.ref a :: ls) (.ref a :: st) h P := zt_aloadn zi_27_7 rfl rfl
theorem zi_27_8 : z_ins 27 8 = some (.getfield 32, 3) := by decide +kernel
theorem ze_27_8 : z_T g d 27 8 ls (.ref a :: st) h P = z_gI h.1 a 3 5 (fun x => z_T g d 27 11 ls (.int x :: st) h P) := zt_getI zi_27_8 ((congrArg (fun o => z_fl o 32) zo_27).trans zf_LatinRectangles_Grid_32)
theorem zi_27_11 : z_ins 27 11 = some (.if_icmp .ge 48, 3) := by decide +kernel
theorem ze_27_11 : z_T g d 27 11 ls (.int y :: .int x :: st) h P = (if x < y then z_T g d 27 14 ls st h P else z_T g d 27 59 ls st h P) := zt_icmpge zi_27_11 (by decide)
theorem zi_27_14 : z_ins 27 14 = some (.iconst 0, 1) := by decide +kernel
theorem ze_27_14 : z_T g d 27 14 ls st h P = z_T g d 27 15 ls (.int (nI 0) :: st) h P := zt_iconst zi_27_14 rfl
theorem zi_27_15 : z_ins 27 15 = some (.istore_n 3, 1) := by decide +kernel
theorem ze_27_15 : z_T g d 27 15 (v0 :: v1 :: v2 :: v3 :: ls) (.int x :: st) h P = z_T g d 27 16 (v0 :: v1 :: v2 :: .int x :: ls) st h P := zt_istoren zi_27_15 rfl (Nat.le_add_left 4 _)
theorem zi_27_16 : z_ins 27 16 = some (.iload_n 3, 1) := by decide +kernel
theorem ze_27_16 : z_T g d 27 16 (v0 :: v1 :: v2 :: .int x :: ls) st h P = z_T g d 27 17 (v0 :: v1 :: v2 :: .int x :: ls) (.int x :: st) h P := zt_iloadn zi_27_16 rfl rfl
theorem zi_27_17 : z_ins 27 17 = some (.aload_n 0, 1) := by decide +kernel
theorem ze_27_17 : z_T g d 27 17 (.ref a :: ls) st h P = z_T g d 27 18 (.ref a :: ls) (.ref a :: st) h P := zt_aloadn zi_27_17 rfl rfl
theorem zi_27_18 : z_ins 27 18 = some (.getfield 36, 3) := by decide +kernel
theorem ze_27_18 : z_T g d 27 18 ls (.ref a :: st) h P = z_gI h.1 a 3 6 (fun x => z_T g d 27 21 ls (.int x :: st) h P) := zt_getI zi_27_18 ((congrArg (fun o => z_fl o 36) zo_27).trans zf_LatinRectangles_Grid_36)
theorem zi_27_21 : z_ins 27 21 = some (.if_icmp .ge 32, 3) := by decide +kernel
theorem ze_27_21 : z_T g d 27 21 ls (.int y :: .int x :: st) h P = (if x < y then z_T g d 27 24 ls st h P else z_T g d 27 53 ls st h P) := zt_icmpge zi_27_21 (by decide)
theorem zi_27_24 : z_ins 27 24 = some (.aload_n 1, 1) := by decide +kernel
theorem ze_27_24 : z_T g d 27 24 (v0 :: .ref a :: ls) st h P = z_T g d 27 25 (v0 :: .ref a :: ls) (.ref a :: st) h P := zt_aloadn zi_27_24 rfl rfl
theorem zi_27_25 : z_ins 27 25 = some (.iload_n 2, 1) := by decide +kernel
theorem ze_27_25 : z_T g d 27 25 (v0 :: v1 :: .int x :: ls) st h P = z_T g d 27 26 (v0 :: v1 :: .int x :: ls) (.int x :: st) h P := zt_iloadn zi_27_25 rfl rfl
theorem zi_27_26 : z_ins 27 26 = some (.iconst 5, 1) := by decide +kernel
theorem ze_27_26 : z_T g d 27 26 ls st h P = z_T g d 27 27 ls (.int (nI 5) :: st) h P := zt_iconst zi_27_26 rfl
theorem zi_27_27 : z_ins 27 27 = some (.imul, 1) := by decide +kernel
theorem ze_27_27 : z_T g d 27 27 ls (.int y :: .int x :: st) h P = z_T g d 27 28 ls (.int (x * y) :: st) h P := zt_bin (f := fun x y => x * y) zi_27_27 rfl (fun _ _ _ => rfl)
theorem zi_27_28 : z_ins 27 28 = some (.iload_n 3, 1) := by decide +kernel
theorem ze_27_28 : z_T g d 27 28 (v0 :: v1 :: v2 :: .int x :: ls) st h P = z_T g d 27 29 (v0 :: v1 :: v2 :: .int x :: ls) (.int x :: st) h P := zt_iloadn zi_27_28 rfl rfl
theorem zi_27_29 : z_ins 27 29 = some (.iadd, 1) := by decide +kernel
theorem ze_27_29 : z_T g d 27 29 ls (.int y :: .int x :: st) h P = z_T g d 27 30 ls (.int (x + y) :: st) h P := zt_bin (f := fun x y => x + y) zi_27_29 rfl (fun _ _ _ => rfl)
theorem zi_27_30 : z_ins 27 30 = some (.iaload, 1) := by decide +kernel
theorem ze_27_30 : z_T g d 27 30 ls (.int x :: .ref a :: st) h P = z_aL h.1 a z_tI x (fun v => z_T g d 27 31 ls (.int v :: st) h P) := zt_iaload zi_27_30
theorem zi_27_31 : z_ins 27 31 = some (.istore 4, 2) := by decide +kernel
theorem ze_27_31 : z_T g d 27 31 (v0 :: v1 :: v2 :: v3 :: v4 :: ls) (.int x :: st) h P = z_T g d 27 33 (v0 :: v1 :: v2 :: v3 :: .int x :: ls) st h P := zt_istore zi_27_31 (Nat.le_add_left 5 _)
theorem zi_27_33 : z_ins 27 33 = some (.iload 4, 2) := by decide +kernel
theorem ze_27_33 : z_T g d 27 33 (v0 :: v1 :: v2 :: v3 :: .int x :: ls) st h P = z_T g d 27 35 (v0 :: v1 :: v2 :: v3 :: .int x :: ls) (.int x :: st) h P := zt_iload zi_27_33 rfl
theorem zi_27_35 : z_ins 27 35 = some (.iconst (-1), 1) := by decide +kernel
theorem ze_27_35 : z_T g d 27 35 ls st h P = z_T g d 27 36 ls (.int (-1) :: st) h P := zt_iconst zi_27_35 rfl
theorem zi_27_36 : z_ins 27 36 = some (.if_icmp .eq 11, 3) := by decide +kernel
theorem ze_27_36 : z_T g d 27 36 ls (.int y :: .int x :: st) h P = (if x = y then z_T g d 27 47 ls st h P else z_T g d 27 39 ls st h P) := zt_icmpeq zi_27_36 (by decide)
theorem zi_27_39 : z_ins 27 39 = some (.aload_n 0, 1) := by decide +kernel
theorem ze_27_39 : z_T g d 27 39 (.ref a :: ls) st h P = z_T g d 27 40 (.ref a :: ls) (.ref a :: st) h P := zt_aloadn zi_27_39 rfl rfl
theorem zi_27_40 : z_ins 27 40 = some (.iload_n 2, 1) := by decide +kernel
theorem ze_27_40 : z_T g d 27 40 (v0 :: v1 :: .int x :: ls) st h P = z_T g d 27 41 (v0 :: v1 :: .int x :: ls) (.int x :: st) h P := zt_iloadn zi_27_40 rfl rfl
theorem zi_27_41 : z_ins 27 41 = some (.iload_n 3, 1) := by decide +kernel
theorem ze_27_41 : z_T g d 27 41 (v0 :: v1 :: v2 :: .int x :: ls) st h P = z_T g d 27 42 (v0 :: v1 :: v2 :: .int x :: ls) (.int x :: st) h P := zt_iloadn zi_27_41 rfl rfl
theorem zi_27_42 : z_ins 27 42 = some (.iload 4, 2) := by decide +kernel
theorem ze_27_42 : z_T g d 27 42 (v0 :: v1 :: v2 :: v3 :: .int x :: ls) st h P = z_T g d 27 44 (v0 :: v1 :: v2 :: v3 :: .int x :: ls) (.int x :: st) h P := zt_iload zi_27_42 rfl
theorem zi_27_44 : z_ins 27 44 = some (.invokevirtual 55, 3) := by decide +kernel
theorem ze_27_44 : z_T g d 27 44 ls (.int x2 :: .int x1 :: .int x0 :: .ref a :: st) h P = ((z_okS 8 st = true ∧ z_gO h.1 a 3 ∧ 0 < d) ∧ z_Ca g (d - 1) 29 [.ref a, .int x0, .int x1, .int x2] h (fun r => z_k r (fun v h' => z_T g d 27 47 ls (z_push v st) h' P) P)) := zt_cV (as := [.int x0, .int x1, .int x2]) (kk := 0) zi_27_44 rfl (zt_call zj_27 zh_27) (z_opV ((congrArg (fun o => z_lookup z_cns (o, 55)) zo_27).trans zq_cns_LatinRectangles_Grid_55) ((congrArg (fun o => z_lookup z_prs (o, 55)) zo_27).trans zq_prs_LatinRectangles_Grid_55)) ((congrArg (fun o => z_clk o 55) zo_27).trans zk_LatinRectangles_Grid_55) rfl rfl rfl rfl (z_rcv0 zc_29)
theorem zi_27_47 : z_ins 27 47 = some (.iinc 3 1, 3) := by decide +kernel
theorem ze_27_47 : z_T g d 27 47 (v0 :: v1 :: v2 :: .int x :: ls) st h P = z_T g d 27 50 (v0 :: v1 :: v2 :: .int (x + (nI 1)) :: ls) st h P := zt_iinc zi_27_47 rfl rfl
theorem zi_27_50 : z_ins 27 50 = some (.goto (-34), 3) := by decide +kernel
theorem ze_27_50 : z_T g d 27 50 ls st h P = z_T g d 27 16 ls st h P := zt_goto zi_27_50 (by decide)
theorem zi_27_53 : z_ins 27 53 = some (.iinc 2 1, 3) := by decide +kernel
theorem ze_27_53 : z_T g d 27 53 (v0 :: v1 :: .int x :: ls) st h P = z_T g d 27 56 (v0 :: v1 :: .int (x + (nI 1)) :: ls) st h P := zt_iinc zi_27_53 rfl rfl
theorem zi_27_56 : z_ins 27 56 = some (.goto (-50), 3) := by decide +kernel
theorem ze_27_56 : z_T g d 27 56 ls st h P = z_T g d 27 6 ls st h P := zt_goto zi_27_56 (by decide)
theorem zi_27_59 : z_ins 27 59 = some (.return_, 1) := by decide +kernel
theorem ze_27_59 : z_T g d 27 59 ls [] h P = P (.inr none, h) := zt_return zi_27_59 zr_27
-- LatinRectangles$Grid.store([I)V
theorem zm_28 : z_maxL 28 = 3 := by decide +kernel
theorem zh_28 : z_hds 28 = [] := by decide +kernel
theorem zj_28 : z_jdk 28 = false := by decide +kernel
theorem zr_28 : z_rt 28 = none := by decide +kernel
theorem zn_28 : z_Ca g d 28 [.ref a0, .ref a1] h P = z_T g d 28 0 [.ref a0, .ref a1, z_un] [] h P := z_Ca_ent zm_28 rfl rfl
theorem zi_28_0 : z_ins 28 0 = some (.iconst 0, 1) := by decide +kernel
theorem ze_28_0 : z_T g d 28 0 ls st h P = z_T g d 28 1 ls (.int (nI 0) :: st) h P := zt_iconst zi_28_0 rfl
theorem zi_28_1 : z_ins 28 1 = some (.istore_n 2, 1) := by decide +kernel
theorem ze_28_1 : z_T g d 28 1 (v0 :: v1 :: v2 :: ls) (.int x :: st) h P = z_T g d 28 2 (v0 :: v1 :: .int x :: ls) st h P := zt_istoren zi_28_1 rfl (Nat.le_add_left 3 _)
theorem zi_28_2 : z_ins 28 2 = some (.iload_n 2, 1) := by decide +kernel
theorem ze_28_2 : z_T g d 28 2 (v0 :: v1 :: .int x :: ls) st h P = z_T g d 28 3 (v0 :: v1 :: .int x :: ls) (.int x :: st) h P := zt_iloadn zi_28_2 rfl rfl
theorem zi_28_3 : z_ins 28 3 = some (.bipush 25, 2) := by decide +kernel
theorem ze_28_3 : z_T g d 28 3 ls st h P = z_T g d 28 5 ls (.int (nI 25) :: st) h P := zt_bipush zi_28_3 rfl
theorem zi_28_5 : z_ins 28 5 = some (.if_icmp .ge 18, 3) := by decide +kernel
theorem ze_28_5 : z_T g d 28 5 ls (.int y :: .int x :: st) h P = (if x < y then z_T g d 28 8 ls st h P else z_T g d 28 23 ls st h P) := zt_icmpge zi_28_5 (by decide)
theorem zi_28_8 : z_ins 28 8 = some (.aload_n 1, 1) := by decide +kernel
theorem ze_28_8 : z_T g d 28 8 (v0 :: .ref a :: ls) st h P = z_T g d 28 9 (v0 :: .ref a :: ls) (.ref a :: st) h P := zt_aloadn zi_28_8 rfl rfl
theorem zi_28_9 : z_ins 28 9 = some (.iload_n 2, 1) := by decide +kernel
theorem ze_28_9 : z_T g d 28 9 (v0 :: v1 :: .int x :: ls) st h P = z_T g d 28 10 (v0 :: v1 :: .int x :: ls) (.int x :: st) h P := zt_iloadn zi_28_9 rfl rfl
theorem zi_28_10 : z_ins 28 10 = some (.aload_n 0, 1) := by decide +kernel
theorem ze_28_10 : z_T g d 28 10 (.ref a :: ls) st h P = z_T g d 28 11 (.ref a :: ls) (.ref a :: st) h P := zt_aloadn zi_28_10 rfl rfl
theorem zi_28_11 : z_ins 28 11 = some (.getfield 9, 3) := by decide +kernel
theorem ze_28_11 : z_T g d 28 11 ls (.ref a :: st) h P = z_gR h.1 a 3 0 (fun x => z_T g d 28 14 ls (x :: st) h P) := zt_getR zi_28_11 ((congrArg (fun o => z_fl o 9) zo_28).trans zf_LatinRectangles_Grid_9)
theorem zi_28_14 : z_ins 28 14 = some (.iload_n 2, 1) := by decide +kernel
theorem ze_28_14 : z_T g d 28 14 (v0 :: v1 :: .int x :: ls) st h P = z_T g d 28 15 (v0 :: v1 :: .int x :: ls) (.int x :: st) h P := zt_iloadn zi_28_14 rfl rfl
theorem zi_28_15 : z_ins 28 15 = some (.iaload, 1) := by decide +kernel
theorem ze_28_15 : z_T g d 28 15 ls (.int x :: .ref a :: st) h P = z_aL h.1 a z_tI x (fun v => z_T g d 28 16 ls (.int v :: st) h P) := zt_iaload zi_28_15
theorem zi_28_16 : z_ins 28 16 = some (.iastore, 1) := by decide +kernel
theorem ze_28_16 : z_T g d 28 16 ls (.int y :: .int x :: .ref a :: st) h P = z_aS h.1 a z_tI x y (fun f => z_T g d 28 17 ls st (f, h.2) P) := zt_iastore zi_28_16
theorem zi_28_17 : z_ins 28 17 = some (.iinc 2 1, 3) := by decide +kernel
theorem ze_28_17 : z_T g d 28 17 (v0 :: v1 :: .int x :: ls) st h P = z_T g d 28 20 (v0 :: v1 :: .int (x + (nI 1)) :: ls) st h P := zt_iinc zi_28_17 rfl rfl
theorem zi_28_20 : z_ins 28 20 = some (.goto (-18), 3) := by decide +kernel
theorem ze_28_20 : z_T g d 28 20 ls st h P = z_T g d 28 2 ls st h P := zt_goto zi_28_20 (by decide)
theorem zi_28_23 : z_ins 28 23 = some (.return_, 1) := by decide +kernel
theorem ze_28_23 : z_T g d 28 23 ls [] h P = P (.inr none, h) := zt_return zi_28_23 zr_28
-- LatinRectangles$Grid.put(III)V
theorem zm_29 : z_maxL 29 = 4 := by decide +kernel
theorem zh_29 : z_hds 29 = [] := by decide +kernel
theorem zj_29 : z_jdk 29 = false := by decide +kernel
theorem zr_29 : z_rt 29 = none := by decide +kernel
theorem zn_29 : z_Ca g d 29 [.ref a0, .int x1, .int x2, .int x3] h P = z_T g d 29 0 [.ref a0, .int x1, .int x2, .int x3] [] h P := z_Ca_ent zm_29 rfl rfl
theorem zi_29_0 : z_ins 29 0 = some (.aload_n 0, 1) := by decide +kernel
theorem ze_29_0 : z_T g d 29 0 (.ref a :: ls) st h P = z_T g d 29 1 (.ref a :: ls) (.ref a :: st) h P := zt_aloadn zi_29_0 rfl rfl
theorem zi_29_1 : z_ins 29 1 = some (.getfield 9, 3) := by decide +kernel
theorem ze_29_1 : z_T g d 29 1 ls (.ref a :: st) h P = z_gR h.1 a 3 0 (fun x => z_T g d 29 4 ls (x :: st) h P) := zt_getR zi_29_1 ((congrArg (fun o => z_fl o 9) zo_29).trans zf_LatinRectangles_Grid_9)
theorem zi_29_4 : z_ins 29 4 = some (.iload_n 1, 1) := by decide +kernel
theorem ze_29_4 : z_T g d 29 4 (v0 :: .int x :: ls) st h P = z_T g d 29 5 (v0 :: .int x :: ls) (.int x :: st) h P := zt_iloadn zi_29_4 rfl rfl
theorem zi_29_5 : z_ins 29 5 = some (.iconst 5, 1) := by decide +kernel
theorem ze_29_5 : z_T g d 29 5 ls st h P = z_T g d 29 6 ls (.int (nI 5) :: st) h P := zt_iconst zi_29_5 rfl
theorem zi_29_6 : z_ins 29 6 = some (.imul, 1) := by decide +kernel
theorem ze_29_6 : z_T g d 29 6 ls (.int y :: .int x :: st) h P = z_T g d 29 7 ls (.int (x * y) :: st) h P := zt_bin (f := fun x y => x * y) zi_29_6 rfl (fun _ _ _ => rfl)
theorem zi_29_7 : z_ins 29 7 = some (.iload_n 2, 1) := by decide +kernel
theorem ze_29_7 : z_T g d 29 7 (v0 :: v1 :: .int x :: ls) st h P = z_T g d 29 8 (v0 :: v1 :: .int x :: ls) (.int x :: st) h P := zt_iloadn zi_29_7 rfl rfl
theorem zi_29_8 : z_ins 29 8 = some (.iadd, 1) := by decide +kernel
theorem ze_29_8 : z_T g d 29 8 ls (.int y :: .int x :: st) h P = z_T g d 29 9 ls (.int (x + y) :: st) h P := zt_bin (f := fun x y => x + y) zi_29_8 rfl (fun _ _ _ => rfl)
theorem zi_29_9 : z_ins 29 9 = some (.iload_n 3, 1) := by decide +kernel
theorem ze_29_9 : z_T g d 29 9 (v0 :: v1 :: v2 :: .int x :: ls) st h P = z_T g d 29 10 (v0 :: v1 :: v2 :: .int x :: ls) (.int x :: st) h P := zt_iloadn zi_29_9 rfl rfl
theorem zi_29_10 : z_ins 29 10 = some (.iastore, 1) := by decide +kernel
theorem ze_29_10 : z_T g d 29 10 ls (.int y :: .int x :: .ref a :: st) h P = z_aS h.1 a z_tI x y (fun f => z_T g d 29 11 ls st (f, h.2) P) := zt_iastore zi_29_10
theorem zi_29_11 : z_ins 29 11 = some (.aload_n 0, 1) := by decide +kernel
theorem ze_29_11 : z_T g d 29 11 (.ref a :: ls) st h P = z_T g d 29 12 (.ref a :: ls) (.ref a :: st) h P := zt_aloadn zi_29_11 rfl rfl
theorem zi_29_12 : z_ins 29 12 = some (.getfield 22, 3) := by decide +kernel
theorem ze_29_12 : z_T g d 29 12 ls (.ref a :: st) h P = z_gR h.1 a 3 3 (fun x => z_T g d 29 15 ls (x :: st) h P) := zt_getR zi_29_12 ((congrArg (fun o => z_fl o 22) zo_29).trans zf_LatinRectangles_Grid_22)
theorem zi_29_15 : z_ins 29 15 = some (.iload_n 1, 1) := by decide +kernel
theorem ze_29_15 : z_T g d 29 15 (v0 :: .int x :: ls) st h P = z_T g d 29 16 (v0 :: .int x :: ls) (.int x :: st) h P := zt_iloadn zi_29_15 rfl rfl
theorem zi_29_16 : z_ins 29 16 = some (.dup2, 1) := by decide +kernel
theorem ze_29_16 : z_T g d 29 16 ls (.int x :: .ref a :: st) h P = z_T g d 29 17 ls (.int x :: .ref a :: .int x :: .ref a :: st) h P := zt_dup2 ⟨rfl, rfl⟩ zi_29_16
theorem zi_29_17 : z_ins 29 17 = some (.iaload, 1) := by decide +kernel
theorem ze_29_17 : z_T g d 29 17 ls (.int x :: .ref a :: st) h P = z_aL h.1 a z_tI x (fun v => z_T g d 29 18 ls (.int v :: st) h P) := zt_iaload zi_29_17
theorem zi_29_18 : z_ins 29 18 = some (.iconst 1, 1) := by decide +kernel
theorem ze_29_18 : z_T g d 29 18 ls st h P = z_T g d 29 19 ls (.int (nI 1) :: st) h P := zt_iconst zi_29_18 rfl
theorem zi_29_19 : z_ins 29 19 = some (.iload_n 3, 1) := by decide +kernel
theorem ze_29_19 : z_T g d 29 19 (v0 :: v1 :: v2 :: .int x :: ls) st h P = z_T g d 29 20 (v0 :: v1 :: v2 :: .int x :: ls) (.int x :: st) h P := zt_iloadn zi_29_19 rfl rfl
theorem zi_29_20 : z_ins 29 20 = some (.ishl, 1) := by decide +kernel
theorem ze_29_20 : z_T g d 29 20 ls (.int y :: .int x :: st) h P = z_T g d 29 21 ls (.int (x <<< (y &&& 31)) :: st) h P := zt_bin (f := fun x y => x <<< (y &&& 31)) zi_29_20 rfl (fun _ _ _ => rfl)
theorem zi_29_21 : z_ins 29 21 = some (.ior, 1) := by decide +kernel
theorem ze_29_21 : z_T g d 29 21 ls (.int y :: .int x :: st) h P = z_T g d 29 22 ls (.int (x ||| y) :: st) h P := zt_bin (f := fun x y => x ||| y) zi_29_21 rfl (fun _ _ _ => rfl)
theorem zi_29_22 : z_ins 29 22 = some (.iastore, 1) := by decide +kernel
theorem ze_29_22 : z_T g d 29 22 ls (.int y :: .int x :: .ref a :: st) h P = z_aS h.1 a z_tI x y (fun f => z_T g d 29 23 ls st (f, h.2) P) := zt_iastore zi_29_22
theorem zi_29_23 : z_ins 29 23 = some (.aload_n 0, 1) := by decide +kernel
theorem ze_29_23 : z_T g d 29 23 (.ref a :: ls) st h P = z_T g d 29 24 (.ref a :: ls) (.ref a :: st) h P := zt_aloadn zi_29_23 rfl rfl
theorem zi_29_24 : z_ins 29 24 = some (.getfield 25, 3) := by decide +kernel
theorem ze_29_24 : z_T g d 29 24 ls (.ref a :: st) h P = z_gR h.1 a 3 4 (fun x => z_T g d 29 27 ls (x :: st) h P) := zt_getR zi_29_24 ((congrArg (fun o => z_fl o 25) zo_29).trans zf_LatinRectangles_Grid_25)
theorem zi_29_27 : z_ins 29 27 = some (.iload_n 2, 1) := by decide +kernel
theorem ze_29_27 : z_T g d 29 27 (v0 :: v1 :: .int x :: ls) st h P = z_T g d 29 28 (v0 :: v1 :: .int x :: ls) (.int x :: st) h P := zt_iloadn zi_29_27 rfl rfl
theorem zi_29_28 : z_ins 29 28 = some (.dup2, 1) := by decide +kernel
theorem ze_29_28 : z_T g d 29 28 ls (.int x :: .ref a :: st) h P = z_T g d 29 29 ls (.int x :: .ref a :: .int x :: .ref a :: st) h P := zt_dup2 ⟨rfl, rfl⟩ zi_29_28
theorem zi_29_29 : z_ins 29 29 = some (.iaload, 1) := by decide +kernel
theorem ze_29_29 : z_T g d 29 29 ls (.int x :: .ref a :: st) h P = z_aL h.1 a z_tI x (fun v => z_T g d 29 30 ls (.int v :: st) h P) := zt_iaload zi_29_29
theorem zi_29_30 : z_ins 29 30 = some (.iconst 1, 1) := by decide +kernel
theorem ze_29_30 : z_T g d 29 30 ls st h P = z_T g d 29 31 ls (.int (nI 1) :: st) h P := zt_iconst zi_29_30 rfl
theorem zi_29_31 : z_ins 29 31 = some (.iload_n 3, 1) := by decide +kernel
theorem ze_29_31 : z_T g d 29 31 (v0 :: v1 :: v2 :: .int x :: ls) st h P = z_T g d 29 32 (v0 :: v1 :: v2 :: .int x :: ls) (.int x :: st) h P := zt_iloadn zi_29_31 rfl rfl
theorem zi_29_32 : z_ins 29 32 = some (.ishl, 1) := by decide +kernel
theorem ze_29_32 : z_T g d 29 32 ls (.int y :: .int x :: st) h P = z_T g d 29 33 ls (.int (x <<< (y &&& 31)) :: st) h P := zt_bin (f := fun x y => x <<< (y &&& 31)) zi_29_32 rfl (fun _ _ _ => rfl)
theorem zi_29_33 : z_ins 29 33 = some (.ior, 1) := by decide +kernel
theorem ze_29_33 : z_T g d 29 33 ls (.int y :: .int x :: st) h P = z_T g d 29 34 ls (.int (x ||| y) :: st) h P := zt_bin (f := fun x y => x ||| y) zi_29_33 rfl (fun _ _ _ => rfl)
theorem zi_29_34 : z_ins 29 34 = some (.iastore, 1) := by decide +kernel
theorem ze_29_34 : z_T g d 29 34 ls (.int y :: .int x :: .ref a :: st) h P = z_aS h.1 a z_tI x y (fun f => z_T g d 29 35 ls st (f, h.2) P) := zt_iastore zi_29_34
theorem zi_29_35 : z_ins 29 35 = some (.aload_n 0, 1) := by decide +kernel
theorem ze_29_35 : z_T g d 29 35 (.ref a :: ls) st h P = z_T g d 29 36 (.ref a :: ls) (.ref a :: st) h P := zt_aloadn zi_29_35 rfl rfl
theorem zi_29_36 : z_ins 29 36 = some (.dup, 1) := by decide +kernel
theorem ze_29_36 : z_T g d 29 36 ls (.ref a :: st) h P = z_T g d 29 37 ls (.ref a :: .ref a :: st) h P := zt_dup rfl zi_29_36
theorem ze_29_36_i : z_T g d 29 36 ls (.int x :: st) h P = z_T g d 29 37 ls (.int x :: .int x :: st) h P := zt_dup rfl zi_29_36
theorem zi_29_37 : z_ins 29 37 = some (.getfield 48, 3) := by decide +kernel
theorem ze_29_37 : z_T g d 29 37 ls (.ref a :: st) h P = z_gI h.1 a 3 7 (fun x => z_T g d 29 40 ls (.int x :: st) h P) := zt_getI zi_29_37 ((congrArg (fun o => z_fl o 48) zo_29).trans zf_LatinRectangles_Grid_48)
theorem zi_29_40 : z_ins 29 40 = some (.iconst 1, 1) := by decide +kernel
theorem ze_29_40 : z_T g d 29 40 ls st h P = z_T g d 29 41 ls (.int (nI 1) :: st) h P := zt_iconst zi_29_40 rfl
theorem zi_29_41 : z_ins 29 41 = some (.iadd, 1) := by decide +kernel
theorem ze_29_41 : z_T g d 29 41 ls (.int y :: .int x :: st) h P = z_T g d 29 42 ls (.int (x + y) :: st) h P := zt_bin (f := fun x y => x + y) zi_29_41 rfl (fun _ _ _ => rfl)
theorem zi_29_42 : z_ins 29 42 = some (.putfield 48, 3) := by decide +kernel
theorem ze_29_42 : z_T g d 29 42 ls (.int x :: .ref a :: st) h P = z_pF h.1 a 3 7 (.int x) (fun f => z_T g d 29 45 ls st (f, h.2) P) := zt_put zi_29_42 ((congrArg (fun o => z_fl o 48) zo_29).trans zf_LatinRectangles_Grid_48) (by decide +kernel) rfl rfl
theorem zi_29_45 : z_ins 29 45 = some (.return_, 1) := by decide +kernel
theorem ze_29_45 : z_T g d 29 45 ls [] h P = P (.inr none, h) := zt_return zi_29_45 zr_29
-- LatinRectangles$Grid.take(II)V
theorem zm_30 : z_maxL 30 = 4 := by decide +kernel
theorem zh_30 : z_hds 30 = [] := by decide +kernel
theorem zj_30 : z_jdk 30 = false := by decide +kernel
theorem zr_30 : z_rt 30 = none := by decide +kernel
theorem zn_30 : z_Ca g d 30 [.ref a0, .int x1, .int x2] h P = z_T g d 30 0 [.ref a0, .int x1, .int x2, z_un] [] h P := z_Ca_ent zm_30 rfl rfl
theorem zi_30_0 : z_ins 30 0 = some (.aload_n 0, 1) := by decide +kernel
theorem ze_30_0 : z_T g d 30 0 (.ref a :: ls) st h P = z_T g d 30 1 (.ref a :: ls) (.ref a :: st) h P := zt_aloadn zi_30_0 rfl rfl
theorem zi_30_1 : z_ins 30 1 = some (.getfield 9, 3) := by decide +kernel
theorem ze_30_1 : z_T g d 30 1 ls (.ref a :: st) h P = z_gR h.1 a 3 0 (fun x => z_T g d 30 4 ls (x :: st) h P) := zt_getR zi_30_1 ((congrArg (fun o => z_fl o 9) zo_30).trans zf_LatinRectangles_Grid_9)
theorem zi_30_4 : z_ins 30 4 = some (.iload_n 1, 1) := by decide +kernel
theorem ze_30_4 : z_T g d 30 4 (v0 :: .int x :: ls) st h P = z_T g d 30 5 (v0 :: .int x :: ls) (.int x :: st) h P := zt_iloadn zi_30_4 rfl rfl
theorem zi_30_5 : z_ins 30 5 = some (.iconst 5, 1) := by decide +kernel
theorem ze_30_5 : z_T g d 30 5 ls st h P = z_T g d 30 6 ls (.int (nI 5) :: st) h P := zt_iconst zi_30_5 rfl
theorem zi_30_6 : z_ins 30 6 = some (.imul, 1) := by decide +kernel
theorem ze_30_6 : z_T g d 30 6 ls (.int y :: .int x :: st) h P = z_T g d 30 7 ls (.int (x * y) :: st) h P := zt_bin (f := fun x y => x * y) zi_30_6 rfl (fun _ _ _ => rfl)
theorem zi_30_7 : z_ins 30 7 = some (.iload_n 2, 1) := by decide +kernel
theorem ze_30_7 : z_T g d 30 7 (v0 :: v1 :: .int x :: ls) st h P = z_T g d 30 8 (v0 :: v1 :: .int x :: ls) (.int x :: st) h P := zt_iloadn zi_30_7 rfl rfl
theorem zi_30_8 : z_ins 30 8 = some (.iadd, 1) := by decide +kernel
theorem ze_30_8 : z_T g d 30 8 ls (.int y :: .int x :: st) h P = z_T g d 30 9 ls (.int (x + y) :: st) h P := zt_bin (f := fun x y => x + y) zi_30_8 rfl (fun _ _ _ => rfl)
theorem zi_30_9 : z_ins 30 9 = some (.iaload, 1) := by decide +kernel
theorem ze_30_9 : z_T g d 30 9 ls (.int x :: .ref a :: st) h P = z_aL h.1 a z_tI x (fun v => z_T g d 30 10 ls (.int v :: st) h P) := zt_iaload zi_30_9
theorem zi_30_10 : z_ins 30 10 = some (.istore_n 3, 1) := by decide +kernel
theorem ze_30_10 : z_T g d 30 10 (v0 :: v1 :: v2 :: v3 :: ls) (.int x :: st) h P = z_T g d 30 11 (v0 :: v1 :: v2 :: .int x :: ls) st h P := zt_istoren zi_30_10 rfl (Nat.le_add_left 4 _)
theorem zi_30_11 : z_ins 30 11 = some (.aload_n 0, 1) := by decide +kernel
theorem ze_30_11 : z_T g d 30 11 (.ref a :: ls) st h P = z_T g d 30 12 (.ref a :: ls) (.ref a :: st) h P := zt_aloadn zi_30_11 rfl rfl
theorem zi_30_12 : z_ins 30 12 = some (.getfield 9, 3) := by decide +kernel
theorem ze_30_12 : z_T g d 30 12 ls (.ref a :: st) h P = z_gR h.1 a 3 0 (fun x => z_T g d 30 15 ls (x :: st) h P) := zt_getR zi_30_12 ((congrArg (fun o => z_fl o 9) zo_30).trans zf_LatinRectangles_Grid_9)
theorem zi_30_15 : z_ins 30 15 = some (.iload_n 1, 1) := by decide +kernel
theorem ze_30_15 : z_T g d 30 15 (v0 :: .int x :: ls) st h P = z_T g d 30 16 (v0 :: .int x :: ls) (.int x :: st) h P := zt_iloadn zi_30_15 rfl rfl
theorem zi_30_16 : z_ins 30 16 = some (.iconst 5, 1) := by decide +kernel
theorem ze_30_16 : z_T g d 30 16 ls st h P = z_T g d 30 17 ls (.int (nI 5) :: st) h P := zt_iconst zi_30_16 rfl
theorem zi_30_17 : z_ins 30 17 = some (.imul, 1) := by decide +kernel
theorem ze_30_17 : z_T g d 30 17 ls (.int y :: .int x :: st) h P = z_T g d 30 18 ls (.int (x * y) :: st) h P := zt_bin (f := fun x y => x * y) zi_30_17 rfl (fun _ _ _ => rfl)
theorem zi_30_18 : z_ins 30 18 = some (.iload_n 2, 1) := by decide +kernel
theorem ze_30_18 : z_T g d 30 18 (v0 :: v1 :: .int x :: ls) st h P = z_T g d 30 19 (v0 :: v1 :: .int x :: ls) (.int x :: st) h P := zt_iloadn zi_30_18 rfl rfl
theorem zi_30_19 : z_ins 30 19 = some (.iadd, 1) := by decide +kernel
theorem ze_30_19 : z_T g d 30 19 ls (.int y :: .int x :: st) h P = z_T g d 30 20 ls (.int (x + y) :: st) h P := zt_bin (f := fun x y => x + y) zi_30_19 rfl (fun _ _ _ => rfl)
theorem zi_30_20 : z_ins 30 20 = some (.iconst (-1), 1) := by decide +kernel
theorem ze_30_20 : z_T g d 30 20 ls st h P = z_T g d 30 21 ls (.int (-1) :: st) h P := zt_iconst zi_30_20 rfl
theorem zi_30_21 : z_ins 30 21 = some (.iastore, 1) := by decide +kernel
theorem ze_30_21 : z_T g d 30 21 ls (.int y :: .int x :: .ref a :: st) h P = z_aS h.1 a z_tI x y (fun f => z_T g d 30 22 ls st (f, h.2) P) := zt_iastore zi_30_21
theorem zi_30_22 : z_ins 30 22 = some (.aload_n 0, 1) := by decide +kernel
theorem ze_30_22 : z_T g d 30 22 (.ref a :: ls) st h P = z_T g d 30 23 (.ref a :: ls) (.ref a :: st) h P := zt_aloadn zi_30_22 rfl rfl
theorem zi_30_23 : z_ins 30 23 = some (.getfield 22, 3) := by decide +kernel
theorem ze_30_23 : z_T g d 30 23 ls (.ref a :: st) h P = z_gR h.1 a 3 3 (fun x => z_T g d 30 26 ls (x :: st) h P) := zt_getR zi_30_23 ((congrArg (fun o => z_fl o 22) zo_30).trans zf_LatinRectangles_Grid_22)
theorem zi_30_26 : z_ins 30 26 = some (.iload_n 1, 1) := by decide +kernel
theorem ze_30_26 : z_T g d 30 26 (v0 :: .int x :: ls) st h P = z_T g d 30 27 (v0 :: .int x :: ls) (.int x :: st) h P := zt_iloadn zi_30_26 rfl rfl
theorem zi_30_27 : z_ins 30 27 = some (.dup2, 1) := by decide +kernel
theorem ze_30_27 : z_T g d 30 27 ls (.int x :: .ref a :: st) h P = z_T g d 30 28 ls (.int x :: .ref a :: .int x :: .ref a :: st) h P := zt_dup2 ⟨rfl, rfl⟩ zi_30_27
theorem zi_30_28 : z_ins 30 28 = some (.iaload, 1) := by decide +kernel
theorem ze_30_28 : z_T g d 30 28 ls (.int x :: .ref a :: st) h P = z_aL h.1 a z_tI x (fun v => z_T g d 30 29 ls (.int v :: st) h P) := zt_iaload zi_30_28
theorem zi_30_29 : z_ins 30 29 = some (.iconst 1, 1) := by decide +kernel
theorem ze_30_29 : z_T g d 30 29 ls st h P = z_T g d 30 30 ls (.int (nI 1) :: st) h P := zt_iconst zi_30_29 rfl
theorem zi_30_30 : z_ins 30 30 = some (.iload_n 3, 1) := by decide +kernel
theorem ze_30_30 : z_T g d 30 30 (v0 :: v1 :: v2 :: .int x :: ls) st h P = z_T g d 30 31 (v0 :: v1 :: v2 :: .int x :: ls) (.int x :: st) h P := zt_iloadn zi_30_30 rfl rfl
theorem zi_30_31 : z_ins 30 31 = some (.ishl, 1) := by decide +kernel
theorem ze_30_31 : z_T g d 30 31 ls (.int y :: .int x :: st) h P = z_T g d 30 32 ls (.int (x <<< (y &&& 31)) :: st) h P := zt_bin (f := fun x y => x <<< (y &&& 31)) zi_30_31 rfl (fun _ _ _ => rfl)
theorem zi_30_32 : z_ins 30 32 = some (.iconst (-1), 1) := by decide +kernel
theorem ze_30_32 : z_T g d 30 32 ls st h P = z_T g d 30 33 ls (.int (-1) :: st) h P := zt_iconst zi_30_32 rfl
theorem zi_30_33 : z_ins 30 33 = some (.ixor, 1) := by decide +kernel
theorem ze_30_33 : z_T g d 30 33 ls (.int y :: .int x :: st) h P = z_T g d 30 34 ls (.int (x ^^^ y) :: st) h P := zt_bin (f := fun x y => x ^^^ y) zi_30_33 rfl (fun _ _ _ => rfl)
theorem zi_30_34 : z_ins 30 34 = some (.iand, 1) := by decide +kernel
theorem ze_30_34 : z_T g d 30 34 ls (.int y :: .int x :: st) h P = z_T g d 30 35 ls (.int (x &&& y) :: st) h P := zt_bin (f := fun x y => x &&& y) zi_30_34 rfl (fun _ _ _ => rfl)
theorem zi_30_35 : z_ins 30 35 = some (.iastore, 1) := by decide +kernel
theorem ze_30_35 : z_T g d 30 35 ls (.int y :: .int x :: .ref a :: st) h P = z_aS h.1 a z_tI x y (fun f => z_T g d 30 36 ls st (f, h.2) P) := zt_iastore zi_30_35
theorem zi_30_36 : z_ins 30 36 = some (.aload_n 0, 1) := by decide +kernel
theorem ze_30_36 : z_T g d 30 36 (.ref a :: ls) st h P = z_T g d 30 37 (.ref a :: ls) (.ref a :: st) h P := zt_aloadn zi_30_36 rfl rfl
theorem zi_30_37 : z_ins 30 37 = some (.getfield 25, 3) := by decide +kernel
theorem ze_30_37 : z_T g d 30 37 ls (.ref a :: st) h P = z_gR h.1 a 3 4 (fun x => z_T g d 30 40 ls (x :: st) h P) := zt_getR zi_30_37 ((congrArg (fun o => z_fl o 25) zo_30).trans zf_LatinRectangles_Grid_25)
theorem zi_30_40 : z_ins 30 40 = some (.iload_n 2, 1) := by decide +kernel
theorem ze_30_40 : z_T g d 30 40 (v0 :: v1 :: .int x :: ls) st h P = z_T g d 30 41 (v0 :: v1 :: .int x :: ls) (.int x :: st) h P := zt_iloadn zi_30_40 rfl rfl
theorem zi_30_41 : z_ins 30 41 = some (.dup2, 1) := by decide +kernel
theorem ze_30_41 : z_T g d 30 41 ls (.int x :: .ref a :: st) h P = z_T g d 30 42 ls (.int x :: .ref a :: .int x :: .ref a :: st) h P := zt_dup2 ⟨rfl, rfl⟩ zi_30_41
theorem zi_30_42 : z_ins 30 42 = some (.iaload, 1) := by decide +kernel
theorem ze_30_42 : z_T g d 30 42 ls (.int x :: .ref a :: st) h P = z_aL h.1 a z_tI x (fun v => z_T g d 30 43 ls (.int v :: st) h P) := zt_iaload zi_30_42
theorem zi_30_43 : z_ins 30 43 = some (.iconst 1, 1) := by decide +kernel
theorem ze_30_43 : z_T g d 30 43 ls st h P = z_T g d 30 44 ls (.int (nI 1) :: st) h P := zt_iconst zi_30_43 rfl
theorem zi_30_44 : z_ins 30 44 = some (.iload_n 3, 1) := by decide +kernel
theorem ze_30_44 : z_T g d 30 44 (v0 :: v1 :: v2 :: .int x :: ls) st h P = z_T g d 30 45 (v0 :: v1 :: v2 :: .int x :: ls) (.int x :: st) h P := zt_iloadn zi_30_44 rfl rfl
theorem zi_30_45 : z_ins 30 45 = some (.ishl, 1) := by decide +kernel
theorem ze_30_45 : z_T g d 30 45 ls (.int y :: .int x :: st) h P = z_T g d 30 46 ls (.int (x <<< (y &&& 31)) :: st) h P := zt_bin (f := fun x y => x <<< (y &&& 31)) zi_30_45 rfl (fun _ _ _ => rfl)
theorem zi_30_46 : z_ins 30 46 = some (.iconst (-1), 1) := by decide +kernel
theorem ze_30_46 : z_T g d 30 46 ls st h P = z_T g d 30 47 ls (.int (-1) :: st) h P := zt_iconst zi_30_46 rfl
theorem zi_30_47 : z_ins 30 47 = some (.ixor, 1) := by decide +kernel
theorem ze_30_47 : z_T g d 30 47 ls (.int y :: .int x :: st) h P = z_T g d 30 48 ls (.int (x ^^^ y) :: st) h P := zt_bin (f := fun x y => x ^^^ y) zi_30_47 rfl (fun _ _ _ => rfl)
theorem zi_30_48 : z_ins 30 48 = some (.iand, 1) := by decide +kernel
theorem ze_30_48 : z_T g d 30 48 ls (.int y :: .int x :: st) h P = z_T g d 30 49 ls (.int (x &&& y) :: st) h P := zt_bin (f := fun x y => x &&& y) zi_30_48 rfl (fun _ _ _ => rfl)
theorem zi_30_49 : z_ins 30 49 = some (.iastore, 1) := by decide +kernel
theorem ze_30_49 : z_T g d 30 49 ls (.int y :: .int x :: .ref a :: st) h P = z_aS h.1 a z_tI x y (fun f => z_T g d 30 50 ls st (f, h.2) P) := zt_iastore zi_30_49
theorem zi_30_50 : z_ins 30 50 = some (.aload_n 0, 1) := by decide +kernel
theorem ze_30_50 : z_T g d 30 50 (.ref a :: ls) st h P = z_T g d 30 51 (.ref a :: ls) (.ref a :: st) h P := zt_aloadn zi_30_50 rfl rfl
theorem zi_30_51 : z_ins 30 51 = some (.dup, 1) := by decide +kernel
theorem ze_30_51 : z_T g d 30 51 ls (.ref a :: st) h P = z_T g d 30 52 ls (.ref a :: .ref a :: st) h P := zt_dup rfl zi_30_51
theorem ze_30_51_i : z_T g d 30 51 ls (.int x :: st) h P = z_T g d 30 52 ls (.int x :: .int x :: st) h P := zt_dup rfl zi_30_51
theorem zi_30_52 : z_ins 30 52 = some (.getfield 48, 3) := by decide +kernel
theorem ze_30_52 : z_T g d 30 52 ls (.ref a :: st) h P = z_gI h.1 a 3 7 (fun x => z_T g d 30 55 ls (.int x :: st) h P) := zt_getI zi_30_52 ((congrArg (fun o => z_fl o 48) zo_30).trans zf_LatinRectangles_Grid_48)
theorem zi_30_55 : z_ins 30 55 = some (.iconst 1, 1) := by decide +kernel
theorem ze_30_55 : z_T g d 30 55 ls st h P = z_T g d 30 56 ls (.int (nI 1) :: st) h P := zt_iconst zi_30_55 rfl
theorem zi_30_56 : z_ins 30 56 = some (.isub, 1) := by decide +kernel
theorem ze_30_56 : z_T g d 30 56 ls (.int y :: .int x :: st) h P = z_T g d 30 57 ls (.int (x - y) :: st) h P := zt_bin (f := fun x y => x - y) zi_30_56 rfl (fun _ _ _ => rfl)
theorem zi_30_57 : z_ins 30 57 = some (.putfield 48, 3) := by decide +kernel
theorem ze_30_57 : z_T g d 30 57 ls (.int x :: .ref a :: st) h P = z_pF h.1 a 3 7 (.int x) (fun f => z_T g d 30 60 ls st (f, h.2) P) := zt_put zi_30_57 ((congrArg (fun o => z_fl o 48) zo_30).trans zf_LatinRectangles_Grid_48) (by decide +kernel) rfl rfl
theorem zi_30_60 : z_ins 30 60 = some (.return_, 1) := by decide +kernel
theorem ze_30_60 : z_T g d 30 60 ls [] h P = P (.inr none, h) := zt_return zi_30_60 zr_30
-- LatinRectangles$Grid.give(III)V
theorem zm_31 : z_maxL 31 = 4 := by decide +kernel
theorem zh_31 : z_hds 31 = [] := by decide +kernel
theorem zj_31 : z_jdk 31 = false := by decide +kernel
theorem zr_31 : z_rt 31 = none := by decide +kernel
theorem zn_31 : z_Ca g d 31 [.ref a0, .int x1, .int x2, .int x3] h P = z_T g d 31 0 [.ref a0, .int x1, .int x2, .int x3] [] h P := z_Ca_ent zm_31 rfl rfl
theorem zi_31_0 : z_ins 31 0 = some (.aload_n 0, 1) := by decide +kernel
theorem ze_31_0 : z_T g d 31 0 (.ref a :: ls) st h P = z_T g d 31 1 (.ref a :: ls) (.ref a :: st) h P := zt_aloadn zi_31_0 rfl rfl
theorem zi_31_1 : z_ins 31 1 = some (.iload_n 1, 1) := by decide +kernel
theorem ze_31_1 : z_T g d 31 1 (v0 :: .int x :: ls) st h P = z_T g d 31 2 (v0 :: .int x :: ls) (.int x :: st) h P := zt_iloadn zi_31_1 rfl rfl
theorem zi_31_2 : z_ins 31 2 = some (.iload_n 2, 1) := by decide +kernel
theorem ze_31_2 : z_T g d 31 2 (v0 :: v1 :: .int x :: ls) st h P = z_T g d 31 3 (v0 :: v1 :: .int x :: ls) (.int x :: st) h P := zt_iloadn zi_31_2 rfl rfl
theorem zi_31_3 : z_ins 31 3 = some (.iload_n 3, 1) := by decide +kernel
theorem ze_31_3 : z_T g d 31 3 (v0 :: v1 :: v2 :: .int x :: ls) st h P = z_T g d 31 4 (v0 :: v1 :: v2 :: .int x :: ls) (.int x :: st) h P := zt_iloadn zi_31_3 rfl rfl
theorem zi_31_4 : z_ins 31 4 = some (.invokevirtual 55, 3) := by decide +kernel
theorem ze_31_4 : z_T g d 31 4 ls (.int x2 :: .int x1 :: .int x0 :: .ref a :: st) h P = ((z_okS 8 st = true ∧ z_gO h.1 a 3 ∧ 0 < d) ∧ z_Ca g (d - 1) 29 [.ref a, .int x0, .int x1, .int x2] h (fun r => z_k r (fun v h' => z_T g d 31 7 ls (z_push v st) h' P) P)) := zt_cV (as := [.int x0, .int x1, .int x2]) (kk := 0) zi_31_4 rfl (zt_call zj_31 zh_31) (z_opV ((congrArg (fun o => z_lookup z_cns (o, 55)) zo_31).trans zq_cns_LatinRectangles_Grid_55) ((congrArg (fun o => z_lookup z_prs (o, 55)) zo_31).trans zq_prs_LatinRectangles_Grid_55)) ((congrArg (fun o => z_clk o 55) zo_31).trans zk_LatinRectangles_Grid_55) rfl rfl rfl rfl (z_rcv0 zc_29)
theorem zi_31_7 : z_ins 31 7 = some (.aload_n 0, 1) := by decide +kernel
theorem ze_31_7 : z_T g d 31 7 (.ref a :: ls) st h P = z_T g d 31 8 (.ref a :: ls) (.ref a :: st) h P := zt_aloadn zi_31_7 rfl rfl
theorem zi_31_8 : z_ins 31 8 = some (.getfield 15, 3) := by decide +kernel
theorem ze_31_8 : z_T g d 31 8 ls (.ref a :: st) h P = z_gR h.1 a 3 1 (fun x => z_T g d 31 11 ls (x :: st) h P) := zt_getR zi_31_8 ((congrArg (fun o => z_fl o 15) zo_31).trans zf_LatinRectangles_Grid_15)
theorem zi_31_11 : z_ins 31 11 = some (.iload_n 1, 1) := by decide +kernel
theorem ze_31_11 : z_T g d 31 11 (v0 :: .int x :: ls) st h P = z_T g d 31 12 (v0 :: .int x :: ls) (.int x :: st) h P := zt_iloadn zi_31_11 rfl rfl
theorem zi_31_12 : z_ins 31 12 = some (.iconst 5, 1) := by decide +kernel
theorem ze_31_12 : z_T g d 31 12 ls st h P = z_T g d 31 13 ls (.int (nI 5) :: st) h P := zt_iconst zi_31_12 rfl
theorem zi_31_13 : z_ins 31 13 = some (.imul, 1) := by decide +kernel
theorem ze_31_13 : z_T g d 31 13 ls (.int y :: .int x :: st) h P = z_T g d 31 14 ls (.int (x * y) :: st) h P := zt_bin (f := fun x y => x * y) zi_31_13 rfl (fun _ _ _ => rfl)
theorem zi_31_14 : z_ins 31 14 = some (.iload_n 2, 1) := by decide +kernel
theorem ze_31_14 : z_T g d 31 14 (v0 :: v1 :: .int x :: ls) st h P = z_T g d 31 15 (v0 :: v1 :: .int x :: ls) (.int x :: st) h P := zt_iloadn zi_31_14 rfl rfl
theorem zi_31_15 : z_ins 31 15 = some (.iadd, 1) := by decide +kernel
theorem ze_31_15 : z_T g d 31 15 ls (.int y :: .int x :: st) h P = z_T g d 31 16 ls (.int (x + y) :: st) h P := zt_bin (f := fun x y => x + y) zi_31_15 rfl (fun _ _ _ => rfl)
theorem zi_31_16 : z_ins 31 16 = some (.iconst 1, 1) := by decide +kernel
theorem ze_31_16 : z_T g d 31 16 ls st h P = z_T g d 31 17 ls (.int (nI 1) :: st) h P := zt_iconst zi_31_16 rfl
theorem zi_31_17 : z_ins 31 17 = some (.bastore, 1) := by decide +kernel
theorem ze_31_17 : z_T g d 31 17 ls (.int y :: .int x :: .ref a :: st) h P = z_aS h.1 a z_tB x y (fun f => z_T g d 31 18 ls st (f, h.2) P) := zt_bastore zi_31_17
theorem zi_31_18 : z_ins 31 18 = some (.aload_n 0, 1) := by decide +kernel
theorem ze_31_18 : z_T g d 31 18 (.ref a :: ls) st h P = z_T g d 31 19 (.ref a :: ls) (.ref a :: st) h P := zt_aloadn zi_31_18 rfl rfl
theorem zi_31_19 : z_ins 31 19 = some (.dup, 1) := by decide +kernel
theorem ze_31_19 : z_T g d 31 19 ls (.ref a :: st) h P = z_T g d 31 20 ls (.ref a :: .ref a :: st) h P := zt_dup rfl zi_31_19
theorem ze_31_19_i : z_T g d 31 19 ls (.int x :: st) h P = z_T g d 31 20 ls (.int x :: .int x :: st) h P := zt_dup rfl zi_31_19
theorem zi_31_20 : z_ins 31 20 = some (.getfield 39, 3) := by decide +kernel
theorem ze_31_20 : z_T g d 31 20 ls (.ref a :: st) h P = z_gI h.1 a 3 8 (fun x => z_T g d 31 23 ls (.int x :: st) h P) := zt_getI zi_31_20 ((congrArg (fun o => z_fl o 39) zo_31).trans zf_LatinRectangles_Grid_39)
theorem zi_31_23 : z_ins 31 23 = some (.iconst 1, 1) := by decide +kernel
theorem ze_31_23 : z_T g d 31 23 ls st h P = z_T g d 31 24 ls (.int (nI 1) :: st) h P := zt_iconst zi_31_23 rfl
theorem zi_31_24 : z_ins 31 24 = some (.iadd, 1) := by decide +kernel
theorem ze_31_24 : z_T g d 31 24 ls (.int y :: .int x :: st) h P = z_T g d 31 25 ls (.int (x + y) :: st) h P := zt_bin (f := fun x y => x + y) zi_31_24 rfl (fun _ _ _ => rfl)
theorem zi_31_25 : z_ins 31 25 = some (.putfield 39, 3) := by decide +kernel
theorem ze_31_25 : z_T g d 31 25 ls (.int x :: .ref a :: st) h P = z_pF h.1 a 3 8 (.int x) (fun f => z_T g d 31 28 ls st (f, h.2) P) := zt_put zi_31_25 ((congrArg (fun o => z_fl o 39) zo_31).trans zf_LatinRectangles_Grid_39) (by decide +kernel) rfl rfl
theorem zi_31_28 : z_ins 31 28 = some (.return_, 1) := by decide +kernel
theorem ze_31_28 : z_T g d 31 28 ls [] h P = P (.inr none, h) := zt_return zi_31_28 zr_31
-- LatinRectangles$Grid.forbid(II)V
theorem zm_32 : z_maxL 32 = 3 := by decide +kernel
theorem zh_32 : z_hds 32 = [] := by decide +kernel
theorem zj_32 : z_jdk 32 = false := by decide +kernel
theorem zr_32 : z_rt 32 = none := by decide +kernel
theorem zn_32 : z_Ca g d 32 [.ref a0, .int x1, .int x2] h P = z_T g d 32 0 [.ref a0, .int x1, .int x2] [] h P := z_Ca_ent zm_32 rfl rfl
theorem zi_32_0 : z_ins 32 0 = some (.aload_n 0, 1) := by decide +kernel
theorem ze_32_0 : z_T g d 32 0 (.ref a :: ls) st h P = z_T g d 32 1 (.ref a :: ls) (.ref a :: st) h P := zt_aloadn zi_32_0 rfl rfl
theorem zi_32_1 : z_ins 32 1 = some (.getfield 19, 3) := by decide +kernel
theorem ze_32_1 : z_T g d 32 1 ls (.ref a :: st) h P = z_gR h.1 a 3 2 (fun x => z_T g d 32 4 ls (x :: st) h P) := zt_getR zi_32_1 ((congrArg (fun o => z_fl o 19) zo_32).trans zf_LatinRectangles_Grid_19)
theorem zi_32_4 : z_ins 32 4 = some (.iload_n 1, 1) := by decide +kernel
theorem ze_32_4 : z_T g d 32 4 (v0 :: .int x :: ls) st h P = z_T g d 32 5 (v0 :: .int x :: ls) (.int x :: st) h P := zt_iloadn zi_32_4 rfl rfl
theorem zi_32_5 : z_ins 32 5 = some (.dup2, 1) := by decide +kernel
theorem ze_32_5 : z_T g d 32 5 ls (.int x :: .ref a :: st) h P = z_T g d 32 6 ls (.int x :: .ref a :: .int x :: .ref a :: st) h P := zt_dup2 ⟨rfl, rfl⟩ zi_32_5
theorem zi_32_6 : z_ins 32 6 = some (.iaload, 1) := by decide +kernel
theorem ze_32_6 : z_T g d 32 6 ls (.int x :: .ref a :: st) h P = z_aL h.1 a z_tI x (fun v => z_T g d 32 7 ls (.int v :: st) h P) := zt_iaload zi_32_6
theorem zi_32_7 : z_ins 32 7 = some (.iconst 1, 1) := by decide +kernel
theorem ze_32_7 : z_T g d 32 7 ls st h P = z_T g d 32 8 ls (.int (nI 1) :: st) h P := zt_iconst zi_32_7 rfl
theorem zi_32_8 : z_ins 32 8 = some (.iload_n 2, 1) := by decide +kernel
theorem ze_32_8 : z_T g d 32 8 (v0 :: v1 :: .int x :: ls) st h P = z_T g d 32 9 (v0 :: v1 :: .int x :: ls) (.int x :: st) h P := zt_iloadn zi_32_8 rfl rfl
theorem zi_32_9 : z_ins 32 9 = some (.ishl, 1) := by decide +kernel
theorem ze_32_9 : z_T g d 32 9 ls (.int y :: .int x :: st) h P = z_T g d 32 10 ls (.int (x <<< (y &&& 31)) :: st) h P := zt_bin (f := fun x y => x <<< (y &&& 31)) zi_32_9 rfl (fun _ _ _ => rfl)
theorem zi_32_10 : z_ins 32 10 = some (.ior, 1) := by decide +kernel
theorem ze_32_10 : z_T g d 32 10 ls (.int y :: .int x :: st) h P = z_T g d 32 11 ls (.int (x ||| y) :: st) h P := zt_bin (f := fun x y => x ||| y) zi_32_10 rfl (fun _ _ _ => rfl)
theorem zi_32_11 : z_ins 32 11 = some (.iastore, 1) := by decide +kernel
theorem ze_32_11 : z_T g d 32 11 ls (.int y :: .int x :: .ref a :: st) h P = z_aS h.1 a z_tI x y (fun f => z_T g d 32 12 ls st (f, h.2) P) := zt_iastore zi_32_11
theorem zi_32_12 : z_ins 32 12 = some (.aload_n 0, 1) := by decide +kernel
theorem ze_32_12 : z_T g d 32 12 (.ref a :: ls) st h P = z_T g d 32 13 (.ref a :: ls) (.ref a :: st) h P := zt_aloadn zi_32_12 rfl rfl
theorem zi_32_13 : z_ins 32 13 = some (.dup, 1) := by decide +kernel
theorem ze_32_13 : z_T g d 32 13 ls (.ref a :: st) h P = z_T g d 32 14 ls (.ref a :: .ref a :: st) h P := zt_dup rfl zi_32_13
theorem ze_32_13_i : z_T g d 32 13 ls (.int x :: st) h P = z_T g d 32 14 ls (.int x :: .int x :: st) h P := zt_dup rfl zi_32_13
theorem zi_32_14 : z_ins 32 14 = some (.getfield 42, 3) := by decide +kernel
theorem ze_32_14 : z_T g d 32 14 ls (.ref a :: st) h P = z_gI h.1 a 3 9 (fun x => z_T g d 32 17 ls (.int x :: st) h P) := zt_getI zi_32_14 ((congrArg (fun o => z_fl o 42) zo_32).trans zf_LatinRectangles_Grid_42)
theorem zi_32_17 : z_ins 32 17 = some (.iconst 1, 1) := by decide +kernel
theorem ze_32_17 : z_T g d 32 17 ls st h P = z_T g d 32 18 ls (.int (nI 1) :: st) h P := zt_iconst zi_32_17 rfl
theorem zi_32_18 : z_ins 32 18 = some (.iadd, 1) := by decide +kernel
theorem ze_32_18 : z_T g d 32 18 ls (.int y :: .int x :: st) h P = z_T g d 32 19 ls (.int (x + y) :: st) h P := zt_bin (f := fun x y => x + y) zi_32_18 rfl (fun _ _ _ => rfl)
theorem zi_32_19 : z_ins 32 19 = some (.putfield 42, 3) := by decide +kernel
theorem ze_32_19 : z_T g d 32 19 ls (.int x :: .ref a :: st) h P = z_pF h.1 a 3 9 (.int x) (fun f => z_T g d 32 22 ls st (f, h.2) P) := zt_put zi_32_19 ((congrArg (fun o => z_fl o 42) zo_32).trans zf_LatinRectangles_Grid_42) (by decide +kernel) rfl rfl
theorem zi_32_22 : z_ins 32 22 = some (.return_, 1) := by decide +kernel
theorem ze_32_22 : z_T g d 32 22 ls [] h P = P (.inr none, h) := zt_return zi_32_22 zr_32
-- LatinRectangles$Grid.isForbidden(II)Z
theorem zm_33 : z_maxL 33 = 3 := by decide +kernel
theorem zh_33 : z_hds 33 = [] := by decide +kernel
theorem zj_33 : z_jdk 33 = false := by decide +kernel
theorem zr_33 : z_rt 33 = (some .boolean) := by decide +kernel
theorem zn_33 : z_Ca g d 33 [.ref a0, .int x1, .int x2] h P = z_T g d 33 0 [.ref a0, .int x1, .int x2] [] h P := z_Ca_ent zm_33 rfl rfl
theorem zi_33_0 : z_ins 33 0 = some (.aload_n 0, 1) := by decide +kernel
theorem ze_33_0 : z_T g d 33 0 (.ref a :: ls) st h P = z_T g d 33 1 (.ref a :: ls) (.ref a :: st) h P := zt_aloadn zi_33_0 rfl rfl
theorem zi_33_1 : z_ins 33 1 = some (.getfield 19, 3) := by decide +kernel
theorem ze_33_1 : z_T g d 33 1 ls (.ref a :: st) h P = z_gR h.1 a 3 2 (fun x => z_T g d 33 4 ls (x :: st) h P) := zt_getR zi_33_1 ((congrArg (fun o => z_fl o 19) zo_33).trans zf_LatinRectangles_Grid_19)
theorem zi_33_4 : z_ins 33 4 = some (.iload_n 1, 1) := by decide +kernel
theorem ze_33_4 : z_T g d 33 4 (v0 :: .int x :: ls) st h P = z_T g d 33 5 (v0 :: .int x :: ls) (.int x :: st) h P := zt_iloadn zi_33_4 rfl rfl
theorem zi_33_5 : z_ins 33 5 = some (.iaload, 1) := by decide +kernel
theorem ze_33_5 : z_T g d 33 5 ls (.int x :: .ref a :: st) h P = z_aL h.1 a z_tI x (fun v => z_T g d 33 6 ls (.int v :: st) h P) := zt_iaload zi_33_5
theorem zi_33_6 : z_ins 33 6 = some (.iload_n 2, 1) := by decide +kernel
theorem ze_33_6 : z_T g d 33 6 (v0 :: v1 :: .int x :: ls) st h P = z_T g d 33 7 (v0 :: v1 :: .int x :: ls) (.int x :: st) h P := zt_iloadn zi_33_6 rfl rfl
theorem zi_33_7 : z_ins 33 7 = some (.ishr, 1) := by decide +kernel
theorem ze_33_7 : z_T g d 33 7 ls (.int y :: .int x :: st) h P = z_T g d 33 8 ls (.int (x >>> (y &&& 31)) :: st) h P := zt_bin (f := fun x y => x >>> (y &&& 31)) zi_33_7 rfl (fun _ _ _ => rfl)
theorem zi_33_8 : z_ins 33 8 = some (.iconst 1, 1) := by decide +kernel
theorem ze_33_8 : z_T g d 33 8 ls st h P = z_T g d 33 9 ls (.int (nI 1) :: st) h P := zt_iconst zi_33_8 rfl
theorem zi_33_9 : z_ins 33 9 = some (.iand, 1) := by decide +kernel
theorem ze_33_9 : z_T g d 33 9 ls (.int y :: .int x :: st) h P = z_T g d 33 10 ls (.int (x &&& y) :: st) h P := zt_bin (f := fun x y => x &&& y) zi_33_9 rfl (fun _ _ _ => rfl)
theorem zi_33_10 : z_ins 33 10 = some (.ifCond .eq 7, 3) := by decide +kernel
theorem ze_33_10 : z_T g d 33 10 ls (.int x :: st) h P = (if x = nI 0 then z_T g d 33 17 ls st h P else z_T g d 33 13 ls st h P) := zt_ifeq zi_33_10 (by decide)
theorem zi_33_13 : z_ins 33 13 = some (.iconst 1, 1) := by decide +kernel
theorem ze_33_13 : z_T g d 33 13 ls st h P = z_T g d 33 14 ls (.int (nI 1) :: st) h P := zt_iconst zi_33_13 rfl
theorem zi_33_14 : z_ins 33 14 = some (.goto 4, 3) := by decide +kernel
theorem ze_33_14 : z_T g d 33 14 ls st h P = z_T g d 33 18 ls st h P := zt_goto zi_33_14 (by decide)
theorem zi_33_17 : z_ins 33 17 = some (.iconst 0, 1) := by decide +kernel
theorem ze_33_17 : z_T g d 33 17 ls st h P = z_T g d 33 18 ls (.int (nI 0) :: st) h P := zt_iconst zi_33_17 rfl
theorem zi_33_18 : z_ins 33 18 = some (.ireturn, 1) := by decide +kernel
theorem ze_33_18 : z_T g d 33 18 ls [.int x] h P = ((x = nI 0 ∨ x = nI 1) ∧ P (.inr (some (.int x)), h)) := zt_zreturn zi_33_18 zr_33
-- LatinRectangles$Grid.candidateBits(II)I
theorem zm_34 : z_maxL 34 = 4 := by decide +kernel
theorem zh_34 : z_hds 34 = [] := by decide +kernel
theorem zj_34 : z_jdk 34 = false := by decide +kernel
theorem zr_34 : z_rt 34 = (some .int) := by decide +kernel
theorem zn_34 : z_Ca g d 34 [.ref a0, .int x1, .int x2] h P = z_T g d 34 0 [.ref a0, .int x1, .int x2, z_un] [] h P := z_Ca_ent zm_34 rfl rfl
theorem zi_34_0 : z_ins 34 0 = some (.iload_n 1, 1) := by decide +kernel
theorem ze_34_0 : z_T g d 34 0 (v0 :: .int x :: ls) st h P = z_T g d 34 1 (v0 :: .int x :: ls) (.int x :: st) h P := zt_iloadn zi_34_0 rfl rfl
theorem zi_34_1 : z_ins 34 1 = some (.iconst 5, 1) := by decide +kernel
theorem ze_34_1 : z_T g d 34 1 ls st h P = z_T g d 34 2 ls (.int (nI 5) :: st) h P := zt_iconst zi_34_1 rfl
theorem zi_34_2 : z_ins 34 2 = some (.imul, 1) := by decide +kernel
theorem ze_34_2 : z_T g d 34 2 ls (.int y :: .int x :: st) h P = z_T g d 34 3 ls (.int (x * y) :: st) h P := zt_bin (f := fun x y => x * y) zi_34_2 rfl (fun _ _ _ => rfl)
theorem zi_34_3 : z_ins 34 3 = some (.iload_n 2, 1) := by decide +kernel
theorem ze_34_3 : z_T g d 34 3 (v0 :: v1 :: .int x :: ls) st h P = z_T g d 34 4 (v0 :: v1 :: .int x :: ls) (.int x :: st) h P := zt_iloadn zi_34_3 rfl rfl
theorem zi_34_4 : z_ins 34 4 = some (.iadd, 1) := by decide +kernel
theorem ze_34_4 : z_T g d 34 4 ls (.int y :: .int x :: st) h P = z_T g d 34 5 ls (.int (x + y) :: st) h P := zt_bin (f := fun x y => x + y) zi_34_4 rfl (fun _ _ _ => rfl)
theorem zi_34_5 : z_ins 34 5 = some (.istore_n 3, 1) := by decide +kernel
theorem ze_34_5 : z_T g d 34 5 (v0 :: v1 :: v2 :: v3 :: ls) (.int x :: st) h P = z_T g d 34 6 (v0 :: v1 :: v2 :: .int x :: ls) st h P := zt_istoren zi_34_5 rfl (Nat.le_add_left 4 _)
theorem zi_34_6 : z_ins 34 6 = some (.aload_n 0, 1) := by decide +kernel
theorem ze_34_6 : z_T g d 34 6 (.ref a :: ls) st h P = z_T g d 34 7 (.ref a :: ls) (.ref a :: st) h P := zt_aloadn zi_34_6 rfl rfl
theorem zi_34_7 : z_ins 34 7 = some (.getfield 9, 3) := by decide +kernel
theorem ze_34_7 : z_T g d 34 7 ls (.ref a :: st) h P = z_gR h.1 a 3 0 (fun x => z_T g d 34 10 ls (x :: st) h P) := zt_getR zi_34_7 ((congrArg (fun o => z_fl o 9) zo_34).trans zf_LatinRectangles_Grid_9)
theorem zi_34_10 : z_ins 34 10 = some (.iload_n 3, 1) := by decide +kernel
theorem ze_34_10 : z_T g d 34 10 (v0 :: v1 :: v2 :: .int x :: ls) st h P = z_T g d 34 11 (v0 :: v1 :: v2 :: .int x :: ls) (.int x :: st) h P := zt_iloadn zi_34_10 rfl rfl
theorem zi_34_11 : z_ins 34 11 = some (.iaload, 1) := by decide +kernel
theorem ze_34_11 : z_T g d 34 11 ls (.int x :: .ref a :: st) h P = z_aL h.1 a z_tI x (fun v => z_T g d 34 12 ls (.int v :: st) h P) := zt_iaload zi_34_11
theorem zi_34_12 : z_ins 34 12 = some (.iconst (-1), 1) := by decide +kernel
theorem ze_34_12 : z_T g d 34 12 ls st h P = z_T g d 34 13 ls (.int (-1) :: st) h P := zt_iconst zi_34_12 rfl
theorem zi_34_13 : z_ins 34 13 = some (.if_icmp .eq 5, 3) := by decide +kernel
theorem ze_34_13 : z_T g d 34 13 ls (.int y :: .int x :: st) h P = (if x = y then z_T g d 34 18 ls st h P else z_T g d 34 16 ls st h P) := zt_icmpeq zi_34_13 (by decide)
theorem zi_34_16 : z_ins 34 16 = some (.iconst 0, 1) := by decide +kernel
theorem ze_34_16 : z_T g d 34 16 ls st h P = z_T g d 34 17 ls (.int (nI 0) :: st) h P := zt_iconst zi_34_16 rfl
theorem zi_34_17 : z_ins 34 17 = some (.ireturn, 1) := by decide +kernel
theorem ze_34_17 : z_T g d 34 17 ls [.int x] h P = P (.inr (some (.int x)), h) := zt_ireturn zi_34_17 zr_34
theorem zi_34_18 : z_ins 34 18 = some (.iconst 1, 1) := by decide +kernel
theorem ze_34_18 : z_T g d 34 18 ls st h P = z_T g d 34 19 ls (.int (nI 1) :: st) h P := zt_iconst zi_34_18 rfl
theorem zi_34_19 : z_ins 34 19 = some (.aload_n 0, 1) := by decide +kernel
theorem ze_34_19 : z_T g d 34 19 (.ref a :: ls) st h P = z_T g d 34 20 (.ref a :: ls) (.ref a :: st) h P := zt_aloadn zi_34_19 rfl rfl
theorem zi_34_20 : z_ins 34 20 = some (.getfield 36, 3) := by decide +kernel
theorem ze_34_20 : z_T g d 34 20 ls (.ref a :: st) h P = z_gI h.1 a 3 6 (fun x => z_T g d 34 23 ls (.int x :: st) h P) := zt_getI zi_34_20 ((congrArg (fun o => z_fl o 36) zo_34).trans zf_LatinRectangles_Grid_36)
theorem zi_34_23 : z_ins 34 23 = some (.ishl, 1) := by decide +kernel
theorem ze_34_23 : z_T g d 34 23 ls (.int y :: .int x :: st) h P = z_T g d 34 24 ls (.int (x <<< (y &&& 31)) :: st) h P := zt_bin (f := fun x y => x <<< (y &&& 31)) zi_34_23 rfl (fun _ _ _ => rfl)
theorem zi_34_24 : z_ins 34 24 = some (.iconst 1, 1) := by decide +kernel
theorem ze_34_24 : z_T g d 34 24 ls st h P = z_T g d 34 25 ls (.int (nI 1) :: st) h P := zt_iconst zi_34_24 rfl
theorem zi_34_25 : z_ins 34 25 = some (.isub, 1) := by decide +kernel
theorem ze_34_25 : z_T g d 34 25 ls (.int y :: .int x :: st) h P = z_T g d 34 26 ls (.int (x - y) :: st) h P := zt_bin (f := fun x y => x - y) zi_34_25 rfl (fun _ _ _ => rfl)
theorem zi_34_26 : z_ins 34 26 = some (.aload_n 0, 1) := by decide +kernel
theorem ze_34_26 : z_T g d 34 26 (.ref a :: ls) st h P = z_T g d 34 27 (.ref a :: ls) (.ref a :: st) h P := zt_aloadn zi_34_26 rfl rfl
theorem zi_34_27 : z_ins 34 27 = some (.getfield 22, 3) := by decide +kernel
theorem ze_34_27 : z_T g d 34 27 ls (.ref a :: st) h P = z_gR h.1 a 3 3 (fun x => z_T g d 34 30 ls (x :: st) h P) := zt_getR zi_34_27 ((congrArg (fun o => z_fl o 22) zo_34).trans zf_LatinRectangles_Grid_22)
theorem zi_34_30 : z_ins 34 30 = some (.iload_n 1, 1) := by decide +kernel
theorem ze_34_30 : z_T g d 34 30 (v0 :: .int x :: ls) st h P = z_T g d 34 31 (v0 :: .int x :: ls) (.int x :: st) h P := zt_iloadn zi_34_30 rfl rfl
theorem zi_34_31 : z_ins 34 31 = some (.iaload, 1) := by decide +kernel
theorem ze_34_31 : z_T g d 34 31 ls (.int x :: .ref a :: st) h P = z_aL h.1 a z_tI x (fun v => z_T g d 34 32 ls (.int v :: st) h P) := zt_iaload zi_34_31
theorem zi_34_32 : z_ins 34 32 = some (.aload_n 0, 1) := by decide +kernel
theorem ze_34_32 : z_T g d 34 32 (.ref a :: ls) st h P = z_T g d 34 33 (.ref a :: ls) (.ref a :: st) h P := zt_aloadn zi_34_32 rfl rfl
theorem zi_34_33 : z_ins 34 33 = some (.getfield 25, 3) := by decide +kernel
theorem ze_34_33 : z_T g d 34 33 ls (.ref a :: st) h P = z_gR h.1 a 3 4 (fun x => z_T g d 34 36 ls (x :: st) h P) := zt_getR zi_34_33 ((congrArg (fun o => z_fl o 25) zo_34).trans zf_LatinRectangles_Grid_25)
theorem zi_34_36 : z_ins 34 36 = some (.iload_n 2, 1) := by decide +kernel
theorem ze_34_36 : z_T g d 34 36 (v0 :: v1 :: .int x :: ls) st h P = z_T g d 34 37 (v0 :: v1 :: .int x :: ls) (.int x :: st) h P := zt_iloadn zi_34_36 rfl rfl
theorem zi_34_37 : z_ins 34 37 = some (.iaload, 1) := by decide +kernel
theorem ze_34_37 : z_T g d 34 37 ls (.int x :: .ref a :: st) h P = z_aL h.1 a z_tI x (fun v => z_T g d 34 38 ls (.int v :: st) h P) := zt_iaload zi_34_37
theorem zi_34_38 : z_ins 34 38 = some (.ior, 1) := by decide +kernel
theorem ze_34_38 : z_T g d 34 38 ls (.int y :: .int x :: st) h P = z_T g d 34 39 ls (.int (x ||| y) :: st) h P := zt_bin (f := fun x y => x ||| y) zi_34_38 rfl (fun _ _ _ => rfl)
theorem zi_34_39 : z_ins 34 39 = some (.aload_n 0, 1) := by decide +kernel
theorem ze_34_39 : z_T g d 34 39 (.ref a :: ls) st h P = z_T g d 34 40 (.ref a :: ls) (.ref a :: st) h P := zt_aloadn zi_34_39 rfl rfl
theorem zi_34_40 : z_ins 34 40 = some (.getfield 19, 3) := by decide +kernel
theorem ze_34_40 : z_T g d 34 40 ls (.ref a :: st) h P = z_gR h.1 a 3 2 (fun x => z_T g d 34 43 ls (x :: st) h P) := zt_getR zi_34_40 ((congrArg (fun o => z_fl o 19) zo_34).trans zf_LatinRectangles_Grid_19)
theorem zi_34_43 : z_ins 34 43 = some (.iload_n 3, 1) := by decide +kernel
theorem ze_34_43 : z_T g d 34 43 (v0 :: v1 :: v2 :: .int x :: ls) st h P = z_T g d 34 44 (v0 :: v1 :: v2 :: .int x :: ls) (.int x :: st) h P := zt_iloadn zi_34_43 rfl rfl
theorem zi_34_44 : z_ins 34 44 = some (.iaload, 1) := by decide +kernel
theorem ze_34_44 : z_T g d 34 44 ls (.int x :: .ref a :: st) h P = z_aL h.1 a z_tI x (fun v => z_T g d 34 45 ls (.int v :: st) h P) := zt_iaload zi_34_44
theorem zi_34_45 : z_ins 34 45 = some (.ior, 1) := by decide +kernel
theorem ze_34_45 : z_T g d 34 45 ls (.int y :: .int x :: st) h P = z_T g d 34 46 ls (.int (x ||| y) :: st) h P := zt_bin (f := fun x y => x ||| y) zi_34_45 rfl (fun _ _ _ => rfl)
theorem zi_34_46 : z_ins 34 46 = some (.iconst (-1), 1) := by decide +kernel
theorem ze_34_46 : z_T g d 34 46 ls st h P = z_T g d 34 47 ls (.int (-1) :: st) h P := zt_iconst zi_34_46 rfl
theorem zi_34_47 : z_ins 34 47 = some (.ixor, 1) := by decide +kernel
theorem ze_34_47 : z_T g d 34 47 ls (.int y :: .int x :: st) h P = z_T g d 34 48 ls (.int (x ^^^ y) :: st) h P := zt_bin (f := fun x y => x ^^^ y) zi_34_47 rfl (fun _ _ _ => rfl)
theorem zi_34_48 : z_ins 34 48 = some (.iand, 1) := by decide +kernel
theorem ze_34_48 : z_T g d 34 48 ls (.int y :: .int x :: st) h P = z_T g d 34 49 ls (.int (x &&& y) :: st) h P := zt_bin (f := fun x y => x &&& y) zi_34_48 rfl (fun _ _ _ => rfl)
theorem zi_34_49 : z_ins 34 49 = some (.ireturn, 1) := by decide +kernel
theorem ze_34_49 : z_T g d 34 49 ls [.int x] h P = P (.inr (some (.int x)), h) := zt_ireturn zi_34_49 zr_34
-- LatinRectangles$Grid.isFullRow(I)Z
theorem zm_35 : z_maxL 35 = 2 := by decide +kernel
theorem zh_35 : z_hds 35 = [] := by decide +kernel
theorem zj_35 : z_jdk 35 = false := by decide +kernel
theorem zr_35 : z_rt 35 = (some .boolean) := by decide +kernel
theorem zn_35 : z_Ca g d 35 [.ref a0, .int x1] h P = z_T g d 35 0 [.ref a0, .int x1] [] h P := z_Ca_ent zm_35 rfl rfl
theorem zi_35_0 : z_ins 35 0 = some (.aload_n 0, 1) := by decide +kernel
theorem ze_35_0 : z_T g d 35 0 (.ref a :: ls) st h P = z_T g d 35 1 (.ref a :: ls) (.ref a :: st) h P := zt_aloadn zi_35_0 rfl rfl
theorem zi_35_1 : z_ins 35 1 = some (.getfield 22, 3) := by decide +kernel
theorem ze_35_1 : z_T g d 35 1 ls (.ref a :: st) h P = z_gR h.1 a 3 3 (fun x => z_T g d 35 4 ls (x :: st) h P) := zt_getR zi_35_1 ((congrArg (fun o => z_fl o 22) zo_35).trans zf_LatinRectangles_Grid_22)
theorem zi_35_4 : z_ins 35 4 = some (.iload_n 1, 1) := by decide +kernel
theorem ze_35_4 : z_T g d 35 4 (v0 :: .int x :: ls) st h P = z_T g d 35 5 (v0 :: .int x :: ls) (.int x :: st) h P := zt_iloadn zi_35_4 rfl rfl
theorem zi_35_5 : z_ins 35 5 = some (.iaload, 1) := by decide +kernel
theorem ze_35_5 : z_T g d 35 5 ls (.int x :: .ref a :: st) h P = z_aL h.1 a z_tI x (fun v => z_T g d 35 6 ls (.int v :: st) h P) := zt_iaload zi_35_5
theorem zi_35_6 : z_ins 35 6 = some (.iconst 1, 1) := by decide +kernel
theorem ze_35_6 : z_T g d 35 6 ls st h P = z_T g d 35 7 ls (.int (nI 1) :: st) h P := zt_iconst zi_35_6 rfl
theorem zi_35_7 : z_ins 35 7 = some (.aload_n 0, 1) := by decide +kernel
theorem ze_35_7 : z_T g d 35 7 (.ref a :: ls) st h P = z_T g d 35 8 (.ref a :: ls) (.ref a :: st) h P := zt_aloadn zi_35_7 rfl rfl
theorem zi_35_8 : z_ins 35 8 = some (.getfield 36, 3) := by decide +kernel
theorem ze_35_8 : z_T g d 35 8 ls (.ref a :: st) h P = z_gI h.1 a 3 6 (fun x => z_T g d 35 11 ls (.int x :: st) h P) := zt_getI zi_35_8 ((congrArg (fun o => z_fl o 36) zo_35).trans zf_LatinRectangles_Grid_36)
theorem zi_35_11 : z_ins 35 11 = some (.ishl, 1) := by decide +kernel
theorem ze_35_11 : z_T g d 35 11 ls (.int y :: .int x :: st) h P = z_T g d 35 12 ls (.int (x <<< (y &&& 31)) :: st) h P := zt_bin (f := fun x y => x <<< (y &&& 31)) zi_35_11 rfl (fun _ _ _ => rfl)
theorem zi_35_12 : z_ins 35 12 = some (.iconst 1, 1) := by decide +kernel
theorem ze_35_12 : z_T g d 35 12 ls st h P = z_T g d 35 13 ls (.int (nI 1) :: st) h P := zt_iconst zi_35_12 rfl
theorem zi_35_13 : z_ins 35 13 = some (.isub, 1) := by decide +kernel
theorem ze_35_13 : z_T g d 35 13 ls (.int y :: .int x :: st) h P = z_T g d 35 14 ls (.int (x - y) :: st) h P := zt_bin (f := fun x y => x - y) zi_35_13 rfl (fun _ _ _ => rfl)
theorem zi_35_14 : z_ins 35 14 = some (.if_icmp .ne 7, 3) := by decide +kernel
theorem ze_35_14 : z_T g d 35 14 ls (.int y :: .int x :: st) h P = (if x = y then z_T g d 35 17 ls st h P else z_T g d 35 21 ls st h P) := zt_icmpne zi_35_14 (by decide)
theorem zi_35_17 : z_ins 35 17 = some (.iconst 1, 1) := by decide +kernel
theorem ze_35_17 : z_T g d 35 17 ls st h P = z_T g d 35 18 ls (.int (nI 1) :: st) h P := zt_iconst zi_35_17 rfl
theorem zi_35_18 : z_ins 35 18 = some (.goto 4, 3) := by decide +kernel
theorem ze_35_18 : z_T g d 35 18 ls st h P = z_T g d 35 22 ls st h P := zt_goto zi_35_18 (by decide)
theorem zi_35_21 : z_ins 35 21 = some (.iconst 0, 1) := by decide +kernel
theorem ze_35_21 : z_T g d 35 21 ls st h P = z_T g d 35 22 ls (.int (nI 0) :: st) h P := zt_iconst zi_35_21 rfl
theorem zi_35_22 : z_ins 35 22 = some (.ireturn, 1) := by decide +kernel
theorem ze_35_22 : z_T g d 35 22 ls [.int x] h P = ((x = nI 0 ∨ x = nI 1) ∧ P (.inr (some (.int x)), h)) := zt_zreturn zi_35_22 zr_35
-- LatinRectangles$Grid.fullRows()I
theorem zm_36 : z_maxL 36 = 3 := by decide +kernel
theorem zh_36 : z_hds 36 = [] := by decide +kernel
theorem zj_36 : z_jdk 36 = false := by decide +kernel
theorem zr_36 : z_rt 36 = (some .int) := by decide +kernel
theorem zn_36 : z_Ca g d 36 [.ref a0] h P = z_T g d 36 0 [.ref a0, z_un, z_un] [] h P := z_Ca_ent zm_36 rfl rfl
theorem zi_36_0 : z_ins 36 0 = some (.iconst 0, 1) := by decide +kernel
theorem ze_36_0 : z_T g d 36 0 ls st h P = z_T g d 36 1 ls (.int (nI 0) :: st) h P := zt_iconst zi_36_0 rfl
theorem zi_36_1 : z_ins 36 1 = some (.istore_n 1, 1) := by decide +kernel
theorem ze_36_1 : z_T g d 36 1 (v0 :: v1 :: ls) (.int x :: st) h P = z_T g d 36 2 (v0 :: .int x :: ls) st h P := zt_istoren zi_36_1 rfl (Nat.le_add_left 2 _)
theorem zi_36_2 : z_ins 36 2 = some (.iconst 0, 1) := by decide +kernel
theorem ze_36_2 : z_T g d 36 2 ls st h P = z_T g d 36 3 ls (.int (nI 0) :: st) h P := zt_iconst zi_36_2 rfl
theorem zi_36_3 : z_ins 36 3 = some (.istore_n 2, 1) := by decide +kernel
theorem ze_36_3 : z_T g d 36 3 (v0 :: v1 :: v2 :: ls) (.int x :: st) h P = z_T g d 36 4 (v0 :: v1 :: .int x :: ls) st h P := zt_istoren zi_36_3 rfl (Nat.le_add_left 3 _)
theorem zi_36_4 : z_ins 36 4 = some (.iload_n 2, 1) := by decide +kernel
theorem ze_36_4 : z_T g d 36 4 (v0 :: v1 :: .int x :: ls) st h P = z_T g d 36 5 (v0 :: v1 :: .int x :: ls) (.int x :: st) h P := zt_iloadn zi_36_4 rfl rfl
theorem zi_36_5 : z_ins 36 5 = some (.aload_n 0, 1) := by decide +kernel
theorem ze_36_5 : z_T g d 36 5 (.ref a :: ls) st h P = z_T g d 36 6 (.ref a :: ls) (.ref a :: st) h P := zt_aloadn zi_36_5 rfl rfl
theorem zi_36_6 : z_ins 36 6 = some (.getfield 32, 3) := by decide +kernel
theorem ze_36_6 : z_T g d 36 6 ls (.ref a :: st) h P = z_gI h.1 a 3 5 (fun x => z_T g d 36 9 ls (.int x :: st) h P) := zt_getI zi_36_6 ((congrArg (fun o => z_fl o 32) zo_36).trans zf_LatinRectangles_Grid_32)
theorem zi_36_9 : z_ins 36 9 = some (.if_icmp .ge 20, 3) := by decide +kernel
theorem ze_36_9 : z_T g d 36 9 ls (.int y :: .int x :: st) h P = (if x < y then z_T g d 36 12 ls st h P else z_T g d 36 29 ls st h P) := zt_icmpge zi_36_9 (by decide)
theorem zi_36_12 : z_ins 36 12 = some (.aload_n 0, 1) := by decide +kernel
theorem ze_36_12 : z_T g d 36 12 (.ref a :: ls) st h P = z_T g d 36 13 (.ref a :: ls) (.ref a :: st) h P := zt_aloadn zi_36_12 rfl rfl
theorem zi_36_13 : z_ins 36 13 = some (.iload_n 2, 1) := by decide +kernel
theorem ze_36_13 : z_T g d 36 13 (v0 :: v1 :: .int x :: ls) st h P = z_T g d 36 14 (v0 :: v1 :: .int x :: ls) (.int x :: st) h P := zt_iloadn zi_36_13 rfl rfl
theorem zi_36_14 : z_ins 36 14 = some (.invokevirtual 59, 3) := by decide +kernel
theorem ze_36_14 : z_T g d 36 14 ls (.int x0 :: .ref a :: st) h P = ((z_okS 8 st = true ∧ z_gO h.1 a 3 ∧ 0 < d) ∧ z_Ca g (d - 1) 35 [.ref a, .int x0] h (fun r => z_k r (fun v h' => z_T g d 36 17 ls (z_push v st) h' P) P)) := zt_cV (as := [.int x0]) (kk := 0) zi_36_14 rfl (zt_call zj_36 zh_36) (z_opV ((congrArg (fun o => z_lookup z_cns (o, 59)) zo_36).trans zq_cns_LatinRectangles_Grid_59) ((congrArg (fun o => z_lookup z_prs (o, 59)) zo_36).trans zq_prs_LatinRectangles_Grid_59)) ((congrArg (fun o => z_clk o 59) zo_36).trans zk_LatinRectangles_Grid_59) rfl rfl rfl rfl (z_rcv0 zc_35)
theorem zi_36_17 : z_ins 36 17 = some (.ifCond .eq 6, 3) := by decide +kernel
theorem ze_36_17 : z_T g d 36 17 ls (.int x :: st) h P = (if x = nI 0 then z_T g d 36 23 ls st h P else z_T g d 36 20 ls st h P) := zt_ifeq zi_36_17 (by decide)
theorem zi_36_20 : z_ins 36 20 = some (.iinc 1 1, 3) := by decide +kernel
theorem ze_36_20 : z_T g d 36 20 (v0 :: .int x :: ls) st h P = z_T g d 36 23 (v0 :: .int (x + (nI 1)) :: ls) st h P := zt_iinc zi_36_20 rfl rfl
theorem zi_36_23 : z_ins 36 23 = some (.iinc 2 1, 3) := by decide +kernel
theorem ze_36_23 : z_T g d 36 23 (v0 :: v1 :: .int x :: ls) st h P = z_T g d 36 26 (v0 :: v1 :: .int (x + (nI 1)) :: ls) st h P := zt_iinc zi_36_23 rfl rfl
theorem zi_36_26 : z_ins 36 26 = some (.goto (-22), 3) := by decide +kernel
theorem ze_36_26 : z_T g d 36 26 ls st h P = z_T g d 36 4 ls st h P := zt_goto zi_36_26 (by decide)
theorem zi_36_29 : z_ins 36 29 = some (.iload_n 1, 1) := by decide +kernel
theorem ze_36_29 : z_T g d 36 29 (v0 :: .int x :: ls) st h P = z_T g d 36 30 (v0 :: .int x :: ls) (.int x :: st) h P := zt_iloadn zi_36_29 rfl rfl
theorem zi_36_30 : z_ins 36 30 = some (.ireturn, 1) := by decide +kernel
theorem ze_36_30 : z_T g d 36 30 ls [.int x] h P = P (.inr (some (.int x)), h) := zt_ireturn zi_36_30 zr_36
-- LatinRectangles$Grid.deadCells()I
theorem zm_37 : z_maxL 37 = 4 := by decide +kernel
theorem zh_37 : z_hds 37 = [] := by decide +kernel
theorem zj_37 : z_jdk 37 = false := by decide +kernel
theorem zr_37 : z_rt 37 = (some .int) := by decide +kernel
theorem zn_37 : z_Ca g d 37 [.ref a0] h P = z_T g d 37 0 [.ref a0, z_un, z_un, z_un] [] h P := z_Ca_ent zm_37 rfl rfl
theorem zi_37_0 : z_ins 37 0 = some (.iconst 0, 1) := by decide +kernel
theorem ze_37_0 : z_T g d 37 0 ls st h P = z_T g d 37 1 ls (.int (nI 0) :: st) h P := zt_iconst zi_37_0 rfl
theorem zi_37_1 : z_ins 37 1 = some (.istore_n 1, 1) := by decide +kernel
theorem ze_37_1 : z_T g d 37 1 (v0 :: v1 :: ls) (.int x :: st) h P = z_T g d 37 2 (v0 :: .int x :: ls) st h P := zt_istoren zi_37_1 rfl (Nat.le_add_left 2 _)
theorem zi_37_2 : z_ins 37 2 = some (.iconst 0, 1) := by decide +kernel
theorem ze_37_2 : z_T g d 37 2 ls st h P = z_T g d 37 3 ls (.int (nI 0) :: st) h P := zt_iconst zi_37_2 rfl
theorem zi_37_3 : z_ins 37 3 = some (.istore_n 2, 1) := by decide +kernel
theorem ze_37_3 : z_T g d 37 3 (v0 :: v1 :: v2 :: ls) (.int x :: st) h P = z_T g d 37 4 (v0 :: v1 :: .int x :: ls) st h P := zt_istoren zi_37_3 rfl (Nat.le_add_left 3 _)
theorem zi_37_4 : z_ins 37 4 = some (.iload_n 2, 1) := by decide +kernel
theorem ze_37_4 : z_T g d 37 4 (v0 :: v1 :: .int x :: ls) st h P = z_T g d 37 5 (v0 :: v1 :: .int x :: ls) (.int x :: st) h P := zt_iloadn zi_37_4 rfl rfl
theorem zi_37_5 : z_ins 37 5 = some (.aload_n 0, 1) := by decide +kernel
theorem ze_37_5 : z_T g d 37 5 (.ref a :: ls) st h P = z_T g d 37 6 (.ref a :: ls) (.ref a :: st) h P := zt_aloadn zi_37_5 rfl rfl
theorem zi_37_6 : z_ins 37 6 = some (.getfield 32, 3) := by decide +kernel
theorem ze_37_6 : z_T g d 37 6 ls (.ref a :: st) h P = z_gI h.1 a 3 5 (fun x => z_T g d 37 9 ls (.int x :: st) h P) := zt_getI zi_37_6 ((congrArg (fun o => z_fl o 32) zo_37).trans zf_LatinRectangles_Grid_32)
theorem zi_37_9 : z_ins 37 9 = some (.if_icmp .ge 51, 3) := by decide +kernel
theorem ze_37_9 : z_T g d 37 9 ls (.int y :: .int x :: st) h P = (if x < y then z_T g d 37 12 ls st h P else z_T g d 37 60 ls st h P) := zt_icmpge zi_37_9 (by decide)
theorem zi_37_12 : z_ins 37 12 = some (.iconst 0, 1) := by decide +kernel
theorem ze_37_12 : z_T g d 37 12 ls st h P = z_T g d 37 13 ls (.int (nI 0) :: st) h P := zt_iconst zi_37_12 rfl
theorem zi_37_13 : z_ins 37 13 = some (.istore_n 3, 1) := by decide +kernel
theorem ze_37_13 : z_T g d 37 13 (v0 :: v1 :: v2 :: v3 :: ls) (.int x :: st) h P = z_T g d 37 14 (v0 :: v1 :: v2 :: .int x :: ls) st h P := zt_istoren zi_37_13 rfl (Nat.le_add_left 4 _)
theorem zi_37_14 : z_ins 37 14 = some (.iload_n 3, 1) := by decide +kernel
theorem ze_37_14 : z_T g d 37 14 (v0 :: v1 :: v2 :: .int x :: ls) st h P = z_T g d 37 15 (v0 :: v1 :: v2 :: .int x :: ls) (.int x :: st) h P := zt_iloadn zi_37_14 rfl rfl
theorem zi_37_15 : z_ins 37 15 = some (.aload_n 0, 1) := by decide +kernel
theorem ze_37_15 : z_T g d 37 15 (.ref a :: ls) st h P = z_T g d 37 16 (.ref a :: ls) (.ref a :: st) h P := zt_aloadn zi_37_15 rfl rfl
theorem zi_37_16 : z_ins 37 16 = some (.getfield 36, 3) := by decide +kernel
theorem ze_37_16 : z_T g d 37 16 ls (.ref a :: st) h P = z_gI h.1 a 3 6 (fun x => z_T g d 37 19 ls (.int x :: st) h P) := zt_getI zi_37_16 ((congrArg (fun o => z_fl o 36) zo_37).trans zf_LatinRectangles_Grid_36)
theorem zi_37_19 : z_ins 37 19 = some (.if_icmp .ge 35, 3) := by decide +kernel
theorem ze_37_19 : z_T g d 37 19 ls (.int y :: .int x :: st) h P = (if x < y then z_T g d 37 22 ls st h P else z_T g d 37 54 ls st h P) := zt_icmpge zi_37_19 (by decide)
theorem zi_37_22 : z_ins 37 22 = some (.aload_n 0, 1) := by decide +kernel
theorem ze_37_22 : z_T g d 37 22 (.ref a :: ls) st h P = z_T g d 37 23 (.ref a :: ls) (.ref a :: st) h P := zt_aloadn zi_37_22 rfl rfl
theorem zi_37_23 : z_ins 37 23 = some (.getfield 9, 3) := by decide +kernel
theorem ze_37_23 : z_T g d 37 23 ls (.ref a :: st) h P = z_gR h.1 a 3 0 (fun x => z_T g d 37 26 ls (x :: st) h P) := zt_getR zi_37_23 ((congrArg (fun o => z_fl o 9) zo_37).trans zf_LatinRectangles_Grid_9)
theorem zi_37_26 : z_ins 37 26 = some (.iload_n 2, 1) := by decide +kernel
theorem ze_37_26 : z_T g d 37 26 (v0 :: v1 :: .int x :: ls) st h P = z_T g d 37 27 (v0 :: v1 :: .int x :: ls) (.int x :: st) h P := zt_iloadn zi_37_26 rfl rfl
theorem zi_37_27 : z_ins 37 27 = some (.iconst 5, 1) := by decide +kernel
theorem ze_37_27 : z_T g d 37 27 ls st h P = z_T g d 37 28 ls (.int (nI 5) :: st) h P := zt_iconst zi_37_27 rfl
theorem zi_37_28 : z_ins 37 28 = some (.imul, 1) := by decide +kernel
theorem ze_37_28 : z_T g d 37 28 ls (.int y :: .int x :: st) h P = z_T g d 37 29 ls (.int (x * y) :: st) h P := zt_bin (f := fun x y => x * y) zi_37_28 rfl (fun _ _ _ => rfl)
theorem zi_37_29 : z_ins 37 29 = some (.iload_n 3, 1) := by decide +kernel
theorem ze_37_29 : z_T g d 37 29 (v0 :: v1 :: v2 :: .int x :: ls) st h P = z_T g d 37 30 (v0 :: v1 :: v2 :: .int x :: ls) (.int x :: st) h P := zt_iloadn zi_37_29 rfl rfl
theorem zi_37_30 : z_ins 37 30 = some (.iadd, 1) := by decide +kernel
theorem ze_37_30 : z_T g d 37 30 ls (.int y :: .int x :: st) h P = z_T g d 37 31 ls (.int (x + y) :: st) h P := zt_bin (f := fun x y => x + y) zi_37_30 rfl (fun _ _ _ => rfl)
theorem zi_37_31 : z_ins 37 31 = some (.iaload, 1) := by decide +kernel
theorem ze_37_31 : z_T g d 37 31 ls (.int x :: .ref a :: st) h P = z_aL h.1 a z_tI x (fun v => z_T g d 37 32 ls (.int v :: st) h P) := zt_iaload zi_37_31
theorem zi_37_32 : z_ins 37 32 = some (.iconst (-1), 1) := by decide +kernel
theorem ze_37_32 : z_T g d 37 32 ls st h P = z_T g d 37 33 ls (.int (-1) :: st) h P := zt_iconst zi_37_32 rfl
theorem zi_37_33 : z_ins 37 33 = some (.if_icmp .ne 15, 3) := by decide +kernel
theorem ze_37_33 : z_T g d 37 33 ls (.int y :: .int x :: st) h P = (if x = y then z_T g d 37 36 ls st h P else z_T g d 37 48 ls st h P) := zt_icmpne zi_37_33 (by decide)
theorem zi_37_36 : z_ins 37 36 = some (.aload_n 0, 1) := by decide +kernel
theorem ze_37_36 : z_T g d 37 36 (.ref a :: ls) st h P = z_T g d 37 37 (.ref a :: ls) (.ref a :: st) h P := zt_aloadn zi_37_36 rfl rfl
theorem zi_37_37 : z_ins 37 37 = some (.iload_n 2, 1) := by decide +kernel
theorem ze_37_37 : z_T g d 37 37 (v0 :: v1 :: .int x :: ls) st h P = z_T g d 37 38 (v0 :: v1 :: .int x :: ls) (.int x :: st) h P := zt_iloadn zi_37_37 rfl rfl
theorem zi_37_38 : z_ins 37 38 = some (.iload_n 3, 1) := by decide +kernel
theorem ze_37_38 : z_T g d 37 38 (v0 :: v1 :: v2 :: .int x :: ls) st h P = z_T g d 37 39 (v0 :: v1 :: v2 :: .int x :: ls) (.int x :: st) h P := zt_iloadn zi_37_38 rfl rfl
theorem zi_37_39 : z_ins 37 39 = some (.invokevirtual 63, 3) := by decide +kernel
theorem ze_37_39 : z_T g d 37 39 ls (.int x1 :: .int x0 :: .ref a :: st) h P = ((z_okS 8 st = true ∧ z_gO h.1 a 3 ∧ 0 < d) ∧ z_Ca g (d - 1) 34 [.ref a, .int x0, .int x1] h (fun r => z_k r (fun v h' => z_T g d 37 42 ls (z_push v st) h' P) P)) := zt_cV (as := [.int x0, .int x1]) (kk := 0) zi_37_39 rfl (zt_call zj_37 zh_37) (z_opV ((congrArg (fun o => z_lookup z_cns (o, 63)) zo_37).trans zq_cns_LatinRectangles_Grid_63) ((congrArg (fun o => z_lookup z_prs (o, 63)) zo_37).trans zq_prs_LatinRectangles_Grid_63)) ((congrArg (fun o => z_clk o 63) zo_37).trans zk_LatinRectangles_Grid_63) rfl rfl rfl rfl (z_rcv0 zc_34)
theorem zi_37_42 : z_ins 37 42 = some (.ifCond .ne 6, 3) := by decide +kernel
theorem ze_37_42 : z_T g d 37 42 ls (.int x :: st) h P = (if x = nI 0 then z_T g d 37 45 ls st h P else z_T g d 37 48 ls st h P) := zt_ifne zi_37_42 (by decide)
theorem zi_37_45 : z_ins 37 45 = some (.iinc 1 1, 3) := by decide +kernel
theorem ze_37_45 : z_T g d 37 45 (v0 :: .int x :: ls) st h P = z_T g d 37 48 (v0 :: .int (x + (nI 1)) :: ls) st h P := zt_iinc zi_37_45 rfl rfl
theorem zi_37_48 : z_ins 37 48 = some (.iinc 3 1, 3) := by decide +kernel
theorem ze_37_48 : z_T g d 37 48 (v0 :: v1 :: v2 :: .int x :: ls) st h P = z_T g d 37 51 (v0 :: v1 :: v2 :: .int (x + (nI 1)) :: ls) st h P := zt_iinc zi_37_48 rfl rfl
theorem zi_37_51 : z_ins 37 51 = some (.goto (-37), 3) := by decide +kernel
theorem ze_37_51 : z_T g d 37 51 ls st h P = z_T g d 37 14 ls st h P := zt_goto zi_37_51 (by decide)
theorem zi_37_54 : z_ins 37 54 = some (.iinc 2 1, 3) := by decide +kernel
theorem ze_37_54 : z_T g d 37 54 (v0 :: v1 :: .int x :: ls) st h P = z_T g d 37 57 (v0 :: v1 :: .int (x + (nI 1)) :: ls) st h P := zt_iinc zi_37_54 rfl rfl
theorem zi_37_57 : z_ins 37 57 = some (.goto (-53), 3) := by decide +kernel
theorem ze_37_57 : z_T g d 37 57 ls st h P = z_T g d 37 4 ls st h P := zt_goto zi_37_57 (by decide)
theorem zi_37_60 : z_ins 37 60 = some (.iload_n 1, 1) := by decide +kernel
theorem ze_37_60 : z_T g d 37 60 (v0 :: .int x :: ls) st h P = z_T g d 37 61 (v0 :: .int x :: ls) (.int x :: st) h P := zt_iloadn zi_37_60 rfl rfl
theorem zi_37_61 : z_ins 37 61 = some (.ireturn, 1) := by decide +kernel
theorem ze_37_61 : z_T g d 37 61 ls [.int x] h P = P (.inr (some (.int x)), h) := zt_ireturn zi_37_61 zr_37
-- LatinRectangles$History.<init>()V
theorem zm_38 : z_maxL 38 = 1 := by decide +kernel
theorem zh_38 : z_hds 38 = [] := by decide +kernel
theorem zj_38 : z_jdk 38 = false := by decide +kernel
theorem zr_38 : z_rt 38 = none := by decide +kernel
theorem zn_38 : z_Ca g d 38 [.ref a0] h P = z_T g d 38 0 [.ref a0] [] h P := z_Ca_ent zm_38 rfl rfl
theorem zi_38_0 : z_ins 38 0 = some (.aload_n 0, 1) := by decide +kernel
theorem ze_38_0 : z_T g d 38 0 (.ref a :: ls) st h P = z_T g d 38 1 (.ref a :: ls) (.ref a :: st) h P := zt_aloadn zi_38_0 rfl rfl
theorem zi_38_1 : z_ins 38 1 = some (.invokespecial 3, 3) := by decide +kernel
theorem ze_38_1 : z_T g d 38 1 ls (.ref a :: st) h P = (z_okS 8 st = true ∧ z_T g d 38 4 ls st h P) := zt_objInit zi_38_1 ((congrArg (fun o => z_lookup z_ois (o, 3)) zo_38).trans zq_ois_LatinRectangles_History_3)
theorem zi_38_4 : z_ins 38 4 = some (.aload_n 0, 1) := by decide +kernel
theorem ze_38_4 : z_T g d 38 4 (.ref a :: ls) st h P = z_T g d 38 5 (.ref a :: ls) (.ref a :: st) h P := zt_aloadn zi_38_4 rfl rfl
theorem zi_38_5 : z_ins 38 5 = some (.bipush 10, 2) := by decide +kernel
theorem ze_38_5 : z_T g d 38 5 ls st h P = z_T g d 38 7 ls (.int (nI 10) :: st) h P := zt_bipush zi_38_5 rfl
theorem zi_38_7 : z_ins 38 7 = some (.bipush 25, 2) := by decide +kernel
theorem ze_38_7 : z_T g d 38 7 ls st h P = z_T g d 38 9 ls (.int (nI 25) :: st) h P := zt_bipush zi_38_7 rfl
theorem zi_38_9 : z_ins 38 9 = some (.multianewarray 9 2, 4) := by decide +kernel
theorem ze_38_9 : z_T g d 38 9 ls (.int y :: .int x :: st) h P = z_nM .int h x y (fun q h' => z_T g d 38 13 ls (.ref q :: st) h' P) := zt_multi zi_38_9 ((congrArg (fun o => z_lookup z_mas (o, 9)) zo_38).trans zq_mas_LatinRectangles_History_9) (by simp)
theorem zi_38_13 : z_ins 38 13 = some (.putfield 11, 3) := by decide +kernel
theorem ze_38_13 : z_T g d 38 13 ls (.ref b :: .ref a :: st) h P = z_pF h.1 a 4 0 (.ref b) (fun f => z_T g d 38 16 ls st (f, h.2) P) := zt_put zi_38_13 ((congrArg (fun o => z_fl o 11) zo_38).trans zf_LatinRectangles_History_11) (by decide +kernel) rfl rfl
theorem zi_38_16 : z_ins 38 16 = some (.return_, 1) := by decide +kernel
theorem ze_38_16 : z_T g d 38 16 ls [] h P = P (.inr none, h) := zt_return zi_38_16 zr_38
-- LatinRectangles$History.clear()V
theorem zm_39 : z_maxL 39 = 1 := by decide +kernel
theorem zh_39 : z_hds 39 = [] := by decide +kernel
theorem zj_39 : z_jdk 39 = false := by decide +kernel
theorem zr_39 : z_rt 39 = none := by decide +kernel
theorem zn_39 : z_Ca g d 39 [.ref a0] h P = z_T g d 39 0 [.ref a0] [] h P := z_Ca_ent zm_39 rfl rfl
theorem zi_39_0 : z_ins 39 0 = some (.aload_n 0, 1) := by decide +kernel
theorem ze_39_0 : z_T g d 39 0 (.ref a :: ls) st h P = z_T g d 39 1 (.ref a :: ls) (.ref a :: st) h P := zt_aloadn zi_39_0 rfl rfl
theorem zi_39_1 : z_ins 39 1 = some (.iconst 0, 1) := by decide +kernel
theorem ze_39_1 : z_T g d 39 1 ls st h P = z_T g d 39 2 ls (.int (nI 0) :: st) h P := zt_iconst zi_39_1 rfl
theorem zi_39_2 : z_ins 39 2 = some (.putfield 16, 3) := by decide +kernel
theorem ze_39_2 : z_T g d 39 2 ls (.int x :: .ref a :: st) h P = z_pF h.1 a 4 1 (.int x) (fun f => z_T g d 39 5 ls st (f, h.2) P) := zt_put zi_39_2 ((congrArg (fun o => z_fl o 16) zo_39).trans zf_LatinRectangles_History_16) (by decide +kernel) rfl rfl
theorem zi_39_5 : z_ins 39 5 = some (.aload_n 0, 1) := by decide +kernel
theorem ze_39_5 : z_T g d 39 5 (.ref a :: ls) st h P = z_T g d 39 6 (.ref a :: ls) (.ref a :: st) h P := zt_aloadn zi_39_5 rfl rfl
theorem zi_39_6 : z_ins 39 6 = some (.iconst 0, 1) := by decide +kernel
theorem ze_39_6 : z_T g d 39 6 ls st h P = z_T g d 39 7 ls (.int (nI 0) :: st) h P := zt_iconst zi_39_6 rfl
theorem zi_39_7 : z_ins 39 7 = some (.putfield 20, 3) := by decide +kernel
theorem ze_39_7 : z_T g d 39 7 ls (.int x :: .ref a :: st) h P = z_pF h.1 a 4 2 (.int x) (fun f => z_T g d 39 10 ls st (f, h.2) P) := zt_put zi_39_7 ((congrArg (fun o => z_fl o 20) zo_39).trans zf_LatinRectangles_History_20) (by decide +kernel) rfl rfl
theorem zi_39_10 : z_ins 39 10 = some (.return_, 1) := by decide +kernel
theorem ze_39_10 : z_T g d 39 10 ls [] h P = P (.inr none, h) := zt_return zi_39_10 zr_39
-- LatinRectangles$History.record(LLatinRectangles$Grid;)V
theorem zm_40 : z_maxL 40 = 2 := by decide +kernel
theorem zh_40 : z_hds 40 = [] := by decide +kernel
theorem zj_40 : z_jdk 40 = false := by decide +kernel
theorem zr_40 : z_rt 40 = none := by decide +kernel
theorem zn_40 : z_Ca g d 40 [.ref a0, .ref a1] h P = z_T g d 40 0 [.ref a0, .ref a1] [] h P := z_Ca_ent zm_40 rfl rfl
theorem zi_40_0 : z_ins 40 0 = some (.aload_n 1, 1) := by decide +kernel
theorem ze_40_0 : z_T g d 40 0 (v0 :: .ref a :: ls) st h P = z_T g d 40 1 (v0 :: .ref a :: ls) (.ref a :: st) h P := zt_aloadn zi_40_0 rfl rfl
theorem zi_40_1 : z_ins 40 1 = some (.aload_n 0, 1) := by decide +kernel
theorem ze_40_1 : z_T g d 40 1 (.ref a :: ls) st h P = z_T g d 40 2 (.ref a :: ls) (.ref a :: st) h P := zt_aloadn zi_40_1 rfl rfl
theorem zi_40_2 : z_ins 40 2 = some (.getfield 11, 3) := by decide +kernel
theorem ze_40_2 : z_T g d 40 2 ls (.ref a :: st) h P = z_gR h.1 a 4 0 (fun x => z_T g d 40 5 ls (x :: st) h P) := zt_getR zi_40_2 ((congrArg (fun o => z_fl o 11) zo_40).trans zf_LatinRectangles_History_11)
theorem zi_40_5 : z_ins 40 5 = some (.aload_n 0, 1) := by decide +kernel
theorem ze_40_5 : z_T g d 40 5 (.ref a :: ls) st h P = z_T g d 40 6 (.ref a :: ls) (.ref a :: st) h P := zt_aloadn zi_40_5 rfl rfl
theorem zi_40_6 : z_ins 40 6 = some (.getfield 16, 3) := by decide +kernel
theorem ze_40_6 : z_T g d 40 6 ls (.ref a :: st) h P = z_gI h.1 a 4 1 (fun x => z_T g d 40 9 ls (.int x :: st) h P) := zt_getI zi_40_6 ((congrArg (fun o => z_fl o 16) zo_40).trans zf_LatinRectangles_History_16)
theorem zi_40_9 : z_ins 40 9 = some (.aaload, 1) := by decide +kernel
theorem ze_40_9 : z_T g d 40 9 ls (.int x :: .ref a :: st) h P = z_qL h.1 a x (fun v => z_T g d 40 10 ls (.ref v :: st) h P) := zt_aaload zi_40_9
theorem zi_40_10 : z_ins 40 10 = some (.invokevirtual 23, 3) := by decide +kernel
theorem ze_40_10 : z_T g d 40 10 ls (.ref a0 :: .ref a :: st) h P = ((z_okS 8 st = true ∧ z_gO h.1 a 3 ∧ 0 < d) ∧ z_Ca g (d - 1) 28 [.ref a, .ref a0] h (fun r => z_k r (fun v h' => z_T g d 40 13 ls (z_push v st) h' P) P)) := zt_cV (as := [.ref a0]) (kk := 0) zi_40_10 rfl (zt_call zj_40 zh_40) (z_opV ((congrArg (fun o => z_lookup z_cns (o, 23)) zo_40).trans zq_cns_LatinRectangles_History_23) ((congrArg (fun o => z_lookup z_prs (o, 23)) zo_40).trans zq_prs_LatinRectangles_History_23)) ((congrArg (fun o => z_clk o 23) zo_40).trans zk_LatinRectangles_History_23) rfl rfl rfl rfl (z_rcv0 zc_28)
theorem zi_40_13 : z_ins 40 13 = some (.aload_n 0, 1) := by decide +kernel
theorem ze_40_13 : z_T g d 40 13 (.ref a :: ls) st h P = z_T g d 40 14 (.ref a :: ls) (.ref a :: st) h P := zt_aloadn zi_40_13 rfl rfl
theorem zi_40_14 : z_ins 40 14 = some (.aload_n 0, 1) := by decide +kernel
theorem ze_40_14 : z_T g d 40 14 (.ref a :: ls) st h P = z_T g d 40 15 (.ref a :: ls) (.ref a :: st) h P := zt_aloadn zi_40_14 rfl rfl
theorem zi_40_15 : z_ins 40 15 = some (.getfield 16, 3) := by decide +kernel
theorem ze_40_15 : z_T g d 40 15 ls (.ref a :: st) h P = z_gI h.1 a 4 1 (fun x => z_T g d 40 18 ls (.int x :: st) h P) := zt_getI zi_40_15 ((congrArg (fun o => z_fl o 16) zo_40).trans zf_LatinRectangles_History_16)
theorem zi_40_18 : z_ins 40 18 = some (.iconst 1, 1) := by decide +kernel
theorem ze_40_18 : z_T g d 40 18 ls st h P = z_T g d 40 19 ls (.int (nI 1) :: st) h P := zt_iconst zi_40_18 rfl
theorem zi_40_19 : z_ins 40 19 = some (.iadd, 1) := by decide +kernel
theorem ze_40_19 : z_T g d 40 19 ls (.int y :: .int x :: st) h P = z_T g d 40 20 ls (.int (x + y) :: st) h P := zt_bin (f := fun x y => x + y) zi_40_19 rfl (fun _ _ _ => rfl)
theorem zi_40_20 : z_ins 40 20 = some (.bipush 10, 2) := by decide +kernel
theorem ze_40_20 : z_T g d 40 20 ls st h P = z_T g d 40 22 ls (.int (nI 10) :: st) h P := zt_bipush zi_40_20 rfl
theorem zi_40_22 : z_ins 40 22 = some (.irem, 1) := by decide +kernel
theorem ze_40_22 : z_T g d 40 22 ls (.int y :: .int x :: st) h P = (¬ y = nI 0 ∧ z_T g d 40 23 ls (.int (x - x / y * y) :: st) h P) := zt_irem zi_40_22
theorem zi_40_23 : z_ins 40 23 = some (.putfield 16, 3) := by decide +kernel
theorem ze_40_23 : z_T g d 40 23 ls (.int x :: .ref a :: st) h P = z_pF h.1 a 4 1 (.int x) (fun f => z_T g d 40 26 ls st (f, h.2) P) := zt_put zi_40_23 ((congrArg (fun o => z_fl o 16) zo_40).trans zf_LatinRectangles_History_16) (by decide +kernel) rfl rfl
theorem zi_40_26 : z_ins 40 26 = some (.aload_n 0, 1) := by decide +kernel
theorem ze_40_26 : z_T g d 40 26 (.ref a :: ls) st h P = z_T g d 40 27 (.ref a :: ls) (.ref a :: st) h P := zt_aloadn zi_40_26 rfl rfl
theorem zi_40_27 : z_ins 40 27 = some (.aload_n 0, 1) := by decide +kernel
theorem ze_40_27 : z_T g d 40 27 (.ref a :: ls) st h P = z_T g d 40 28 (.ref a :: ls) (.ref a :: st) h P := zt_aloadn zi_40_27 rfl rfl
theorem zi_40_28 : z_ins 40 28 = some (.getfield 20, 3) := by decide +kernel
theorem ze_40_28 : z_T g d 40 28 ls (.ref a :: st) h P = z_gI h.1 a 4 2 (fun x => z_T g d 40 31 ls (.int x :: st) h P) := zt_getI zi_40_28 ((congrArg (fun o => z_fl o 20) zo_40).trans zf_LatinRectangles_History_20)
theorem zi_40_31 : z_ins 40 31 = some (.iconst 1, 1) := by decide +kernel
theorem ze_40_31 : z_T g d 40 31 ls st h P = z_T g d 40 32 ls (.int (nI 1) :: st) h P := zt_iconst zi_40_31 rfl
theorem zi_40_32 : z_ins 40 32 = some (.iadd, 1) := by decide +kernel
theorem ze_40_32 : z_T g d 40 32 ls (.int y :: .int x :: st) h P = z_T g d 40 33 ls (.int (x + y) :: st) h P := zt_bin (f := fun x y => x + y) zi_40_32 rfl (fun _ _ _ => rfl)
theorem zi_40_33 : z_ins 40 33 = some (.bipush 10, 2) := by decide +kernel
theorem ze_40_33 : z_T g d 40 33 ls st h P = z_T g d 40 35 ls (.int (nI 10) :: st) h P := zt_bipush zi_40_33 rfl
theorem zi_40_35 : z_ins 40 35 = some (.invokestatic 29, 3) := by decide +kernel
theorem ze_40_35 (hok : z_okS 8 (.int y :: .int x :: st) = true) : z_T g d 40 35 ls (.int y :: .int x :: st) h P = z_T g d 40 38 ls (.int (if y < x then y else x) :: st) h P := zt_primS zi_40_35 ((congrArg (fun o => z_lookup z_cps (o, 29)) zo_40).trans zq_cps_LatinRectangles_History_29) ((congrArg (fun o => z_lookup z_prs (o, 29)) zo_40).trans zq_prs_LatinRectangles_History_29) (by decide) hok rfl
theorem zi_40_38 : z_ins 40 38 = some (.putfield 20, 3) := by decide +kernel
theorem ze_40_38 : z_T g d 40 38 ls (.int x :: .ref a :: st) h P = z_pF h.1 a 4 2 (.int x) (fun f => z_T g d 40 41 ls st (f, h.2) P) := zt_put zi_40_38 ((congrArg (fun o => z_fl o 20) zo_40).trans zf_LatinRectangles_History_20) (by decide +kernel) rfl rfl
theorem zi_40_41 : z_ins 40 41 = some (.return_, 1) := by decide +kernel
theorem ze_40_41 : z_T g d 40 41 ls [] h P = P (.inr none, h) := zt_return zi_40_41 zr_40
-- LatinRectangles$Snapshots.<init>()V
theorem zm_51 : z_maxL 51 = 1 := by decide +kernel
theorem zh_51 : z_hds 51 = [] := by decide +kernel
theorem zj_51 : z_jdk 51 = false := by decide +kernel
theorem zr_51 : z_rt 51 = none := by decide +kernel
theorem zn_51 : z_Ca g d 51 [.ref a0] h P = z_T g d 51 0 [.ref a0] [] h P := z_Ca_ent zm_51 rfl rfl
theorem zi_51_0 : z_ins 51 0 = some (.aload_n 0, 1) := by decide +kernel
theorem ze_51_0 : z_T g d 51 0 (.ref a :: ls) st h P = z_T g d 51 1 (.ref a :: ls) (.ref a :: st) h P := zt_aloadn zi_51_0 rfl rfl
theorem zi_51_1 : z_ins 51 1 = some (.invokespecial 3, 3) := by decide +kernel
theorem ze_51_1 : z_T g d 51 1 ls (.ref a :: st) h P = (z_okS 8 st = true ∧ z_T g d 51 4 ls st h P) := zt_objInit zi_51_1 ((congrArg (fun o => z_lookup z_ois (o, 3)) zo_51).trans zq_ois_LatinRectangles_Snapshots_3)
theorem zi_51_4 : z_ins 51 4 = some (.aload_n 0, 1) := by decide +kernel
theorem ze_51_4 : z_T g d 51 4 (.ref a :: ls) st h P = z_T g d 51 5 (.ref a :: ls) (.ref a :: st) h P := zt_aloadn zi_51_4 rfl rfl
theorem zi_51_5 : z_ins 51 5 = some (.iconst 2, 1) := by decide +kernel
theorem ze_51_5 : z_T g d 51 5 ls st h P = z_T g d 51 6 ls (.int (nI 2) :: st) h P := zt_iconst zi_51_5 rfl
theorem zi_51_6 : z_ins 51 6 = some (.bipush 25, 2) := by decide +kernel
theorem ze_51_6 : z_T g d 51 6 ls st h P = z_T g d 51 8 ls (.int (nI 25) :: st) h P := zt_bipush zi_51_6 rfl
theorem zi_51_8 : z_ins 51 8 = some (.multianewarray 9 2, 4) := by decide +kernel
theorem ze_51_8 : z_T g d 51 8 ls (.int y :: .int x :: st) h P = z_nM .int h x y (fun q h' => z_T g d 51 12 ls (.ref q :: st) h' P) := zt_multi zi_51_8 ((congrArg (fun o => z_lookup z_mas (o, 9)) zo_51).trans zq_mas_LatinRectangles_Snapshots_9) (by simp)
theorem zi_51_12 : z_ins 51 12 = some (.putfield 11, 3) := by decide +kernel
theorem ze_51_12 : z_T g d 51 12 ls (.ref b :: .ref a :: st) h P = z_pF h.1 a 6 0 (.ref b) (fun f => z_T g d 51 15 ls st (f, h.2) P) := zt_put zi_51_12 ((congrArg (fun o => z_fl o 11) zo_51).trans zf_LatinRectangles_Snapshots_11) (by decide +kernel) rfl rfl
theorem zi_51_15 : z_ins 51 15 = some (.aload_n 0, 1) := by decide +kernel
theorem ze_51_15 : z_T g d 51 15 (.ref a :: ls) st h P = z_T g d 51 16 (.ref a :: ls) (.ref a :: st) h P := zt_aloadn zi_51_15 rfl rfl
theorem zi_51_16 : z_ins 51 16 = some (.iconst 2, 1) := by decide +kernel
theorem ze_51_16 : z_T g d 51 16 ls st h P = z_T g d 51 17 ls (.int (nI 2) :: st) h P := zt_iconst zi_51_16 rfl
theorem zi_51_17 : z_ins 51 17 = some (.newarray .boolean, 2) := by decide +kernel
theorem ze_51_17 : z_T g d 51 17 ls (.int x :: st) h P = z_nA h .boolean x (fun q h' => z_T g d 51 19 ls (.ref q :: st) h' P) := zt_newarray zi_51_17
theorem zi_51_19 : z_ins 51 19 = some (.putfield 16, 3) := by decide +kernel
theorem ze_51_19 : z_T g d 51 19 ls (.ref b :: .ref a :: st) h P = z_pF h.1 a 6 1 (.ref b) (fun f => z_T g d 51 22 ls st (f, h.2) P) := zt_put zi_51_19 ((congrArg (fun o => z_fl o 16) zo_51).trans zf_LatinRectangles_Snapshots_16) (by decide +kernel) rfl rfl
theorem zi_51_22 : z_ins 51 22 = some (.return_, 1) := by decide +kernel
theorem ze_51_22 : z_T g d 51 22 ls [] h P = P (.inr none, h) := zt_return zi_51_22 zr_51
-- LatinRectangles$Snapshots.clear()V
theorem zm_52 : z_maxL 52 = 2 := by decide +kernel
theorem zh_52 : z_hds 52 = [] := by decide +kernel
theorem zj_52 : z_jdk 52 = false := by decide +kernel
theorem zr_52 : z_rt 52 = none := by decide +kernel
theorem zn_52 : z_Ca g d 52 [.ref a0] h P = z_T g d 52 0 [.ref a0, z_un] [] h P := z_Ca_ent zm_52 rfl rfl
theorem zi_52_0 : z_ins 52 0 = some (.iconst 0, 1) := by decide +kernel
theorem ze_52_0 : z_T g d 52 0 ls st h P = z_T g d 52 1 ls (.int (nI 0) :: st) h P := zt_iconst zi_52_0 rfl
theorem zi_52_1 : z_ins 52 1 = some (.istore_n 1, 1) := by decide +kernel
theorem ze_52_1 : z_T g d 52 1 (v0 :: v1 :: ls) (.int x :: st) h P = z_T g d 52 2 (v0 :: .int x :: ls) st h P := zt_istoren zi_52_1 rfl (Nat.le_add_left 2 _)
theorem zi_52_2 : z_ins 52 2 = some (.iload_n 1, 1) := by decide +kernel
theorem ze_52_2 : z_T g d 52 2 (v0 :: .int x :: ls) st h P = z_T g d 52 3 (v0 :: .int x :: ls) (.int x :: st) h P := zt_iloadn zi_52_2 rfl rfl
theorem zi_52_3 : z_ins 52 3 = some (.iconst 2, 1) := by decide +kernel
theorem ze_52_3 : z_T g d 52 3 ls st h P = z_T g d 52 4 ls (.int (nI 2) :: st) h P := zt_iconst zi_52_3 rfl
theorem zi_52_4 : z_ins 52 4 = some (.if_icmp .ge 16, 3) := by decide +kernel
theorem ze_52_4 : z_T g d 52 4 ls (.int y :: .int x :: st) h P = (if x < y then z_T g d 52 7 ls st h P else z_T g d 52 20 ls st h P) := zt_icmpge zi_52_4 (by decide)
theorem zi_52_7 : z_ins 52 7 = some (.aload_n 0, 1) := by decide +kernel
theorem ze_52_7 : z_T g d 52 7 (.ref a :: ls) st h P = z_T g d 52 8 (.ref a :: ls) (.ref a :: st) h P := zt_aloadn zi_52_7 rfl rfl
theorem zi_52_8 : z_ins 52 8 = some (.getfield 16, 3) := by decide +kernel
theorem ze_52_8 : z_T g d 52 8 ls (.ref a :: st) h P = z_gR h.1 a 6 1 (fun x => z_T g d 52 11 ls (x :: st) h P) := zt_getR zi_52_8 ((congrArg (fun o => z_fl o 16) zo_52).trans zf_LatinRectangles_Snapshots_16)
theorem zi_52_11 : z_ins 52 11 = some (.iload_n 1, 1) := by decide +kernel
theorem ze_52_11 : z_T g d 52 11 (v0 :: .int x :: ls) st h P = z_T g d 52 12 (v0 :: .int x :: ls) (.int x :: st) h P := zt_iloadn zi_52_11 rfl rfl
theorem zi_52_12 : z_ins 52 12 = some (.iconst 0, 1) := by decide +kernel
theorem ze_52_12 : z_T g d 52 12 ls st h P = z_T g d 52 13 ls (.int (nI 0) :: st) h P := zt_iconst zi_52_12 rfl
theorem zi_52_13 : z_ins 52 13 = some (.bastore, 1) := by decide +kernel
theorem ze_52_13 : z_T g d 52 13 ls (.int y :: .int x :: .ref a :: st) h P = z_aS h.1 a z_tB x y (fun f => z_T g d 52 14 ls st (f, h.2) P) := zt_bastore zi_52_13
theorem zi_52_14 : z_ins 52 14 = some (.iinc 1 1, 3) := by decide +kernel
theorem ze_52_14 : z_T g d 52 14 (v0 :: .int x :: ls) st h P = z_T g d 52 17 (v0 :: .int (x + (nI 1)) :: ls) st h P := zt_iinc zi_52_14 rfl rfl
theorem zi_52_17 : z_ins 52 17 = some (.goto (-15), 3) := by decide +kernel
theorem ze_52_17 : z_T g d 52 17 ls st h P = z_T g d 52 2 ls st h P := zt_goto zi_52_17 (by decide)
theorem zi_52_20 : z_ins 52 20 = some (.return_, 1) := by decide +kernel
theorem ze_52_20 : z_T g d 52 20 ls [] h P = P (.inr none, h) := zt_return zi_52_20 zr_52
end
