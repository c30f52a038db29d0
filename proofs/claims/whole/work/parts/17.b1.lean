section
variable {g : z_G} {d : Nat} {h : z_H} {P : z_Res → Prop} {ls st : List Value} {v0 v1 v2 v3 v4 v5 v6 v7 v8 v9 v10 v11 : Value} {x y x0 x1 x2 x3 x4 x5 x6 : Int32} {u w : Int64} {a b a0 a1 a2 a3 a4 a5 k0 k1 : Nat}
-- LatinRectangles$Parser.<init>(LLatinRectangles$Text;)V
theorem zo_47 : z_own 47 = "LatinRectangles$Parser" := by decide +kernel
theorem zm_47 : z_maxL 47 = 2 := by decide +kernel
theorem zh_47 : z_hds 47 = [] := by decide +kernel
theorem zr_47 : z_rt 47 = none := by decide +kernel
theorem zn_47 : z_Ca g d 47 [.ref a0, .ref a1] h P = z_T g d 47 0 [.ref a0, .ref a1] [] h P := z_Ca_ent zm_47 rfl rfl
theorem zi_47_0 : z_ins 47 0 = some (.aload_n 0, 1) := by decide +kernel
theorem ze_47_0 : z_T g d 47 0 (.ref a :: ls) st h P = z_T g d 47 1 (.ref a :: ls) (.ref a :: st) h P := zt_aloadn zi_47_0 rfl rfl
theorem zi_47_1 : z_ins 47 1 = some (.invokespecial 3, 3) := by decide +kernel
theorem ze_47_1 : z_T g d 47 1 ls (.ref a :: st) h P = (z_okS 8 st = true ∧ z_T g d 47 4 ls st h P) := zt_objInit zi_47_1 ((congrArg (fun o => z_lookup z_ois (o, 3)) zo_47).trans zq_LatinRectangles_Parser_3)
theorem zi_47_4 : z_ins 47 4 = some (.aload_n 0, 1) := by decide +kernel
theorem ze_47_4 : z_T g d 47 4 (.ref a :: ls) st h P = z_T g d 47 5 (.ref a :: ls) (.ref a :: st) h P := zt_aloadn zi_47_4 rfl rfl
theorem zi_47_5 : z_ins 47 5 = some (.new 9, 3) := by decide +kernel
theorem ze_47_5 : z_T g d 47 5 ls st h P = z_nO h 3 10 [.null, .null, .null, .null, .null, .int 0, .int 0, .int 0, .int 0, .int 0] (fun q h' => z_T g d 47 8 ls (.ref q :: st) h' P) := zt_new zi_47_5 (by decide +kernel)
theorem zi_47_8 : z_ins 47 8 = some (.dup, 1) := by decide +kernel
theorem ze_47_8 : z_T g d 47 8 ls (.ref a :: st) h P = z_T g d 47 9 ls (.ref a :: .ref a :: st) h P := zt_dupR zi_47_8
theorem ze_47_8_i : z_T g d 47 8 ls (.int x :: st) h P = z_T g d 47 9 ls (.int x :: .int x :: st) h P := zt_dupI zi_47_8
theorem zi_47_9 : z_ins 47 9 = some (.invokespecial 11, 3) := by decide +kernel
theorem ze_47_9 : z_T g d 47 9 ls (.ref a :: st) h P = ((z_okS 8 st = true ∧ 0 < d) ∧ z_Ca g (d - 1) 27 [.ref a] h (fun r => z_k r (fun v h' => z_T g d 47 12 ls (z_push v st) h' P) P)) := zt_callI (as := []) zi_47_9 ((congrArg (fun o => z_lookup z_ois (o, 11)) zo_47).trans zp_LatinRectangles_Parser_11) ((congrArg (fun o => z_clk o 11) zo_47).trans zk_LatinRectangles_Parser_11) (by decide) zh_47 rfl rfl rfl
theorem zi_47_12 : z_ins 47 12 = some (.putfield 12, 3) := by decide +kernel
theorem ze_47_12 : z_T g d 47 12 ls (.ref b :: .ref a :: st) h P = z_pF h.1 a 5 1 (.ref b) (fun f => z_T g d 47 15 ls st (f, h.2) P) := zt_putR zi_47_12 ((congrArg (fun o => z_fl o 12) zo_47).trans zf_LatinRectangles_Parser_12) (by decide +kernel)
theorem zi_47_15 : z_ins 47 15 = some (.aload_n 0, 1) := by decide +kernel
theorem ze_47_15 : z_T g d 47 15 (.ref a :: ls) st h P = z_T g d 47 16 (.ref a :: ls) (.ref a :: st) h P := zt_aloadn zi_47_15 rfl rfl
theorem zi_47_16 : z_ins 47 16 = some (.aload_n 1, 1) := by decide +kernel
theorem ze_47_16 : z_T g d 47 16 (v0 :: .ref a :: ls) st h P = z_T g d 47 17 (v0 :: .ref a :: ls) (.ref a :: st) h P := zt_aloadn zi_47_16 rfl rfl
theorem zi_47_17 : z_ins 47 17 = some (.putfield 18, 3) := by decide +kernel
theorem ze_47_17 : z_T g d 47 17 ls (.ref b :: .ref a :: st) h P = z_pF h.1 a 5 0 (.ref b) (fun f => z_T g d 47 20 ls st (f, h.2) P) := zt_putR zi_47_17 ((congrArg (fun o => z_fl o 18) zo_47).trans zf_LatinRectangles_Parser_18) (by decide +kernel)
theorem zi_47_20 : z_ins 47 20 = some (.return_, 1) := by decide +kernel
theorem ze_47_20 : z_T g d 47 20 ls [] h P = P (.inr none, h) := zt_return zi_47_20 zr_47
-- LatinRectangles$Parser.read(I)Z
theorem zo_48 : z_own 48 = "LatinRectangles$Parser" := by decide +kernel
theorem zm_48 : z_maxL 48 = 3 := by decide +kernel
theorem zh_48 : z_hds 48 = [] := by decide +kernel
theorem zr_48 : z_rt 48 = (some .boolean) := by decide +kernel
theorem zn_48 : z_Ca g d 48 [.ref a0, .int x1] h P = z_T g d 48 0 [.ref a0, .int x1, z_un] [] h P := z_Ca_ent zm_48 rfl rfl
theorem zi_48_0 : z_ins 48 0 = some (.aload_n 0, 1) := by decide +kernel
theorem ze_48_0 : z_T g d 48 0 (.ref a :: ls) st h P = z_T g d 48 1 (.ref a :: ls) (.ref a :: st) h P := zt_aloadn zi_48_0 rfl rfl
theorem zi_48_1 : z_ins 48 1 = some (.iconst 0, 1) := by decide +kernel
theorem ze_48_1 : z_T g d 48 1 ls st h P = z_T g d 48 2 ls (.int (nI 0) :: st) h P := zt_iconst zi_48_1 rfl
theorem zi_48_2 : z_ins 48 2 = some (.putfield 22, 3) := by decide +kernel
theorem ze_48_2 : z_T g d 48 2 ls (.int x :: .ref a :: st) h P = z_pF h.1 a 5 2 (.int x) (fun f => z_T g d 48 5 ls st (f, h.2) P) := zt_putI zi_48_2 ((congrArg (fun o => z_fl o 22) zo_48).trans zf_LatinRectangles_Parser_22)
theorem zi_48_5 : z_ins 48 5 = some (.aload_n 0, 1) := by decide +kernel
theorem ze_48_5 : z_T g d 48 5 (.ref a :: ls) st h P = z_T g d 48 6 (.ref a :: ls) (.ref a :: st) h P := zt_aloadn zi_48_5 rfl rfl
theorem zi_48_6 : z_ins 48 6 = some (.iconst (-1), 1) := by decide +kernel
theorem ze_48_6 : z_T g d 48 6 ls st h P = z_T g d 48 7 ls (.int (-1) :: st) h P := zt_iconst zi_48_6 rfl
theorem zi_48_7 : z_ins 48 7 = some (.putfield 26, 3) := by decide +kernel
theorem ze_48_7 : z_T g d 48 7 ls (.int x :: .ref a :: st) h P = z_pF h.1 a 5 3 (.int x) (fun f => z_T g d 48 10 ls st (f, h.2) P) := zt_putI zi_48_7 ((congrArg (fun o => z_fl o 26) zo_48).trans zf_LatinRectangles_Parser_26)
theorem zi_48_10 : z_ins 48 10 = some (.aload_n 0, 1) := by decide +kernel
theorem ze_48_10 : z_T g d 48 10 (.ref a :: ls) st h P = z_T g d 48 11 (.ref a :: ls) (.ref a :: st) h P := zt_aloadn zi_48_10 rfl rfl
theorem zi_48_11 : z_ins 48 11 = some (.getfield 18, 3) := by decide +kernel
theorem ze_48_11 : z_T g d 48 11 ls (.ref a :: st) h P = z_gR h.1 a 5 0 (fun x => z_T g d 48 14 ls (.ref x :: st) h P) := zt_getR zi_48_11 ((congrArg (fun o => z_fl o 18) zo_48).trans zf_LatinRectangles_Parser_18)
theorem zi_48_14 : z_ins 48 14 = some (.iload_n 1, 1) := by decide +kernel
theorem ze_48_14 : z_T g d 48 14 (v0 :: .int x :: ls) st h P = z_T g d 48 15 (v0 :: .int x :: ls) (.int x :: st) h P := zt_iloadn zi_48_14 rfl rfl
theorem zi_48_15 : z_ins 48 15 = some (.invokevirtual 29, 3) := by decide +kernel
theorem ze_48_15 : z_T g d 48 15 ls (.int x0 :: .ref a :: st) h P = ((z_okS 8 st = true ∧ z_gO h.1 a 7 ∧ 0 < d) ∧ z_Ca g (d - 1) 65 [.ref a, .int x0] h (fun r => z_k r (fun v h' => z_T g d 48 18 ls (z_push v st) h' P) P)) := zt_callV (as := [.int x0]) zi_48_15 ((congrArg (fun o => z_lookup z_prs (o, 29)) zo_48).trans zp_LatinRectangles_Parser_29) ((congrArg (fun o => z_clk o 29) zo_48).trans zk_LatinRectangles_Parser_29) zh_48 zc_65 rfl rfl rfl
theorem zi_48_18 : z_ins 48 18 = some (.aload_n 0, 1) := by decide +kernel
theorem ze_48_18 : z_T g d 48 18 (.ref a :: ls) st h P = z_T g d 48 19 (.ref a :: ls) (.ref a :: st) h P := zt_aloadn zi_48_18 rfl rfl
theorem zi_48_19 : z_ins 48 19 = some (.invokevirtual 35, 3) := by decide +kernel
theorem ze_48_19 : z_T g d 48 19 ls (.ref a :: st) h P = ((z_okS 8 st = true ∧ z_gO h.1 a 5 ∧ 0 < d) ∧ z_Ca g (d - 1) 50 [.ref a] h (fun r => z_k r (fun v h' => z_T g d 48 22 ls (z_push v st) h' P) P)) := zt_callV (as := []) zi_48_19 ((congrArg (fun o => z_lookup z_prs (o, 35)) zo_48).trans zp_LatinRectangles_Parser_35) ((congrArg (fun o => z_clk o 35) zo_48).trans zk_LatinRectangles_Parser_35) zh_48 zc_50 rfl rfl rfl
theorem zi_48_22 : z_ins 48 22 = some (.ifCond .ne 5, 3) := by decide +kernel
theorem ze_48_22 : z_T g d 48 22 ls (.int x :: st) h P = (if x = nI 0 then z_T g d 48 25 ls st h P else z_T g d 48 27 ls st h P) := zt_ifne zi_48_22 (by decide)
theorem zi_48_25 : z_ins 48 25 = some (.iconst 0, 1) := by decide +kernel
theorem ze_48_25 : z_T g d 48 25 ls st h P = z_T g d 48 26 ls (.int (nI 0) :: st) h P := zt_iconst zi_48_25 rfl
theorem zi_48_26 : z_ins 48 26 = some (.ireturn, 1) := by decide +kernel
theorem ze_48_26 : z_T g d 48 26 ls [.int x] h P = ((x = nI 0 ∨ x = nI 1) ∧ P (.inr (some (.int x)), h)) := zt_zreturn zi_48_26 zr_48
theorem zi_48_27 : z_ins 48 27 = some (.iconst 0, 1) := by decide +kernel
theorem ze_48_27 : z_T g d 48 27 ls st h P = z_T g d 48 28 ls (.int (nI 0) :: st) h P := zt_iconst zi_48_27 rfl
theorem zi_48_28 : z_ins 48 28 = some (.istore_n 2, 1) := by decide +kernel
theorem ze_48_28 : z_T g d 48 28 (v0 :: v1 :: v2 :: ls) (.int x :: st) h P = z_T g d 48 29 (v0 :: v1 :: .int x :: ls) st h P := zt_istoren zi_48_28 rfl (Nat.le_add_left 3 _)
theorem zi_48_29 : z_ins 48 29 = some (.iload_n 2, 1) := by decide +kernel
theorem ze_48_29 : z_T g d 48 29 (v0 :: v1 :: .int x :: ls) st h P = z_T g d 48 30 (v0 :: v1 :: .int x :: ls) (.int x :: st) h P := zt_iloadn zi_48_29 rfl rfl
theorem zi_48_30 : z_ins 48 30 = some (.sipush 500, 3) := by decide +kernel
theorem ze_48_30 : z_T g d 48 30 ls st h P = z_T g d 48 33 ls (.int (nI 500) :: st) h P := zt_sipush zi_48_30 rfl
theorem zi_48_33 : z_ins 48 33 = some (.if_icmp .gt 37, 3) := by decide +kernel
theorem ze_48_33 : z_T g d 48 33 ls (.int y :: .int x :: st) h P = (if y < x then z_T g d 48 70 ls st h P else z_T g d 48 36 ls st h P) := zt_icmpgt zi_48_33 (by decide)
theorem zi_48_36 : z_ins 48 36 = some (.aload_n 0, 1) := by decide +kernel
theorem ze_48_36 : z_T g d 48 36 (.ref a :: ls) st h P = z_T g d 48 37 (.ref a :: ls) (.ref a :: st) h P := zt_aloadn zi_48_36 rfl rfl
theorem zi_48_37 : z_ins 48 37 = some (.getfield 18, 3) := by decide +kernel
theorem ze_48_37 : z_T g d 48 37 ls (.ref a :: st) h P = z_gR h.1 a 5 0 (fun x => z_T g d 48 40 ls (.ref x :: st) h P) := zt_getR zi_48_37 ((congrArg (fun o => z_fl o 18) zo_48).trans zf_LatinRectangles_Parser_18)
theorem zi_48_40 : z_ins 48 40 = some (.invokevirtual 39, 3) := by decide +kernel
theorem ze_48_40 : z_T g d 48 40 ls (.ref a :: st) h P = ((z_okS 8 st = true ∧ z_gO h.1 a 7 ∧ 0 < d) ∧ z_Ca g (d - 1) 66 [.ref a] h (fun r => z_k r (fun v h' => z_T g d 48 43 ls (z_push v st) h' P) P)) := zt_callV (as := []) zi_48_40 ((congrArg (fun o => z_lookup z_prs (o, 39)) zo_48).trans zp_LatinRectangles_Parser_39) ((congrArg (fun o => z_clk o 39) zo_48).trans zk_LatinRectangles_Parser_39) zh_48 zc_66 rfl rfl rfl
theorem zi_48_43 : z_ins 48 43 = some (.aload_n 0, 1) := by decide +kernel
theorem ze_48_43 : z_T g d 48 43 (.ref a :: ls) st h P = z_T g d 48 44 (.ref a :: ls) (.ref a :: st) h P := zt_aloadn zi_48_43 rfl rfl
theorem zi_48_44 : z_ins 48 44 = some (.getfield 18, 3) := by decide +kernel
theorem ze_48_44 : z_T g d 48 44 ls (.ref a :: st) h P = z_gR h.1 a 5 0 (fun x => z_T g d 48 47 ls (.ref x :: st) h P) := zt_getR zi_48_44 ((congrArg (fun o => z_fl o 18) zo_48).trans zf_LatinRectangles_Parser_18)
theorem zi_48_47 : z_ins 48 47 = some (.getfield 42, 3) := by decide +kernel
theorem ze_48_47 : z_T g d 48 47 ls (.ref a :: st) h P = z_gI h.1 a 7 4 (fun x => z_T g d 48 50 ls (.int x :: st) h P) := zt_getI zi_48_47 ((congrArg (fun o => z_fl o 42) zo_48).trans zf_LatinRectangles_Parser_42)
theorem zi_48_50 : z_ins 48 50 = some (.ifCond .ne 5, 3) := by decide +kernel
theorem ze_48_50 : z_T g d 48 50 ls (.int x :: st) h P = (if x = nI 0 then z_T g d 48 53 ls st h P else z_T g d 48 55 ls st h P) := zt_ifne zi_48_50 (by decide)
theorem zi_48_53 : z_ins 48 53 = some (.iconst 1, 1) := by decide +kernel
theorem ze_48_53 : z_T g d 48 53 ls st h P = z_T g d 48 54 ls (.int (nI 1) :: st) h P := zt_iconst zi_48_53 rfl
theorem zi_48_54 : z_ins 48 54 = some (.ireturn, 1) := by decide +kernel
theorem ze_48_54 : z_T g d 48 54 ls [.int x] h P = ((x = nI 0 ∨ x = nI 1) ∧ P (.inr (some (.int x)), h)) := zt_zreturn zi_48_54 zr_48
theorem zi_48_55 : z_ins 48 55 = some (.aload_n 0, 1) := by decide +kernel
theorem ze_48_55 : z_T g d 48 55 (.ref a :: ls) st h P = z_T g d 48 56 (.ref a :: ls) (.ref a :: st) h P := zt_aloadn zi_48_55 rfl rfl
theorem zi_48_56 : z_ins 48 56 = some (.invokevirtual 45, 3) := by decide +kernel
theorem ze_48_56 : z_T g d 48 56 ls (.ref a :: st) h P = ((z_okS 8 st = true ∧ z_gO h.1 a 5 ∧ 0 < d) ∧ z_Ca g (d - 1) 51 [.ref a] h (fun r => z_k r (fun v h' => z_T g d 48 59 ls (z_push v st) h' P) P)) := zt_callV (as := []) zi_48_56 ((congrArg (fun o => z_lookup z_prs (o, 45)) zo_48).trans zp_LatinRectangles_Parser_45) ((congrArg (fun o => z_clk o 45) zo_48).trans zk_LatinRectangles_Parser_45) zh_48 zc_51 rfl rfl rfl
theorem zi_48_59 : z_ins 48 59 = some (.ifCond .ne 5, 3) := by decide +kernel
theorem ze_48_59 : z_T g d 48 59 ls (.int x :: st) h P = (if x = nI 0 then z_T g d 48 62 ls st h P else z_T g d 48 64 ls st h P) := zt_ifne zi_48_59 (by decide)
theorem zi_48_62 : z_ins 48 62 = some (.iconst 0, 1) := by decide +kernel
theorem ze_48_62 : z_T g d 48 62 ls st h P = z_T g d 48 63 ls (.int (nI 0) :: st) h P := zt_iconst zi_48_62 rfl
theorem zi_48_63 : z_ins 48 63 = some (.ireturn, 1) := by decide +kernel
theorem ze_48_63 : z_T g d 48 63 ls [.int x] h P = ((x = nI 0 ∨ x = nI 1) ∧ P (.inr (some (.int x)), h)) := zt_zreturn zi_48_63 zr_48
theorem zi_48_64 : z_ins 48 64 = some (.iinc 2 1, 3) := by decide +kernel
theorem ze_48_64 : z_T g d 48 64 (v0 :: v1 :: .int x :: ls) st h P = z_T g d 48 67 (v0 :: v1 :: .int (x + (nI 1)) :: ls) st h P := zt_iinc zi_48_64 rfl rfl
theorem zi_48_67 : z_ins 48 67 = some (.goto (-38), 3) := by decide +kernel
theorem ze_48_67 : z_T g d 48 67 ls st h P = z_T g d 48 29 ls st h P := zt_goto zi_48_67 (by decide)
theorem zi_48_70 : z_ins 48 70 = some (.aload_n 0, 1) := by decide +kernel
theorem ze_48_70 : z_T g d 48 70 (.ref a :: ls) st h P = z_T g d 48 71 (.ref a :: ls) (.ref a :: st) h P := zt_aloadn zi_48_70 rfl rfl
theorem zi_48_71 : z_ins 48 71 = some (.iconst 1, 1) := by decide +kernel
theorem ze_48_71 : z_T g d 48 71 ls st h P = z_T g d 48 72 ls (.int (nI 1) :: st) h P := zt_iconst zi_48_71 rfl
theorem zi_48_72 : z_ins 48 72 = some (.invokevirtual 48, 3) := by decide +kernel
theorem ze_48_72 : z_T g d 48 72 ls (.int x0 :: .ref a :: st) h P = ((z_okS 8 st = true ∧ z_gO h.1 a 5 ∧ 0 < d) ∧ z_Ca g (d - 1) 49 [.ref a, .int x0] h (fun r => z_k r (fun v h' => z_T g d 48 75 ls (z_push v st) h' P) P)) := zt_callV (as := [.int x0]) zi_48_72 ((congrArg (fun o => z_lookup z_prs (o, 48)) zo_48).trans zp_LatinRectangles_Parser_48) ((congrArg (fun o => z_clk o 48) zo_48).trans zk_LatinRectangles_Parser_48) zh_48 zc_49 rfl rfl rfl
theorem zi_48_75 : z_ins 48 75 = some (.ireturn, 1) := by decide +kernel
theorem ze_48_75 : z_T g d 48 75 ls [.int x] h P = ((x = nI 0 ∨ x = nI 1) ∧ P (.inr (some (.int x)), h)) := zt_zreturn zi_48_75 zr_48
-- LatinRectangles$Parser.fail(I)Z
theorem zo_49 : z_own 49 = "LatinRectangles$Parser" := by decide +kernel
theorem zm_49 : z_maxL 49 = 2 := by decide +kernel
theorem zh_49 : z_hds 49 = [] := by decide +kernel
theorem zr_49 : z_rt 49 = (some .boolean) := by decide +kernel
theorem zn_49 : z_Ca g d 49 [.ref a0, .int x1] h P = z_T g d 49 0 [.ref a0, .int x1] [] h P := z_Ca_ent zm_49 rfl rfl
theorem zi_49_0 : z_ins 49 0 = some (.aload_n 0, 1) := by decide +kernel
theorem ze_49_0 : z_T g d 49 0 (.ref a :: ls) st h P = z_T g d 49 1 (.ref a :: ls) (.ref a :: st) h P := zt_aloadn zi_49_0 rfl rfl
theorem zi_49_1 : z_ins 49 1 = some (.iload_n 1, 1) := by decide +kernel
theorem ze_49_1 : z_T g d 49 1 (v0 :: .int x :: ls) st h P = z_T g d 49 2 (v0 :: .int x :: ls) (.int x :: st) h P := zt_iloadn zi_49_1 rfl rfl
theorem zi_49_2 : z_ins 49 2 = some (.putfield 22, 3) := by decide +kernel
theorem ze_49_2 : z_T g d 49 2 ls (.int x :: .ref a :: st) h P = z_pF h.1 a 5 2 (.int x) (fun f => z_T g d 49 5 ls st (f, h.2) P) := zt_putI zi_49_2 ((congrArg (fun o => z_fl o 22) zo_49).trans zf_LatinRectangles_Parser_22)
theorem zi_49_5 : z_ins 49 5 = some (.aload_n 0, 1) := by decide +kernel
theorem ze_49_5 : z_T g d 49 5 (.ref a :: ls) st h P = z_T g d 49 6 (.ref a :: ls) (.ref a :: st) h P := zt_aloadn zi_49_5 rfl rfl
theorem zi_49_6 : z_ins 49 6 = some (.aload_n 0, 1) := by decide +kernel
theorem ze_49_6 : z_T g d 49 6 (.ref a :: ls) st h P = z_T g d 49 7 (.ref a :: ls) (.ref a :: st) h P := zt_aloadn zi_49_6 rfl rfl
theorem zi_49_7 : z_ins 49 7 = some (.getfield 18, 3) := by decide +kernel
theorem ze_49_7 : z_T g d 49 7 ls (.ref a :: st) h P = z_gR h.1 a 5 0 (fun x => z_T g d 49 10 ls (.ref x :: st) h P) := zt_getR zi_49_7 ((congrArg (fun o => z_fl o 18) zo_49).trans zf_LatinRectangles_Parser_18)
theorem zi_49_10 : z_ins 49 10 = some (.getfield 52, 3) := by decide +kernel
theorem ze_49_10 : z_T g d 49 10 ls (.ref a :: st) h P = z_gI h.1 a 7 5 (fun x => z_T g d 49 13 ls (.int x :: st) h P) := zt_getI zi_49_10 ((congrArg (fun o => z_fl o 52) zo_49).trans zf_LatinRectangles_Parser_52)
theorem zi_49_13 : z_ins 49 13 = some (.putfield 26, 3) := by decide +kernel
theorem ze_49_13 : z_T g d 49 13 ls (.int x :: .ref a :: st) h P = z_pF h.1 a 5 3 (.int x) (fun f => z_T g d 49 16 ls st (f, h.2) P) := zt_putI zi_49_13 ((congrArg (fun o => z_fl o 26) zo_49).trans zf_LatinRectangles_Parser_26)
theorem zi_49_16 : z_ins 49 16 = some (.iconst 0, 1) := by decide +kernel
theorem ze_49_16 : z_T g d 49 16 ls st h P = z_T g d 49 17 ls (.int (nI 0) :: st) h P := zt_iconst zi_49_16 rfl
theorem zi_49_17 : z_ins 49 17 = some (.ireturn, 1) := by decide +kernel
theorem ze_49_17 : z_T g d 49 17 ls [.int x] h P = ((x = nI 0 ∨ x = nI 1) ∧ P (.inr (some (.int x)), h)) := zt_zreturn zi_49_17 zr_49
-- LatinRectangles$Parser.readHeader()Z
theorem zo_50 : z_own 50 = "LatinRectangles$Parser" := by decide +kernel
theorem zm_50 : z_maxL 50 = 2 := by decide +kernel
theorem zh_50 : z_hds 50 = [] := by decide +kernel
theorem zr_50 : z_rt 50 = (some .boolean) := by decide +kernel
theorem zn_50 : z_Ca g d 50 [.ref a0] h P = z_T g d 50 0 [.ref a0, z_un] [] h P := z_Ca_ent zm_50 rfl rfl
theorem zi_50_0 : z_ins 50 0 = some (.aload_n 0, 1) := by decide +kernel
theorem ze_50_0 : z_T g d 50 0 (.ref a :: ls) st h P = z_T g d 50 1 (.ref a :: ls) (.ref a :: st) h P := zt_aloadn zi_50_0 rfl rfl
theorem zi_50_1 : z_ins 50 1 = some (.getfield 18, 3) := by decide +kernel
theorem ze_50_1 : z_T g d 50 1 ls (.ref a :: st) h P = z_gR h.1 a 5 0 (fun x => z_T g d 50 4 ls (.ref x :: st) h P) := zt_getR zi_50_1 ((congrArg (fun o => z_fl o 18) zo_50).trans zf_LatinRectangles_Parser_18)
theorem zi_50_4 : z_ins 50 4 = some (.invokevirtual 39, 3) := by decide +kernel
theorem ze_50_4 : z_T g d 50 4 ls (.ref a :: st) h P = ((z_okS 8 st = true ∧ z_gO h.1 a 7 ∧ 0 < d) ∧ z_Ca g (d - 1) 66 [.ref a] h (fun r => z_k r (fun v h' => z_T g d 50 7 ls (z_push v st) h' P) P)) := zt_callV (as := []) zi_50_4 ((congrArg (fun o => z_lookup z_prs (o, 39)) zo_50).trans zp_LatinRectangles_Parser_39) ((congrArg (fun o => z_clk o 39) zo_50).trans zk_LatinRectangles_Parser_39) zh_50 zc_66 rfl rfl rfl
theorem zi_50_7 : z_ins 50 7 = some (.aload_n 0, 1) := by decide +kernel
theorem ze_50_7 : z_T g d 50 7 (.ref a :: ls) st h P = z_T g d 50 8 (.ref a :: ls) (.ref a :: st) h P := zt_aloadn zi_50_7 rfl rfl
theorem zi_50_8 : z_ins 50 8 = some (.getfield 18, 3) := by decide +kernel
theorem ze_50_8 : z_T g d 50 8 ls (.ref a :: st) h P = z_gR h.1 a 5 0 (fun x => z_T g d 50 11 ls (.ref x :: st) h P) := zt_getR zi_50_8 ((congrArg (fun o => z_fl o 18) zo_50).trans zf_LatinRectangles_Parser_18)
theorem zi_50_11 : z_ins 50 11 = some (.ldc 55, 2) := by decide +kernel
theorem ze_50_11 : z_T g d 50 11 ls st h P = z_T g d 50 13 ls (.retAddr 0 :: st) h P := zt_ldc zi_50_11 (by decide +kernel)
theorem zi_50_13 : z_ins 50 13 = some (.invokevirtual 57, 3) := by decide +kernel
theorem ze_50_13 : z_T g d 50 13 ls (.retAddr k0 :: .ref a :: st) h P = ((z_okS 8 st = true ∧ z_gO h.1 a 7 ∧ 0 < d) ∧ z_Ca g (d - 1) 69 [.ref a, .retAddr k0] h (fun r => z_k r (fun v h' => z_T g d 50 16 ls (z_push v st) h' P) P)) := zt_callV (as := [.retAddr k0]) zi_50_13 ((congrArg (fun o => z_lookup z_prs (o, 57)) zo_50).trans zp_LatinRectangles_Parser_57) ((congrArg (fun o => z_clk o 57) zo_50).trans zk_LatinRectangles_Parser_57) zh_50 zc_69 rfl rfl rfl
theorem zi_50_16 : z_ins 50 16 = some (.ifCond .ne 9, 3) := by decide +kernel
theorem ze_50_16 : z_T g d 50 16 ls (.int x :: st) h P = (if x = nI 0 then z_T g d 50 19 ls st h P else z_T g d 50 25 ls st h P) := zt_ifne zi_50_16 (by decide)
theorem zi_50_19 : z_ins 50 19 = some (.aload_n 0, 1) := by decide +kernel
theorem ze_50_19 : z_T g d 50 19 (.ref a :: ls) st h P = z_T g d 50 20 (.ref a :: ls) (.ref a :: st) h P := zt_aloadn zi_50_19 rfl rfl
theorem zi_50_20 : z_ins 50 20 = some (.iconst 1, 1) := by decide +kernel
theorem ze_50_20 : z_T g d 50 20 ls st h P = z_T g d 50 21 ls (.int (nI 1) :: st) h P := zt_iconst zi_50_20 rfl
theorem zi_50_21 : z_ins 50 21 = some (.invokevirtual 48, 3) := by decide +kernel
theorem ze_50_21 : z_T g d 50 21 ls (.int x0 :: .ref a :: st) h P = ((z_okS 8 st = true ∧ z_gO h.1 a 5 ∧ 0 < d) ∧ z_Ca g (d - 1) 49 [.ref a, .int x0] h (fun r => z_k r (fun v h' => z_T g d 50 24 ls (z_push v st) h' P) P)) := zt_callV (as := [.int x0]) zi_50_21 ((congrArg (fun o => z_lookup z_prs (o, 48)) zo_50).trans zp_LatinRectangles_Parser_48) ((congrArg (fun o => z_clk o 48) zo_50).trans zk_LatinRectangles_Parser_48) zh_50 zc_49 rfl rfl rfl
theorem zi_50_24 : z_ins 50 24 = some (.ireturn, 1) := by decide +kernel
theorem ze_50_24 : z_T g d 50 24 ls [.int x] h P = ((x = nI 0 ∨ x = nI 1) ∧ P (.inr (some (.int x)), h)) := zt_zreturn zi_50_24 zr_50
theorem zi_50_25 : z_ins 50 25 = some (.aload_n 0, 1) := by decide +kernel
theorem ze_50_25 : z_T g d 50 25 (.ref a :: ls) st h P = z_T g d 50 26 (.ref a :: ls) (.ref a :: st) h P := zt_aloadn zi_50_25 rfl rfl
theorem zi_50_26 : z_ins 50 26 = some (.iconst 1, 1) := by decide +kernel
theorem ze_50_26 : z_T g d 50 26 ls st h P = z_T g d 50 27 ls (.int (nI 1) :: st) h P := zt_iconst zi_50_26 rfl
theorem zi_50_27 : z_ins 50 27 = some (.iconst 5, 1) := by decide +kernel
theorem ze_50_27 : z_T g d 50 27 ls st h P = z_T g d 50 28 ls (.int (nI 5) :: st) h P := zt_iconst zi_50_27 rfl
theorem zi_50_28 : z_ins 50 28 = some (.invokevirtual 61, 3) := by decide +kernel
theorem ze_50_28 : z_T g d 50 28 ls (.int x1 :: .int x0 :: .ref a :: st) h P = ((z_okS 8 st = true ∧ z_gO h.1 a 5 ∧ 0 < d) ∧ z_Ca g (d - 1) 55 [.ref a, .int x0, .int x1] h (fun r => z_k r (fun v h' => z_T g d 50 31 ls (z_push v st) h' P) P)) := zt_callV (as := [.int x0, .int x1]) zi_50_28 ((congrArg (fun o => z_lookup z_prs (o, 61)) zo_50).trans zp_LatinRectangles_Parser_61) ((congrArg (fun o => z_clk o 61) zo_50).trans zk_LatinRectangles_Parser_61) zh_50 zc_55 rfl rfl rfl
theorem zi_50_31 : z_ins 50 31 = some (.ifCond .ne 5, 3) := by decide +kernel
theorem ze_50_31 : z_T g d 50 31 ls (.int x :: st) h P = (if x = nI 0 then z_T g d 50 34 ls st h P else z_T g d 50 36 ls st h P) := zt_ifne zi_50_31 (by decide)
theorem zi_50_34 : z_ins 50 34 = some (.iconst 0, 1) := by decide +kernel
theorem ze_50_34 : z_T g d 50 34 ls st h P = z_T g d 50 35 ls (.int (nI 0) :: st) h P := zt_iconst zi_50_34 rfl
theorem zi_50_35 : z_ins 50 35 = some (.ireturn, 1) := by decide +kernel
theorem ze_50_35 : z_T g d 50 35 ls [.int x] h P = ((x = nI 0 ∨ x = nI 1) ∧ P (.inr (some (.int x)), h)) := zt_zreturn zi_50_35 zr_50
theorem zi_50_36 : z_ins 50 36 = some (.aload_n 0, 1) := by decide +kernel
theorem ze_50_36 : z_T g d 50 36 (.ref a :: ls) st h P = z_T g d 50 37 (.ref a :: ls) (.ref a :: st) h P := zt_aloadn zi_50_36 rfl rfl
theorem zi_50_37 : z_ins 50 37 = some (.getfield 18, 3) := by decide +kernel
theorem ze_50_37 : z_T g d 50 37 ls (.ref a :: st) h P = z_gR h.1 a 5 0 (fun x => z_T g d 50 40 ls (.ref x :: st) h P) := zt_getR zi_50_37 ((congrArg (fun o => z_fl o 18) zo_50).trans zf_LatinRectangles_Parser_18)
theorem zi_50_40 : z_ins 50 40 = some (.getfield 65, 3) := by decide +kernel
theorem ze_50_40 : z_T g d 50 40 ls (.ref a :: st) h P = z_gI h.1 a 7 6 (fun x => z_T g d 50 43 ls (.int x :: st) h P) := zt_getI zi_50_40 ((congrArg (fun o => z_fl o 65) zo_50).trans zf_LatinRectangles_Parser_65)
theorem zi_50_43 : z_ins 50 43 = some (.istore_n 1, 1) := by decide +kernel
theorem ze_50_43 : z_T g d 50 43 (v0 :: v1 :: ls) (.int x :: st) h P = z_T g d 50 44 (v0 :: .int x :: ls) st h P := zt_istoren zi_50_43 rfl (Nat.le_add_left 2 _)
theorem zi_50_44 : z_ins 50 44 = some (.aload_n 0, 1) := by decide +kernel
theorem ze_50_44 : z_T g d 50 44 (.ref a :: ls) st h P = z_T g d 50 45 (.ref a :: ls) (.ref a :: st) h P := zt_aloadn zi_50_44 rfl rfl
theorem zi_50_45 : z_ins 50 45 = some (.iconst 2, 1) := by decide +kernel
theorem ze_50_45 : z_T g d 50 45 ls st h P = z_T g d 50 46 ls (.int (nI 2) :: st) h P := zt_iconst zi_50_45 rfl
theorem zi_50_46 : z_ins 50 46 = some (.iload_n 1, 1) := by decide +kernel
theorem ze_50_46 : z_T g d 50 46 (v0 :: .int x :: ls) st h P = z_T g d 50 47 (v0 :: .int x :: ls) (.int x :: st) h P := zt_iloadn zi_50_46 rfl rfl
theorem zi_50_47 : z_ins 50 47 = some (.invokestatic 68, 3) := by decide +kernel
theorem ze_50_47 (hok : z_okS 8 (.int y :: .int x :: st) = true) : z_T g d 50 47 ls (.int y :: .int x :: st) h P = z_T g d 50 50 ls (.int (if x < y then y else x) :: st) h P := zt_primS zi_50_47 ((congrArg (fun o => z_lookup z_prs (o, 68)) zo_50).trans zq_LatinRectangles_Parser_68) (by decide) hok rfl
theorem zi_50_50 : z_ins 50 50 = some (.iconst 5, 1) := by decide +kernel
theorem ze_50_50 : z_T g d 50 50 ls st h P = z_T g d 50 51 ls (.int (nI 5) :: st) h P := zt_iconst zi_50_50 rfl
theorem zi_50_51 : z_ins 50 51 = some (.invokevirtual 61, 3) := by decide +kernel
theorem ze_50_51 : z_T g d 50 51 ls (.int x1 :: .int x0 :: .ref a :: st) h P = ((z_okS 8 st = true ∧ z_gO h.1 a 5 ∧ 0 < d) ∧ z_Ca g (d - 1) 55 [.ref a, .int x0, .int x1] h (fun r => z_k r (fun v h' => z_T g d 50 54 ls (z_push v st) h' P) P)) := zt_callV (as := [.int x0, .int x1]) zi_50_51 ((congrArg (fun o => z_lookup z_prs (o, 61)) zo_50).trans zp_LatinRectangles_Parser_61) ((congrArg (fun o => z_clk o 61) zo_50).trans zk_LatinRectangles_Parser_61) zh_50 zc_55 rfl rfl rfl
theorem zi_50_54 : z_ins 50 54 = some (.ifCond .ne 5, 3) := by decide +kernel
theorem ze_50_54 : z_T g d 50 54 ls (.int x :: st) h P = (if x = nI 0 then z_T g d 50 57 ls st h P else z_T g d 50 59 ls st h P) := zt_ifne zi_50_54 (by decide)
theorem zi_50_57 : z_ins 50 57 = some (.iconst 0, 1) := by decide +kernel
theorem ze_50_57 : z_T g d 50 57 ls st h P = z_T g d 50 58 ls (.int (nI 0) :: st) h P := zt_iconst zi_50_57 rfl
theorem zi_50_58 : z_ins 50 58 = some (.ireturn, 1) := by decide +kernel
theorem ze_50_58 : z_T g d 50 58 ls [.int x] h P = ((x = nI 0 ∨ x = nI 1) ∧ P (.inr (some (.int x)), h)) := zt_zreturn zi_50_58 zr_50
theorem zi_50_59 : z_ins 50 59 = some (.aload_n 0, 1) := by decide +kernel
theorem ze_50_59 : z_T g d 50 59 (.ref a :: ls) st h P = z_T g d 50 60 (.ref a :: ls) (.ref a :: st) h P := zt_aloadn zi_50_59 rfl rfl
theorem zi_50_60 : z_ins 50 60 = some (.getfield 12, 3) := by decide +kernel
theorem ze_50_60 : z_T g d 50 60 ls (.ref a :: st) h P = z_gR h.1 a 5 1 (fun x => z_T g d 50 63 ls (.ref x :: st) h P) := zt_getR zi_50_60 ((congrArg (fun o => z_fl o 12) zo_50).trans zf_LatinRectangles_Parser_12)
theorem zi_50_63 : z_ins 50 63 = some (.iload_n 1, 1) := by decide +kernel
theorem ze_50_63 : z_T g d 50 63 (v0 :: .int x :: ls) st h P = z_T g d 50 64 (v0 :: .int x :: ls) (.int x :: st) h P := zt_iloadn zi_50_63 rfl rfl
theorem zi_50_64 : z_ins 50 64 = some (.aload_n 0, 1) := by decide +kernel
theorem ze_50_64 : z_T g d 50 64 (.ref a :: ls) st h P = z_T g d 50 65 (.ref a :: ls) (.ref a :: st) h P := zt_aloadn zi_50_64 rfl rfl
theorem zi_50_65 : z_ins 50 65 = some (.getfield 18, 3) := by decide +kernel
theorem ze_50_65 : z_T g d 50 65 ls (.ref a :: st) h P = z_gR h.1 a 5 0 (fun x => z_T g d 50 68 ls (.ref x :: st) h P) := zt_getR zi_50_65 ((congrArg (fun o => z_fl o 18) zo_50).trans zf_LatinRectangles_Parser_18)
theorem zi_50_68 : z_ins 50 68 = some (.getfield 65, 3) := by decide +kernel
theorem ze_50_68 : z_T g d 50 68 ls (.ref a :: st) h P = z_gI h.1 a 7 6 (fun x => z_T g d 50 71 ls (.int x :: st) h P) := zt_getI zi_50_68 ((congrArg (fun o => z_fl o 65) zo_50).trans zf_LatinRectangles_Parser_65)
theorem zi_50_71 : z_ins 50 71 = some (.invokevirtual 74, 3) := by decide +kernel
theorem ze_50_71 : z_T g d 50 71 ls (.int x1 :: .int x0 :: .ref a :: st) h P = ((z_okS 8 st = true ∧ z_gO h.1 a 3 ∧ 0 < d) ∧ z_Ca g (d - 1) 28 [.ref a, .int x0, .int x1] h (fun r => z_k r (fun v h' => z_T g d 50 74 ls (z_push v st) h' P) P)) := zt_callV (as := [.int x0, .int x1]) zi_50_71 ((congrArg (fun o => z_lookup z_prs (o, 74)) zo_50).trans zp_LatinRectangles_Parser_74) ((congrArg (fun o => z_clk o 74) zo_50).trans zk_LatinRectangles_Parser_74) zh_50 zc_28 rfl rfl rfl
theorem zi_50_74 : z_ins 50 74 = some (.aload_n 0, 1) := by decide +kernel
theorem ze_50_74 : z_T g d 50 74 (.ref a :: ls) st h P = z_T g d 50 75 (.ref a :: ls) (.ref a :: st) h P := zt_aloadn zi_50_74 rfl rfl
theorem zi_50_75 : z_ins 50 75 = some (.invokevirtual 78, 3) := by decide +kernel
theorem ze_50_75 : z_T g d 50 75 ls (.ref a :: st) h P = ((z_okS 8 st = true ∧ z_gO h.1 a 5 ∧ 0 < d) ∧ z_Ca g (d - 1) 56 [.ref a] h (fun r => z_k r (fun v h' => z_T g d 50 78 ls (z_push v st) h' P) P)) := zt_callV (as := []) zi_50_75 ((congrArg (fun o => z_lookup z_prs (o, 78)) zo_50).trans zp_LatinRectangles_Parser_78) ((congrArg (fun o => z_clk o 78) zo_50).trans zk_LatinRectangles_Parser_78) zh_50 zc_56 rfl rfl rfl
theorem zi_50_78 : z_ins 50 78 = some (.ireturn, 1) := by decide +kernel
theorem ze_50_78 : z_T g d 50 78 ls [.int x] h P = ((x = nI 0 ∨ x = nI 1) ∧ P (.inr (some (.int x)), h)) := zt_zreturn zi_50_78 zr_50
-- LatinRectangles$Parser.readStatement()Z
theorem zo_51 : z_own 51 = "LatinRectangles$Parser" := by decide +kernel
theorem zm_51 : z_maxL 51 = 4 := by decide +kernel
theorem zh_51 : z_hds 51 = [] := by decide +kernel
theorem zr_51 : z_rt 51 = (some .boolean) := by decide +kernel
theorem zn_51 : z_Ca g d 51 [.ref a0] h P = z_T g d 51 0 [.ref a0, z_un, z_un, z_un] [] h P := z_Ca_ent zm_51 rfl rfl
theorem zi_51_0 : z_ins 51 0 = some (.aload_n 0, 1) := by decide +kernel
theorem ze_51_0 : z_T g d 51 0 (.ref a :: ls) st h P = z_T g d 51 1 (.ref a :: ls) (.ref a :: st) h P := zt_aloadn zi_51_0 rfl rfl
theorem zi_51_1 : z_ins 51 1 = some (.getfield 18, 3) := by decide +kernel
theorem ze_51_1 : z_T g d 51 1 ls (.ref a :: st) h P = z_gR h.1 a 5 0 (fun x => z_T g d 51 4 ls (.ref x :: st) h P) := zt_getR zi_51_1 ((congrArg (fun o => z_fl o 18) zo_51).trans zf_LatinRectangles_Parser_18)
theorem zi_51_4 : z_ins 51 4 = some (.ldc 81, 2) := by decide +kernel
theorem ze_51_4 : z_T g d 51 4 ls st h P = z_T g d 51 6 ls (.retAddr 1 :: st) h P := zt_ldc zi_51_4 (by decide +kernel)
theorem zi_51_6 : z_ins 51 6 = some (.invokevirtual 57, 3) := by decide +kernel
theorem ze_51_6 : z_T g d 51 6 ls (.retAddr k0 :: .ref a :: st) h P = ((z_okS 8 st = true ∧ z_gO h.1 a 7 ∧ 0 < d) ∧ z_Ca g (d - 1) 69 [.ref a, .retAddr k0] h (fun r => z_k r (fun v h' => z_T g d 51 9 ls (z_push v st) h' P) P)) := zt_callV (as := [.retAddr k0]) zi_51_6 ((congrArg (fun o => z_lookup z_prs (o, 57)) zo_51).trans zp_LatinRectangles_Parser_57) ((congrArg (fun o => z_clk o 57) zo_51).trans zk_LatinRectangles_Parser_57) zh_51 zc_69 rfl rfl rfl
theorem zi_51_9 : z_ins 51 9 = some (.istore_n 1, 1) := by decide +kernel
theorem ze_51_9 : z_T g d 51 9 (v0 :: v1 :: ls) (.int x :: st) h P = z_T g d 51 10 (v0 :: .int x :: ls) st h P := zt_istoren zi_51_9 rfl (Nat.le_add_left 2 _)
theorem zi_51_10 : z_ins 51 10 = some (.iload_n 1, 1) := by decide +kernel
theorem ze_51_10 : z_T g d 51 10 (v0 :: .int x :: ls) st h P = z_T g d 51 11 (v0 :: .int x :: ls) (.int x :: st) h P := zt_iloadn zi_51_10 rfl rfl
theorem zi_51_11 : z_ins 51 11 = some (.ifCond .ne 21, 3) := by decide +kernel
theorem ze_51_11 : z_T g d 51 11 ls (.int x :: st) h P = (if x = nI 0 then z_T g d 51 14 ls st h P else z_T g d 51 32 ls st h P) := zt_ifne zi_51_11 (by decide)
theorem zi_51_14 : z_ins 51 14 = some (.aload_n 0, 1) := by decide +kernel
theorem ze_51_14 : z_T g d 51 14 (.ref a :: ls) st h P = z_T g d 51 15 (.ref a :: ls) (.ref a :: st) h P := zt_aloadn zi_51_14 rfl rfl
theorem zi_51_15 : z_ins 51 15 = some (.getfield 18, 3) := by decide +kernel
theorem ze_51_15 : z_T g d 51 15 ls (.ref a :: st) h P = z_gR h.1 a 5 0 (fun x => z_T g d 51 18 ls (.ref x :: st) h P) := zt_getR zi_51_15 ((congrArg (fun o => z_fl o 18) zo_51).trans zf_LatinRectangles_Parser_18)
theorem zi_51_18 : z_ins 51 18 = some (.ldc 83, 2) := by decide +kernel
theorem ze_51_18 : z_T g d 51 18 ls st h P = z_T g d 51 20 ls (.retAddr 2 :: st) h P := zt_ldc zi_51_18 (by decide +kernel)
theorem zi_51_20 : z_ins 51 20 = some (.invokevirtual 57, 3) := by decide +kernel
theorem ze_51_20 : z_T g d 51 20 ls (.retAddr k0 :: .ref a :: st) h P = ((z_okS 8 st = true ∧ z_gO h.1 a 7 ∧ 0 < d) ∧ z_Ca g (d - 1) 69 [.ref a, .retAddr k0] h (fun r => z_k r (fun v h' => z_T g d 51 23 ls (z_push v st) h' P) P)) := zt_callV (as := [.retAddr k0]) zi_51_20 ((congrArg (fun o => z_lookup z_prs (o, 57)) zo_51).trans zp_LatinRectangles_Parser_57) ((congrArg (fun o => z_clk o 57) zo_51).trans zk_LatinRectangles_Parser_57) zh_51 zc_69 rfl rfl rfl
theorem zi_51_23 : z_ins 51 23 = some (.ifCond .ne 9, 3) := by decide +kernel
theorem ze_51_23 : z_T g d 51 23 ls (.int x :: st) h P = (if x = nI 0 then z_T g d 51 26 ls st h P else z_T g d 51 32 ls st h P) := zt_ifne zi_51_23 (by decide)
theorem zi_51_26 : z_ins 51 26 = some (.aload_n 0, 1) := by decide +kernel
theorem ze_51_26 : z_T g d 51 26 (.ref a :: ls) st h P = z_T g d 51 27 (.ref a :: ls) (.ref a :: st) h P := zt_aloadn zi_51_26 rfl rfl
theorem zi_51_27 : z_ins 51 27 = some (.iconst 1, 1) := by decide +kernel
theorem ze_51_27 : z_T g d 51 27 ls st h P = z_T g d 51 28 ls (.int (nI 1) :: st) h P := zt_iconst zi_51_27 rfl
theorem zi_51_28 : z_ins 51 28 = some (.invokevirtual 48, 3) := by decide +kernel
theorem ze_51_28 : z_T g d 51 28 ls (.int x0 :: .ref a :: st) h P = ((z_okS 8 st = true ∧ z_gO h.1 a 5 ∧ 0 < d) ∧ z_Ca g (d - 1) 49 [.ref a, .int x0] h (fun r => z_k r (fun v h' => z_T g d 51 31 ls (z_push v st) h' P) P)) := zt_callV (as := [.int x0]) zi_51_28 ((congrArg (fun o => z_lookup z_prs (o, 48)) zo_51).trans zp_LatinRectangles_Parser_48) ((congrArg (fun o => z_clk o 48) zo_51).trans zk_LatinRectangles_Parser_48) zh_51 zc_49 rfl rfl rfl
theorem zi_51_31 : z_ins 51 31 = some (.ireturn, 1) := by decide +kernel
theorem ze_51_31 : z_T g d 51 31 ls [.int x] h P = ((x = nI 0 ∨ x = nI 1) ∧ P (.inr (some (.int x)), h)) := zt_zreturn zi_51_31 zr_51
theorem zi_51_32 : z_ins 51 32 = some (.iload_n 1, 1) := by decide +kernel
theorem ze_51_32 : z_T g d 51 32 (v0 :: .int x :: ls) st h P = z_T g d 51 33 (v0 :: .int x :: ls) (.int x :: st) h P := zt_iloadn zi_51_32 rfl rfl
theorem zi_51_33 : z_ins 51 33 = some (.ifCond .eq 21, 3) := by decide +kernel
theorem ze_51_33 : z_T g d 51 33 ls (.int x :: st) h P = (if x = nI 0 then z_T g d 51 54 ls st h P else z_T g d 51 36 ls st h P) := zt_ifeq zi_51_33 (by decide)
theorem zi_51_36 : z_ins 51 36 = some (.aload_n 0, 1) := by decide +kernel
theorem ze_51_36 : z_T g d 51 36 (.ref a :: ls) st h P = z_T g d 51 37 (.ref a :: ls) (.ref a :: st) h P := zt_aloadn zi_51_36 rfl rfl
theorem zi_51_37 : z_ins 51 37 = some (.getfield 12, 3) := by decide +kernel
theorem ze_51_37 : z_T g d 51 37 ls (.ref a :: st) h P = z_gR h.1 a 5 1 (fun x => z_T g d 51 40 ls (.ref x :: st) h P) := zt_getR zi_51_37 ((congrArg (fun o => z_fl o 12) zo_51).trans zf_LatinRectangles_Parser_12)
theorem zi_51_40 : z_ins 51 40 = some (.getfield 85, 3) := by decide +kernel
theorem ze_51_40 : z_T g d 51 40 ls (.ref a :: st) h P = z_gI h.1 a 3 9 (fun x => z_T g d 51 43 ls (.int x :: st) h P) := zt_getI zi_51_40 ((congrArg (fun o => z_fl o 85) zo_51).trans zf_LatinRectangles_Parser_85)
theorem zi_51_43 : z_ins 51 43 = some (.bipush 20, 2) := by decide +kernel
theorem ze_51_43 : z_T g d 51 43 ls st h P = z_T g d 51 45 ls (.int (nI 20) :: st) h P := zt_bipush zi_51_43 rfl
theorem zi_51_45 : z_ins 51 45 = some (.if_icmp .lt 9, 3) := by decide +kernel
theorem ze_51_45 : z_T g d 51 45 ls (.int y :: .int x :: st) h P = (if x < y then z_T g d 51 54 ls st h P else z_T g d 51 48 ls st h P) := zt_icmplt zi_51_45 (by decide)
theorem zi_51_48 : z_ins 51 48 = some (.aload_n 0, 1) := by decide +kernel
theorem ze_51_48 : z_T g d 51 48 (.ref a :: ls) st h P = z_T g d 51 49 (.ref a :: ls) (.ref a :: st) h P := zt_aloadn zi_51_48 rfl rfl
theorem zi_51_49 : z_ins 51 49 = some (.iconst 4, 1) := by decide +kernel
theorem ze_51_49 : z_T g d 51 49 ls st h P = z_T g d 51 50 ls (.int (nI 4) :: st) h P := zt_iconst zi_51_49 rfl
theorem zi_51_50 : z_ins 51 50 = some (.invokevirtual 48, 3) := by decide +kernel
theorem ze_51_50 : z_T g d 51 50 ls (.int x0 :: .ref a :: st) h P = ((z_okS 8 st = true ∧ z_gO h.1 a 5 ∧ 0 < d) ∧ z_Ca g (d - 1) 49 [.ref a, .int x0] h (fun r => z_k r (fun v h' => z_T g d 51 53 ls (z_push v st) h' P) P)) := zt_callV (as := [.int x0]) zi_51_50 ((congrArg (fun o => z_lookup z_prs (o, 48)) zo_51).trans zp_LatinRectangles_Parser_48) ((congrArg (fun o => z_clk o 48) zo_51).trans zk_LatinRectangles_Parser_48) zh_51 zc_49 rfl rfl rfl
theorem zi_51_53 : z_ins 51 53 = some (.ireturn, 1) := by decide +kernel
theorem ze_51_53 : z_T g d 51 53 ls [.int x] h P = ((x = nI 0 ∨ x = nI 1) ∧ P (.inr (some (.int x)), h)) := zt_zreturn zi_51_53 zr_51
theorem zi_51_54 : z_ins 51 54 = some (.aload_n 0, 1) := by decide +kernel
theorem ze_51_54 : z_T g d 51 54 (.ref a :: ls) st h P = z_T g d 51 55 (.ref a :: ls) (.ref a :: st) h P := zt_aloadn zi_51_54 rfl rfl
theorem zi_51_55 : z_ins 51 55 = some (.iconst 0, 1) := by decide +kernel
theorem ze_51_55 : z_T g d 51 55 ls st h P = z_T g d 51 56 ls (.int (nI 0) :: st) h P := zt_iconst zi_51_55 rfl
theorem zi_51_56 : z_ins 51 56 = some (.aload_n 0, 1) := by decide +kernel
theorem ze_51_56 : z_T g d 51 56 (.ref a :: ls) st h P = z_T g d 51 57 (.ref a :: ls) (.ref a :: st) h P := zt_aloadn zi_51_56 rfl rfl
theorem zi_51_57 : z_ins 51 57 = some (.getfield 12, 3) := by decide +kernel
theorem ze_51_57 : z_T g d 51 57 ls (.ref a :: st) h P = z_gR h.1 a 5 1 (fun x => z_T g d 51 60 ls (.ref x :: st) h P) := zt_getR zi_51_57 ((congrArg (fun o => z_fl o 12) zo_51).trans zf_LatinRectangles_Parser_12)
theorem zi_51_60 : z_ins 51 60 = some (.getfield 88, 3) := by decide +kernel
theorem ze_51_60 : z_T g d 51 60 ls (.ref a :: st) h P = z_gI h.1 a 3 5 (fun x => z_T g d 51 63 ls (.int x :: st) h P) := zt_getI zi_51_60 ((congrArg (fun o => z_fl o 88) zo_51).trans zf_LatinRectangles_Parser_88)
theorem zi_51_63 : z_ins 51 63 = some (.iconst 1, 1) := by decide +kernel
theorem ze_51_63 : z_T g d 51 63 ls st h P = z_T g d 51 64 ls (.int (nI 1) :: st) h P := zt_iconst zi_51_63 rfl
theorem zi_51_64 : z_ins 51 64 = some (.isub, 1) := by decide +kernel
theorem ze_51_64 : z_T g d 51 64 ls (.int y :: .int x :: st) h P = z_T g d 51 65 ls (.int (x - y) :: st) h P := zt_bin (f := fun x y => x - y) zi_51_64 rfl (fun _ _ _ => rfl)
theorem zi_51_65 : z_ins 51 65 = some (.invokevirtual 61, 3) := by decide +kernel
theorem ze_51_65 : z_T g d 51 65 ls (.int x1 :: .int x0 :: .ref a :: st) h P = ((z_okS 8 st = true ∧ z_gO h.1 a 5 ∧ 0 < d) ∧ z_Ca g (d - 1) 55 [.ref a, .int x0, .int x1] h (fun r => z_k r (fun v h' => z_T g d 51 68 ls (z_push v st) h' P) P)) := zt_callV (as := [.int x0, .int x1]) zi_51_65 ((congrArg (fun o => z_lookup z_prs (o, 61)) zo_51).trans zp_LatinRectangles_Parser_61) ((congrArg (fun o => z_clk o 61) zo_51).trans zk_LatinRectangles_Parser_61) zh_51 zc_55 rfl rfl rfl
theorem zi_51_68 : z_ins 51 68 = some (.ifCond .ne 5, 3) := by decide +kernel
theorem ze_51_68 : z_T g d 51 68 ls (.int x :: st) h P = (if x = nI 0 then z_T g d 51 71 ls st h P else z_T g d 51 73 ls st h P) := zt_ifne zi_51_68 (by decide)
theorem zi_51_71 : z_ins 51 71 = some (.iconst 0, 1) := by decide +kernel
theorem ze_51_71 : z_T g d 51 71 ls st h P = z_T g d 51 72 ls (.int (nI 0) :: st) h P := zt_iconst zi_51_71 rfl
theorem zi_51_72 : z_ins 51 72 = some (.ireturn, 1) := by decide +kernel
theorem ze_51_72 : z_T g d 51 72 ls [.int x] h P = ((x = nI 0 ∨ x = nI 1) ∧ P (.inr (some (.int x)), h)) := zt_zreturn zi_51_72 zr_51
theorem zi_51_73 : z_ins 51 73 = some (.aload_n 0, 1) := by decide +kernel
theorem ze_51_73 : z_T g d 51 73 (.ref a :: ls) st h P = z_T g d 51 74 (.ref a :: ls) (.ref a :: st) h P := zt_aloadn zi_51_73 rfl rfl
theorem zi_51_74 : z_ins 51 74 = some (.getfield 18, 3) := by decide +kernel
theorem ze_51_74 : z_T g d 51 74 ls (.ref a :: st) h P = z_gR h.1 a 5 0 (fun x => z_T g d 51 77 ls (.ref x :: st) h P) := zt_getR zi_51_74 ((congrArg (fun o => z_fl o 18) zo_51).trans zf_LatinRectangles_Parser_18)
theorem zi_51_77 : z_ins 51 77 = some (.getfield 65, 3) := by decide +kernel
theorem ze_51_77 : z_T g d 51 77 ls (.ref a :: st) h P = z_gI h.1 a 7 6 (fun x => z_T g d 51 80 ls (.int x :: st) h P) := zt_getI zi_51_77 ((congrArg (fun o => z_fl o 65) zo_51).trans zf_LatinRectangles_Parser_65)
theorem zi_51_80 : z_ins 51 80 = some (.istore_n 2, 1) := by decide +kernel
theorem ze_51_80 : z_T g d 51 80 (v0 :: v1 :: v2 :: ls) (.int x :: st) h P = z_T g d 51 81 (v0 :: v1 :: .int x :: ls) st h P := zt_istoren zi_51_80 rfl (Nat.le_add_left 3 _)
theorem zi_51_81 : z_ins 51 81 = some (.aload_n 0, 1) := by decide +kernel
theorem ze_51_81 : z_T g d 51 81 (.ref a :: ls) st h P = z_T g d 51 82 (.ref a :: ls) (.ref a :: st) h P := zt_aloadn zi_51_81 rfl rfl
theorem zi_51_82 : z_ins 51 82 = some (.iconst 0, 1) := by decide +kernel
theorem ze_51_82 : z_T g d 51 82 ls st h P = z_T g d 51 83 ls (.int (nI 0) :: st) h P := zt_iconst zi_51_82 rfl
theorem zi_51_83 : z_ins 51 83 = some (.aload_n 0, 1) := by decide +kernel
theorem ze_51_83 : z_T g d 51 83 (.ref a :: ls) st h P = z_T g d 51 84 (.ref a :: ls) (.ref a :: st) h P := zt_aloadn zi_51_83 rfl rfl
theorem zi_51_84 : z_ins 51 84 = some (.getfield 12, 3) := by decide +kernel
theorem ze_51_84 : z_T g d 51 84 ls (.ref a :: st) h P = z_gR h.1 a 5 1 (fun x => z_T g d 51 87 ls (.ref x :: st) h P) := zt_getR zi_51_84 ((congrArg (fun o => z_fl o 12) zo_51).trans zf_LatinRectangles_Parser_12)
theorem zi_51_87 : z_ins 51 87 = some (.getfield 91, 3) := by decide +kernel
theorem ze_51_87 : z_T g d 51 87 ls (.ref a :: st) h P = z_gI h.1 a 3 6 (fun x => z_T g d 51 90 ls (.int x :: st) h P) := zt_getI zi_51_87 ((congrArg (fun o => z_fl o 91) zo_51).trans zf_LatinRectangles_Parser_91)
theorem zi_51_90 : z_ins 51 90 = some (.iconst 1, 1) := by decide +kernel
theorem ze_51_90 : z_T g d 51 90 ls st h P = z_T g d 51 91 ls (.int (nI 1) :: st) h P := zt_iconst zi_51_90 rfl
theorem zi_51_91 : z_ins 51 91 = some (.isub, 1) := by decide +kernel
theorem ze_51_91 : z_T g d 51 91 ls (.int y :: .int x :: st) h P = z_T g d 51 92 ls (.int (x - y) :: st) h P := zt_bin (f := fun x y => x - y) zi_51_91 rfl (fun _ _ _ => rfl)
theorem zi_51_92 : z_ins 51 92 = some (.invokevirtual 61, 3) := by decide +kernel
theorem ze_51_92 : z_T g d 51 92 ls (.int x1 :: .int x0 :: .ref a :: st) h P = ((z_okS 8 st = true ∧ z_gO h.1 a 5 ∧ 0 < d) ∧ z_Ca g (d - 1) 55 [.ref a, .int x0, .int x1] h (fun r => z_k r (fun v h' => z_T g d 51 95 ls (z_push v st) h' P) P)) := zt_callV (as := [.int x0, .int x1]) zi_51_92 ((congrArg (fun o => z_lookup z_prs (o, 61)) zo_51).trans zp_LatinRectangles_Parser_61) ((congrArg (fun o => z_clk o 61) zo_51).trans zk_LatinRectangles_Parser_61) zh_51 zc_55 rfl rfl rfl
theorem zi_51_95 : z_ins 51 95 = some (.ifCond .ne 5, 3) := by decide +kernel
theorem ze_51_95 : z_T g d 51 95 ls (.int x :: st) h P = (if x = nI 0 then z_T g d 51 98 ls st h P else z_T g d 51 100 ls st h P) := zt_ifne zi_51_95 (by decide)
theorem zi_51_98 : z_ins 51 98 = some (.iconst 0, 1) := by decide +kernel
theorem ze_51_98 : z_T g d 51 98 ls st h P = z_T g d 51 99 ls (.int (nI 0) :: st) h P := zt_iconst zi_51_98 rfl
theorem zi_51_99 : z_ins 51 99 = some (.ireturn, 1) := by decide +kernel
theorem ze_51_99 : z_T g d 51 99 ls [.int x] h P = ((x = nI 0 ∨ x = nI 1) ∧ P (.inr (some (.int x)), h)) := zt_zreturn zi_51_99 zr_51
theorem zi_51_100 : z_ins 51 100 = some (.aload_n 0, 1) := by decide +kernel
theorem ze_51_100 : z_T g d 51 100 (.ref a :: ls) st h P = z_T g d 51 101 (.ref a :: ls) (.ref a :: st) h P := zt_aloadn zi_51_100 rfl rfl
theorem zi_51_101 : z_ins 51 101 = some (.getfield 18, 3) := by decide +kernel
theorem ze_51_101 : z_T g d 51 101 ls (.ref a :: st) h P = z_gR h.1 a 5 0 (fun x => z_T g d 51 104 ls (.ref x :: st) h P) := zt_getR zi_51_101 ((congrArg (fun o => z_fl o 18) zo_51).trans zf_LatinRectangles_Parser_18)
theorem zi_51_104 : z_ins 51 104 = some (.getfield 65, 3) := by decide +kernel
theorem ze_51_104 : z_T g d 51 104 ls (.ref a :: st) h P = z_gI h.1 a 7 6 (fun x => z_T g d 51 107 ls (.int x :: st) h P) := zt_getI zi_51_104 ((congrArg (fun o => z_fl o 65) zo_51).trans zf_LatinRectangles_Parser_65)
theorem zi_51_107 : z_ins 51 107 = some (.istore_n 3, 1) := by decide +kernel
theorem ze_51_107 : z_T g d 51 107 (v0 :: v1 :: v2 :: v3 :: ls) (.int x :: st) h P = z_T g d 51 108 (v0 :: v1 :: v2 :: .int x :: ls) st h P := zt_istoren zi_51_107 rfl (Nat.le_add_left 4 _)
theorem zi_51_108 : z_ins 51 108 = some (.iload_n 1, 1) := by decide +kernel
theorem ze_51_108 : z_T g d 51 108 (v0 :: .int x :: ls) st h P = z_T g d 51 109 (v0 :: .int x :: ls) (.int x :: st) h P := zt_iloadn zi_51_108 rfl rfl
theorem zi_51_109 : z_ins 51 109 = some (.ifCond .eq 15, 3) := by decide +kernel
theorem ze_51_109 : z_T g d 51 109 ls (.int x :: st) h P = (if x = nI 0 then z_T g d 51 124 ls st h P else z_T g d 51 112 ls st h P) := zt_ifeq zi_51_109 (by decide)
theorem zi_51_112 : z_ins 51 112 = some (.aload_n 0, 1) := by decide +kernel
theorem ze_51_112 : z_T g d 51 112 (.ref a :: ls) st h P = z_T g d 51 113 (.ref a :: ls) (.ref a :: st) h P := zt_aloadn zi_51_112 rfl rfl
theorem zi_51_113 : z_ins 51 113 = some (.iload_n 2, 1) := by decide +kernel
theorem ze_51_113 : z_T g d 51 113 (v0 :: v1 :: .int x :: ls) st h P = z_T g d 51 114 (v0 :: v1 :: .int x :: ls) (.int x :: st) h P := zt_iloadn zi_51_113 rfl rfl
theorem zi_51_114 : z_ins 51 114 = some (.iload_n 3, 1) := by decide +kernel
theorem ze_51_114 : z_T g d 51 114 (v0 :: v1 :: v2 :: .int x :: ls) st h P = z_T g d 51 115 (v0 :: v1 :: v2 :: .int x :: ls) (.int x :: st) h P := zt_iloadn zi_51_114 rfl rfl
theorem zi_51_115 : z_ins 51 115 = some (.invokevirtual 94, 3) := by decide +kernel
theorem ze_51_115 : z_T g d 51 115 ls (.int x1 :: .int x0 :: .ref a :: st) h P = ((z_okS 8 st = true ∧ z_gO h.1 a 5 ∧ 0 < d) ∧ z_Ca g (d - 1) 53 [.ref a, .int x0, .int x1] h (fun r => z_k r (fun v h' => z_T g d 51 118 ls (z_push v st) h' P) P)) := zt_callV (as := [.int x0, .int x1]) zi_51_115 ((congrArg (fun o => z_lookup z_prs (o, 94)) zo_51).trans zp_LatinRectangles_Parser_94) ((congrArg (fun o => z_clk o 94) zo_51).trans zk_LatinRectangles_Parser_94) zh_51 zc_53 rfl rfl rfl
theorem zi_51_118 : z_ins 51 118 = some (.ifCond .eq 15, 3) := by decide +kernel
theorem ze_51_118 : z_T g d 51 118 ls (.int x :: st) h P = (if x = nI 0 then z_T g d 51 133 ls st h P else z_T g d 51 121 ls st h P) := zt_ifeq zi_51_118 (by decide)
theorem zi_51_121 : z_ins 51 121 = some (.goto 14, 3) := by decide +kernel
theorem ze_51_121 : z_T g d 51 121 ls st h P = z_T g d 51 135 ls st h P := zt_goto zi_51_121 (by decide)
theorem zi_51_124 : z_ins 51 124 = some (.aload_n 0, 1) := by decide +kernel
theorem ze_51_124 : z_T g d 51 124 (.ref a :: ls) st h P = z_T g d 51 125 (.ref a :: ls) (.ref a :: st) h P := zt_aloadn zi_51_124 rfl rfl
theorem zi_51_125 : z_ins 51 125 = some (.iload_n 2, 1) := by decide +kernel
theorem ze_51_125 : z_T g d 51 125 (v0 :: v1 :: .int x :: ls) st h P = z_T g d 51 126 (v0 :: v1 :: .int x :: ls) (.int x :: st) h P := zt_iloadn zi_51_125 rfl rfl
theorem zi_51_126 : z_ins 51 126 = some (.iload_n 3, 1) := by decide +kernel
theorem ze_51_126 : z_T g d 51 126 (v0 :: v1 :: v2 :: .int x :: ls) st h P = z_T g d 51 127 (v0 :: v1 :: v2 :: .int x :: ls) (.int x :: st) h P := zt_iloadn zi_51_126 rfl rfl
theorem zi_51_127 : z_ins 51 127 = some (.invokevirtual 97, 3) := by decide +kernel
theorem ze_51_127 : z_T g d 51 127 ls (.int x1 :: .int x0 :: .ref a :: st) h P = ((z_okS 8 st = true ∧ z_gO h.1 a 5 ∧ 0 < d) ∧ z_Ca g (d - 1) 52 [.ref a, .int x0, .int x1] h (fun r => z_k r (fun v h' => z_T g d 51 130 ls (z_push v st) h' P) P)) := zt_callV (as := [.int x0, .int x1]) zi_51_127 ((congrArg (fun o => z_lookup z_prs (o, 97)) zo_51).trans zp_LatinRectangles_Parser_97) ((congrArg (fun o => z_clk o 97) zo_51).trans zk_LatinRectangles_Parser_97) zh_51 zc_52 rfl rfl rfl
theorem zi_51_130 : z_ins 51 130 = some (.ifCond .ne 5, 3) := by decide +kernel
theorem ze_51_130 : z_T g d 51 130 ls (.int x :: st) h P = (if x = nI 0 then z_T g d 51 133 ls st h P else z_T g d 51 135 ls st h P) := zt_ifne zi_51_130 (by decide)
theorem zi_51_133 : z_ins 51 133 = some (.iconst 0, 1) := by decide +kernel
theorem ze_51_133 : z_T g d 51 133 ls st h P = z_T g d 51 134 ls (.int (nI 0) :: st) h P := zt_iconst zi_51_133 rfl
theorem zi_51_134 : z_ins 51 134 = some (.ireturn, 1) := by decide +kernel
theorem ze_51_134 : z_T g d 51 134 ls [.int x] h P = ((x = nI 0 ∨ x = nI 1) ∧ P (.inr (some (.int x)), h)) := zt_zreturn zi_51_134 zr_51
theorem zi_51_135 : z_ins 51 135 = some (.aload_n 0, 1) := by decide +kernel
theorem ze_51_135 : z_T g d 51 135 (.ref a :: ls) st h P = z_T g d 51 136 (.ref a :: ls) (.ref a :: st) h P := zt_aloadn zi_51_135 rfl rfl
theorem zi_51_136 : z_ins 51 136 = some (.invokevirtual 78, 3) := by decide +kernel
theorem ze_51_136 : z_T g d 51 136 ls (.ref a :: st) h P = ((z_okS 8 st = true ∧ z_gO h.1 a 5 ∧ 0 < d) ∧ z_Ca g (d - 1) 56 [.ref a] h (fun r => z_k r (fun v h' => z_T g d 51 139 ls (z_push v st) h' P) P)) := zt_callV (as := []) zi_51_136 ((congrArg (fun o => z_lookup z_prs (o, 78)) zo_51).trans zp_LatinRectangles_Parser_78) ((congrArg (fun o => z_clk o 78) zo_51).trans zk_LatinRectangles_Parser_78) zh_51 zc_56 rfl rfl rfl
theorem zi_51_139 : z_ins 51 139 = some (.ireturn, 1) := by decide +kernel
theorem ze_51_139 : z_T g d 51 139 ls [.int x] h P = ((x = nI 0 ∨ x = nI 1) ∧ P (.inr (some (.int x)), h)) := zt_zreturn zi_51_139 zr_51
-- LatinRectangles$Parser.readGiven(II)Z
theorem zo_52 : z_own 52 = "LatinRectangles$Parser" := by decide +kernel
theorem zm_52 : z_maxL 52 = 3 := by decide +kernel
theorem zh_52 : z_hds 52 = [] := by decide +kernel
theorem zr_52 : z_rt 52 = (some .boolean) := by decide +kernel
theorem zn_52 : z_Ca g d 52 [.ref a0, .int x1, .int x2] h P = z_T g d 52 0 [.ref a0, .int x1, .int x2] [] h P := z_Ca_ent zm_52 rfl rfl
theorem zi_52_0 : z_ins 52 0 = some (.aload_n 0, 1) := by decide +kernel
theorem ze_52_0 : z_T g d 52 0 (.ref a :: ls) st h P = z_T g d 52 1 (.ref a :: ls) (.ref a :: st) h P := zt_aloadn zi_52_0 rfl rfl
theorem zi_52_1 : z_ins 52 1 = some (.invokevirtual 100, 3) := by decide +kernel
theorem ze_52_1 : z_T g d 52 1 ls (.ref a :: st) h P = ((z_okS 8 st = true ∧ z_gO h.1 a 5 ∧ 0 < d) ∧ z_Ca g (d - 1) 54 [.ref a] h (fun r => z_k r (fun v h' => z_T g d 52 4 ls (z_push v st) h' P) P)) := zt_callV (as := []) zi_52_1 ((congrArg (fun o => z_lookup z_prs (o, 100)) zo_52).trans zp_LatinRectangles_Parser_100) ((congrArg (fun o => z_clk o 100) zo_52).trans zk_LatinRectangles_Parser_100) zh_52 zc_54 rfl rfl rfl
theorem zi_52_4 : z_ins 52 4 = some (.ifCond .ne 5, 3) := by decide +kernel
theorem ze_52_4 : z_T g d 52 4 ls (.int x :: st) h P = (if x = nI 0 then z_T g d 52 7 ls st h P else z_T g d 52 9 ls st h P) := zt_ifne zi_52_4 (by decide)
theorem zi_52_7 : z_ins 52 7 = some (.iconst 0, 1) := by decide +kernel
theorem ze_52_7 : z_T g d 52 7 ls st h P = z_T g d 52 8 ls (.int (nI 0) :: st) h P := zt_iconst zi_52_7 rfl
theorem zi_52_8 : z_ins 52 8 = some (.ireturn, 1) := by decide +kernel
theorem ze_52_8 : z_T g d 52 8 ls [.int x] h P = ((x = nI 0 ∨ x = nI 1) ∧ P (.inr (some (.int x)), h)) := zt_zreturn zi_52_8 zr_52
theorem zi_52_9 : z_ins 52 9 = some (.aload_n 0, 1) := by decide +kernel
theorem ze_52_9 : z_T g d 52 9 (.ref a :: ls) st h P = z_T g d 52 10 (.ref a :: ls) (.ref a :: st) h P := zt_aloadn zi_52_9 rfl rfl
theorem zi_52_10 : z_ins 52 10 = some (.getfield 12, 3) := by decide +kernel
theorem ze_52_10 : z_T g d 52 10 ls (.ref a :: st) h P = z_gR h.1 a 5 1 (fun x => z_T g d 52 13 ls (.ref x :: st) h P) := zt_getR zi_52_10 ((congrArg (fun o => z_fl o 12) zo_52).trans zf_LatinRectangles_Parser_12)
theorem zi_52_13 : z_ins 52 13 = some (.getfield 103, 3) := by decide +kernel
theorem ze_52_13 : z_T g d 52 13 ls (.ref a :: st) h P = z_gR h.1 a 3 0 (fun x => z_T g d 52 16 ls (.ref x :: st) h P) := zt_getR zi_52_13 ((congrArg (fun o => z_fl o 103) zo_52).trans zf_LatinRectangles_Parser_103)
theorem zi_52_16 : z_ins 52 16 = some (.iload_n 1, 1) := by decide +kernel
theorem ze_52_16 : z_T g d 52 16 (v0 :: .int x :: ls) st h P = z_T g d 52 17 (v0 :: .int x :: ls) (.int x :: st) h P := zt_iloadn zi_52_16 rfl rfl
theorem zi_52_17 : z_ins 52 17 = some (.iconst 5, 1) := by decide +kernel
theorem ze_52_17 : z_T g d 52 17 ls st h P = z_T g d 52 18 ls (.int (nI 5) :: st) h P := zt_iconst zi_52_17 rfl
theorem zi_52_18 : z_ins 52 18 = some (.imul, 1) := by decide +kernel
theorem ze_52_18 : z_T g d 52 18 ls (.int y :: .int x :: st) h P = z_T g d 52 19 ls (.int (x * y) :: st) h P := zt_bin (f := fun x y => x * y) zi_52_18 rfl (fun _ _ _ => rfl)
theorem zi_52_19 : z_ins 52 19 = some (.iload_n 2, 1) := by decide +kernel
theorem ze_52_19 : z_T g d 52 19 (v0 :: v1 :: .int x :: ls) st h P = z_T g d 52 20 (v0 :: v1 :: .int x :: ls) (.int x :: st) h P := zt_iloadn zi_52_19 rfl rfl
theorem zi_52_20 : z_ins 52 20 = some (.iadd, 1) := by decide +kernel
theorem ze_52_20 : z_T g d 52 20 ls (.int y :: .int x :: st) h P = z_T g d 52 21 ls (.int (x + y) :: st) h P := zt_bin (f := fun x y => x + y) zi_52_20 rfl (fun _ _ _ => rfl)
theorem zi_52_21 : z_ins 52 21 = some (.iaload, 1) := by decide +kernel
theorem ze_52_21 : z_T g d 52 21 ls (.int x :: .ref a :: st) h P = z_aL h.1 a z_tI x (fun v => z_T g d 52 22 ls (.int v :: st) h P) := zt_iaload zi_52_21
theorem zi_52_22 : z_ins 52 22 = some (.iconst (-1), 1) := by decide +kernel
theorem ze_52_22 : z_T g d 52 22 ls st h P = z_T g d 52 23 ls (.int (-1) :: st) h P := zt_iconst zi_52_22 rfl
theorem zi_52_23 : z_ins 52 23 = some (.if_icmp .eq 9, 3) := by decide +kernel
theorem ze_52_23 : z_T g d 52 23 ls (.int y :: .int x :: st) h P = (if x = y then z_T g d 52 32 ls st h P else z_T g d 52 26 ls st h P) := zt_icmpeq zi_52_23 (by decide)
theorem zi_52_26 : z_ins 52 26 = some (.aload_n 0, 1) := by decide +kernel
theorem ze_52_26 : z_T g d 52 26 (.ref a :: ls) st h P = z_T g d 52 27 (.ref a :: ls) (.ref a :: st) h P := zt_aloadn zi_52_26 rfl rfl
theorem zi_52_27 : z_ins 52 27 = some (.iconst 2, 1) := by decide +kernel
theorem ze_52_27 : z_T g d 52 27 ls st h P = z_T g d 52 28 ls (.int (nI 2) :: st) h P := zt_iconst zi_52_27 rfl
theorem zi_52_28 : z_ins 52 28 = some (.invokevirtual 48, 3) := by decide +kernel
theorem ze_52_28 : z_T g d 52 28 ls (.int x0 :: .ref a :: st) h P = ((z_okS 8 st = true ∧ z_gO h.1 a 5 ∧ 0 < d) ∧ z_Ca g (d - 1) 49 [.ref a, .int x0] h (fun r => z_k r (fun v h' => z_T g d 52 31 ls (z_push v st) h' P) P)) := zt_callV (as := [.int x0]) zi_52_28 ((congrArg (fun o => z_lookup z_prs (o, 48)) zo_52).trans zp_LatinRectangles_Parser_48) ((congrArg (fun o => z_clk o 48) zo_52).trans zk_LatinRectangles_Parser_48) zh_52 zc_49 rfl rfl rfl
theorem zi_52_31 : z_ins 52 31 = some (.ireturn, 1) := by decide +kernel
theorem ze_52_31 : z_T g d 52 31 ls [.int x] h P = ((x = nI 0 ∨ x = nI 1) ∧ P (.inr (some (.int x)), h)) := zt_zreturn zi_52_31 zr_52
theorem zi_52_32 : z_ins 52 32 = some (.aload_n 0, 1) := by decide +kernel
theorem ze_52_32 : z_T g d 52 32 (.ref a :: ls) st h P = z_T g d 52 33 (.ref a :: ls) (.ref a :: st) h P := zt_aloadn zi_52_32 rfl rfl
theorem zi_52_33 : z_ins 52 33 = some (.getfield 18, 3) := by decide +kernel
theorem ze_52_33 : z_T g d 52 33 ls (.ref a :: st) h P = z_gR h.1 a 5 0 (fun x => z_T g d 52 36 ls (.ref x :: st) h P) := zt_getR zi_52_33 ((congrArg (fun o => z_fl o 18) zo_52).trans zf_LatinRectangles_Parser_18)
theorem zi_52_36 : z_ins 52 36 = some (.getfield 65, 3) := by decide +kernel
theorem ze_52_36 : z_T g d 52 36 ls (.ref a :: st) h P = z_gI h.1 a 7 6 (fun x => z_T g d 52 39 ls (.int x :: st) h P) := zt_getI zi_52_36 ((congrArg (fun o => z_fl o 65) zo_52).trans zf_LatinRectangles_Parser_65)
theorem zi_52_39 : z_ins 52 39 = some (.aload_n 0, 1) := by decide +kernel
theorem ze_52_39 : z_T g d 52 39 (.ref a :: ls) st h P = z_T g d 52 40 (.ref a :: ls) (.ref a :: st) h P := zt_aloadn zi_52_39 rfl rfl
theorem zi_52_40 : z_ins 52 40 = some (.getfield 12, 3) := by decide +kernel
theorem ze_52_40 : z_T g d 52 40 ls (.ref a :: st) h P = z_gR h.1 a 5 1 (fun x => z_T g d 52 43 ls (.ref x :: st) h P) := zt_getR zi_52_40 ((congrArg (fun o => z_fl o 12) zo_52).trans zf_LatinRectangles_Parser_12)
theorem zi_52_43 : z_ins 52 43 = some (.getfield 91, 3) := by decide +kernel
theorem ze_52_43 : z_T g d 52 43 ls (.ref a :: st) h P = z_gI h.1 a 3 6 (fun x => z_T g d 52 46 ls (.int x :: st) h P) := zt_getI zi_52_43 ((congrArg (fun o => z_fl o 91) zo_52).trans zf_LatinRectangles_Parser_91)
theorem zi_52_46 : z_ins 52 46 = some (.if_icmp .lt 9, 3) := by decide +kernel
theorem ze_52_46 : z_T g d 52 46 ls (.int y :: .int x :: st) h P = (if x < y then z_T g d 52 55 ls st h P else z_T g d 52 49 ls st h P) := zt_icmplt zi_52_46 (by decide)
theorem zi_52_49 : z_ins 52 49 = some (.aload_n 0, 1) := by decide +kernel
theorem ze_52_49 : z_T g d 52 49 (.ref a :: ls) st h P = z_T g d 52 50 (.ref a :: ls) (.ref a :: st) h P := zt_aloadn zi_52_49 rfl rfl
theorem zi_52_50 : z_ins 52 50 = some (.iconst 3, 1) := by decide +kernel
theorem ze_52_50 : z_T g d 52 50 ls st h P = z_T g d 52 51 ls (.int (nI 3) :: st) h P := zt_iconst zi_52_50 rfl
theorem zi_52_51 : z_ins 52 51 = some (.invokevirtual 48, 3) := by decide +kernel
theorem ze_52_51 : z_T g d 52 51 ls (.int x0 :: .ref a :: st) h P = ((z_okS 8 st = true ∧ z_gO h.1 a 5 ∧ 0 < d) ∧ z_Ca g (d - 1) 49 [.ref a, .int x0] h (fun r => z_k r (fun v h' => z_T g d 52 54 ls (z_push v st) h' P) P)) := zt_callV (as := [.int x0]) zi_52_51 ((congrArg (fun o => z_lookup z_prs (o, 48)) zo_52).trans zp_LatinRectangles_Parser_48) ((congrArg (fun o => z_clk o 48) zo_52).trans zk_LatinRectangles_Parser_48) zh_52 zc_49 rfl rfl rfl
theorem zi_52_54 : z_ins 52 54 = some (.ireturn, 1) := by decide +kernel
theorem ze_52_54 : z_T g d 52 54 ls [.int x] h P = ((x = nI 0 ∨ x = nI 1) ∧ P (.inr (some (.int x)), h)) := zt_zreturn zi_52_54 zr_52
theorem zi_52_55 : z_ins 52 55 = some (.aload_n 0, 1) := by decide +kernel
theorem ze_52_55 : z_T g d 52 55 (.ref a :: ls) st h P = z_T g d 52 56 (.ref a :: ls) (.ref a :: st) h P := zt_aloadn zi_52_55 rfl rfl
theorem zi_52_56 : z_ins 52 56 = some (.getfield 12, 3) := by decide +kernel
theorem ze_52_56 : z_T g d 52 56 ls (.ref a :: st) h P = z_gR h.1 a 5 1 (fun x => z_T g d 52 59 ls (.ref x :: st) h P) := zt_getR zi_52_56 ((congrArg (fun o => z_fl o 12) zo_52).trans zf_LatinRectangles_Parser_12)
theorem zi_52_59 : z_ins 52 59 = some (.iload_n 1, 1) := by decide +kernel
theorem ze_52_59 : z_T g d 52 59 (v0 :: .int x :: ls) st h P = z_T g d 52 60 (v0 :: .int x :: ls) (.int x :: st) h P := zt_iloadn zi_52_59 rfl rfl
theorem zi_52_60 : z_ins 52 60 = some (.iload_n 2, 1) := by decide +kernel
theorem ze_52_60 : z_T g d 52 60 (v0 :: v1 :: .int x :: ls) st h P = z_T g d 52 61 (v0 :: v1 :: .int x :: ls) (.int x :: st) h P := zt_iloadn zi_52_60 rfl rfl
theorem zi_52_61 : z_ins 52 61 = some (.invokevirtual 107, 3) := by decide +kernel
theorem ze_52_61 : z_T g d 52 61 ls (.int x1 :: .int x0 :: .ref a :: st) h P = ((z_okS 8 st = true ∧ z_gO h.1 a 3 ∧ 0 < d) ∧ z_Ca g (d - 1) 38 [.ref a, .int x0, .int x1] h (fun r => z_k r (fun v h' => z_T g d 52 64 ls (z_push v st) h' P) P)) := zt_callV (as := [.int x0, .int x1]) zi_52_61 ((congrArg (fun o => z_lookup z_prs (o, 107)) zo_52).trans zp_LatinRectangles_Parser_107) ((congrArg (fun o => z_clk o 107) zo_52).trans zk_LatinRectangles_Parser_107) zh_52 zc_38 rfl rfl rfl
theorem zi_52_64 : z_ins 52 64 = some (.aload_n 0, 1) := by decide +kernel
theorem ze_52_64 : z_T g d 52 64 (.ref a :: ls) st h P = z_T g d 52 65 (.ref a :: ls) (.ref a :: st) h P := zt_aloadn zi_52_64 rfl rfl
theorem zi_52_65 : z_ins 52 65 = some (.getfield 18, 3) := by decide +kernel
theorem ze_52_65 : z_T g d 52 65 ls (.ref a :: st) h P = z_gR h.1 a 5 0 (fun x => z_T g d 52 68 ls (.ref x :: st) h P) := zt_getR zi_52_65 ((congrArg (fun o => z_fl o 18) zo_52).trans zf_LatinRectangles_Parser_18)
theorem zi_52_68 : z_ins 52 68 = some (.getfield 65, 3) := by decide +kernel
theorem ze_52_68 : z_T g d 52 68 ls (.ref a :: st) h P = z_gI h.1 a 7 6 (fun x => z_T g d 52 71 ls (.int x :: st) h P) := zt_getI zi_52_68 ((congrArg (fun o => z_fl o 65) zo_52).trans zf_LatinRectangles_Parser_65)
theorem zi_52_71 : z_ins 52 71 = some (.ishr, 1) := by decide +kernel
theorem ze_52_71 : z_T g d 52 71 ls (.int y :: .int x :: st) h P = z_T g d 52 72 ls (.int (x >>> (y &&& 31)) :: st) h P := zt_bin (f := fun x y => x >>> (y &&& 31)) zi_52_71 rfl (fun _ _ _ => rfl)
theorem zi_52_72 : z_ins 52 72 = some (.iconst 1, 1) := by decide +kernel
theorem ze_52_72 : z_T g d 52 72 ls st h P = z_T g d 52 73 ls (.int (nI 1) :: st) h P := zt_iconst zi_52_72 rfl
theorem zi_52_73 : z_ins 52 73 = some (.iand, 1) := by decide +kernel
theorem ze_52_73 : z_T g d 52 73 ls (.int y :: .int x :: st) h P = z_T g d 52 74 ls (.int (x &&& y) :: st) h P := zt_bin (f := fun x y => x &&& y) zi_52_73 rfl (fun _ _ _ => rfl)
theorem zi_52_74 : z_ins 52 74 = some (.ifCond .ne 9, 3) := by decide +kernel
theorem ze_52_74 : z_T g d 52 74 ls (.int x :: st) h P = (if x = nI 0 then z_T g d 52 77 ls st h P else z_T g d 52 83 ls st h P) := zt_ifne zi_52_74 (by decide)
theorem zi_52_77 : z_ins 52 77 = some (.aload_n 0, 1) := by decide +kernel
theorem ze_52_77 : z_T g d 52 77 (.ref a :: ls) st h P = z_T g d 52 78 (.ref a :: ls) (.ref a :: st) h P := zt_aloadn zi_52_77 rfl rfl
theorem zi_52_78 : z_ins 52 78 = some (.iconst 2, 1) := by decide +kernel
theorem ze_52_78 : z_T g d 52 78 ls st h P = z_T g d 52 79 ls (.int (nI 2) :: st) h P := zt_iconst zi_52_78 rfl
theorem zi_52_79 : z_ins 52 79 = some (.invokevirtual 48, 3) := by decide +kernel
theorem ze_52_79 : z_T g d 52 79 ls (.int x0 :: .ref a :: st) h P = ((z_okS 8 st = true ∧ z_gO h.1 a 5 ∧ 0 < d) ∧ z_Ca g (d - 1) 49 [.ref a, .int x0] h (fun r => z_k r (fun v h' => z_T g d 52 82 ls (z_push v st) h' P) P)) := zt_callV (as := [.int x0]) zi_52_79 ((congrArg (fun o => z_lookup z_prs (o, 48)) zo_52).trans zp_LatinRectangles_Parser_48) ((congrArg (fun o => z_clk o 48) zo_52).trans zk_LatinRectangles_Parser_48) zh_52 zc_49 rfl rfl rfl
theorem zi_52_82 : z_ins 52 82 = some (.ireturn, 1) := by decide +kernel
theorem ze_52_82 : z_T g d 52 82 ls [.int x] h P = ((x = nI 0 ∨ x = nI 1) ∧ P (.inr (some (.int x)), h)) := zt_zreturn zi_52_82 zr_52
theorem zi_52_83 : z_ins 52 83 = some (.aload_n 0, 1) := by decide +kernel
theorem ze_52_83 : z_T g d 52 83 (.ref a :: ls) st h P = z_T g d 52 84 (.ref a :: ls) (.ref a :: st) h P := zt_aloadn zi_52_83 rfl rfl
theorem zi_52_84 : z_ins 52 84 = some (.getfield 12, 3) := by decide +kernel
theorem ze_52_84 : z_T g d 52 84 ls (.ref a :: st) h P = z_gR h.1 a 5 1 (fun x => z_T g d 52 87 ls (.ref x :: st) h P) := zt_getR zi_52_84 ((congrArg (fun o => z_fl o 12) zo_52).trans zf_LatinRectangles_Parser_12)
theorem zi_52_87 : z_ins 52 87 = some (.iload_n 1, 1) := by decide +kernel
theorem ze_52_87 : z_T g d 52 87 (v0 :: .int x :: ls) st h P = z_T g d 52 88 (v0 :: .int x :: ls) (.int x :: st) h P := zt_iloadn zi_52_87 rfl rfl
theorem zi_52_88 : z_ins 52 88 = some (.iload_n 2, 1) := by decide +kernel
theorem ze_52_88 : z_T g d 52 88 (v0 :: v1 :: .int x :: ls) st h P = z_T g d 52 89 (v0 :: v1 :: .int x :: ls) (.int x :: st) h P := zt_iloadn zi_52_88 rfl rfl
theorem zi_52_89 : z_ins 52 89 = some (.aload_n 0, 1) := by decide +kernel
theorem ze_52_89 : z_T g d 52 89 (.ref a :: ls) st h P = z_T g d 52 90 (.ref a :: ls) (.ref a :: st) h P := zt_aloadn zi_52_89 rfl rfl
theorem zi_52_90 : z_ins 52 90 = some (.getfield 18, 3) := by decide +kernel
theorem ze_52_90 : z_T g d 52 90 ls (.ref a :: st) h P = z_gR h.1 a 5 0 (fun x => z_T g d 52 93 ls (.ref x :: st) h P) := zt_getR zi_52_90 ((congrArg (fun o => z_fl o 18) zo_52).trans zf_LatinRectangles_Parser_18)
theorem zi_52_93 : z_ins 52 93 = some (.getfield 65, 3) := by decide +kernel
theorem ze_52_93 : z_T g d 52 93 ls (.ref a :: st) h P = z_gI h.1 a 7 6 (fun x => z_T g d 52 96 ls (.int x :: st) h P) := zt_getI zi_52_93 ((congrArg (fun o => z_fl o 65) zo_52).trans zf_LatinRectangles_Parser_65)
theorem zi_52_96 : z_ins 52 96 = some (.invokevirtual 110, 3) := by decide +kernel
theorem ze_52_96 : z_T g d 52 96 ls (.int x2 :: .int x1 :: .int x0 :: .ref a :: st) h P = ((z_okS 8 st = true ∧ z_gO h.1 a 3 ∧ 0 < d) ∧ z_Ca g (d - 1) 35 [.ref a, .int x0, .int x1, .int x2] h (fun r => z_k r (fun v h' => z_T g d 52 99 ls (z_push v st) h' P) P)) := zt_callV (as := [.int x0, .int x1, .int x2]) zi_52_96 ((congrArg (fun o => z_lookup z_prs (o, 110)) zo_52).trans zp_LatinRectangles_Parser_110) ((congrArg (fun o => z_clk o 110) zo_52).trans zk_LatinRectangles_Parser_110) zh_52 zc_35 rfl rfl rfl
theorem zi_52_99 : z_ins 52 99 = some (.iconst 1, 1) := by decide +kernel
theorem ze_52_99 : z_T g d 52 99 ls st h P = z_T g d 52 100 ls (.int (nI 1) :: st) h P := zt_iconst zi_52_99 rfl
theorem zi_52_100 : z_ins 52 100 = some (.ireturn, 1) := by decide +kernel
theorem ze_52_100 : z_T g d 52 100 ls [.int x] h P = ((x = nI 0 ∨ x = nI 1) ∧ P (.inr (some (.int x)), h)) := zt_zreturn zi_52_100 zr_52
-- LatinRectangles$Parser.readBan(II)Z
theorem zo_53 : z_own 53 = "LatinRectangles$Parser" := by decide +kernel
theorem zm_53 : z_maxL 53 = 4 := by decide +kernel
theorem zh_53 : z_hds 53 = [] := by decide +kernel
theorem zr_53 : z_rt 53 = (some .boolean) := by decide +kernel
theorem zn_53 : z_Ca g d 53 [.ref a0, .int x1, .int x2] h P = z_T g d 53 0 [.ref a0, .int x1, .int x2, z_un] [] h P := z_Ca_ent zm_53 rfl rfl
theorem zi_53_0 : z_ins 53 0 = some (.aload_n 0, 1) := by decide +kernel
theorem ze_53_0 : z_T g d 53 0 (.ref a :: ls) st h P = z_T g d 53 1 (.ref a :: ls) (.ref a :: st) h P := zt_aloadn zi_53_0 rfl rfl
theorem zi_53_1 : z_ins 53 1 = some (.iconst 0, 1) := by decide +kernel
theorem ze_53_1 : z_T g d 53 1 ls st h P = z_T g d 53 2 ls (.int (nI 0) :: st) h P := zt_iconst zi_53_1 rfl
theorem zi_53_2 : z_ins 53 2 = some (.aload_n 0, 1) := by decide +kernel
theorem ze_53_2 : z_T g d 53 2 (.ref a :: ls) st h P = z_T g d 53 3 (.ref a :: ls) (.ref a :: st) h P := zt_aloadn zi_53_2 rfl rfl
theorem zi_53_3 : z_ins 53 3 = some (.getfield 12, 3) := by decide +kernel
theorem ze_53_3 : z_T g d 53 3 ls (.ref a :: st) h P = z_gR h.1 a 5 1 (fun x => z_T g d 53 6 ls (.ref x :: st) h P) := zt_getR zi_53_3 ((congrArg (fun o => z_fl o 12) zo_53).trans zf_LatinRectangles_Parser_12)
theorem zi_53_6 : z_ins 53 6 = some (.getfield 91, 3) := by decide +kernel
theorem ze_53_6 : z_T g d 53 6 ls (.ref a :: st) h P = z_gI h.1 a 3 6 (fun x => z_T g d 53 9 ls (.int x :: st) h P) := zt_getI zi_53_6 ((congrArg (fun o => z_fl o 91) zo_53).trans zf_LatinRectangles_Parser_91)
theorem zi_53_9 : z_ins 53 9 = some (.iconst 1, 1) := by decide +kernel
theorem ze_53_9 : z_T g d 53 9 ls st h P = z_T g d 53 10 ls (.int (nI 1) :: st) h P := zt_iconst zi_53_9 rfl
theorem zi_53_10 : z_ins 53 10 = some (.isub, 1) := by decide +kernel
theorem ze_53_10 : z_T g d 53 10 ls (.int y :: .int x :: st) h P = z_T g d 53 11 ls (.int (x - y) :: st) h P := zt_bin (f := fun x y => x - y) zi_53_10 rfl (fun _ _ _ => rfl)
theorem zi_53_11 : z_ins 53 11 = some (.invokevirtual 61, 3) := by decide +kernel
theorem ze_53_11 : z_T g d 53 11 ls (.int x1 :: .int x0 :: .ref a :: st) h P = ((z_okS 8 st = true ∧ z_gO h.1 a 5 ∧ 0 < d) ∧ z_Ca g (d - 1) 55 [.ref a, .int x0, .int x1] h (fun r => z_k r (fun v h' => z_T g d 53 14 ls (z_push v st) h' P) P)) := zt_callV (as := [.int x0, .int x1]) zi_53_11 ((congrArg (fun o => z_lookup z_prs (o, 61)) zo_53).trans zp_LatinRectangles_Parser_61) ((congrArg (fun o => z_clk o 61) zo_53).trans zk_LatinRectangles_Parser_61) zh_53 zc_55 rfl rfl rfl
theorem zi_53_14 : z_ins 53 14 = some (.ifCond .ne 5, 3) := by decide +kernel
theorem ze_53_14 : z_T g d 53 14 ls (.int x :: st) h P = (if x = nI 0 then z_T g d 53 17 ls st h P else z_T g d 53 19 ls st h P) := zt_ifne zi_53_14 (by decide)
theorem zi_53_17 : z_ins 53 17 = some (.iconst 0, 1) := by decide +kernel
theorem ze_53_17 : z_T g d 53 17 ls st h P = z_T g d 53 18 ls (.int (nI 0) :: st) h P := zt_iconst zi_53_17 rfl
theorem zi_53_18 : z_ins 53 18 = some (.ireturn, 1) := by decide +kernel
theorem ze_53_18 : z_T g d 53 18 ls [.int x] h P = ((x = nI 0 ∨ x = nI 1) ∧ P (.inr (some (.int x)), h)) := zt_zreturn zi_53_18 zr_53
theorem zi_53_19 : z_ins 53 19 = some (.iload_n 1, 1) := by decide +kernel
theorem ze_53_19 : z_T g d 53 19 (v0 :: .int x :: ls) st h P = z_T g d 53 20 (v0 :: .int x :: ls) (.int x :: st) h P := zt_iloadn zi_53_19 rfl rfl
theorem zi_53_20 : z_ins 53 20 = some (.iconst 5, 1) := by decide +kernel
theorem ze_53_20 : z_T g d 53 20 ls st h P = z_T g d 53 21 ls (.int (nI 5) :: st) h P := zt_iconst zi_53_20 rfl
theorem zi_53_21 : z_ins 53 21 = some (.imul, 1) := by decide +kernel
theorem ze_53_21 : z_T g d 53 21 ls (.int y :: .int x :: st) h P = z_T g d 53 22 ls (.int (x * y) :: st) h P := zt_bin (f := fun x y => x * y) zi_53_21 rfl (fun _ _ _ => rfl)
theorem zi_53_22 : z_ins 53 22 = some (.iload_n 2, 1) := by decide +kernel
theorem ze_53_22 : z_T g d 53 22 (v0 :: v1 :: .int x :: ls) st h P = z_T g d 53 23 (v0 :: v1 :: .int x :: ls) (.int x :: st) h P := zt_iloadn zi_53_22 rfl rfl
theorem zi_53_23 : z_ins 53 23 = some (.iadd, 1) := by decide +kernel
theorem ze_53_23 : z_T g d 53 23 ls (.int y :: .int x :: st) h P = z_T g d 53 24 ls (.int (x + y) :: st) h P := zt_bin (f := fun x y => x + y) zi_53_23 rfl (fun _ _ _ => rfl)
theorem zi_53_24 : z_ins 53 24 = some (.istore_n 3, 1) := by decide +kernel
theorem ze_53_24 : z_T g d 53 24 (v0 :: v1 :: v2 :: v3 :: ls) (.int x :: st) h P = z_T g d 53 25 (v0 :: v1 :: v2 :: .int x :: ls) st h P := zt_istoren zi_53_24 rfl (Nat.le_add_left 4 _)
theorem zi_53_25 : z_ins 53 25 = some (.aload_n 0, 1) := by decide +kernel
theorem ze_53_25 : z_T g d 53 25 (.ref a :: ls) st h P = z_T g d 53 26 (.ref a :: ls) (.ref a :: st) h P := zt_aloadn zi_53_25 rfl rfl
theorem zi_53_26 : z_ins 53 26 = some (.getfield 12, 3) := by decide +kernel
theorem ze_53_26 : z_T g d 53 26 ls (.ref a :: st) h P = z_gR h.1 a 5 1 (fun x => z_T g d 53 29 ls (.ref x :: st) h P) := zt_getR zi_53_26 ((congrArg (fun o => z_fl o 12) zo_53).trans zf_LatinRectangles_Parser_12)
theorem zi_53_29 : z_ins 53 29 = some (.iload_n 3, 1) := by decide +kernel
theorem ze_53_29 : z_T g d 53 29 (v0 :: v1 :: v2 :: .int x :: ls) st h P = z_T g d 53 30 (v0 :: v1 :: v2 :: .int x :: ls) (.int x :: st) h P := zt_iloadn zi_53_29 rfl rfl
theorem zi_53_30 : z_ins 53 30 = some (.aload_n 0, 1) := by decide +kernel
theorem ze_53_30 : z_T g d 53 30 (.ref a :: ls) st h P = z_T g d 53 31 (.ref a :: ls) (.ref a :: st) h P := zt_aloadn zi_53_30 rfl rfl
theorem zi_53_31 : z_ins 53 31 = some (.getfield 18, 3) := by decide +kernel
theorem ze_53_31 : z_T g d 53 31 ls (.ref a :: st) h P = z_gR h.1 a 5 0 (fun x => z_T g d 53 34 ls (.ref x :: st) h P) := zt_getR zi_53_31 ((congrArg (fun o => z_fl o 18) zo_53).trans zf_LatinRectangles_Parser_18)
theorem zi_53_34 : z_ins 53 34 = some (.getfield 65, 3) := by decide +kernel
theorem ze_53_34 : z_T g d 53 34 ls (.ref a :: st) h P = z_gI h.1 a 7 6 (fun x => z_T g d 53 37 ls (.int x :: st) h P) := zt_getI zi_53_34 ((congrArg (fun o => z_fl o 65) zo_53).trans zf_LatinRectangles_Parser_65)
theorem zi_53_37 : z_ins 53 37 = some (.invokevirtual 114, 3) := by decide +kernel
theorem ze_53_37 : z_T g d 53 37 ls (.int x1 :: .int x0 :: .ref a :: st) h P = ((z_okS 8 st = true ∧ z_gO h.1 a 3 ∧ 0 < d) ∧ z_Ca g (d - 1) 37 [.ref a, .int x0, .int x1] h (fun r => z_k r (fun v h' => z_T g d 53 40 ls (z_push v st) h' P) P)) := zt_callV (as := [.int x0, .int x1]) zi_53_37 ((congrArg (fun o => z_lookup z_prs (o, 114)) zo_53).trans zp_LatinRectangles_Parser_114) ((congrArg (fun o => z_clk o 114) zo_53).trans zk_LatinRectangles_Parser_114) zh_53 zc_37 rfl rfl rfl
theorem zi_53_40 : z_ins 53 40 = some (.ifCond .ne 22, 3) := by decide +kernel
theorem ze_53_40 : z_T g d 53 40 ls (.int x :: st) h P = (if x = nI 0 then z_T g d 53 43 ls st h P else z_T g d 53 62 ls st h P) := zt_ifne zi_53_40 (by decide)
theorem zi_53_43 : z_ins 53 43 = some (.aload_n 0, 1) := by decide +kernel
theorem ze_53_43 : z_T g d 53 43 (.ref a :: ls) st h P = z_T g d 53 44 (.ref a :: ls) (.ref a :: st) h P := zt_aloadn zi_53_43 rfl rfl
theorem zi_53_44 : z_ins 53 44 = some (.getfield 12, 3) := by decide +kernel
theorem ze_53_44 : z_T g d 53 44 ls (.ref a :: st) h P = z_gR h.1 a 5 1 (fun x => z_T g d 53 47 ls (.ref x :: st) h P) := zt_getR zi_53_44 ((congrArg (fun o => z_fl o 12) zo_53).trans zf_LatinRectangles_Parser_12)
theorem zi_53_47 : z_ins 53 47 = some (.getfield 103, 3) := by decide +kernel
theorem ze_53_47 : z_T g d 53 47 ls (.ref a :: st) h P = z_gR h.1 a 3 0 (fun x => z_T g d 53 50 ls (.ref x :: st) h P) := zt_getR zi_53_47 ((congrArg (fun o => z_fl o 103) zo_53).trans zf_LatinRectangles_Parser_103)
theorem zi_53_50 : z_ins 53 50 = some (.iload_n 3, 1) := by decide +kernel
theorem ze_53_50 : z_T g d 53 50 (v0 :: v1 :: v2 :: .int x :: ls) st h P = z_T g d 53 51 (v0 :: v1 :: v2 :: .int x :: ls) (.int x :: st) h P := zt_iloadn zi_53_50 rfl rfl
theorem zi_53_51 : z_ins 53 51 = some (.iaload, 1) := by decide +kernel
theorem ze_53_51 : z_T g d 53 51 ls (.int x :: .ref a :: st) h P = z_aL h.1 a z_tI x (fun v => z_T g d 53 52 ls (.int v :: st) h P) := zt_iaload zi_53_51
theorem zi_53_52 : z_ins 53 52 = some (.aload_n 0, 1) := by decide +kernel
theorem ze_53_52 : z_T g d 53 52 (.ref a :: ls) st h P = z_T g d 53 53 (.ref a :: ls) (.ref a :: st) h P := zt_aloadn zi_53_52 rfl rfl
theorem zi_53_53 : z_ins 53 53 = some (.getfield 18, 3) := by decide +kernel
theorem ze_53_53 : z_T g d 53 53 ls (.ref a :: st) h P = z_gR h.1 a 5 0 (fun x => z_T g d 53 56 ls (.ref x :: st) h P) := zt_getR zi_53_53 ((congrArg (fun o => z_fl o 18) zo_53).trans zf_LatinRectangles_Parser_18)
theorem zi_53_56 : z_ins 53 56 = some (.getfield 65, 3) := by decide +kernel
theorem ze_53_56 : z_T g d 53 56 ls (.ref a :: st) h P = z_gI h.1 a 7 6 (fun x => z_T g d 53 59 ls (.int x :: st) h P) := zt_getI zi_53_56 ((congrArg (fun o => z_fl o 65) zo_53).trans zf_LatinRectangles_Parser_65)
theorem zi_53_59 : z_ins 53 59 = some (.if_icmp .ne 9, 3) := by decide +kernel
theorem ze_53_59 : z_T g d 53 59 ls (.int y :: .int x :: st) h P = (if x = y then z_T g d 53 62 ls st h P else z_T g d 53 68 ls st h P) := zt_icmpne zi_53_59 (by decide)
theorem zi_53_62 : z_ins 53 62 = some (.aload_n 0, 1) := by decide +kernel
theorem ze_53_62 : z_T g d 53 62 (.ref a :: ls) st h P = z_T g d 53 63 (.ref a :: ls) (.ref a :: st) h P := zt_aloadn zi_53_62 rfl rfl
theorem zi_53_63 : z_ins 53 63 = some (.iconst 2, 1) := by decide +kernel
theorem ze_53_63 : z_T g d 53 63 ls st h P = z_T g d 53 64 ls (.int (nI 2) :: st) h P := zt_iconst zi_53_63 rfl
theorem zi_53_64 : z_ins 53 64 = some (.invokevirtual 48, 3) := by decide +kernel
theorem ze_53_64 : z_T g d 53 64 ls (.int x0 :: .ref a :: st) h P = ((z_okS 8 st = true ∧ z_gO h.1 a 5 ∧ 0 < d) ∧ z_Ca g (d - 1) 49 [.ref a, .int x0] h (fun r => z_k r (fun v h' => z_T g d 53 67 ls (z_push v st) h' P) P)) := zt_callV (as := [.int x0]) zi_53_64 ((congrArg (fun o => z_lookup z_prs (o, 48)) zo_53).trans zp_LatinRectangles_Parser_48) ((congrArg (fun o => z_clk o 48) zo_53).trans zk_LatinRectangles_Parser_48) zh_53 zc_49 rfl rfl rfl
theorem zi_53_67 : z_ins 53 67 = some (.ireturn, 1) := by decide +kernel
theorem ze_53_67 : z_T g d 53 67 ls [.int x] h P = ((x = nI 0 ∨ x = nI 1) ∧ P (.inr (some (.int x)), h)) := zt_zreturn zi_53_67 zr_53
theorem zi_53_68 : z_ins 53 68 = some (.aload_n 0, 1) := by decide +kernel
theorem ze_53_68 : z_T g d 53 68 (.ref a :: ls) st h P = z_T g d 53 69 (.ref a :: ls) (.ref a :: st) h P := zt_aloadn zi_53_68 rfl rfl
theorem zi_53_69 : z_ins 53 69 = some (.getfield 12, 3) := by decide +kernel
theorem ze_53_69 : z_T g d 53 69 ls (.ref a :: st) h P = z_gR h.1 a 5 1 (fun x => z_T g d 53 72 ls (.ref x :: st) h P) := zt_getR zi_53_69 ((congrArg (fun o => z_fl o 12) zo_53).trans zf_LatinRectangles_Parser_12)
theorem zi_53_72 : z_ins 53 72 = some (.iload_n 3, 1) := by decide +kernel
theorem ze_53_72 : z_T g d 53 72 (v0 :: v1 :: v2 :: .int x :: ls) st h P = z_T g d 53 73 (v0 :: v1 :: v2 :: .int x :: ls) (.int x :: st) h P := zt_iloadn zi_53_72 rfl rfl
theorem zi_53_73 : z_ins 53 73 = some (.aload_n 0, 1) := by decide +kernel
theorem ze_53_73 : z_T g d 53 73 (.ref a :: ls) st h P = z_T g d 53 74 (.ref a :: ls) (.ref a :: st) h P := zt_aloadn zi_53_73 rfl rfl
theorem zi_53_74 : z_ins 53 74 = some (.getfield 18, 3) := by decide +kernel
theorem ze_53_74 : z_T g d 53 74 ls (.ref a :: st) h P = z_gR h.1 a 5 0 (fun x => z_T g d 53 77 ls (.ref x :: st) h P) := zt_getR zi_53_74 ((congrArg (fun o => z_fl o 18) zo_53).trans zf_LatinRectangles_Parser_18)
theorem zi_53_77 : z_ins 53 77 = some (.getfield 65, 3) := by decide +kernel
theorem ze_53_77 : z_T g d 53 77 ls (.ref a :: st) h P = z_gI h.1 a 7 6 (fun x => z_T g d 53 80 ls (.int x :: st) h P) := zt_getI zi_53_77 ((congrArg (fun o => z_fl o 65) zo_53).trans zf_LatinRectangles_Parser_65)
theorem zi_53_80 : z_ins 53 80 = some (.invokevirtual 117, 3) := by decide +kernel
theorem ze_53_80 : z_T g d 53 80 ls (.int x1 :: .int x0 :: .ref a :: st) h P = ((z_okS 8 st = true ∧ z_gO h.1 a 3 ∧ 0 < d) ∧ z_Ca g (d - 1) 36 [.ref a, .int x0, .int x1] h (fun r => z_k r (fun v h' => z_T g d 53 83 ls (z_push v st) h' P) P)) := zt_callV (as := [.int x0, .int x1]) zi_53_80 ((congrArg (fun o => z_lookup z_prs (o, 117)) zo_53).trans zp_LatinRectangles_Parser_117) ((congrArg (fun o => z_clk o 117) zo_53).trans zk_LatinRectangles_Parser_117) zh_53 zc_36 rfl rfl rfl
theorem zi_53_83 : z_ins 53 83 = some (.iconst 1, 1) := by decide +kernel
theorem ze_53_83 : z_T g d 53 83 ls st h P = z_T g d 53 84 ls (.int (nI 1) :: st) h P := zt_iconst zi_53_83 rfl
theorem zi_53_84 : z_ins 53 84 = some (.ireturn, 1) := by decide +kernel
theorem ze_53_84 : z_T g d 53 84 ls [.int x] h P = ((x = nI 0 ∨ x = nI 1) ∧ P (.inr (some (.int x)), h)) := zt_zreturn zi_53_84 zr_53
-- LatinRectangles$Parser.readNumber()Z
theorem zo_54 : z_own 54 = "LatinRectangles$Parser" := by decide +kernel
theorem zm_54 : z_maxL 54 = 1 := by decide +kernel
theorem zh_54 : z_hds 54 = [] := by decide +kernel
theorem zr_54 : z_rt 54 = (some .boolean) := by decide +kernel
theorem zn_54 : z_Ca g d 54 [.ref a0] h P = z_T g d 54 0 [.ref a0] [] h P := z_Ca_ent zm_54 rfl rfl
theorem zi_54_0 : z_ins 54 0 = some (.aload_n 0, 1) := by decide +kernel
theorem ze_54_0 : z_T g d 54 0 (.ref a :: ls) st h P = z_T g d 54 1 (.ref a :: ls) (.ref a :: st) h P := zt_aloadn zi_54_0 rfl rfl
theorem zi_54_1 : z_ins 54 1 = some (.getfield 18, 3) := by decide +kernel
theorem ze_54_1 : z_T g d 54 1 ls (.ref a :: st) h P = z_gR h.1 a 5 0 (fun x => z_T g d 54 4 ls (.ref x :: st) h P) := zt_getR zi_54_1 ((congrArg (fun o => z_fl o 18) zo_54).trans zf_LatinRectangles_Parser_18)
theorem zi_54_4 : z_ins 54 4 = some (.invokevirtual 39, 3) := by decide +kernel
theorem ze_54_4 : z_T g d 54 4 ls (.ref a :: st) h P = ((z_okS 8 st = true ∧ z_gO h.1 a 7 ∧ 0 < d) ∧ z_Ca g (d - 1) 66 [.ref a] h (fun r => z_k r (fun v h' => z_T g d 54 7 ls (z_push v st) h' P) P)) := zt_callV (as := []) zi_54_4 ((congrArg (fun o => z_lookup z_prs (o, 39)) zo_54).trans zp_LatinRectangles_Parser_39) ((congrArg (fun o => z_clk o 39) zo_54).trans zk_LatinRectangles_Parser_39) zh_54 zc_66 rfl rfl rfl
theorem zi_54_7 : z_ins 54 7 = some (.aload_n 0, 1) := by decide +kernel
theorem ze_54_7 : z_T g d 54 7 (.ref a :: ls) st h P = z_T g d 54 8 (.ref a :: ls) (.ref a :: st) h P := zt_aloadn zi_54_7 rfl rfl
theorem zi_54_8 : z_ins 54 8 = some (.getfield 18, 3) := by decide +kernel
theorem ze_54_8 : z_T g d 54 8 ls (.ref a :: st) h P = z_gR h.1 a 5 0 (fun x => z_T g d 54 11 ls (.ref x :: st) h P) := zt_getR zi_54_8 ((congrArg (fun o => z_fl o 18) zo_54).trans zf_LatinRectangles_Parser_18)
theorem zi_54_11 : z_ins 54 11 = some (.getfield 42, 3) := by decide +kernel
theorem ze_54_11 : z_T g d 54 11 ls (.ref a :: st) h P = z_gI h.1 a 7 4 (fun x => z_T g d 54 14 ls (.int x :: st) h P) := zt_getI zi_54_11 ((congrArg (fun o => z_fl o 42) zo_54).trans zf_LatinRectangles_Parser_42)
theorem zi_54_14 : z_ins 54 14 = some (.iconst 3, 1) := by decide +kernel
theorem ze_54_14 : z_T g d 54 14 ls st h P = z_T g d 54 15 ls (.int (nI 3) :: st) h P := zt_iconst zi_54_14 rfl
theorem zi_54_15 : z_ins 54 15 = some (.if_icmp .eq 11, 3) := by decide +kernel
theorem ze_54_15 : z_T g d 54 15 ls (.int y :: .int x :: st) h P = (if x = y then z_T g d 54 26 ls st h P else z_T g d 54 18 ls st h P) := zt_icmpeq zi_54_15 (by decide)
theorem zi_54_18 : z_ins 54 18 = some (.aload_n 0, 1) := by decide +kernel
theorem ze_54_18 : z_T g d 54 18 (.ref a :: ls) st h P = z_T g d 54 19 (.ref a :: ls) (.ref a :: st) h P := zt_aloadn zi_54_18 rfl rfl
theorem zi_54_19 : z_ins 54 19 = some (.iconst 1, 1) := by decide +kernel
theorem ze_54_19 : z_T g d 54 19 ls st h P = z_T g d 54 20 ls (.int (nI 1) :: st) h P := zt_iconst zi_54_19 rfl
theorem zi_54_20 : z_ins 54 20 = some (.invokevirtual 48, 3) := by decide +kernel
theorem ze_54_20 : z_T g d 54 20 ls (.int x0 :: .ref a :: st) h P = ((z_okS 8 st = true ∧ z_gO h.1 a 5 ∧ 0 < d) ∧ z_Ca g (d - 1) 49 [.ref a, .int x0] h (fun r => z_k r (fun v h' => z_T g d 54 23 ls (z_push v st) h' P) P)) := zt_callV (as := [.int x0]) zi_54_20 ((congrArg (fun o => z_lookup z_prs (o, 48)) zo_54).trans zp_LatinRectangles_Parser_48) ((congrArg (fun o => z_clk o 48) zo_54).trans zk_LatinRectangles_Parser_48) zh_54 zc_49 rfl rfl rfl
theorem zi_54_23 : z_ins 54 23 = some (.ifCond .eq 7, 3) := by decide +kernel
theorem ze_54_23 : z_T g d 54 23 ls (.int x :: st) h P = (if x = nI 0 then z_T g d 54 30 ls st h P else z_T g d 54 26 ls st h P) := zt_ifeq zi_54_23 (by decide)
theorem zi_54_26 : z_ins 54 26 = some (.iconst 1, 1) := by decide +kernel
theorem ze_54_26 : z_T g d 54 26 ls st h P = z_T g d 54 27 ls (.int (nI 1) :: st) h P := zt_iconst zi_54_26 rfl
theorem zi_54_27 : z_ins 54 27 = some (.goto 4, 3) := by decide +kernel
theorem ze_54_27 : z_T g d 54 27 ls st h P = z_T g d 54 31 ls st h P := zt_goto zi_54_27 (by decide)
theorem zi_54_30 : z_ins 54 30 = some (.iconst 0, 1) := by decide +kernel
theorem ze_54_30 : z_T g d 54 30 ls st h P = z_T g d 54 31 ls (.int (nI 0) :: st) h P := zt_iconst zi_54_30 rfl
theorem zi_54_31 : z_ins 54 31 = some (.ireturn, 1) := by decide +kernel
theorem ze_54_31 : z_T g d 54 31 ls [.int x] h P = ((x = nI 0 ∨ x = nI 1) ∧ P (.inr (some (.int x)), h)) := zt_zreturn zi_54_31 zr_54
-- LatinRectangles$Parser.readNumberWithin(II)Z
theorem zo_55 : z_own 55 = "LatinRectangles$Parser" := by decide +kernel
theorem zm_55 : z_maxL 55 = 3 := by decide +kernel
theorem zh_55 : z_hds 55 = [] := by decide +kernel
theorem zr_55 : z_rt 55 = (some .boolean) := by decide +kernel
theorem zn_55 : z_Ca g d 55 [.ref a0, .int x1, .int x2] h P = z_T g d 55 0 [.ref a0, .int x1, .int x2] [] h P := z_Ca_ent zm_55 rfl rfl
theorem zi_55_0 : z_ins 55 0 = some (.aload_n 0, 1) := by decide +kernel
theorem ze_55_0 : z_T g d 55 0 (.ref a :: ls) st h P = z_T g d 55 1 (.ref a :: ls) (.ref a :: st) h P := zt_aloadn zi_55_0 rfl rfl
theorem zi_55_1 : z_ins 55 1 = some (.getfield 18, 3) := by decide +kernel
theorem ze_55_1 : z_T g d 55 1 ls (.ref a :: st) h P = z_gR h.1 a 5 0 (fun x => z_T g d 55 4 ls (.ref x :: st) h P) := zt_getR zi_55_1 ((congrArg (fun o => z_fl o 18) zo_55).trans zf_LatinRectangles_Parser_18)
theorem zi_55_4 : z_ins 55 4 = some (.invokevirtual 39, 3) := by decide +kernel
theorem ze_55_4 : z_T g d 55 4 ls (.ref a :: st) h P = ((z_okS 8 st = true ∧ z_gO h.1 a 7 ∧ 0 < d) ∧ z_Ca g (d - 1) 66 [.ref a] h (fun r => z_k r (fun v h' => z_T g d 55 7 ls (z_push v st) h' P) P)) := zt_callV (as := []) zi_55_4 ((congrArg (fun o => z_lookup z_prs (o, 39)) zo_55).trans zp_LatinRectangles_Parser_39) ((congrArg (fun o => z_clk o 39) zo_55).trans zk_LatinRectangles_Parser_39) zh_55 zc_66 rfl rfl rfl
theorem zi_55_7 : z_ins 55 7 = some (.aload_n 0, 1) := by decide +kernel
theorem ze_55_7 : z_T g d 55 7 (.ref a :: ls) st h P = z_T g d 55 8 (.ref a :: ls) (.ref a :: st) h P := zt_aloadn zi_55_7 rfl rfl
theorem zi_55_8 : z_ins 55 8 = some (.getfield 18, 3) := by decide +kernel
theorem ze_55_8 : z_T g d 55 8 ls (.ref a :: st) h P = z_gR h.1 a 5 0 (fun x => z_T g d 55 11 ls (.ref x :: st) h P) := zt_getR zi_55_8 ((congrArg (fun o => z_fl o 18) zo_55).trans zf_LatinRectangles_Parser_18)
theorem zi_55_11 : z_ins 55 11 = some (.getfield 42, 3) := by decide +kernel
theorem ze_55_11 : z_T g d 55 11 ls (.ref a :: st) h P = z_gI h.1 a 7 4 (fun x => z_T g d 55 14 ls (.int x :: st) h P) := zt_getI zi_55_11 ((congrArg (fun o => z_fl o 42) zo_55).trans zf_LatinRectangles_Parser_42)
theorem zi_55_14 : z_ins 55 14 = some (.iconst 3, 1) := by decide +kernel
theorem ze_55_14 : z_T g d 55 14 ls st h P = z_T g d 55 15 ls (.int (nI 3) :: st) h P := zt_iconst zi_55_14 rfl
theorem zi_55_15 : z_ins 55 15 = some (.if_icmp .eq 9, 3) := by decide +kernel
theorem ze_55_15 : z_T g d 55 15 ls (.int y :: .int x :: st) h P = (if x = y then z_T g d 55 24 ls st h P else z_T g d 55 18 ls st h P) := zt_icmpeq zi_55_15 (by decide)
theorem zi_55_18 : z_ins 55 18 = some (.aload_n 0, 1) := by decide +kernel
theorem ze_55_18 : z_T g d 55 18 (.ref a :: ls) st h P = z_T g d 55 19 (.ref a :: ls) (.ref a :: st) h P := zt_aloadn zi_55_18 rfl rfl
theorem zi_55_19 : z_ins 55 19 = some (.iconst 1, 1) := by decide +kernel
theorem ze_55_19 : z_T g d 55 19 ls st h P = z_T g d 55 20 ls (.int (nI 1) :: st) h P := zt_iconst zi_55_19 rfl
theorem zi_55_20 : z_ins 55 20 = some (.invokevirtual 48, 3) := by decide +kernel
theorem ze_55_20 : z_T g d 55 20 ls (.int x0 :: .ref a :: st) h P = ((z_okS 8 st = true ∧ z_gO h.1 a 5 ∧ 0 < d) ∧ z_Ca g (d - 1) 49 [.ref a, .int x0] h (fun r => z_k r (fun v h' => z_T g d 55 23 ls (z_push v st) h' P) P)) := zt_callV (as := [.int x0]) zi_55_20 ((congrArg (fun o => z_lookup z_prs (o, 48)) zo_55).trans zp_LatinRectangles_Parser_48) ((congrArg (fun o => z_clk o 48) zo_55).trans zk_LatinRectangles_Parser_48) zh_55 zc_49 rfl rfl rfl
theorem zi_55_23 : z_ins 55 23 = some (.ireturn, 1) := by decide +kernel
theorem ze_55_23 : z_T g d 55 23 ls [.int x] h P = ((x = nI 0 ∨ x = nI 1) ∧ P (.inr (some (.int x)), h)) := zt_zreturn zi_55_23 zr_55
theorem zi_55_24 : z_ins 55 24 = some (.aload_n 0, 1) := by decide +kernel
theorem ze_55_24 : z_T g d 55 24 (.ref a :: ls) st h P = z_T g d 55 25 (.ref a :: ls) (.ref a :: st) h P := zt_aloadn zi_55_24 rfl rfl
theorem zi_55_25 : z_ins 55 25 = some (.getfield 18, 3) := by decide +kernel
theorem ze_55_25 : z_T g d 55 25 ls (.ref a :: st) h P = z_gR h.1 a 5 0 (fun x => z_T g d 55 28 ls (.ref x :: st) h P) := zt_getR zi_55_25 ((congrArg (fun o => z_fl o 18) zo_55).trans zf_LatinRectangles_Parser_18)
theorem zi_55_28 : z_ins 55 28 = some (.getfield 65, 3) := by decide +kernel
theorem ze_55_28 : z_T g d 55 28 ls (.ref a :: st) h P = z_gI h.1 a 7 6 (fun x => z_T g d 55 31 ls (.int x :: st) h P) := zt_getI zi_55_28 ((congrArg (fun o => z_fl o 65) zo_55).trans zf_LatinRectangles_Parser_65)
theorem zi_55_31 : z_ins 55 31 = some (.iload_n 1, 1) := by decide +kernel
theorem ze_55_31 : z_T g d 55 31 (v0 :: .int x :: ls) st h P = z_T g d 55 32 (v0 :: .int x :: ls) (.int x :: st) h P := zt_iloadn zi_55_31 rfl rfl
theorem zi_55_32 : z_ins 55 32 = some (.if_icmp .lt 14, 3) := by decide +kernel
theorem ze_55_32 : z_T g d 55 32 ls (.int y :: .int x :: st) h P = (if x < y then z_T g d 55 46 ls st h P else z_T g d 55 35 ls st h P) := zt_icmplt zi_55_32 (by decide)
theorem zi_55_35 : z_ins 55 35 = some (.aload_n 0, 1) := by decide +kernel
theorem ze_55_35 : z_T g d 55 35 (.ref a :: ls) st h P = z_T g d 55 36 (.ref a :: ls) (.ref a :: st) h P := zt_aloadn zi_55_35 rfl rfl
theorem zi_55_36 : z_ins 55 36 = some (.getfield 18, 3) := by decide +kernel
theorem ze_55_36 : z_T g d 55 36 ls (.ref a :: st) h P = z_gR h.1 a 5 0 (fun x => z_T g d 55 39 ls (.ref x :: st) h P) := zt_getR zi_55_36 ((congrArg (fun o => z_fl o 18) zo_55).trans zf_LatinRectangles_Parser_18)
theorem zi_55_39 : z_ins 55 39 = some (.getfield 65, 3) := by decide +kernel
theorem ze_55_39 : z_T g d 55 39 ls (.ref a :: st) h P = z_gI h.1 a 7 6 (fun x => z_T g d 55 42 ls (.int x :: st) h P) := zt_getI zi_55_39 ((congrArg (fun o => z_fl o 65) zo_55).trans zf_LatinRectangles_Parser_65)
theorem zi_55_42 : z_ins 55 42 = some (.iload_n 2, 1) := by decide +kernel
theorem ze_55_42 : z_T g d 55 42 (v0 :: v1 :: .int x :: ls) st h P = z_T g d 55 43 (v0 :: v1 :: .int x :: ls) (.int x :: st) h P := zt_iloadn zi_55_42 rfl rfl
theorem zi_55_43 : z_ins 55 43 = some (.if_icmp .le 11, 3) := by decide +kernel
theorem ze_55_43 : z_T g d 55 43 ls (.int y :: .int x :: st) h P = (if y < x then z_T g d 55 46 ls st h P else z_T g d 55 54 ls st h P) := zt_icmple zi_55_43 (by decide)
theorem zi_55_46 : z_ins 55 46 = some (.aload_n 0, 1) := by decide +kernel
theorem ze_55_46 : z_T g d 55 46 (.ref a :: ls) st h P = z_T g d 55 47 (.ref a :: ls) (.ref a :: st) h P := zt_aloadn zi_55_46 rfl rfl
theorem zi_55_47 : z_ins 55 47 = some (.iconst 3, 1) := by decide +kernel
theorem ze_55_47 : z_T g d 55 47 ls st h P = z_T g d 55 48 ls (.int (nI 3) :: st) h P := zt_iconst zi_55_47 rfl
theorem zi_55_48 : z_ins 55 48 = some (.invokevirtual 48, 3) := by decide +kernel
theorem ze_55_48 : z_T g d 55 48 ls (.int x0 :: .ref a :: st) h P = ((z_okS 8 st = true ∧ z_gO h.1 a 5 ∧ 0 < d) ∧ z_Ca g (d - 1) 49 [.ref a, .int x0] h (fun r => z_k r (fun v h' => z_T g d 55 51 ls (z_push v st) h' P) P)) := zt_callV (as := [.int x0]) zi_55_48 ((congrArg (fun o => z_lookup z_prs (o, 48)) zo_55).trans zp_LatinRectangles_Parser_48) ((congrArg (fun o => z_clk o 48) zo_55).trans zk_LatinRectangles_Parser_48) zh_55 zc_49 rfl rfl rfl
theorem zi_55_51 : z_ins 55 51 = some (.ifCond .eq 7, 3) := by decide +kernel
theorem ze_55_51 : z_T g d 55 51 ls (.int x :: st) h P = (if x = nI 0 then z_T g d 55 58 ls st h P else z_T g d 55 54 ls st h P) := zt_ifeq zi_55_51 (by decide)
theorem zi_55_54 : z_ins 55 54 = some (.iconst 1, 1) := by decide +kernel
theorem ze_55_54 : z_T g d 55 54 ls st h P = z_T g d 55 55 ls (.int (nI 1) :: st) h P := zt_iconst zi_55_54 rfl
theorem zi_55_55 : z_ins 55 55 = some (.goto 4, 3) := by decide +kernel
theorem ze_55_55 : z_T g d 55 55 ls st h P = z_T g d 55 59 ls st h P := zt_goto zi_55_55 (by decide)
theorem zi_55_58 : z_ins 55 58 = some (.iconst 0, 1) := by decide +kernel
theorem ze_55_58 : z_T g d 55 58 ls st h P = z_T g d 55 59 ls (.int (nI 0) :: st) h P := zt_iconst zi_55_58 rfl
theorem zi_55_59 : z_ins 55 59 = some (.ireturn, 1) := by decide +kernel
theorem ze_55_59 : z_T g d 55 59 ls [.int x] h P = ((x = nI 0 ∨ x = nI 1) ∧ P (.inr (some (.int x)), h)) := zt_zreturn zi_55_59 zr_55
-- LatinRectangles$Parser.readSemicolon()Z
theorem zo_56 : z_own 56 = "LatinRectangles$Parser" := by decide +kernel
theorem zm_56 : z_maxL 56 = 1 := by decide +kernel
theorem zh_56 : z_hds 56 = [] := by decide +kernel
theorem zr_56 : z_rt 56 = (some .boolean) := by decide +kernel
theorem zn_56 : z_Ca g d 56 [.ref a0] h P = z_T g d 56 0 [.ref a0] [] h P := z_Ca_ent zm_56 rfl rfl
theorem zi_56_0 : z_ins 56 0 = some (.aload_n 0, 1) := by decide +kernel
theorem ze_56_0 : z_T g d 56 0 (.ref a :: ls) st h P = z_T g d 56 1 (.ref a :: ls) (.ref a :: st) h P := zt_aloadn zi_56_0 rfl rfl
theorem zi_56_1 : z_ins 56 1 = some (.getfield 18, 3) := by decide +kernel
theorem ze_56_1 : z_T g d 56 1 ls (.ref a :: st) h P = z_gR h.1 a 5 0 (fun x => z_T g d 56 4 ls (.ref x :: st) h P) := zt_getR zi_56_1 ((congrArg (fun o => z_fl o 18) zo_56).trans zf_LatinRectangles_Parser_18)
theorem zi_56_4 : z_ins 56 4 = some (.invokevirtual 39, 3) := by decide +kernel
theorem ze_56_4 : z_T g d 56 4 ls (.ref a :: st) h P = ((z_okS 8 st = true ∧ z_gO h.1 a 7 ∧ 0 < d) ∧ z_Ca g (d - 1) 66 [.ref a] h (fun r => z_k r (fun v h' => z_T g d 56 7 ls (z_push v st) h' P) P)) := zt_callV (as := []) zi_56_4 ((congrArg (fun o => z_lookup z_prs (o, 39)) zo_56).trans zp_LatinRectangles_Parser_39) ((congrArg (fun o => z_clk o 39) zo_56).trans zk_LatinRectangles_Parser_39) zh_56 zc_66 rfl rfl rfl
theorem zi_56_7 : z_ins 56 7 = some (.aload_n 0, 1) := by decide +kernel
theorem ze_56_7 : z_T g d 56 7 (.ref a :: ls) st h P = z_T g d 56 8 (.ref a :: ls) (.ref a :: st) h P := zt_aloadn zi_56_7 rfl rfl
theorem zi_56_8 : z_ins 56 8 = some (.getfield 18, 3) := by decide +kernel
theorem ze_56_8 : z_T g d 56 8 ls (.ref a :: st) h P = z_gR h.1 a 5 0 (fun x => z_T g d 56 11 ls (.ref x :: st) h P) := zt_getR zi_56_8 ((congrArg (fun o => z_fl o 18) zo_56).trans zf_LatinRectangles_Parser_18)
theorem zi_56_11 : z_ins 56 11 = some (.getfield 42, 3) := by decide +kernel
theorem ze_56_11 : z_T g d 56 11 ls (.ref a :: st) h P = z_gI h.1 a 7 4 (fun x => z_T g d 56 14 ls (.int x :: st) h P) := zt_getI zi_56_11 ((congrArg (fun o => z_fl o 42) zo_56).trans zf_LatinRectangles_Parser_42)
theorem zi_56_14 : z_ins 56 14 = some (.iconst 4, 1) := by decide +kernel
theorem ze_56_14 : z_T g d 56 14 ls st h P = z_T g d 56 15 ls (.int (nI 4) :: st) h P := zt_iconst zi_56_14 rfl
theorem zi_56_15 : z_ins 56 15 = some (.if_icmp .eq 11, 3) := by decide +kernel
theorem ze_56_15 : z_T g d 56 15 ls (.int y :: .int x :: st) h P = (if x = y then z_T g d 56 26 ls st h P else z_T g d 56 18 ls st h P) := zt_icmpeq zi_56_15 (by decide)
theorem zi_56_18 : z_ins 56 18 = some (.aload_n 0, 1) := by decide +kernel
theorem ze_56_18 : z_T g d 56 18 (.ref a :: ls) st h P = z_T g d 56 19 (.ref a :: ls) (.ref a :: st) h P := zt_aloadn zi_56_18 rfl rfl
theorem zi_56_19 : z_ins 56 19 = some (.iconst 1, 1) := by decide +kernel
theorem ze_56_19 : z_T g d 56 19 ls st h P = z_T g d 56 20 ls (.int (nI 1) :: st) h P := zt_iconst zi_56_19 rfl
theorem zi_56_20 : z_ins 56 20 = some (.invokevirtual 48, 3) := by decide +kernel
theorem ze_56_20 : z_T g d 56 20 ls (.int x0 :: .ref a :: st) h P = ((z_okS 8 st = true ∧ z_gO h.1 a 5 ∧ 0 < d) ∧ z_Ca g (d - 1) 49 [.ref a, .int x0] h (fun r => z_k r (fun v h' => z_T g d 56 23 ls (z_push v st) h' P) P)) := zt_callV (as := [.int x0]) zi_56_20 ((congrArg (fun o => z_lookup z_prs (o, 48)) zo_56).trans zp_LatinRectangles_Parser_48) ((congrArg (fun o => z_clk o 48) zo_56).trans zk_LatinRectangles_Parser_48) zh_56 zc_49 rfl rfl rfl
theorem zi_56_23 : z_ins 56 23 = some (.ifCond .eq 7, 3) := by decide +kernel
theorem ze_56_23 : z_T g d 56 23 ls (.int x :: st) h P = (if x = nI 0 then z_T g d 56 30 ls st h P else z_T g d 56 26 ls st h P) := zt_ifeq zi_56_23 (by decide)
theorem zi_56_26 : z_ins 56 26 = some (.iconst 1, 1) := by decide +kernel
theorem ze_56_26 : z_T g d 56 26 ls st h P = z_T g d 56 27 ls (.int (nI 1) :: st) h P := zt_iconst zi_56_26 rfl
theorem zi_56_27 : z_ins 56 27 = some (.goto 4, 3) := by decide +kernel
theorem ze_56_27 : z_T g d 56 27 ls st h P = z_T g d 56 31 ls st h P := zt_goto zi_56_27 (by decide)
theorem zi_56_30 : z_ins 56 30 = some (.iconst 0, 1) := by decide +kernel
theorem ze_56_30 : z_T g d 56 30 ls st h P = z_T g d 56 31 ls (.int (nI 0) :: st) h P := zt_iconst zi_56_30 rfl
theorem zi_56_31 : z_ins 56 31 = some (.ireturn, 1) := by decide +kernel
theorem ze_56_31 : z_T g d 56 31 ls [.int x] h P = ((x = nI 0 ∨ x = nI 1) ∧ P (.inr (some (.int x)), h)) := zt_zreturn zi_56_31 zr_56
-- LatinRectangles$Text.<init>()V
theorem zo_63 : z_own 63 = "LatinRectangles$Text" := by decide +kernel
theorem zm_63 : z_maxL 63 = 1 := by decide +kernel
theorem zh_63 : z_hds 63 = [] := by decide +kernel
theorem zr_63 : z_rt 63 = none := by decide +kernel
theorem zn_63 : z_Ca g d 63 [.ref a0] h P = z_T g d 63 0 [.ref a0] [] h P := z_Ca_ent zm_63 rfl rfl
theorem zi_63_0 : z_ins 63 0 = some (.aload_n 0, 1) := by decide +kernel
theorem ze_63_0 : z_T g d 63 0 (.ref a :: ls) st h P = z_T g d 63 1 (.ref a :: ls) (.ref a :: st) h P := zt_aloadn zi_63_0 rfl rfl
theorem zi_63_1 : z_ins 63 1 = some (.invokespecial 3, 3) := by decide +kernel
theorem ze_63_1 : z_T g d 63 1 ls (.ref a :: st) h P = (z_okS 8 st = true ∧ z_T g d 63 4 ls st h P) := zt_objInit zi_63_1 ((congrArg (fun o => z_lookup z_ois (o, 3)) zo_63).trans zq_LatinRectangles_Text_3)
theorem zi_63_4 : z_ins 63 4 = some (.aload_n 0, 1) := by decide +kernel
theorem ze_63_4 : z_T g d 63 4 (.ref a :: ls) st h P = z_T g d 63 5 (.ref a :: ls) (.ref a :: st) h P := zt_aloadn zi_63_4 rfl rfl
theorem zi_63_5 : z_ins 63 5 = some (.sipush 500, 3) := by decide +kernel
theorem ze_63_5 : z_T g d 63 5 ls st h P = z_T g d 63 8 ls (.int (nI 500) :: st) h P := zt_sipush zi_63_5 rfl
theorem zi_63_8 : z_ins 63 8 = some (.newarray .byte, 2) := by decide +kernel
theorem ze_63_8 : z_T g d 63 8 ls (.int x :: st) h P = z_nA h .byte x (fun q h' => z_T g d 63 10 ls (.ref q :: st) h' P) := zt_newarray zi_63_8
theorem zi_63_10 : z_ins 63 10 = some (.putfield 9, 3) := by decide +kernel
theorem ze_63_10 : z_T g d 63 10 ls (.ref b :: .ref a :: st) h P = z_pF h.1 a 7 0 (.ref b) (fun f => z_T g d 63 13 ls st (f, h.2) P) := zt_putR zi_63_10 ((congrArg (fun o => z_fl o 9) zo_63).trans zf_LatinRectangles_Text_9) (by decide +kernel)
theorem zi_63_13 : z_ins 63 13 = some (.return_, 1) := by decide +kernel
theorem ze_63_13 : z_T g d 63 13 ls [] h P = P (.inr none, h) := zt_return zi_63_13 zr_63
-- LatinRectangles$Text.add(I)V
theorem zo_64 : z_own 64 = "LatinRectangles$Text" := by decide +kernel
theorem zm_64 : z_maxL 64 = 3 := by decide +kernel
theorem zh_64 : z_hds 64 = [] := by decide +kernel
theorem zr_64 : z_rt 64 = none := by decide +kernel
theorem zn_64 : z_Ca g d 64 [.ref a0, .int x1] h P = z_T g d 64 0 [.ref a0, .int x1, z_un] [] h P := z_Ca_ent zm_64 rfl rfl
theorem zi_64_0 : z_ins 64 0 = some (.bipush 24, 2) := by decide +kernel
theorem ze_64_0 : z_T g d 64 0 ls st h P = z_T g d 64 2 ls (.int (nI 24) :: st) h P := zt_bipush zi_64_0 rfl
theorem zi_64_2 : z_ins 64 2 = some (.istore_n 2, 1) := by decide +kernel
theorem ze_64_2 : z_T g d 64 2 (v0 :: v1 :: v2 :: ls) (.int x :: st) h P = z_T g d 64 3 (v0 :: v1 :: .int x :: ls) st h P := zt_istoren zi_64_2 rfl (Nat.le_add_left 3 _)
theorem zi_64_3 : z_ins 64 3 = some (.iload_n 2, 1) := by decide +kernel
theorem ze_64_3 : z_T g d 64 3 (v0 :: v1 :: .int x :: ls) st h P = z_T g d 64 4 (v0 :: v1 :: .int x :: ls) (.int x :: st) h P := zt_iloadn zi_64_3 rfl rfl
theorem zi_64_4 : z_ins 64 4 = some (.ifCond .lt 42, 3) := by decide +kernel
theorem ze_64_4 : z_T g d 64 4 ls (.int x :: st) h P = (if x < nI 0 then z_T g d 64 46 ls st h P else z_T g d 64 7 ls st h P) := zt_iflt zi_64_4 (by decide)
theorem zi_64_7 : z_ins 64 7 = some (.aload_n 0, 1) := by decide +kernel
theorem ze_64_7 : z_T g d 64 7 (.ref a :: ls) st h P = z_T g d 64 8 (.ref a :: ls) (.ref a :: st) h P := zt_aloadn zi_64_7 rfl rfl
theorem zi_64_8 : z_ins 64 8 = some (.getfield 15, 3) := by decide +kernel
theorem ze_64_8 : z_T g d 64 8 ls (.ref a :: st) h P = z_gI h.1 a 7 1 (fun x => z_T g d 64 11 ls (.int x :: st) h P) := zt_getI zi_64_8 ((congrArg (fun o => z_fl o 15) zo_64).trans zf_LatinRectangles_Text_15)
theorem zi_64_11 : z_ins 64 11 = some (.sipush 500, 3) := by decide +kernel
theorem ze_64_11 : z_T g d 64 11 ls st h P = z_T g d 64 14 ls (.int (nI 500) :: st) h P := zt_sipush zi_64_11 rfl
theorem zi_64_14 : z_ins 64 14 = some (.if_icmp .ge 26, 3) := by decide +kernel
theorem ze_64_14 : z_T g d 64 14 ls (.int y :: .int x :: st) h P = (if x < y then z_T g d 64 17 ls st h P else z_T g d 64 40 ls st h P) := zt_icmpge zi_64_14 (by decide)
theorem zi_64_17 : z_ins 64 17 = some (.aload_n 0, 1) := by decide +kernel
theorem ze_64_17 : z_T g d 64 17 (.ref a :: ls) st h P = z_T g d 64 18 (.ref a :: ls) (.ref a :: st) h P := zt_aloadn zi_64_17 rfl rfl
theorem zi_64_18 : z_ins 64 18 = some (.getfield 9, 3) := by decide +kernel
theorem ze_64_18 : z_T g d 64 18 ls (.ref a :: st) h P = z_gR h.1 a 7 0 (fun x => z_T g d 64 21 ls (.ref x :: st) h P) := zt_getR zi_64_18 ((congrArg (fun o => z_fl o 9) zo_64).trans zf_LatinRectangles_Text_9)
theorem zi_64_21 : z_ins 64 21 = some (.aload_n 0, 1) := by decide +kernel
theorem ze_64_21 : z_T g d 64 21 (.ref a :: ls) st h P = z_T g d 64 22 (.ref a :: ls) (.ref a :: st) h P := zt_aloadn zi_64_21 rfl rfl
theorem zi_64_22 : z_ins 64 22 = some (.getfield 15, 3) := by decide +kernel
theorem ze_64_22 : z_T g d 64 22 ls (.ref a :: st) h P = z_gI h.1 a 7 1 (fun x => z_T g d 64 25 ls (.int x :: st) h P) := zt_getI zi_64_22 ((congrArg (fun o => z_fl o 15) zo_64).trans zf_LatinRectangles_Text_15)
theorem zi_64_25 : z_ins 64 25 = some (.iload_n 1, 1) := by decide +kernel
theorem ze_64_25 : z_T g d 64 25 (v0 :: .int x :: ls) st h P = z_T g d 64 26 (v0 :: .int x :: ls) (.int x :: st) h P := zt_iloadn zi_64_25 rfl rfl
theorem zi_64_26 : z_ins 64 26 = some (.iload_n 2, 1) := by decide +kernel
theorem ze_64_26 : z_T g d 64 26 (v0 :: v1 :: .int x :: ls) st h P = z_T g d 64 27 (v0 :: v1 :: .int x :: ls) (.int x :: st) h P := zt_iloadn zi_64_26 rfl rfl
theorem zi_64_27 : z_ins 64 27 = some (.iushr, 1) := by decide +kernel
theorem ze_64_27 : z_T g d 64 27 ls (.int y :: .int x :: st) h P = z_T g d 64 28 ls (.int ((x.toUInt32 >>> (y.toUInt32 &&& Int32.toUInt32 31)).toInt32) :: st) h P := zt_bin (f := fun x y => (x.toUInt32 >>> (y.toUInt32 &&& Int32.toUInt32 31)).toInt32) zi_64_27 rfl (fun _ _ _ => rfl)
theorem zi_64_28 : z_ins 64 28 = some (.i2b, 1) := by decide +kernel
theorem ze_64_28 : z_T g d 64 28 ls (.int x :: st) h P = z_T g d 64 29 ls (.int x.toInt8.toInt32 :: st) h P := zt_i2b zi_64_28
theorem zi_64_29 : z_ins 64 29 = some (.bastore, 1) := by decide +kernel
theorem ze_64_29 : z_T g d 64 29 ls (.int y :: .int x :: .ref a :: st) h P = z_aS h.1 a z_tB x y (fun f => z_T g d 64 30 ls st (f, h.2) P) := zt_bastore zi_64_29
theorem zi_64_30 : z_ins 64 30 = some (.aload_n 0, 1) := by decide +kernel
theorem ze_64_30 : z_T g d 64 30 (.ref a :: ls) st h P = z_T g d 64 31 (.ref a :: ls) (.ref a :: st) h P := zt_aloadn zi_64_30 rfl rfl
theorem zi_64_31 : z_ins 64 31 = some (.dup, 1) := by decide +kernel
theorem ze_64_31 : z_T g d 64 31 ls (.ref a :: st) h P = z_T g d 64 32 ls (.ref a :: .ref a :: st) h P := zt_dupR zi_64_31
theorem ze_64_31_i : z_T g d 64 31 ls (.int x :: st) h P = z_T g d 64 32 ls (.int x :: .int x :: st) h P := zt_dupI zi_64_31
theorem zi_64_32 : z_ins 64 32 = some (.getfield 15, 3) := by decide +kernel
theorem ze_64_32 : z_T g d 64 32 ls (.ref a :: st) h P = z_gI h.1 a 7 1 (fun x => z_T g d 64 35 ls (.int x :: st) h P) := zt_getI zi_64_32 ((congrArg (fun o => z_fl o 15) zo_64).trans zf_LatinRectangles_Text_15)
theorem zi_64_35 : z_ins 64 35 = some (.iconst 1, 1) := by decide +kernel
theorem ze_64_35 : z_T g d 64 35 ls st h P = z_T g d 64 36 ls (.int (nI 1) :: st) h P := zt_iconst zi_64_35 rfl
theorem zi_64_36 : z_ins 64 36 = some (.iadd, 1) := by decide +kernel
theorem ze_64_36 : z_T g d 64 36 ls (.int y :: .int x :: st) h P = z_T g d 64 37 ls (.int (x + y) :: st) h P := zt_bin (f := fun x y => x + y) zi_64_36 rfl (fun _ _ _ => rfl)
theorem zi_64_37 : z_ins 64 37 = some (.putfield 15, 3) := by decide +kernel
theorem ze_64_37 : z_T g d 64 37 ls (.int x :: .ref a :: st) h P = z_pF h.1 a 7 1 (.int x) (fun f => z_T g d 64 40 ls st (f, h.2) P) := zt_putI zi_64_37 ((congrArg (fun o => z_fl o 15) zo_64).trans zf_LatinRectangles_Text_15)
theorem zi_64_40 : z_ins 64 40 = some (.iinc 2 (-8), 3) := by decide +kernel
theorem ze_64_40 : z_T g d 64 40 (v0 :: v1 :: .int x :: ls) st h P = z_T g d 64 43 (v0 :: v1 :: .int (x + (-8)) :: ls) st h P := zt_iinc zi_64_40 rfl rfl
theorem zi_64_43 : z_ins 64 43 = some (.goto (-40), 3) := by decide +kernel
theorem ze_64_43 : z_T g d 64 43 ls st h P = z_T g d 64 3 ls st h P := zt_goto zi_64_43 (by decide)
theorem zi_64_46 : z_ins 64 46 = some (.return_, 1) := by decide +kernel
theorem ze_64_46 : z_T g d 64 46 ls [] h P = P (.inr none, h) := zt_return zi_64_46 zr_64
-- LatinRectangles$Text.open(I)V
theorem zo_65 : z_own 65 = "LatinRectangles$Text" := by decide +kernel
theorem zm_65 : z_maxL 65 = 2 := by decide +kernel
theorem zh_65 : z_hds 65 = [] := by decide +kernel
theorem zr_65 : z_rt 65 = none := by decide +kernel
theorem zn_65 : z_Ca g d 65 [.ref a0, .int x1] h P = z_T g d 65 0 [.ref a0, .int x1] [] h P := z_Ca_ent zm_65 rfl rfl
theorem zi_65_0 : z_ins 65 0 = some (.aload_n 0, 1) := by decide +kernel
theorem ze_65_0 : z_T g d 65 0 (.ref a :: ls) st h P = z_T g d 65 1 (.ref a :: ls) (.ref a :: st) h P := zt_aloadn zi_65_0 rfl rfl
theorem zi_65_1 : z_ins 65 1 = some (.iload_n 1, 1) := by decide +kernel
theorem ze_65_1 : z_T g d 65 1 (v0 :: .int x :: ls) st h P = z_T g d 65 2 (v0 :: .int x :: ls) (.int x :: st) h P := zt_iloadn zi_65_1 rfl rfl
theorem zi_65_2 : z_ins 65 2 = some (.aload_n 0, 1) := by decide +kernel
theorem ze_65_2 : z_T g d 65 2 (.ref a :: ls) st h P = z_T g d 65 3 (.ref a :: ls) (.ref a :: st) h P := zt_aloadn zi_65_2 rfl rfl
theorem zi_65_3 : z_ins 65 3 = some (.getfield 15, 3) := by decide +kernel
theorem ze_65_3 : z_T g d 65 3 ls (.ref a :: st) h P = z_gI h.1 a 7 1 (fun x => z_T g d 65 6 ls (.int x :: st) h P) := zt_getI zi_65_3 ((congrArg (fun o => z_fl o 15) zo_65).trans zf_LatinRectangles_Text_15)
theorem zi_65_6 : z_ins 65 6 = some (.invokestatic 19, 3) := by decide +kernel
theorem ze_65_6 (hok : z_okS 8 (.int y :: .int x :: st) = true) : z_T g d 65 6 ls (.int y :: .int x :: st) h P = z_T g d 65 9 ls (.int (if y < x then y else x) :: st) h P := zt_primS zi_65_6 ((congrArg (fun o => z_lookup z_prs (o, 19)) zo_65).trans zq_LatinRectangles_Text_19) (by decide) hok rfl
theorem zi_65_9 : z_ins 65 9 = some (.putfield 25, 3) := by decide +kernel
theorem ze_65_9 : z_T g d 65 9 ls (.int x :: .ref a :: st) h P = z_pF h.1 a 7 2 (.int x) (fun f => z_T g d 65 12 ls st (f, h.2) P) := zt_putI zi_65_9 ((congrArg (fun o => z_fl o 25) zo_65).trans zf_LatinRectangles_Text_25)
theorem zi_65_12 : z_ins 65 12 = some (.aload_n 0, 1) := by decide +kernel
theorem ze_65_12 : z_T g d 65 12 (.ref a :: ls) st h P = z_T g d 65 13 (.ref a :: ls) (.ref a :: st) h P := zt_aloadn zi_65_12 rfl rfl
theorem zi_65_13 : z_ins 65 13 = some (.iconst 0, 1) := by decide +kernel
theorem ze_65_13 : z_T g d 65 13 ls st h P = z_T g d 65 14 ls (.int (nI 0) :: st) h P := zt_iconst zi_65_13 rfl
theorem zi_65_14 : z_ins 65 14 = some (.putfield 28, 3) := by decide +kernel
theorem ze_65_14 : z_T g d 65 14 ls (.int x :: .ref a :: st) h P = z_pF h.1 a 7 3 (.int x) (fun f => z_T g d 65 17 ls st (f, h.2) P) := zt_putI zi_65_14 ((congrArg (fun o => z_fl o 28) zo_65).trans zf_LatinRectangles_Text_28)
theorem zi_65_17 : z_ins 65 17 = some (.aload_n 0, 1) := by decide +kernel
theorem ze_65_17 : z_T g d 65 17 (.ref a :: ls) st h P = z_T g d 65 18 (.ref a :: ls) (.ref a :: st) h P := zt_aloadn zi_65_17 rfl rfl
theorem zi_65_18 : z_ins 65 18 = some (.iconst 0, 1) := by decide +kernel
theorem ze_65_18 : z_T g d 65 18 ls st h P = z_T g d 65 19 ls (.int (nI 0) :: st) h P := zt_iconst zi_65_18 rfl
theorem zi_65_19 : z_ins 65 19 = some (.putfield 31, 3) := by decide +kernel
theorem ze_65_19 : z_T g d 65 19 ls (.int x :: .ref a :: st) h P = z_pF h.1 a 7 5 (.int x) (fun f => z_T g d 65 22 ls st (f, h.2) P) := zt_putI zi_65_19 ((congrArg (fun o => z_fl o 31) zo_65).trans zf_LatinRectangles_Text_31)
theorem zi_65_22 : z_ins 65 22 = some (.aload_n 0, 1) := by decide +kernel
theorem ze_65_22 : z_T g d 65 22 (.ref a :: ls) st h P = z_T g d 65 23 (.ref a :: ls) (.ref a :: st) h P := zt_aloadn zi_65_22 rfl rfl
theorem zi_65_23 : z_ins 65 23 = some (.iconst 0, 1) := by decide +kernel
theorem ze_65_23 : z_T g d 65 23 ls st h P = z_T g d 65 24 ls (.int (nI 0) :: st) h P := zt_iconst zi_65_23 rfl
theorem zi_65_24 : z_ins 65 24 = some (.putfield 34, 3) := by decide +kernel
theorem ze_65_24 : z_T g d 65 24 ls (.int x :: .ref a :: st) h P = z_pF h.1 a 7 4 (.int x) (fun f => z_T g d 65 27 ls st (f, h.2) P) := zt_putI zi_65_24 ((congrArg (fun o => z_fl o 34) zo_65).trans zf_LatinRectangles_Text_34)
theorem zi_65_27 : z_ins 65 27 = some (.aload_n 0, 1) := by decide +kernel
theorem ze_65_27 : z_T g d 65 27 (.ref a :: ls) st h P = z_T g d 65 28 (.ref a :: ls) (.ref a :: st) h P := zt_aloadn zi_65_27 rfl rfl
theorem zi_65_28 : z_ins 65 28 = some (.iconst 0, 1) := by decide +kernel
theorem ze_65_28 : z_T g d 65 28 ls st h P = z_T g d 65 29 ls (.int (nI 0) :: st) h P := zt_iconst zi_65_28 rfl
theorem zi_65_29 : z_ins 65 29 = some (.putfield 37, 3) := by decide +kernel
theorem ze_65_29 : z_T g d 65 29 ls (.int x :: .ref a :: st) h P = z_pF h.1 a 7 6 (.int x) (fun f => z_T g d 65 32 ls st (f, h.2) P) := zt_putI zi_65_29 ((congrArg (fun o => z_fl o 37) zo_65).trans zf_LatinRectangles_Text_37)
theorem zi_65_32 : z_ins 65 32 = some (.return_, 1) := by decide +kernel
theorem ze_65_32 : z_T g d 65 32 ls [] h P = P (.inr none, h) := zt_return zi_65_32 zr_65
-- LatinRectangles$Text.advance()V
theorem zo_66 : z_own 66 = "LatinRectangles$Text" := by decide +kernel
theorem zm_66 : z_maxL 66 = 2 := by decide +kernel
theorem zh_66 : z_hds 66 = [] := by decide +kernel
theorem zr_66 : z_rt 66 = none := by decide +kernel
theorem zn_66 : z_Ca g d 66 [.ref a0] h P = z_T g d 66 0 [.ref a0, z_un] [] h P := z_Ca_ent zm_66 rfl rfl
theorem zi_66_0 : z_ins 66 0 = some (.aload_n 0, 1) := by decide +kernel
theorem ze_66_0 : z_T g d 66 0 (.ref a :: ls) st h P = z_T g d 66 1 (.ref a :: ls) (.ref a :: st) h P := zt_aloadn zi_66_0 rfl rfl
theorem zi_66_1 : z_ins 66 1 = some (.getfield 28, 3) := by decide +kernel
theorem ze_66_1 : z_T g d 66 1 ls (.ref a :: st) h P = z_gI h.1 a 7 3 (fun x => z_T g d 66 4 ls (.int x :: st) h P) := zt_getI zi_66_1 ((congrArg (fun o => z_fl o 28) zo_66).trans zf_LatinRectangles_Text_28)
theorem zi_66_4 : z_ins 66 4 = some (.aload_n 0, 1) := by decide +kernel
theorem ze_66_4 : z_T g d 66 4 (.ref a :: ls) st h P = z_T g d 66 5 (.ref a :: ls) (.ref a :: st) h P := zt_aloadn zi_66_4 rfl rfl
theorem zi_66_5 : z_ins 66 5 = some (.getfield 25, 3) := by decide +kernel
theorem ze_66_5 : z_T g d 66 5 ls (.ref a :: st) h P = z_gI h.1 a 7 2 (fun x => z_T g d 66 8 ls (.int x :: st) h P) := zt_getI zi_66_5 ((congrArg (fun o => z_fl o 25) zo_66).trans zf_LatinRectangles_Text_25)
theorem zi_66_8 : z_ins 66 8 = some (.if_icmp .ge 44, 3) := by decide +kernel
theorem ze_66_8 : z_T g d 66 8 ls (.int y :: .int x :: st) h P = (if x < y then z_T g d 66 11 ls st h P else z_T g d 66 52 ls st h P) := zt_icmpge zi_66_8 (by decide)
theorem zi_66_11 : z_ins 66 11 = some (.aload_n 0, 1) := by decide +kernel
theorem ze_66_11 : z_T g d 66 11 (.ref a :: ls) st h P = z_T g d 66 12 (.ref a :: ls) (.ref a :: st) h P := zt_aloadn zi_66_11 rfl rfl
theorem zi_66_12 : z_ins 66 12 = some (.getfield 9, 3) := by decide +kernel
theorem ze_66_12 : z_T g d 66 12 ls (.ref a :: st) h P = z_gR h.1 a 7 0 (fun x => z_T g d 66 15 ls (.ref x :: st) h P) := zt_getR zi_66_12 ((congrArg (fun o => z_fl o 9) zo_66).trans zf_LatinRectangles_Text_9)
theorem zi_66_15 : z_ins 66 15 = some (.aload_n 0, 1) := by decide +kernel
theorem ze_66_15 : z_T g d 66 15 (.ref a :: ls) st h P = z_T g d 66 16 (.ref a :: ls) (.ref a :: st) h P := zt_aloadn zi_66_15 rfl rfl
theorem zi_66_16 : z_ins 66 16 = some (.getfield 28, 3) := by decide +kernel
theorem ze_66_16 : z_T g d 66 16 ls (.ref a :: st) h P = z_gI h.1 a 7 3 (fun x => z_T g d 66 19 ls (.int x :: st) h P) := zt_getI zi_66_16 ((congrArg (fun o => z_fl o 28) zo_66).trans zf_LatinRectangles_Text_28)
theorem zi_66_19 : z_ins 66 19 = some (.baload, 1) := by decide +kernel
theorem ze_66_19 : z_T g d 66 19 ls (.int x :: .ref a :: st) h P = z_aL h.1 a z_tB x (fun v => z_T g d 66 20 ls (.int v :: st) h P) := zt_baload zi_66_19
theorem zi_66_20 : z_ins 66 20 = some (.bipush 32, 2) := by decide +kernel
theorem ze_66_20 : z_T g d 66 20 ls st h P = z_T g d 66 22 ls (.int (nI 32) :: st) h P := zt_bipush zi_66_20 rfl
theorem zi_66_22 : z_ins 66 22 = some (.if_icmp .eq 17, 3) := by decide +kernel
theorem ze_66_22 : z_T g d 66 22 ls (.int y :: .int x :: st) h P = (if x = y then z_T g d 66 39 ls st h P else z_T g d 66 25 ls st h P) := zt_icmpeq zi_66_22 (by decide)
theorem zi_66_25 : z_ins 66 25 = some (.aload_n 0, 1) := by decide +kernel
theorem ze_66_25 : z_T g d 66 25 (.ref a :: ls) st h P = z_T g d 66 26 (.ref a :: ls) (.ref a :: st) h P := zt_aloadn zi_66_25 rfl rfl
theorem zi_66_26 : z_ins 66 26 = some (.getfield 9, 3) := by decide +kernel
theorem ze_66_26 : z_T g d 66 26 ls (.ref a :: st) h P = z_gR h.1 a 7 0 (fun x => z_T g d 66 29 ls (.ref x :: st) h P) := zt_getR zi_66_26 ((congrArg (fun o => z_fl o 9) zo_66).trans zf_LatinRectangles_Text_9)
theorem zi_66_29 : z_ins 66 29 = some (.aload_n 0, 1) := by decide +kernel
theorem ze_66_29 : z_T g d 66 29 (.ref a :: ls) st h P = z_T g d 66 30 (.ref a :: ls) (.ref a :: st) h P := zt_aloadn zi_66_29 rfl rfl
theorem zi_66_30 : z_ins 66 30 = some (.getfield 28, 3) := by decide +kernel
theorem ze_66_30 : z_T g d 66 30 ls (.ref a :: st) h P = z_gI h.1 a 7 3 (fun x => z_T g d 66 33 ls (.int x :: st) h P) := zt_getI zi_66_30 ((congrArg (fun o => z_fl o 28) zo_66).trans zf_LatinRectangles_Text_28)
theorem zi_66_33 : z_ins 66 33 = some (.baload, 1) := by decide +kernel
theorem ze_66_33 : z_T g d 66 33 ls (.int x :: .ref a :: st) h P = z_aL h.1 a z_tB x (fun v => z_T g d 66 34 ls (.int v :: st) h P) := zt_baload zi_66_33
theorem zi_66_34 : z_ins 66 34 = some (.bipush 10, 2) := by decide +kernel
theorem ze_66_34 : z_T g d 66 34 ls st h P = z_T g d 66 36 ls (.int (nI 10) :: st) h P := zt_bipush zi_66_34 rfl
theorem zi_66_36 : z_ins 66 36 = some (.if_icmp .ne 16, 3) := by decide +kernel
theorem ze_66_36 : z_T g d 66 36 ls (.int y :: .int x :: st) h P = (if x = y then z_T g d 66 39 ls st h P else z_T g d 66 52 ls st h P) := zt_icmpne zi_66_36 (by decide)
theorem zi_66_39 : z_ins 66 39 = some (.aload_n 0, 1) := by decide +kernel
theorem ze_66_39 : z_T g d 66 39 (.ref a :: ls) st h P = z_T g d 66 40 (.ref a :: ls) (.ref a :: st) h P := zt_aloadn zi_66_39 rfl rfl
theorem zi_66_40 : z_ins 66 40 = some (.dup, 1) := by decide +kernel
theorem ze_66_40 : z_T g d 66 40 ls (.ref a :: st) h P = z_T g d 66 41 ls (.ref a :: .ref a :: st) h P := zt_dupR zi_66_40
theorem ze_66_40_i : z_T g d 66 40 ls (.int x :: st) h P = z_T g d 66 41 ls (.int x :: .int x :: st) h P := zt_dupI zi_66_40
theorem zi_66_41 : z_ins 66 41 = some (.getfield 28, 3) := by decide +kernel
theorem ze_66_41 : z_T g d 66 41 ls (.ref a :: st) h P = z_gI h.1 a 7 3 (fun x => z_T g d 66 44 ls (.int x :: st) h P) := zt_getI zi_66_41 ((congrArg (fun o => z_fl o 28) zo_66).trans zf_LatinRectangles_Text_28)
theorem zi_66_44 : z_ins 66 44 = some (.iconst 1, 1) := by decide +kernel
theorem ze_66_44 : z_T g d 66 44 ls st h P = z_T g d 66 45 ls (.int (nI 1) :: st) h P := zt_iconst zi_66_44 rfl
theorem zi_66_45 : z_ins 66 45 = some (.iadd, 1) := by decide +kernel
theorem ze_66_45 : z_T g d 66 45 ls (.int y :: .int x :: st) h P = z_T g d 66 46 ls (.int (x + y) :: st) h P := zt_bin (f := fun x y => x + y) zi_66_45 rfl (fun _ _ _ => rfl)
theorem zi_66_46 : z_ins 66 46 = some (.putfield 28, 3) := by decide +kernel
theorem ze_66_46 : z_T g d 66 46 ls (.int x :: .ref a :: st) h P = z_pF h.1 a 7 3 (.int x) (fun f => z_T g d 66 49 ls st (f, h.2) P) := zt_putI zi_66_46 ((congrArg (fun o => z_fl o 28) zo_66).trans zf_LatinRectangles_Text_28)
theorem zi_66_49 : z_ins 66 49 = some (.goto (-49), 3) := by decide +kernel
theorem ze_66_49 : z_T g d 66 49 ls st h P = z_T g d 66 0 ls st h P := zt_goto zi_66_49 (by decide)
theorem zi_66_52 : z_ins 66 52 = some (.aload_n 0, 1) := by decide +kernel
theorem ze_66_52 : z_T g d 66 52 (.ref a :: ls) st h P = z_T g d 66 53 (.ref a :: ls) (.ref a :: st) h P := zt_aloadn zi_66_52 rfl rfl
theorem zi_66_53 : z_ins 66 53 = some (.aload_n 0, 1) := by decide +kernel
theorem ze_66_53 : z_T g d 66 53 (.ref a :: ls) st h P = z_T g d 66 54 (.ref a :: ls) (.ref a :: st) h P := zt_aloadn zi_66_53 rfl rfl
theorem zi_66_54 : z_ins 66 54 = some (.getfield 28, 3) := by decide +kernel
theorem ze_66_54 : z_T g d 66 54 ls (.ref a :: st) h P = z_gI h.1 a 7 3 (fun x => z_T g d 66 57 ls (.int x :: st) h P) := zt_getI zi_66_54 ((congrArg (fun o => z_fl o 28) zo_66).trans zf_LatinRectangles_Text_28)
theorem zi_66_57 : z_ins 66 57 = some (.putfield 31, 3) := by decide +kernel
theorem ze_66_57 : z_T g d 66 57 ls (.int x :: .ref a :: st) h P = z_pF h.1 a 7 5 (.int x) (fun f => z_T g d 66 60 ls st (f, h.2) P) := zt_putI zi_66_57 ((congrArg (fun o => z_fl o 31) zo_66).trans zf_LatinRectangles_Text_31)
theorem zi_66_60 : z_ins 66 60 = some (.aload_n 0, 1) := by decide +kernel
theorem ze_66_60 : z_T g d 66 60 (.ref a :: ls) st h P = z_T g d 66 61 (.ref a :: ls) (.ref a :: st) h P := zt_aloadn zi_66_60 rfl rfl
theorem zi_66_61 : z_ins 66 61 = some (.getfield 31, 3) := by decide +kernel
theorem ze_66_61 : z_T g d 66 61 ls (.ref a :: st) h P = z_gI h.1 a 7 5 (fun x => z_T g d 66 64 ls (.int x :: st) h P) := zt_getI zi_66_61 ((congrArg (fun o => z_fl o 31) zo_66).trans zf_LatinRectangles_Text_31)
theorem zi_66_64 : z_ins 66 64 = some (.aload_n 0, 1) := by decide +kernel
theorem ze_66_64 : z_T g d 66 64 (.ref a :: ls) st h P = z_T g d 66 65 (.ref a :: ls) (.ref a :: st) h P := zt_aloadn zi_66_64 rfl rfl
theorem zi_66_65 : z_ins 66 65 = some (.getfield 25, 3) := by decide +kernel
theorem ze_66_65 : z_T g d 66 65 ls (.ref a :: st) h P = z_gI h.1 a 7 2 (fun x => z_T g d 66 68 ls (.int x :: st) h P) := zt_getI zi_66_65 ((congrArg (fun o => z_fl o 25) zo_66).trans zf_LatinRectangles_Text_25)
theorem zi_66_68 : z_ins 66 68 = some (.if_icmp .lt 9, 3) := by decide +kernel
theorem ze_66_68 : z_T g d 66 68 ls (.int y :: .int x :: st) h P = (if x < y then z_T g d 66 77 ls st h P else z_T g d 66 71 ls st h P) := zt_icmplt zi_66_68 (by decide)
theorem zi_66_71 : z_ins 66 71 = some (.aload_n 0, 1) := by decide +kernel
theorem ze_66_71 : z_T g d 66 71 (.ref a :: ls) st h P = z_T g d 66 72 (.ref a :: ls) (.ref a :: st) h P := zt_aloadn zi_66_71 rfl rfl
theorem zi_66_72 : z_ins 66 72 = some (.iconst 0, 1) := by decide +kernel
theorem ze_66_72 : z_T g d 66 72 ls st h P = z_T g d 66 73 ls (.int (nI 0) :: st) h P := zt_iconst zi_66_72 rfl
theorem zi_66_73 : z_ins 66 73 = some (.putfield 34, 3) := by decide +kernel
theorem ze_66_73 : z_T g d 66 73 ls (.int x :: .ref a :: st) h P = z_pF h.1 a 7 4 (.int x) (fun f => z_T g d 66 76 ls st (f, h.2) P) := zt_putI zi_66_73 ((congrArg (fun o => z_fl o 34) zo_66).trans zf_LatinRectangles_Text_34)
theorem zi_66_76 : z_ins 66 76 = some (.return_, 1) := by decide +kernel
theorem ze_66_76 : z_T g d 66 76 ls [] h P = P (.inr none, h) := zt_return zi_66_76 zr_66
theorem zi_66_77 : z_ins 66 77 = some (.aload_n 0, 1) := by decide +kernel
theorem ze_66_77 : z_T g d 66 77 (.ref a :: ls) st h P = z_T g d 66 78 (.ref a :: ls) (.ref a :: st) h P := zt_aloadn zi_66_77 rfl rfl
theorem zi_66_78 : z_ins 66 78 = some (.getfield 9, 3) := by decide +kernel
theorem ze_66_78 : z_T g d 66 78 ls (.ref a :: st) h P = z_gR h.1 a 7 0 (fun x => z_T g d 66 81 ls (.ref x :: st) h P) := zt_getR zi_66_78 ((congrArg (fun o => z_fl o 9) zo_66).trans zf_LatinRectangles_Text_9)
theorem zi_66_81 : z_ins 66 81 = some (.aload_n 0, 1) := by decide +kernel
theorem ze_66_81 : z_T g d 66 81 (.ref a :: ls) st h P = z_T g d 66 82 (.ref a :: ls) (.ref a :: st) h P := zt_aloadn zi_66_81 rfl rfl
theorem zi_66_82 : z_ins 66 82 = some (.getfield 31, 3) := by decide +kernel
theorem ze_66_82 : z_T g d 66 82 ls (.ref a :: st) h P = z_gI h.1 a 7 5 (fun x => z_T g d 66 85 ls (.int x :: st) h P) := zt_getI zi_66_82 ((congrArg (fun o => z_fl o 31) zo_66).trans zf_LatinRectangles_Text_31)
theorem zi_66_85 : z_ins 66 85 = some (.baload, 1) := by decide +kernel
theorem ze_66_85 : z_T g d 66 85 ls (.int x :: .ref a :: st) h P = z_aL h.1 a z_tB x (fun v => z_T g d 66 86 ls (.int v :: st) h P) := zt_baload zi_66_85
theorem zi_66_86 : z_ins 66 86 = some (.istore_n 1, 1) := by decide +kernel
theorem ze_66_86 : z_T g d 66 86 (v0 :: v1 :: ls) (.int x :: st) h P = z_T g d 66 87 (v0 :: .int x :: ls) st h P := zt_istoren zi_66_86 rfl (Nat.le_add_left 2 _)
theorem zi_66_87 : z_ins 66 87 = some (.iload_n 1, 1) := by decide +kernel
theorem ze_66_87 : z_T g d 66 87 (v0 :: .int x :: ls) st h P = z_T g d 66 88 (v0 :: .int x :: ls) (.int x :: st) h P := zt_iloadn zi_66_87 rfl rfl
theorem zi_66_88 : z_ins 66 88 = some (.bipush 97, 2) := by decide +kernel
theorem ze_66_88 : z_T g d 66 88 ls st h P = z_T g d 66 90 ls (.int (nI 97) :: st) h P := zt_bipush zi_66_88 rfl
theorem zi_66_90 : z_ins 66 90 = some (.if_icmp .lt 47, 3) := by decide +kernel
theorem ze_66_90 : z_T g d 66 90 ls (.int y :: .int x :: st) h P = (if x < y then z_T g d 66 137 ls st h P else z_T g d 66 93 ls st h P) := zt_icmplt zi_66_90 (by decide)
theorem zi_66_93 : z_ins 66 93 = some (.iload_n 1, 1) := by decide +kernel
theorem ze_66_93 : z_T g d 66 93 (v0 :: .int x :: ls) st h P = z_T g d 66 94 (v0 :: .int x :: ls) (.int x :: st) h P := zt_iloadn zi_66_93 rfl rfl
theorem zi_66_94 : z_ins 66 94 = some (.bipush 122, 2) := by decide +kernel
theorem ze_66_94 : z_T g d 66 94 ls st h P = z_T g d 66 96 ls (.int (nI 122) :: st) h P := zt_bipush zi_66_94 rfl
theorem zi_66_96 : z_ins 66 96 = some (.if_icmp .gt 41, 3) := by decide +kernel
theorem ze_66_96 : z_T g d 66 96 ls (.int y :: .int x :: st) h P = (if y < x then z_T g d 66 137 ls st h P else z_T g d 66 99 ls st h P) := zt_icmpgt zi_66_96 (by decide)
theorem zi_66_99 : z_ins 66 99 = some (.aload_n 0, 1) := by decide +kernel
theorem ze_66_99 : z_T g d 66 99 (.ref a :: ls) st h P = z_T g d 66 100 (.ref a :: ls) (.ref a :: st) h P := zt_aloadn zi_66_99 rfl rfl
theorem zi_66_100 : z_ins 66 100 = some (.aload_n 0, 1) := by decide +kernel
theorem ze_66_100 : z_T g d 66 100 (.ref a :: ls) st h P = z_T g d 66 101 (.ref a :: ls) (.ref a :: st) h P := zt_aloadn zi_66_100 rfl rfl
theorem zi_66_101 : z_ins 66 101 = some (.bipush 97, 2) := by decide +kernel
theorem ze_66_101 : z_T g d 66 101 ls st h P = z_T g d 66 103 ls (.int (nI 97) :: st) h P := zt_bipush zi_66_101 rfl
theorem zi_66_103 : z_ins 66 103 = some (.bipush 122, 2) := by decide +kernel
theorem ze_66_103 : z_T g d 66 103 ls st h P = z_T g d 66 105 ls (.int (nI 122) :: st) h P := zt_bipush zi_66_103 rfl
theorem zi_66_105 : z_ins 66 105 = some (.invokevirtual 40, 3) := by decide +kernel
theorem ze_66_105 : z_T g d 66 105 ls (.int x1 :: .int x0 :: .ref a :: st) h P = ((z_okS 8 st = true ∧ z_gO h.1 a 7 ∧ 0 < d) ∧ z_Ca g (d - 1) 67 [.ref a, .int x0, .int x1] h (fun r => z_k r (fun v h' => z_T g d 66 108 ls (z_push v st) h' P) P)) := zt_callV (as := [.int x0, .int x1]) zi_66_105 ((congrArg (fun o => z_lookup z_prs (o, 40)) zo_66).trans zp_LatinRectangles_Text_40) ((congrArg (fun o => z_clk o 40) zo_66).trans zk_LatinRectangles_Text_40) zh_66 zc_67 rfl rfl rfl
theorem zi_66_108 : z_ins 66 108 = some (.putfield 28, 3) := by decide +kernel
theorem ze_66_108 : z_T g d 66 108 ls (.int x :: .ref a :: st) h P = z_pF h.1 a 7 3 (.int x) (fun f => z_T g d 66 111 ls st (f, h.2) P) := zt_putI zi_66_108 ((congrArg (fun o => z_fl o 28) zo_66).trans zf_LatinRectangles_Text_28)
theorem zi_66_111 : z_ins 66 111 = some (.aload_n 0, 1) := by decide +kernel
theorem ze_66_111 : z_T g d 66 111 (.ref a :: ls) st h P = z_T g d 66 112 (.ref a :: ls) (.ref a :: st) h P := zt_aloadn zi_66_111 rfl rfl
theorem zi_66_112 : z_ins 66 112 = some (.aload_n 0, 1) := by decide +kernel
theorem ze_66_112 : z_T g d 66 112 (.ref a :: ls) st h P = z_T g d 66 113 (.ref a :: ls) (.ref a :: st) h P := zt_aloadn zi_66_112 rfl rfl
theorem zi_66_113 : z_ins 66 113 = some (.getfield 28, 3) := by decide +kernel
theorem ze_66_113 : z_T g d 66 113 ls (.ref a :: st) h P = z_gI h.1 a 7 3 (fun x => z_T g d 66 116 ls (.int x :: st) h P) := zt_getI zi_66_113 ((congrArg (fun o => z_fl o 28) zo_66).trans zf_LatinRectangles_Text_28)
theorem zi_66_116 : z_ins 66 116 = some (.aload_n 0, 1) := by decide +kernel
theorem ze_66_116 : z_T g d 66 116 (.ref a :: ls) st h P = z_T g d 66 117 (.ref a :: ls) (.ref a :: st) h P := zt_aloadn zi_66_116 rfl rfl
theorem zi_66_117 : z_ins 66 117 = some (.getfield 31, 3) := by decide +kernel
theorem ze_66_117 : z_T g d 66 117 ls (.ref a :: st) h P = z_gI h.1 a 7 5 (fun x => z_T g d 66 120 ls (.int x :: st) h P) := zt_getI zi_66_117 ((congrArg (fun o => z_fl o 31) zo_66).trans zf_LatinRectangles_Text_31)
theorem zi_66_120 : z_ins 66 120 = some (.isub, 1) := by decide +kernel
theorem ze_66_120 : z_T g d 66 120 ls (.int y :: .int x :: st) h P = z_T g d 66 121 ls (.int (x - y) :: st) h P := zt_bin (f := fun x y => x - y) zi_66_120 rfl (fun _ _ _ => rfl)
theorem zi_66_121 : z_ins 66 121 = some (.bipush 9, 2) := by decide +kernel
theorem ze_66_121 : z_T g d 66 121 ls st h P = z_T g d 66 123 ls (.int (nI 9) :: st) h P := zt_bipush zi_66_121 rfl
theorem zi_66_123 : z_ins 66 123 = some (.if_icmp .gt 7, 3) := by decide +kernel
theorem ze_66_123 : z_T g d 66 123 ls (.int y :: .int x :: st) h P = (if y < x then z_T g d 66 130 ls st h P else z_T g d 66 126 ls st h P) := zt_icmpgt zi_66_123 (by decide)
theorem zi_66_126 : z_ins 66 126 = some (.iconst 2, 1) := by decide +kernel
theorem ze_66_126 : z_T g d 66 126 ls st h P = z_T g d 66 127 ls (.int (nI 2) :: st) h P := zt_iconst zi_66_126 rfl
theorem zi_66_127 : z_ins 66 127 = some (.goto 4, 3) := by decide +kernel
theorem ze_66_127 : z_T g d 66 127 ls st h P = z_T g d 66 131 ls st h P := zt_goto zi_66_127 (by decide)
theorem zi_66_130 : z_ins 66 130 = some (.iconst 1, 1) := by decide +kernel
theorem ze_66_130 : z_T g d 66 130 ls st h P = z_T g d 66 131 ls (.int (nI 1) :: st) h P := zt_iconst zi_66_130 rfl
theorem zi_66_131 : z_ins 66 131 = some (.putfield 34, 3) := by decide +kernel
theorem ze_66_131 : z_T g d 66 131 ls (.int x :: .ref a :: st) h P = z_pF h.1 a 7 4 (.int x) (fun f => z_T g d 66 134 ls st (f, h.2) P) := zt_putI zi_66_131 ((congrArg (fun o => z_fl o 34) zo_66).trans zf_LatinRectangles_Text_34)
theorem zi_66_134 : z_ins 66 134 = some (.goto 81, 3) := by decide +kernel
theorem ze_66_134 : z_T g d 66 134 ls st h P = z_T g d 66 215 ls st h P := zt_goto zi_66_134 (by decide)
theorem zi_66_137 : z_ins 66 137 = some (.iload_n 1, 1) := by decide +kernel
theorem ze_66_137 : z_T g d 66 137 (v0 :: .int x :: ls) st h P = z_T g d 66 138 (v0 :: .int x :: ls) (.int x :: st) h P := zt_iloadn zi_66_137 rfl rfl
theorem zi_66_138 : z_ins 66 138 = some (.bipush 48, 2) := by decide +kernel
theorem ze_66_138 : z_T g d 66 138 ls st h P = z_T g d 66 140 ls (.int (nI 48) :: st) h P := zt_bipush zi_66_138 rfl
theorem zi_66_140 : z_ins 66 140 = some (.if_icmp .lt 50, 3) := by decide +kernel
theorem ze_66_140 : z_T g d 66 140 ls (.int y :: .int x :: st) h P = (if x < y then z_T g d 66 190 ls st h P else z_T g d 66 143 ls st h P) := zt_icmplt zi_66_140 (by decide)
theorem zi_66_143 : z_ins 66 143 = some (.iload_n 1, 1) := by decide +kernel
theorem ze_66_143 : z_T g d 66 143 (v0 :: .int x :: ls) st h P = z_T g d 66 144 (v0 :: .int x :: ls) (.int x :: st) h P := zt_iloadn zi_66_143 rfl rfl
theorem zi_66_144 : z_ins 66 144 = some (.bipush 57, 2) := by decide +kernel
theorem ze_66_144 : z_T g d 66 144 ls st h P = z_T g d 66 146 ls (.int (nI 57) :: st) h P := zt_bipush zi_66_144 rfl
theorem zi_66_146 : z_ins 66 146 = some (.if_icmp .gt 44, 3) := by decide +kernel
theorem ze_66_146 : z_T g d 66 146 ls (.int y :: .int x :: st) h P = (if y < x then z_T g d 66 190 ls st h P else z_T g d 66 149 ls st h P) := zt_icmpgt zi_66_146 (by decide)
theorem zi_66_149 : z_ins 66 149 = some (.aload_n 0, 1) := by decide +kernel
theorem ze_66_149 : z_T g d 66 149 (.ref a :: ls) st h P = z_T g d 66 150 (.ref a :: ls) (.ref a :: st) h P := zt_aloadn zi_66_149 rfl rfl
theorem zi_66_150 : z_ins 66 150 = some (.aload_n 0, 1) := by decide +kernel
theorem ze_66_150 : z_T g d 66 150 (.ref a :: ls) st h P = z_T g d 66 151 (.ref a :: ls) (.ref a :: st) h P := zt_aloadn zi_66_150 rfl rfl
theorem zi_66_151 : z_ins 66 151 = some (.bipush 48, 2) := by decide +kernel
theorem ze_66_151 : z_T g d 66 151 ls st h P = z_T g d 66 153 ls (.int (nI 48) :: st) h P := zt_bipush zi_66_151 rfl
theorem zi_66_153 : z_ins 66 153 = some (.bipush 57, 2) := by decide +kernel
theorem ze_66_153 : z_T g d 66 153 ls st h P = z_T g d 66 155 ls (.int (nI 57) :: st) h P := zt_bipush zi_66_153 rfl
theorem zi_66_155 : z_ins 66 155 = some (.invokevirtual 40, 3) := by decide +kernel
theorem ze_66_155 : z_T g d 66 155 ls (.int x1 :: .int x0 :: .ref a :: st) h P = ((z_okS 8 st = true ∧ z_gO h.1 a 7 ∧ 0 < d) ∧ z_Ca g (d - 1) 67 [.ref a, .int x0, .int x1] h (fun r => z_k r (fun v h' => z_T g d 66 158 ls (z_push v st) h' P) P)) := zt_callV (as := [.int x0, .int x1]) zi_66_155 ((congrArg (fun o => z_lookup z_prs (o, 40)) zo_66).trans zp_LatinRectangles_Text_40) ((congrArg (fun o => z_clk o 40) zo_66).trans zk_LatinRectangles_Text_40) zh_66 zc_67 rfl rfl rfl
theorem zi_66_158 : z_ins 66 158 = some (.putfield 28, 3) := by decide +kernel
theorem ze_66_158 : z_T g d 66 158 ls (.int x :: .ref a :: st) h P = z_pF h.1 a 7 3 (.int x) (fun f => z_T g d 66 161 ls st (f, h.2) P) := zt_putI zi_66_158 ((congrArg (fun o => z_fl o 28) zo_66).trans zf_LatinRectangles_Text_28)
theorem zi_66_161 : z_ins 66 161 = some (.aload_n 0, 1) := by decide +kernel
theorem ze_66_161 : z_T g d 66 161 (.ref a :: ls) st h P = z_T g d 66 162 (.ref a :: ls) (.ref a :: st) h P := zt_aloadn zi_66_161 rfl rfl
theorem zi_66_162 : z_ins 66 162 = some (.aload_n 0, 1) := by decide +kernel
theorem ze_66_162 : z_T g d 66 162 (.ref a :: ls) st h P = z_T g d 66 163 (.ref a :: ls) (.ref a :: st) h P := zt_aloadn zi_66_162 rfl rfl
theorem zi_66_163 : z_ins 66 163 = some (.getfield 28, 3) := by decide +kernel
theorem ze_66_163 : z_T g d 66 163 ls (.ref a :: st) h P = z_gI h.1 a 7 3 (fun x => z_T g d 66 166 ls (.int x :: st) h P) := zt_getI zi_66_163 ((congrArg (fun o => z_fl o 28) zo_66).trans zf_LatinRectangles_Text_28)
theorem zi_66_166 : z_ins 66 166 = some (.aload_n 0, 1) := by decide +kernel
theorem ze_66_166 : z_T g d 66 166 (.ref a :: ls) st h P = z_T g d 66 167 (.ref a :: ls) (.ref a :: st) h P := zt_aloadn zi_66_166 rfl rfl
theorem zi_66_167 : z_ins 66 167 = some (.getfield 31, 3) := by decide +kernel
theorem ze_66_167 : z_T g d 66 167 ls (.ref a :: st) h P = z_gI h.1 a 7 5 (fun x => z_T g d 66 170 ls (.int x :: st) h P) := zt_getI zi_66_167 ((congrArg (fun o => z_fl o 31) zo_66).trans zf_LatinRectangles_Text_31)
theorem zi_66_170 : z_ins 66 170 = some (.isub, 1) := by decide +kernel
theorem ze_66_170 : z_T g d 66 170 ls (.int y :: .int x :: st) h P = z_T g d 66 171 ls (.int (x - y) :: st) h P := zt_bin (f := fun x y => x - y) zi_66_170 rfl (fun _ _ _ => rfl)
theorem zi_66_171 : z_ins 66 171 = some (.iconst 2, 1) := by decide +kernel
theorem ze_66_171 : z_T g d 66 171 ls st h P = z_T g d 66 172 ls (.int (nI 2) :: st) h P := zt_iconst zi_66_171 rfl
theorem zi_66_172 : z_ins 66 172 = some (.if_icmp .gt 7, 3) := by decide +kernel
theorem ze_66_172 : z_T g d 66 172 ls (.int y :: .int x :: st) h P = (if y < x then z_T g d 66 179 ls st h P else z_T g d 66 175 ls st h P) := zt_icmpgt zi_66_172 (by decide)
theorem zi_66_175 : z_ins 66 175 = some (.iconst 3, 1) := by decide +kernel
theorem ze_66_175 : z_T g d 66 175 ls st h P = z_T g d 66 176 ls (.int (nI 3) :: st) h P := zt_iconst zi_66_175 rfl
theorem zi_66_176 : z_ins 66 176 = some (.goto 4, 3) := by decide +kernel
theorem ze_66_176 : z_T g d 66 176 ls st h P = z_T g d 66 180 ls st h P := zt_goto zi_66_176 (by decide)
theorem zi_66_179 : z_ins 66 179 = some (.iconst 1, 1) := by decide +kernel
theorem ze_66_179 : z_T g d 66 179 ls st h P = z_T g d 66 180 ls (.int (nI 1) :: st) h P := zt_iconst zi_66_179 rfl
theorem zi_66_180 : z_ins 66 180 = some (.putfield 34, 3) := by decide +kernel
theorem ze_66_180 : z_T g d 66 180 ls (.int x :: .ref a :: st) h P = z_pF h.1 a 7 4 (.int x) (fun f => z_T g d 66 183 ls st (f, h.2) P) := zt_putI zi_66_180 ((congrArg (fun o => z_fl o 34) zo_66).trans zf_LatinRectangles_Text_34)
theorem zi_66_183 : z_ins 66 183 = some (.aload_n 0, 1) := by decide +kernel
theorem ze_66_183 : z_T g d 66 183 (.ref a :: ls) st h P = z_T g d 66 184 (.ref a :: ls) (.ref a :: st) h P := zt_aloadn zi_66_183 rfl rfl
theorem zi_66_184 : z_ins 66 184 = some (.invokevirtual 43, 3) := by decide +kernel
theorem ze_66_184 : z_T g d 66 184 ls (.ref a :: st) h P = ((z_okS 8 st = true ∧ z_gO h.1 a 7 ∧ 0 < d) ∧ z_Ca g (d - 1) 68 [.ref a] h (fun r => z_k r (fun v h' => z_T g d 66 187 ls (z_push v st) h' P) P)) := zt_callV (as := []) zi_66_184 ((congrArg (fun o => z_lookup z_prs (o, 43)) zo_66).trans zp_LatinRectangles_Text_43) ((congrArg (fun o => z_clk o 43) zo_66).trans zk_LatinRectangles_Text_43) zh_66 zc_68 rfl rfl rfl
theorem zi_66_187 : z_ins 66 187 = some (.goto 28, 3) := by decide +kernel
theorem ze_66_187 : z_T g d 66 187 ls st h P = z_T g d 66 215 ls st h P := zt_goto zi_66_187 (by decide)
theorem zi_66_190 : z_ins 66 190 = some (.aload_n 0, 1) := by decide +kernel
theorem ze_66_190 : z_T g d 66 190 (.ref a :: ls) st h P = z_T g d 66 191 (.ref a :: ls) (.ref a :: st) h P := zt_aloadn zi_66_190 rfl rfl
theorem zi_66_191 : z_ins 66 191 = some (.aload_n 0, 1) := by decide +kernel
theorem ze_66_191 : z_T g d 66 191 (.ref a :: ls) st h P = z_T g d 66 192 (.ref a :: ls) (.ref a :: st) h P := zt_aloadn zi_66_191 rfl rfl
theorem zi_66_192 : z_ins 66 192 = some (.getfield 31, 3) := by decide +kernel
theorem ze_66_192 : z_T g d 66 192 ls (.ref a :: st) h P = z_gI h.1 a 7 5 (fun x => z_T g d 66 195 ls (.int x :: st) h P) := zt_getI zi_66_192 ((congrArg (fun o => z_fl o 31) zo_66).trans zf_LatinRectangles_Text_31)
theorem zi_66_195 : z_ins 66 195 = some (.iconst 1, 1) := by decide +kernel
theorem ze_66_195 : z_T g d 66 195 ls st h P = z_T g d 66 196 ls (.int (nI 1) :: st) h P := zt_iconst zi_66_195 rfl
theorem zi_66_196 : z_ins 66 196 = some (.iadd, 1) := by decide +kernel
theorem ze_66_196 : z_T g d 66 196 ls (.int y :: .int x :: st) h P = z_T g d 66 197 ls (.int (x + y) :: st) h P := zt_bin (f := fun x y => x + y) zi_66_196 rfl (fun _ _ _ => rfl)
theorem zi_66_197 : z_ins 66 197 = some (.putfield 28, 3) := by decide +kernel
theorem ze_66_197 : z_T g d 66 197 ls (.int x :: .ref a :: st) h P = z_pF h.1 a 7 3 (.int x) (fun f => z_T g d 66 200 ls st (f, h.2) P) := zt_putI zi_66_197 ((congrArg (fun o => z_fl o 28) zo_66).trans zf_LatinRectangles_Text_28)
theorem zi_66_200 : z_ins 66 200 = some (.aload_n 0, 1) := by decide +kernel
theorem ze_66_200 : z_T g d 66 200 (.ref a :: ls) st h P = z_T g d 66 201 (.ref a :: ls) (.ref a :: st) h P := zt_aloadn zi_66_200 rfl rfl
theorem zi_66_201 : z_ins 66 201 = some (.iload_n 1, 1) := by decide +kernel
theorem ze_66_201 : z_T g d 66 201 (v0 :: .int x :: ls) st h P = z_T g d 66 202 (v0 :: .int x :: ls) (.int x :: st) h P := zt_iloadn zi_66_201 rfl rfl
theorem zi_66_202 : z_ins 66 202 = some (.bipush 59, 2) := by decide +kernel
theorem ze_66_202 : z_T g d 66 202 ls st h P = z_T g d 66 204 ls (.int (nI 59) :: st) h P := zt_bipush zi_66_202 rfl
theorem zi_66_204 : z_ins 66 204 = some (.if_icmp .ne 7, 3) := by decide +kernel
theorem ze_66_204 : z_T g d 66 204 ls (.int y :: .int x :: st) h P = (if x = y then z_T g d 66 207 ls st h P else z_T g d 66 211 ls st h P) := zt_icmpne zi_66_204 (by decide)
theorem zi_66_207 : z_ins 66 207 = some (.iconst 4, 1) := by decide +kernel
theorem ze_66_207 : z_T g d 66 207 ls st h P = z_T g d 66 208 ls (.int (nI 4) :: st) h P := zt_iconst zi_66_207 rfl
theorem zi_66_208 : z_ins 66 208 = some (.goto 4, 3) := by decide +kernel
theorem ze_66_208 : z_T g d 66 208 ls st h P = z_T g d 66 212 ls st h P := zt_goto zi_66_208 (by decide)
theorem zi_66_211 : z_ins 66 211 = some (.iconst 1, 1) := by decide +kernel
theorem ze_66_211 : z_T g d 66 211 ls st h P = z_T g d 66 212 ls (.int (nI 1) :: st) h P := zt_iconst zi_66_211 rfl
theorem zi_66_212 : z_ins 66 212 = some (.putfield 34, 3) := by decide +kernel
theorem ze_66_212 : z_T g d 66 212 ls (.int x :: .ref a :: st) h P = z_pF h.1 a 7 4 (.int x) (fun f => z_T g d 66 215 ls st (f, h.2) P) := zt_putI zi_66_212 ((congrArg (fun o => z_fl o 34) zo_66).trans zf_LatinRectangles_Text_34)
theorem zi_66_215 : z_ins 66 215 = some (.return_, 1) := by decide +kernel
theorem ze_66_215 : z_T g d 66 215 ls [] h P = P (.inr none, h) := zt_return zi_66_215 zr_66
-- LatinRectangles$Text.runEnd(II)I
theorem zo_67 : z_own 67 = "LatinRectangles$Text" := by decide +kernel
theorem zm_67 : z_maxL 67 = 4 := by decide +kernel
theorem zh_67 : z_hds 67 = [] := by decide +kernel
theorem zr_67 : z_rt 67 = (some .int) := by decide +kernel
theorem zn_67 : z_Ca g d 67 [.ref a0, .int x1, .int x2] h P = z_T g d 67 0 [.ref a0, .int x1, .int x2, z_un] [] h P := z_Ca_ent zm_67 rfl rfl
theorem zi_67_0 : z_ins 67 0 = some (.aload_n 0, 1) := by decide +kernel
theorem ze_67_0 : z_T g d 67 0 (.ref a :: ls) st h P = z_T g d 67 1 (.ref a :: ls) (.ref a :: st) h P := zt_aloadn zi_67_0 rfl rfl
theorem zi_67_1 : z_ins 67 1 = some (.getfield 31, 3) := by decide +kernel
theorem ze_67_1 : z_T g d 67 1 ls (.ref a :: st) h P = z_gI h.1 a 7 5 (fun x => z_T g d 67 4 ls (.int x :: st) h P) := zt_getI zi_67_1 ((congrArg (fun o => z_fl o 31) zo_67).trans zf_LatinRectangles_Text_31)
theorem zi_67_4 : z_ins 67 4 = some (.istore_n 3, 1) := by decide +kernel
theorem ze_67_4 : z_T g d 67 4 (v0 :: v1 :: v2 :: v3 :: ls) (.int x :: st) h P = z_T g d 67 5 (v0 :: v1 :: v2 :: .int x :: ls) st h P := zt_istoren zi_67_4 rfl (Nat.le_add_left 4 _)
theorem zi_67_5 : z_ins 67 5 = some (.iload_n 3, 1) := by decide +kernel
theorem ze_67_5 : z_T g d 67 5 (v0 :: v1 :: v2 :: .int x :: ls) st h P = z_T g d 67 6 (v0 :: v1 :: v2 :: .int x :: ls) (.int x :: st) h P := zt_iloadn zi_67_5 rfl rfl
theorem zi_67_6 : z_ins 67 6 = some (.aload_n 0, 1) := by decide +kernel
theorem ze_67_6 : z_T g d 67 6 (.ref a :: ls) st h P = z_T g d 67 7 (.ref a :: ls) (.ref a :: st) h P := zt_aloadn zi_67_6 rfl rfl
theorem zi_67_7 : z_ins 67 7 = some (.getfield 25, 3) := by decide +kernel
theorem ze_67_7 : z_T g d 67 7 ls (.ref a :: st) h P = z_gI h.1 a 7 2 (fun x => z_T g d 67 10 ls (.int x :: st) h P) := zt_getI zi_67_7 ((congrArg (fun o => z_fl o 25) zo_67).trans zf_LatinRectangles_Text_25)
theorem zi_67_10 : z_ins 67 10 = some (.if_icmp .ge 29, 3) := by decide +kernel
theorem ze_67_10 : z_T g d 67 10 ls (.int y :: .int x :: st) h P = (if x < y then z_T g d 67 13 ls st h P else z_T g d 67 39 ls st h P) := zt_icmpge zi_67_10 (by decide)
theorem zi_67_13 : z_ins 67 13 = some (.aload_n 0, 1) := by decide +kernel
theorem ze_67_13 : z_T g d 67 13 (.ref a :: ls) st h P = z_T g d 67 14 (.ref a :: ls) (.ref a :: st) h P := zt_aloadn zi_67_13 rfl rfl
theorem zi_67_14 : z_ins 67 14 = some (.getfield 9, 3) := by decide +kernel
theorem ze_67_14 : z_T g d 67 14 ls (.ref a :: st) h P = z_gR h.1 a 7 0 (fun x => z_T g d 67 17 ls (.ref x :: st) h P) := zt_getR zi_67_14 ((congrArg (fun o => z_fl o 9) zo_67).trans zf_LatinRectangles_Text_9)
theorem zi_67_17 : z_ins 67 17 = some (.iload_n 3, 1) := by decide +kernel
theorem ze_67_17 : z_T g d 67 17 (v0 :: v1 :: v2 :: .int x :: ls) st h P = z_T g d 67 18 (v0 :: v1 :: v2 :: .int x :: ls) (.int x :: st) h P := zt_iloadn zi_67_17 rfl rfl
theorem zi_67_18 : z_ins 67 18 = some (.baload, 1) := by decide +kernel
theorem ze_67_18 : z_T g d 67 18 ls (.int x :: .ref a :: st) h P = z_aL h.1 a z_tB x (fun v => z_T g d 67 19 ls (.int v :: st) h P) := zt_baload zi_67_18
theorem zi_67_19 : z_ins 67 19 = some (.iload_n 1, 1) := by decide +kernel
theorem ze_67_19 : z_T g d 67 19 (v0 :: .int x :: ls) st h P = z_T g d 67 20 (v0 :: .int x :: ls) (.int x :: st) h P := zt_iloadn zi_67_19 rfl rfl
theorem zi_67_20 : z_ins 67 20 = some (.if_icmp .lt 19, 3) := by decide +kernel
theorem ze_67_20 : z_T g d 67 20 ls (.int y :: .int x :: st) h P = (if x < y then z_T g d 67 39 ls st h P else z_T g d 67 23 ls st h P) := zt_icmplt zi_67_20 (by decide)
theorem zi_67_23 : z_ins 67 23 = some (.aload_n 0, 1) := by decide +kernel
theorem ze_67_23 : z_T g d 67 23 (.ref a :: ls) st h P = z_T g d 67 24 (.ref a :: ls) (.ref a :: st) h P := zt_aloadn zi_67_23 rfl rfl
theorem zi_67_24 : z_ins 67 24 = some (.getfield 9, 3) := by decide +kernel
theorem ze_67_24 : z_T g d 67 24 ls (.ref a :: st) h P = z_gR h.1 a 7 0 (fun x => z_T g d 67 27 ls (.ref x :: st) h P) := zt_getR zi_67_24 ((congrArg (fun o => z_fl o 9) zo_67).trans zf_LatinRectangles_Text_9)
theorem zi_67_27 : z_ins 67 27 = some (.iload_n 3, 1) := by decide +kernel
theorem ze_67_27 : z_T g d 67 27 (v0 :: v1 :: v2 :: .int x :: ls) st h P = z_T g d 67 28 (v0 :: v1 :: v2 :: .int x :: ls) (.int x :: st) h P := zt_iloadn zi_67_27 rfl rfl
theorem zi_67_28 : z_ins 67 28 = some (.baload, 1) := by decide +kernel
theorem ze_67_28 : z_T g d 67 28 ls (.int x :: .ref a :: st) h P = z_aL h.1 a z_tB x (fun v => z_T g d 67 29 ls (.int v :: st) h P) := zt_baload zi_67_28
theorem zi_67_29 : z_ins 67 29 = some (.iload_n 2, 1) := by decide +kernel
theorem ze_67_29 : z_T g d 67 29 (v0 :: v1 :: .int x :: ls) st h P = z_T g d 67 30 (v0 :: v1 :: .int x :: ls) (.int x :: st) h P := zt_iloadn zi_67_29 rfl rfl
theorem zi_67_30 : z_ins 67 30 = some (.if_icmp .gt 9, 3) := by decide +kernel
theorem ze_67_30 : z_T g d 67 30 ls (.int y :: .int x :: st) h P = (if y < x then z_T g d 67 39 ls st h P else z_T g d 67 33 ls st h P) := zt_icmpgt zi_67_30 (by decide)
theorem zi_67_33 : z_ins 67 33 = some (.iinc 3 1, 3) := by decide +kernel
theorem ze_67_33 : z_T g d 67 33 (v0 :: v1 :: v2 :: .int x :: ls) st h P = z_T g d 67 36 (v0 :: v1 :: v2 :: .int (x + (nI 1)) :: ls) st h P := zt_iinc zi_67_33 rfl rfl
theorem zi_67_36 : z_ins 67 36 = some (.goto (-31), 3) := by decide +kernel
theorem ze_67_36 : z_T g d 67 36 ls st h P = z_T g d 67 5 ls st h P := zt_goto zi_67_36 (by decide)
theorem zi_67_39 : z_ins 67 39 = some (.iload_n 3, 1) := by decide +kernel
theorem ze_67_39 : z_T g d 67 39 (v0 :: v1 :: v2 :: .int x :: ls) st h P = z_T g d 67 40 (v0 :: v1 :: v2 :: .int x :: ls) (.int x :: st) h P := zt_iloadn zi_67_39 rfl rfl
theorem zi_67_40 : z_ins 67 40 = some (.ireturn, 1) := by decide +kernel
theorem ze_67_40 : z_T g d 67 40 ls [.int x] h P = P (.inr (some (.int x)), h) := zt_ireturn zi_67_40 zr_67
-- LatinRectangles$Text.readValue()V
theorem zo_68 : z_own 68 = "LatinRectangles$Text" := by decide +kernel
theorem zm_68 : z_maxL 68 = 2 := by decide +kernel
theorem zh_68 : z_hds 68 = [] := by decide +kernel
theorem zr_68 : z_rt 68 = none := by decide +kernel
theorem zn_68 : z_Ca g d 68 [.ref a0] h P = z_T g d 68 0 [.ref a0, z_un] [] h P := z_Ca_ent zm_68 rfl rfl
theorem zi_68_0 : z_ins 68 0 = some (.aload_n 0, 1) := by decide +kernel
theorem ze_68_0 : z_T g d 68 0 (.ref a :: ls) st h P = z_T g d 68 1 (.ref a :: ls) (.ref a :: st) h P := zt_aloadn zi_68_0 rfl rfl
theorem zi_68_1 : z_ins 68 1 = some (.iconst 0, 1) := by decide +kernel
theorem ze_68_1 : z_T g d 68 1 ls st h P = z_T g d 68 2 ls (.int (nI 0) :: st) h P := zt_iconst zi_68_1 rfl
theorem zi_68_2 : z_ins 68 2 = some (.putfield 37, 3) := by decide +kernel
theorem ze_68_2 : z_T g d 68 2 ls (.int x :: .ref a :: st) h P = z_pF h.1 a 7 6 (.int x) (fun f => z_T g d 68 5 ls st (f, h.2) P) := zt_putI zi_68_2 ((congrArg (fun o => z_fl o 37) zo_68).trans zf_LatinRectangles_Text_37)
theorem zi_68_5 : z_ins 68 5 = some (.aload_n 0, 1) := by decide +kernel
theorem ze_68_5 : z_T g d 68 5 (.ref a :: ls) st h P = z_T g d 68 6 (.ref a :: ls) (.ref a :: st) h P := zt_aloadn zi_68_5 rfl rfl
theorem zi_68_6 : z_ins 68 6 = some (.getfield 31, 3) := by decide +kernel
theorem ze_68_6 : z_T g d 68 6 ls (.ref a :: st) h P = z_gI h.1 a 7 5 (fun x => z_T g d 68 9 ls (.int x :: st) h P) := zt_getI zi_68_6 ((congrArg (fun o => z_fl o 31) zo_68).trans zf_LatinRectangles_Text_31)
theorem zi_68_9 : z_ins 68 9 = some (.istore_n 1, 1) := by decide +kernel
theorem ze_68_9 : z_T g d 68 9 (v0 :: v1 :: ls) (.int x :: st) h P = z_T g d 68 10 (v0 :: .int x :: ls) st h P := zt_istoren zi_68_9 rfl (Nat.le_add_left 2 _)
theorem zi_68_10 : z_ins 68 10 = some (.aload_n 0, 1) := by decide +kernel
theorem ze_68_10 : z_T g d 68 10 (.ref a :: ls) st h P = z_T g d 68 11 (.ref a :: ls) (.ref a :: st) h P := zt_aloadn zi_68_10 rfl rfl
theorem zi_68_11 : z_ins 68 11 = some (.getfield 34, 3) := by decide +kernel
theorem ze_68_11 : z_T g d 68 11 ls (.ref a :: st) h P = z_gI h.1 a 7 4 (fun x => z_T g d 68 14 ls (.int x :: st) h P) := zt_getI zi_68_11 ((congrArg (fun o => z_fl o 34) zo_68).trans zf_LatinRectangles_Text_34)
theorem zi_68_14 : z_ins 68 14 = some (.iconst 3, 1) := by decide +kernel
theorem ze_68_14 : z_T g d 68 14 ls st h P = z_T g d 68 15 ls (.int (nI 3) :: st) h P := zt_iconst zi_68_14 rfl
theorem zi_68_15 : z_ins 68 15 = some (.if_icmp .ne 38, 3) := by decide +kernel
theorem ze_68_15 : z_T g d 68 15 ls (.int y :: .int x :: st) h P = (if x = y then z_T g d 68 18 ls st h P else z_T g d 68 53 ls st h P) := zt_icmpne zi_68_15 (by decide)
theorem zi_68_18 : z_ins 68 18 = some (.iload_n 1, 1) := by decide +kernel
theorem ze_68_18 : z_T g d 68 18 (v0 :: .int x :: ls) st h P = z_T g d 68 19 (v0 :: .int x :: ls) (.int x :: st) h P := zt_iloadn zi_68_18 rfl rfl
theorem zi_68_19 : z_ins 68 19 = some (.aload_n 0, 1) := by decide +kernel
theorem ze_68_19 : z_T g d 68 19 (.ref a :: ls) st h P = z_T g d 68 20 (.ref a :: ls) (.ref a :: st) h P := zt_aloadn zi_68_19 rfl rfl
theorem zi_68_20 : z_ins 68 20 = some (.getfield 28, 3) := by decide +kernel
theorem ze_68_20 : z_T g d 68 20 ls (.ref a :: st) h P = z_gI h.1 a 7 3 (fun x => z_T g d 68 23 ls (.int x :: st) h P) := zt_getI zi_68_20 ((congrArg (fun o => z_fl o 28) zo_68).trans zf_LatinRectangles_Text_28)
theorem zi_68_23 : z_ins 68 23 = some (.if_icmp .ge 30, 3) := by decide +kernel
theorem ze_68_23 : z_T g d 68 23 ls (.int y :: .int x :: st) h P = (if x < y then z_T g d 68 26 ls st h P else z_T g d 68 53 ls st h P) := zt_icmpge zi_68_23 (by decide)
theorem zi_68_26 : z_ins 68 26 = some (.aload_n 0, 1) := by decide +kernel
theorem ze_68_26 : z_T g d 68 26 (.ref a :: ls) st h P = z_T g d 68 27 (.ref a :: ls) (.ref a :: st) h P := zt_aloadn zi_68_26 rfl rfl
theorem zi_68_27 : z_ins 68 27 = some (.aload_n 0, 1) := by decide +kernel
theorem ze_68_27 : z_T g d 68 27 (.ref a :: ls) st h P = z_T g d 68 28 (.ref a :: ls) (.ref a :: st) h P := zt_aloadn zi_68_27 rfl rfl
theorem zi_68_28 : z_ins 68 28 = some (.getfield 37, 3) := by decide +kernel
theorem ze_68_28 : z_T g d 68 28 ls (.ref a :: st) h P = z_gI h.1 a 7 6 (fun x => z_T g d 68 31 ls (.int x :: st) h P) := zt_getI zi_68_28 ((congrArg (fun o => z_fl o 37) zo_68).trans zf_LatinRectangles_Text_37)
theorem zi_68_31 : z_ins 68 31 = some (.bipush 10, 2) := by decide +kernel
theorem ze_68_31 : z_T g d 68 31 ls st h P = z_T g d 68 33 ls (.int (nI 10) :: st) h P := zt_bipush zi_68_31 rfl
theorem zi_68_33 : z_ins 68 33 = some (.imul, 1) := by decide +kernel
theorem ze_68_33 : z_T g d 68 33 ls (.int y :: .int x :: st) h P = z_T g d 68 34 ls (.int (x * y) :: st) h P := zt_bin (f := fun x y => x * y) zi_68_33 rfl (fun _ _ _ => rfl)
theorem zi_68_34 : z_ins 68 34 = some (.aload_n 0, 1) := by decide +kernel
theorem ze_68_34 : z_T g d 68 34 (.ref a :: ls) st h P = z_T g d 68 35 (.ref a :: ls) (.ref a :: st) h P := zt_aloadn zi_68_34 rfl rfl
theorem zi_68_35 : z_ins 68 35 = some (.getfield 9, 3) := by decide +kernel
theorem ze_68_35 : z_T g d 68 35 ls (.ref a :: st) h P = z_gR h.1 a 7 0 (fun x => z_T g d 68 38 ls (.ref x :: st) h P) := zt_getR zi_68_35 ((congrArg (fun o => z_fl o 9) zo_68).trans zf_LatinRectangles_Text_9)
theorem zi_68_38 : z_ins 68 38 = some (.iload_n 1, 1) := by decide +kernel
theorem ze_68_38 : z_T g d 68 38 (v0 :: .int x :: ls) st h P = z_T g d 68 39 (v0 :: .int x :: ls) (.int x :: st) h P := zt_iloadn zi_68_38 rfl rfl
theorem zi_68_39 : z_ins 68 39 = some (.baload, 1) := by decide +kernel
theorem ze_68_39 : z_T g d 68 39 ls (.int x :: .ref a :: st) h P = z_aL h.1 a z_tB x (fun v => z_T g d 68 40 ls (.int v :: st) h P) := zt_baload zi_68_39
theorem zi_68_40 : z_ins 68 40 = some (.iadd, 1) := by decide +kernel
theorem ze_68_40 : z_T g d 68 40 ls (.int y :: .int x :: st) h P = z_T g d 68 41 ls (.int (x + y) :: st) h P := zt_bin (f := fun x y => x + y) zi_68_40 rfl (fun _ _ _ => rfl)
theorem zi_68_41 : z_ins 68 41 = some (.bipush 48, 2) := by decide +kernel
theorem ze_68_41 : z_T g d 68 41 ls st h P = z_T g d 68 43 ls (.int (nI 48) :: st) h P := zt_bipush zi_68_41 rfl
theorem zi_68_43 : z_ins 68 43 = some (.isub, 1) := by decide +kernel
theorem ze_68_43 : z_T g d 68 43 ls (.int y :: .int x :: st) h P = z_T g d 68 44 ls (.int (x - y) :: st) h P := zt_bin (f := fun x y => x - y) zi_68_43 rfl (fun _ _ _ => rfl)
theorem zi_68_44 : z_ins 68 44 = some (.putfield 37, 3) := by decide +kernel
theorem ze_68_44 : z_T g d 68 44 ls (.int x :: .ref a :: st) h P = z_pF h.1 a 7 6 (.int x) (fun f => z_T g d 68 47 ls st (f, h.2) P) := zt_putI zi_68_44 ((congrArg (fun o => z_fl o 37) zo_68).trans zf_LatinRectangles_Text_37)
theorem zi_68_47 : z_ins 68 47 = some (.iinc 1 1, 3) := by decide +kernel
theorem ze_68_47 : z_T g d 68 47 (v0 :: .int x :: ls) st h P = z_T g d 68 50 (v0 :: .int (x + (nI 1)) :: ls) st h P := zt_iinc zi_68_47 rfl rfl
theorem zi_68_50 : z_ins 68 50 = some (.goto (-40), 3) := by decide +kernel
theorem ze_68_50 : z_T g d 68 50 ls st h P = z_T g d 68 10 ls st h P := zt_goto zi_68_50 (by decide)
theorem zi_68_53 : z_ins 68 53 = some (.return_, 1) := by decide +kernel
theorem ze_68_53 : z_T g d 68 53 ls [] h P = P (.inr none, h) := zt_return zi_68_53 zr_68
-- LatinRectangles$Text.isWord(Ljava/lang/String;)Z
theorem zo_69 : z_own 69 = "LatinRectangles$Text" := by decide +kernel
theorem zm_69 : z_maxL 69 = 3 := by decide +kernel
theorem zh_69 : z_hds 69 = [] := by decide +kernel
theorem zr_69 : z_rt 69 = (some .boolean) := by decide +kernel
theorem zn_69 : z_Ca g d 69 [.ref a0, .retAddr k1] h P = z_T g d 69 0 [.ref a0, .retAddr k1, z_un] [] h P := z_Ca_ent zm_69 rfl rfl
theorem zi_69_0 : z_ins 69 0 = some (.aload_n 0, 1) := by decide +kernel
theorem ze_69_0 : z_T g d 69 0 (.ref a :: ls) st h P = z_T g d 69 1 (.ref a :: ls) (.ref a :: st) h P := zt_aloadn zi_69_0 rfl rfl
theorem zi_69_1 : z_ins 69 1 = some (.getfield 34, 3) := by decide +kernel
theorem ze_69_1 : z_T g d 69 1 ls (.ref a :: st) h P = z_gI h.1 a 7 4 (fun x => z_T g d 69 4 ls (.int x :: st) h P) := zt_getI zi_69_1 ((congrArg (fun o => z_fl o 34) zo_69).trans zf_LatinRectangles_Text_34)
theorem zi_69_4 : z_ins 69 4 = some (.iconst 2, 1) := by decide +kernel
theorem ze_69_4 : z_T g d 69 4 ls st h P = z_T g d 69 5 ls (.int (nI 2) :: st) h P := zt_iconst zi_69_4 rfl
theorem zi_69_5 : z_ins 69 5 = some (.if_icmp .ne 19, 3) := by decide +kernel
theorem ze_69_5 : z_T g d 69 5 ls (.int y :: .int x :: st) h P = (if x = y then z_T g d 69 8 ls st h P else z_T g d 69 24 ls st h P) := zt_icmpne zi_69_5 (by decide)
theorem zi_69_8 : z_ins 69 8 = some (.aload_n 0, 1) := by decide +kernel
theorem ze_69_8 : z_T g d 69 8 (.ref a :: ls) st h P = z_T g d 69 9 (.ref a :: ls) (.ref a :: st) h P := zt_aloadn zi_69_8 rfl rfl
theorem zi_69_9 : z_ins 69 9 = some (.getfield 28, 3) := by decide +kernel
theorem ze_69_9 : z_T g d 69 9 ls (.ref a :: st) h P = z_gI h.1 a 7 3 (fun x => z_T g d 69 12 ls (.int x :: st) h P) := zt_getI zi_69_9 ((congrArg (fun o => z_fl o 28) zo_69).trans zf_LatinRectangles_Text_28)
theorem zi_69_12 : z_ins 69 12 = some (.aload_n 0, 1) := by decide +kernel
theorem ze_69_12 : z_T g d 69 12 (.ref a :: ls) st h P = z_T g d 69 13 (.ref a :: ls) (.ref a :: st) h P := zt_aloadn zi_69_12 rfl rfl
theorem zi_69_13 : z_ins 69 13 = some (.getfield 31, 3) := by decide +kernel
theorem ze_69_13 : z_T g d 69 13 ls (.ref a :: st) h P = z_gI h.1 a 7 5 (fun x => z_T g d 69 16 ls (.int x :: st) h P) := zt_getI zi_69_13 ((congrArg (fun o => z_fl o 31) zo_69).trans zf_LatinRectangles_Text_31)
theorem zi_69_16 : z_ins 69 16 = some (.isub, 1) := by decide +kernel
theorem ze_69_16 : z_T g d 69 16 ls (.int y :: .int x :: st) h P = z_T g d 69 17 ls (.int (x - y) :: st) h P := zt_bin (f := fun x y => x - y) zi_69_16 rfl (fun _ _ _ => rfl)
theorem zi_69_17 : z_ins 69 17 = some (.aload_n 1, 1) := by decide +kernel
theorem ze_69_17 : z_T g d 69 17 (v0 :: .retAddr b :: ls) st h P = z_T g d 69 18 (v0 :: .retAddr b :: ls) (.retAddr b :: st) h P := zt_aloadnS zi_69_17 rfl rfl
theorem zi_69_18 : z_ins 69 18 = some (.invokevirtual 46, 3) := by decide +kernel
theorem ze_69_18 (hk : b < 3) (hok : z_okS 8 (.retAddr b :: st) = true) : z_T g d 69 18 ls (.retAddr b :: st) h P = z_T g d 69 21 ls (.int (nI (z_lit b).length) :: st) h P := zt_prim zi_69_18 ((congrArg (fun o => z_lookup z_prs (o, 46)) zo_69).trans zq_LatinRectangles_Text_46) (by decide) hok (by simp only [z_prim, hk, if_true])
theorem zi_69_21 : z_ins 69 21 = some (.if_icmp .eq 5, 3) := by decide +kernel
theorem ze_69_21 : z_T g d 69 21 ls (.int y :: .int x :: st) h P = (if x = y then z_T g d 69 26 ls st h P else z_T g d 69 24 ls st h P) := zt_icmpeq zi_69_21 (by decide)
theorem zi_69_24 : z_ins 69 24 = some (.iconst 0, 1) := by decide +kernel
theorem ze_69_24 : z_T g d 69 24 ls st h P = z_T g d 69 25 ls (.int (nI 0) :: st) h P := zt_iconst zi_69_24 rfl
theorem zi_69_25 : z_ins 69 25 = some (.ireturn, 1) := by decide +kernel
theorem ze_69_25 : z_T g d 69 25 ls [.int x] h P = ((x = nI 0 ∨ x = nI 1) ∧ P (.inr (some (.int x)), h)) := zt_zreturn zi_69_25 zr_69
theorem zi_69_26 : z_ins 69 26 = some (.iconst 0, 1) := by decide +kernel
theorem ze_69_26 : z_T g d 69 26 ls st h P = z_T g d 69 27 ls (.int (nI 0) :: st) h P := zt_iconst zi_69_26 rfl
theorem zi_69_27 : z_ins 69 27 = some (.istore_n 2, 1) := by decide +kernel
theorem ze_69_27 : z_T g d 69 27 (v0 :: v1 :: v2 :: ls) (.int x :: st) h P = z_T g d 69 28 (v0 :: v1 :: .int x :: ls) st h P := zt_istoren zi_69_27 rfl (Nat.le_add_left 3 _)
theorem zi_69_28 : z_ins 69 28 = some (.iload_n 2, 1) := by decide +kernel
theorem ze_69_28 : z_T g d 69 28 (v0 :: v1 :: .int x :: ls) st h P = z_T g d 69 29 (v0 :: v1 :: .int x :: ls) (.int x :: st) h P := zt_iloadn zi_69_28 rfl rfl
theorem zi_69_29 : z_ins 69 29 = some (.aload_n 1, 1) := by decide +kernel
theorem ze_69_29 : z_T g d 69 29 (v0 :: .retAddr b :: ls) st h P = z_T g d 69 30 (v0 :: .retAddr b :: ls) (.retAddr b :: st) h P := zt_aloadnS zi_69_29 rfl rfl
theorem zi_69_30 : z_ins 69 30 = some (.invokevirtual 46, 3) := by decide +kernel
theorem ze_69_30 (hk : b < 3) (hok : z_okS 8 (.retAddr b :: st) = true) : z_T g d 69 30 ls (.retAddr b :: st) h P = z_T g d 69 33 ls (.int (nI (z_lit b).length) :: st) h P := zt_prim zi_69_30 ((congrArg (fun o => z_lookup z_prs (o, 46)) zo_69).trans zq_LatinRectangles_Text_46) (by decide) hok (by simp only [z_prim, hk, if_true])
theorem zi_69_33 : z_ins 69 33 = some (.if_icmp .ge 30, 3) := by decide +kernel
theorem ze_69_33 : z_T g d 69 33 ls (.int y :: .int x :: st) h P = (if x < y then z_T g d 69 36 ls st h P else z_T g d 69 63 ls st h P) := zt_icmpge zi_69_33 (by decide)
theorem zi_69_36 : z_ins 69 36 = some (.aload_n 0, 1) := by decide +kernel
theorem ze_69_36 : z_T g d 69 36 (.ref a :: ls) st h P = z_T g d 69 37 (.ref a :: ls) (.ref a :: st) h P := zt_aloadn zi_69_36 rfl rfl
theorem zi_69_37 : z_ins 69 37 = some (.getfield 9, 3) := by decide +kernel
theorem ze_69_37 : z_T g d 69 37 ls (.ref a :: st) h P = z_gR h.1 a 7 0 (fun x => z_T g d 69 40 ls (.ref x :: st) h P) := zt_getR zi_69_37 ((congrArg (fun o => z_fl o 9) zo_69).trans zf_LatinRectangles_Text_9)
theorem zi_69_40 : z_ins 69 40 = some (.aload_n 0, 1) := by decide +kernel
theorem ze_69_40 : z_T g d 69 40 (.ref a :: ls) st h P = z_T g d 69 41 (.ref a :: ls) (.ref a :: st) h P := zt_aloadn zi_69_40 rfl rfl
theorem zi_69_41 : z_ins 69 41 = some (.getfield 31, 3) := by decide +kernel
theorem ze_69_41 : z_T g d 69 41 ls (.ref a :: st) h P = z_gI h.1 a 7 5 (fun x => z_T g d 69 44 ls (.int x :: st) h P) := zt_getI zi_69_41 ((congrArg (fun o => z_fl o 31) zo_69).trans zf_LatinRectangles_Text_31)
theorem zi_69_44 : z_ins 69 44 = some (.iload_n 2, 1) := by decide +kernel
theorem ze_69_44 : z_T g d 69 44 (v0 :: v1 :: .int x :: ls) st h P = z_T g d 69 45 (v0 :: v1 :: .int x :: ls) (.int x :: st) h P := zt_iloadn zi_69_44 rfl rfl
theorem zi_69_45 : z_ins 69 45 = some (.iadd, 1) := by decide +kernel
theorem ze_69_45 : z_T g d 69 45 ls (.int y :: .int x :: st) h P = z_T g d 69 46 ls (.int (x + y) :: st) h P := zt_bin (f := fun x y => x + y) zi_69_45 rfl (fun _ _ _ => rfl)
theorem zi_69_46 : z_ins 69 46 = some (.baload, 1) := by decide +kernel
theorem ze_69_46 : z_T g d 69 46 ls (.int x :: .ref a :: st) h P = z_aL h.1 a z_tB x (fun v => z_T g d 69 47 ls (.int v :: st) h P) := zt_baload zi_69_46
theorem zi_69_47 : z_ins 69 47 = some (.aload_n 1, 1) := by decide +kernel
theorem ze_69_47 : z_T g d 69 47 (v0 :: .retAddr b :: ls) st h P = z_T g d 69 48 (v0 :: .retAddr b :: ls) (.retAddr b :: st) h P := zt_aloadnS zi_69_47 rfl rfl
theorem zi_69_48 : z_ins 69 48 = some (.iload_n 2, 1) := by decide +kernel
theorem ze_69_48 : z_T g d 69 48 (v0 :: v1 :: .int x :: ls) st h P = z_T g d 69 49 (v0 :: v1 :: .int x :: ls) (.int x :: st) h P := zt_iloadn zi_69_48 rfl rfl
theorem zi_69_49 : z_ins 69 49 = some (.invokevirtual 51, 3) := by decide +kernel
theorem ze_69_49 (hk : b < 3) (hj : z_idx x (z_lit b).length = true) (hok : z_okS 8 (.int x :: .retAddr b :: st) = true) : z_T g d 69 49 ls (.int x :: .retAddr b :: st) h P = z_T g d 69 52 ls (.int ((z_lit b).getD x.toNatClampNeg 0) :: st) h P := zt_prim zi_69_49 ((congrArg (fun o => z_lookup z_prs (o, 51)) zo_69).trans zq_LatinRectangles_Text_51) (by decide) hok (by simp only [z_prim, hk, hj, and_self, if_true])
theorem zi_69_52 : z_ins 69 52 = some (.if_icmp .eq 5, 3) := by decide +kernel
theorem ze_69_52 : z_T g d 69 52 ls (.int y :: .int x :: st) h P = (if x = y then z_T g d 69 57 ls st h P else z_T g d 69 55 ls st h P) := zt_icmpeq zi_69_52 (by decide)
theorem zi_69_55 : z_ins 69 55 = some (.iconst 0, 1) := by decide +kernel
theorem ze_69_55 : z_T g d 69 55 ls st h P = z_T g d 69 56 ls (.int (nI 0) :: st) h P := zt_iconst zi_69_55 rfl
theorem zi_69_56 : z_ins 69 56 = some (.ireturn, 1) := by decide +kernel
theorem ze_69_56 : z_T g d 69 56 ls [.int x] h P = ((x = nI 0 ∨ x = nI 1) ∧ P (.inr (some (.int x)), h)) := zt_zreturn zi_69_56 zr_69
theorem zi_69_57 : z_ins 69 57 = some (.iinc 2 1, 3) := by decide +kernel
theorem ze_69_57 : z_T g d 69 57 (v0 :: v1 :: .int x :: ls) st h P = z_T g d 69 60 (v0 :: v1 :: .int (x + (nI 1)) :: ls) st h P := zt_iinc zi_69_57 rfl rfl
theorem zi_69_60 : z_ins 69 60 = some (.goto (-32), 3) := by decide +kernel
theorem ze_69_60 : z_T g d 69 60 ls st h P = z_T g d 69 28 ls st h P := zt_goto zi_69_60 (by decide)
theorem zi_69_63 : z_ins 69 63 = some (.iconst 1, 1) := by decide +kernel
theorem ze_69_63 : z_T g d 69 63 ls st h P = z_T g d 69 64 ls (.int (nI 1) :: st) h P := zt_iconst zi_69_63 rfl
theorem zi_69_64 : z_ins 69 64 = some (.ireturn, 1) := by decide +kernel
theorem ze_69_64 : z_T g d 69 64 ls [.int x] h P = ((x = nI 0 ∨ x = nI 1) ∧ P (.inr (some (.int x)), h)) := zt_zreturn zi_69_64 zr_69
end
