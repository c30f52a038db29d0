section
variable {g : z_G} {d : Nat} {h : z_H} {P : z_Res → Prop} {ls st : List Value} {v0 v1 v2 v3 v4 v5 v6 v7 v8 v9 v10 v11 vw : Value} {x y x0 x1 x2 x3 x4 x5 x6 : Int32} {a b a0 a1 a2 a3 a4 a5 k0 k1 k2 : Nat}
-- LatinRectangles$Parser.<init>(LLatinRectangles$Text;)V
theorem zm_41 : z_maxL 41 = 2 := by decide +kernel
theorem zh_41 : z_hds 41 = [] := by decide +kernel
theorem zj_41 : z_jdk 41 = false := by decide +kernel
theorem zr_41 : z_rt 41 = none := by decide +kernel
theorem zn_41 : z_Ca g d 41 [.ref a0, .ref a1] h P = z_T g d 41 0 [.ref a0, .ref a1] [] h P := z_Ca_ent zm_41 rfl rfl
theorem zi_41_0 : z_ins 41 0 = some (.aload_n 0, 1) := by decide +kernel
theorem ze_41_0 : z_T g d 41 0 (.ref a :: ls) st h P = z_T g d 41 1 (.ref a :: ls) (.ref a :: st) h P := zt_aloadn zi_41_0 rfl rfl
theorem zi_41_1 : z_ins 41 1 = some (.invokespecial 3, 3) := by decide +kernel
theorem ze_41_1 : z_T g d 41 1 ls (.ref a :: st) h P = (z_okS 8 st = true ∧ z_T g d 41 4 ls st h P) := zt_objInit zi_41_1 ((congrArg (fun o => z_lookup z_ois (o, 3)) zo_41).trans zq_ois_LatinRectangles_Parser_3)
theorem zi_41_4 : z_ins 41 4 = some (.aload_n 0, 1) := by decide +kernel
theorem ze_41_4 : z_T g d 41 4 (.ref a :: ls) st h P = z_T g d 41 5 (.ref a :: ls) (.ref a :: st) h P := zt_aloadn zi_41_4 rfl rfl
theorem zi_41_5 : z_ins 41 5 = some (.new 9, 3) := by decide +kernel
theorem ze_41_5 : z_T g d 41 5 ls st h P = z_nO h 3 10 [.null, .null, .null, .null, .null, .int 0, .int 0, .int 0, .int 0, .int 0] (fun q h' => z_T g d 41 8 ls (.ref q :: st) h' P) := zt_new zi_41_5 (by decide +kernel)
theorem zi_41_8 : z_ins 41 8 = some (.dup, 1) := by decide +kernel
theorem ze_41_8 : z_T g d 41 8 ls (.ref a :: st) h P = z_T g d 41 9 ls (.ref a :: .ref a :: st) h P := zt_dup rfl zi_41_8
theorem ze_41_8_i : z_T g d 41 8 ls (.int x :: st) h P = z_T g d 41 9 ls (.int x :: .int x :: st) h P := zt_dup rfl zi_41_8
theorem zi_41_9 : z_ins 41 9 = some (.invokespecial 11, 3) := by decide +kernel
theorem ze_41_9 : z_T g d 41 9 ls (.ref a :: st) h P = ((z_okS 8 st = true ∧ 0 < d) ∧ z_Ca g (d - 1) 23 [.ref a] h (fun r => z_k r (fun v h' => z_T g d 41 12 ls (z_push v st) h' P) P)) := zt_cS (as := [.ref a]) (kk := 2) zi_41_9 rfl (zt_call zj_41 zh_41) (z_opI ((congrArg (fun o => z_lookup z_ois (o, 11)) zo_41).trans zq_ois_LatinRectangles_Parser_11)) ((congrArg (fun o => z_clk o 11) zo_41).trans zk_LatinRectangles_Parser_11) rfl rfl rfl rfl rfl
theorem zi_41_12 : z_ins 41 12 = some (.putfield 12, 3) := by decide +kernel
theorem ze_41_12 : z_T g d 41 12 ls (.ref b :: .ref a :: st) h P = z_pF h.1 a 5 1 (.ref b) (fun f => z_T g d 41 15 ls st (f, h.2) P) := zt_put zi_41_12 ((congrArg (fun o => z_fl o 12) zo_41).trans zf_LatinRectangles_Parser_12) (by decide +kernel) rfl rfl
theorem zi_41_15 : z_ins 41 15 = some (.aload_n 0, 1) := by decide +kernel
theorem ze_41_15 : z_T g d 41 15 (.ref a :: ls) st h P = z_T g d 41 16 (.ref a :: ls) (.ref a :: st) h P := zt_aloadn zi_41_15 rfl rfl
theorem zi_41_16 : z_ins 41 16 = some (.aload_n 1, 1) := by decide +kernel
theorem ze_41_16 : z_T g d 41 16 (v0 :: .ref a :: ls) st h P = z_T g d 41 17 (v0 :: .ref a :: ls) (.ref a :: st) h P := zt_aloadn zi_41_16 rfl rfl
theorem zi_41_17 : z_ins 41 17 = some (.putfield 18, 3) := by decide +kernel
theorem ze_41_17 : z_T g d 41 17 ls (.ref b :: .ref a :: st) h P = z_pF h.1 a 5 0 (.ref b) (fun f => z_T g d 41 20 ls st (f, h.2) P) := zt_put zi_41_17 ((congrArg (fun o => z_fl o 18) zo_41).trans zf_LatinRectangles_Parser_18) (by decide +kernel) rfl rfl
theorem zi_41_20 : z_ins 41 20 = some (.return_, 1) := by decide +kernel
theorem ze_41_20 : z_T g d 41 20 ls [] h P = P (.inr none, h) := zt_return zi_41_20 zr_41
-- LatinRectangles$Parser.read(I)Z
theorem zm_42 : z_maxL 42 = 3 := by decide +kernel
theorem zh_42 : z_hds 42 = [] := by decide +kernel
theorem zj_42 : z_jdk 42 = false := by decide +kernel
theorem zr_42 : z_rt 42 = (some .boolean) := by decide +kernel
theorem zn_42 : z_Ca g d 42 [.ref a0, .int x1] h P = z_T g d 42 0 [.ref a0, .int x1, z_un] [] h P := z_Ca_ent zm_42 rfl rfl
theorem zi_42_0 : z_ins 42 0 = some (.aload_n 0, 1) := by decide +kernel
theorem ze_42_0 : z_T g d 42 0 (.ref a :: ls) st h P = z_T g d 42 1 (.ref a :: ls) (.ref a :: st) h P := zt_aloadn zi_42_0 rfl rfl
theorem zi_42_1 : z_ins 42 1 = some (.iconst 0, 1) := by decide +kernel
theorem ze_42_1 : z_T g d 42 1 ls st h P = z_T g d 42 2 ls (.int (nI 0) :: st) h P := zt_iconst zi_42_1 rfl
theorem zi_42_2 : z_ins 42 2 = some (.putfield 22, 3) := by decide +kernel
theorem ze_42_2 : z_T g d 42 2 ls (.int x :: .ref a :: st) h P = z_pF h.1 a 5 2 (.int x) (fun f => z_T g d 42 5 ls st (f, h.2) P) := zt_put zi_42_2 ((congrArg (fun o => z_fl o 22) zo_42).trans zf_LatinRectangles_Parser_22) (by decide +kernel) rfl rfl
theorem zi_42_5 : z_ins 42 5 = some (.aload_n 0, 1) := by decide +kernel
theorem ze_42_5 : z_T g d 42 5 (.ref a :: ls) st h P = z_T g d 42 6 (.ref a :: ls) (.ref a :: st) h P := zt_aloadn zi_42_5 rfl rfl
theorem zi_42_6 : z_ins 42 6 = some (.iconst (-1), 1) := by decide +kernel
theorem ze_42_6 : z_T g d 42 6 ls st h P = z_T g d 42 7 ls (.int (-1) :: st) h P := zt_iconst zi_42_6 rfl
theorem zi_42_7 : z_ins 42 7 = some (.putfield 26, 3) := by decide +kernel
theorem ze_42_7 : z_T g d 42 7 ls (.int x :: .ref a :: st) h P = z_pF h.1 a 5 3 (.int x) (fun f => z_T g d 42 10 ls st (f, h.2) P) := zt_put zi_42_7 ((congrArg (fun o => z_fl o 26) zo_42).trans zf_LatinRectangles_Parser_26) (by decide +kernel) rfl rfl
theorem zi_42_10 : z_ins 42 10 = some (.aload_n 0, 1) := by decide +kernel
theorem ze_42_10 : z_T g d 42 10 (.ref a :: ls) st h P = z_T g d 42 11 (.ref a :: ls) (.ref a :: st) h P := zt_aloadn zi_42_10 rfl rfl
theorem zi_42_11 : z_ins 42 11 = some (.getfield 18, 3) := by decide +kernel
theorem ze_42_11 : z_T g d 42 11 ls (.ref a :: st) h P = z_gR h.1 a 5 0 (fun x => z_T g d 42 14 ls (x :: st) h P) := zt_getR zi_42_11 ((congrArg (fun o => z_fl o 18) zo_42).trans zf_LatinRectangles_Parser_18)
theorem zi_42_14 : z_ins 42 14 = some (.iload_n 1, 1) := by decide +kernel
theorem ze_42_14 : z_T g d 42 14 (v0 :: .int x :: ls) st h P = z_T g d 42 15 (v0 :: .int x :: ls) (.int x :: st) h P := zt_iloadn zi_42_14 rfl rfl
theorem zi_42_15 : z_ins 42 15 = some (.invokevirtual 29, 3) := by decide +kernel
theorem ze_42_15 : z_T g d 42 15 ls (.int x0 :: .ref a :: st) h P = ((z_okS 8 st = true ∧ z_gO h.1 a 7 ∧ 0 < d) ∧ z_Ca g (d - 1) 55 [.ref a, .int x0] h (fun r => z_k r (fun v h' => z_T g d 42 18 ls (z_push v st) h' P) P)) := zt_cV (as := [.int x0]) (kk := 0) zi_42_15 rfl (zt_call zj_42 zh_42) (z_opV ((congrArg (fun o => z_lookup z_cns (o, 29)) zo_42).trans zq_cns_LatinRectangles_Parser_29) ((congrArg (fun o => z_lookup z_prs (o, 29)) zo_42).trans zq_prs_LatinRectangles_Parser_29)) ((congrArg (fun o => z_clk o 29) zo_42).trans zk_LatinRectangles_Parser_29) rfl rfl rfl rfl (z_rcv0 zc_55)
theorem zi_42_18 : z_ins 42 18 = some (.aload_n 0, 1) := by decide +kernel
theorem ze_42_18 : z_T g d 42 18 (.ref a :: ls) st h P = z_T g d 42 19 (.ref a :: ls) (.ref a :: st) h P := zt_aloadn zi_42_18 rfl rfl
theorem zi_42_19 : z_ins 42 19 = some (.invokevirtual 35, 3) := by decide +kernel
theorem ze_42_19 : z_T g d 42 19 ls (.ref a :: st) h P = ((z_okS 8 st = true ∧ z_gO h.1 a 5 ∧ 0 < d) ∧ z_Ca g (d - 1) 44 [.ref a] h (fun r => z_k r (fun v h' => z_T g d 42 22 ls (z_push v st) h' P) P)) := zt_cV (as := []) (kk := 0) zi_42_19 rfl (zt_call zj_42 zh_42) (z_opV ((congrArg (fun o => z_lookup z_cns (o, 35)) zo_42).trans zq_cns_LatinRectangles_Parser_35) ((congrArg (fun o => z_lookup z_prs (o, 35)) zo_42).trans zq_prs_LatinRectangles_Parser_35)) ((congrArg (fun o => z_clk o 35) zo_42).trans zk_LatinRectangles_Parser_35) rfl rfl rfl rfl (z_rcv0 zc_44)
theorem zi_42_22 : z_ins 42 22 = some (.ifCond .ne 5, 3) := by decide +kernel
theorem ze_42_22 : z_T g d 42 22 ls (.int x :: st) h P = (if x = nI 0 then z_T g d 42 25 ls st h P else z_T g d 42 27 ls st h P) := zt_ifne zi_42_22 (by decide)
theorem zi_42_25 : z_ins 42 25 = some (.iconst 0, 1) := by decide +kernel
theorem ze_42_25 : z_T g d 42 25 ls st h P = z_T g d 42 26 ls (.int (nI 0) :: st) h P := zt_iconst zi_42_25 rfl
theorem zi_42_26 : z_ins 42 26 = some (.ireturn, 1) := by decide +kernel
theorem ze_42_26 : z_T g d 42 26 ls [.int x] h P = ((x = nI 0 ∨ x = nI 1) ∧ P (.inr (some (.int x)), h)) := zt_zreturn zi_42_26 zr_42
theorem zi_42_27 : z_ins 42 27 = some (.iconst 0, 1) := by decide +kernel
theorem ze_42_27 : z_T g d 42 27 ls st h P = z_T g d 42 28 ls (.int (nI 0) :: st) h P := zt_iconst zi_42_27 rfl
theorem zi_42_28 : z_ins 42 28 = some (.istore_n 2, 1) := by decide +kernel
theorem ze_42_28 : z_T g d 42 28 (v0 :: v1 :: v2 :: ls) (.int x :: st) h P = z_T g d 42 29 (v0 :: v1 :: .int x :: ls) st h P := zt_istoren zi_42_28 rfl (Nat.le_add_left 3 _)
theorem zi_42_29 : z_ins 42 29 = some (.iload_n 2, 1) := by decide +kernel
theorem ze_42_29 : z_T g d 42 29 (v0 :: v1 :: .int x :: ls) st h P = z_T g d 42 30 (v0 :: v1 :: .int x :: ls) (.int x :: st) h P := zt_iloadn zi_42_29 rfl rfl
theorem zi_42_30 : z_ins 42 30 = some (.sipush 500, 3) := by decide +kernel
theorem ze_42_30 : z_T g d 42 30 ls st h P = z_T g d 42 33 ls (.int (nI 500) :: st) h P := zt_sipush zi_42_30 rfl
theorem zi_42_33 : z_ins 42 33 = some (.if_icmp .gt 37, 3) := by decide +kernel
theorem ze_42_33 : z_T g d 42 33 ls (.int y :: .int x :: st) h P = (if y < x then z_T g d 42 70 ls st h P else z_T g d 42 36 ls st h P) := zt_icmpgt zi_42_33 (by decide)
theorem zi_42_36 : z_ins 42 36 = some (.aload_n 0, 1) := by decide +kernel
theorem ze_42_36 : z_T g d 42 36 (.ref a :: ls) st h P = z_T g d 42 37 (.ref a :: ls) (.ref a :: st) h P := zt_aloadn zi_42_36 rfl rfl
theorem zi_42_37 : z_ins 42 37 = some (.getfield 18, 3) := by decide +kernel
theorem ze_42_37 : z_T g d 42 37 ls (.ref a :: st) h P = z_gR h.1 a 5 0 (fun x => z_T g d 42 40 ls (x :: st) h P) := zt_getR zi_42_37 ((congrArg (fun o => z_fl o 18) zo_42).trans zf_LatinRectangles_Parser_18)
theorem zi_42_40 : z_ins 42 40 = some (.invokevirtual 39, 3) := by decide +kernel
theorem ze_42_40 : z_T g d 42 40 ls (.ref a :: st) h P = ((z_okS 8 st = true ∧ z_gO h.1 a 7 ∧ 0 < d) ∧ z_Ca g (d - 1) 56 [.ref a] h (fun r => z_k r (fun v h' => z_T g d 42 43 ls (z_push v st) h' P) P)) := zt_cV (as := []) (kk := 0) zi_42_40 rfl (zt_call zj_42 zh_42) (z_opV ((congrArg (fun o => z_lookup z_cns (o, 39)) zo_42).trans zq_cns_LatinRectangles_Parser_39) ((congrArg (fun o => z_lookup z_prs (o, 39)) zo_42).trans zq_prs_LatinRectangles_Parser_39)) ((congrArg (fun o => z_clk o 39) zo_42).trans zk_LatinRectangles_Parser_39) rfl rfl rfl rfl (z_rcv0 zc_56)
theorem zi_42_43 : z_ins 42 43 = some (.aload_n 0, 1) := by decide +kernel
theorem ze_42_43 : z_T g d 42 43 (.ref a :: ls) st h P = z_T g d 42 44 (.ref a :: ls) (.ref a :: st) h P := zt_aloadn zi_42_43 rfl rfl
theorem zi_42_44 : z_ins 42 44 = some (.getfield 18, 3) := by decide +kernel
theorem ze_42_44 : z_T g d 42 44 ls (.ref a :: st) h P = z_gR h.1 a 5 0 (fun x => z_T g d 42 47 ls (x :: st) h P) := zt_getR zi_42_44 ((congrArg (fun o => z_fl o 18) zo_42).trans zf_LatinRectangles_Parser_18)
theorem zi_42_47 : z_ins 42 47 = some (.getfield 42, 3) := by decide +kernel
theorem ze_42_47 : z_T g d 42 47 ls (.ref a :: st) h P = z_gI h.1 a 7 4 (fun x => z_T g d 42 50 ls (.int x :: st) h P) := zt_getI zi_42_47 ((congrArg (fun o => z_fl o 42) zo_42).trans zf_LatinRectangles_Parser_42)
theorem zi_42_50 : z_ins 42 50 = some (.ifCond .ne 5, 3) := by decide +kernel
theorem ze_42_50 : z_T g d 42 50 ls (.int x :: st) h P = (if x = nI 0 then z_T g d 42 53 ls st h P else z_T g d 42 55 ls st h P) := zt_ifne zi_42_50 (by decide)
theorem zi_42_53 : z_ins 42 53 = some (.iconst 1, 1) := by decide +kernel
theorem ze_42_53 : z_T g d 42 53 ls st h P = z_T g d 42 54 ls (.int (nI 1) :: st) h P := zt_iconst zi_42_53 rfl
theorem zi_42_54 : z_ins 42 54 = some (.ireturn, 1) := by decide +kernel
theorem ze_42_54 : z_T g d 42 54 ls [.int x] h P = ((x = nI 0 ∨ x = nI 1) ∧ P (.inr (some (.int x)), h)) := zt_zreturn zi_42_54 zr_42
theorem zi_42_55 : z_ins 42 55 = some (.aload_n 0, 1) := by decide +kernel
theorem ze_42_55 : z_T g d 42 55 (.ref a :: ls) st h P = z_T g d 42 56 (.ref a :: ls) (.ref a :: st) h P := zt_aloadn zi_42_55 rfl rfl
theorem zi_42_56 : z_ins 42 56 = some (.invokevirtual 45, 3) := by decide +kernel
theorem ze_42_56 : z_T g d 42 56 ls (.ref a :: st) h P = ((z_okS 8 st = true ∧ z_gO h.1 a 5 ∧ 0 < d) ∧ z_Ca g (d - 1) 45 [.ref a] h (fun r => z_k r (fun v h' => z_T g d 42 59 ls (z_push v st) h' P) P)) := zt_cV (as := []) (kk := 0) zi_42_56 rfl (zt_call zj_42 zh_42) (z_opV ((congrArg (fun o => z_lookup z_cns (o, 45)) zo_42).trans zq_cns_LatinRectangles_Parser_45) ((congrArg (fun o => z_lookup z_prs (o, 45)) zo_42).trans zq_prs_LatinRectangles_Parser_45)) ((congrArg (fun o => z_clk o 45) zo_42).trans zk_LatinRectangles_Parser_45) rfl rfl rfl rfl (z_rcv0 zc_45)
theorem zi_42_59 : z_ins 42 59 = some (.ifCond .ne 5, 3) := by decide +kernel
theorem ze_42_59 : z_T g d 42 59 ls (.int x :: st) h P = (if x = nI 0 then z_T g d 42 62 ls st h P else z_T g d 42 64 ls st h P) := zt_ifne zi_42_59 (by decide)
theorem zi_42_62 : z_ins 42 62 = some (.iconst 0, 1) := by decide +kernel
theorem ze_42_62 : z_T g d 42 62 ls st h P = z_T g d 42 63 ls (.int (nI 0) :: st) h P := zt_iconst zi_42_62 rfl
theorem zi_42_63 : z_ins 42 63 = some (.ireturn, 1) := by decide +kernel
theorem ze_42_63 : z_T g d 42 63 ls [.int x] h P = ((x = nI 0 ∨ x = nI 1) ∧ P (.inr (some (.int x)), h)) := zt_zreturn zi_42_63 zr_42
theorem zi_42_64 : z_ins 42 64 = some (.iinc 2 1, 3) := by decide +kernel
theorem ze_42_64 : z_T g d 42 64 (v0 :: v1 :: .int x :: ls) st h P = z_T g d 42 67 (v0 :: v1 :: .int (x + (nI 1)) :: ls) st h P := zt_iinc zi_42_64 rfl rfl
theorem zi_42_67 : z_ins 42 67 = some (.goto (-38), 3) := by decide +kernel
theorem ze_42_67 : z_T g d 42 67 ls st h P = z_T g d 42 29 ls st h P := zt_goto zi_42_67 (by decide)
theorem zi_42_70 : z_ins 42 70 = some (.aload_n 0, 1) := by decide +kernel
theorem ze_42_70 : z_T g d 42 70 (.ref a :: ls) st h P = z_T g d 42 71 (.ref a :: ls) (.ref a :: st) h P := zt_aloadn zi_42_70 rfl rfl
theorem zi_42_71 : z_ins 42 71 = some (.iconst 1, 1) := by decide +kernel
theorem ze_42_71 : z_T g d 42 71 ls st h P = z_T g d 42 72 ls (.int (nI 1) :: st) h P := zt_iconst zi_42_71 rfl
theorem zi_42_72 : z_ins 42 72 = some (.invokevirtual 48, 3) := by decide +kernel
theorem ze_42_72 : z_T g d 42 72 ls (.int x0 :: .ref a :: st) h P = ((z_okS 8 st = true ∧ z_gO h.1 a 5 ∧ 0 < d) ∧ z_Ca g (d - 1) 43 [.ref a, .int x0] h (fun r => z_k r (fun v h' => z_T g d 42 75 ls (z_push v st) h' P) P)) := zt_cV (as := [.int x0]) (kk := 0) zi_42_72 rfl (zt_call zj_42 zh_42) (z_opV ((congrArg (fun o => z_lookup z_cns (o, 48)) zo_42).trans zq_cns_LatinRectangles_Parser_48) ((congrArg (fun o => z_lookup z_prs (o, 48)) zo_42).trans zq_prs_LatinRectangles_Parser_48)) ((congrArg (fun o => z_clk o 48) zo_42).trans zk_LatinRectangles_Parser_48) rfl rfl rfl rfl (z_rcv0 zc_43)
theorem zi_42_75 : z_ins 42 75 = some (.ireturn, 1) := by decide +kernel
theorem ze_42_75 : z_T g d 42 75 ls [.int x] h P = ((x = nI 0 ∨ x = nI 1) ∧ P (.inr (some (.int x)), h)) := zt_zreturn zi_42_75 zr_42
-- LatinRectangles$Parser.fail(I)Z
theorem zm_43 : z_maxL 43 = 2 := by decide +kernel
theorem zh_43 : z_hds 43 = [] := by decide +kernel
theorem zj_43 : z_jdk 43 = false := by decide +kernel
theorem zr_43 : z_rt 43 = (some .boolean) := by decide +kernel
theorem zn_43 : z_Ca g d 43 [.ref a0, .int x1] h P = z_T g d 43 0 [.ref a0, .int x1] [] h P := z_Ca_ent zm_43 rfl rfl
theorem zi_43_0 : z_ins 43 0 = some (.aload_n 0, 1) := by decide +kernel
theorem ze_43_0 : z_T g d 43 0 (.ref a :: ls) st h P = z_T g d 43 1 (.ref a :: ls) (.ref a :: st) h P := zt_aloadn zi_43_0 rfl rfl
theorem zi_43_1 : z_ins 43 1 = some (.iload_n 1, 1) := by decide +kernel
theorem ze_43_1 : z_T g d 43 1 (v0 :: .int x :: ls) st h P = z_T g d 43 2 (v0 :: .int x :: ls) (.int x :: st) h P := zt_iloadn zi_43_1 rfl rfl
theorem zi_43_2 : z_ins 43 2 = some (.putfield 22, 3) := by decide +kernel
theorem ze_43_2 : z_T g d 43 2 ls (.int x :: .ref a :: st) h P = z_pF h.1 a 5 2 (.int x) (fun f => z_T g d 43 5 ls st (f, h.2) P) := zt_put zi_43_2 ((congrArg (fun o => z_fl o 22) zo_43).trans zf_LatinRectangles_Parser_22) (by decide +kernel) rfl rfl
theorem zi_43_5 : z_ins 43 5 = some (.aload_n 0, 1) := by decide +kernel
theorem ze_43_5 : z_T g d 43 5 (.ref a :: ls) st h P = z_T g d 43 6 (.ref a :: ls) (.ref a :: st) h P := zt_aloadn zi_43_5 rfl rfl
theorem zi_43_6 : z_ins 43 6 = some (.aload_n 0, 1) := by decide +kernel
theorem ze_43_6 : z_T g d 43 6 (.ref a :: ls) st h P = z_T g d 43 7 (.ref a :: ls) (.ref a :: st) h P := zt_aloadn zi_43_6 rfl rfl
theorem zi_43_7 : z_ins 43 7 = some (.getfield 18, 3) := by decide +kernel
theorem ze_43_7 : z_T g d 43 7 ls (.ref a :: st) h P = z_gR h.1 a 5 0 (fun x => z_T g d 43 10 ls (x :: st) h P) := zt_getR zi_43_7 ((congrArg (fun o => z_fl o 18) zo_43).trans zf_LatinRectangles_Parser_18)
theorem zi_43_10 : z_ins 43 10 = some (.getfield 52, 3) := by decide +kernel
theorem ze_43_10 : z_T g d 43 10 ls (.ref a :: st) h P = z_gI h.1 a 7 5 (fun x => z_T g d 43 13 ls (.int x :: st) h P) := zt_getI zi_43_10 ((congrArg (fun o => z_fl o 52) zo_43).trans zf_LatinRectangles_Parser_52)
theorem zi_43_13 : z_ins 43 13 = some (.putfield 26, 3) := by decide +kernel
theorem ze_43_13 : z_T g d 43 13 ls (.int x :: .ref a :: st) h P = z_pF h.1 a 5 3 (.int x) (fun f => z_T g d 43 16 ls st (f, h.2) P) := zt_put zi_43_13 ((congrArg (fun o => z_fl o 26) zo_43).trans zf_LatinRectangles_Parser_26) (by decide +kernel) rfl rfl
theorem zi_43_16 : z_ins 43 16 = some (.iconst 0, 1) := by decide +kernel
theorem ze_43_16 : z_T g d 43 16 ls st h P = z_T g d 43 17 ls (.int (nI 0) :: st) h P := zt_iconst zi_43_16 rfl
theorem zi_43_17 : z_ins 43 17 = some (.ireturn, 1) := by decide +kernel
theorem ze_43_17 : z_T g d 43 17 ls [.int x] h P = ((x = nI 0 ∨ x = nI 1) ∧ P (.inr (some (.int x)), h)) := zt_zreturn zi_43_17 zr_43
-- LatinRectangles$Parser.readHeader()Z
theorem zm_44 : z_maxL 44 = 2 := by decide +kernel
theorem zh_44 : z_hds 44 = [] := by decide +kernel
theorem zj_44 : z_jdk 44 = false := by decide +kernel
theorem zr_44 : z_rt 44 = (some .boolean) := by decide +kernel
theorem zn_44 : z_Ca g d 44 [.ref a0] h P = z_T g d 44 0 [.ref a0, z_un] [] h P := z_Ca_ent zm_44 rfl rfl
theorem zi_44_0 : z_ins 44 0 = some (.aload_n 0, 1) := by decide +kernel
theorem ze_44_0 : z_T g d 44 0 (.ref a :: ls) st h P = z_T g d 44 1 (.ref a :: ls) (.ref a :: st) h P := zt_aloadn zi_44_0 rfl rfl
theorem zi_44_1 : z_ins 44 1 = some (.getfield 18, 3) := by decide +kernel
theorem ze_44_1 : z_T g d 44 1 ls (.ref a :: st) h P = z_gR h.1 a 5 0 (fun x => z_T g d 44 4 ls (x :: st) h P) := zt_getR zi_44_1 ((congrArg (fun o => z_fl o 18) zo_44).trans zf_LatinRectangles_Parser_18)
theorem zi_44_4 : z_ins 44 4 = some (.invokevirtual 39, 3) := by decide +kernel
theorem ze_44_4 : z_T g d 44 4 ls (.ref a :: st) h P = ((z_okS 8 st = true ∧ z_gO h.1 a 7 ∧ 0 < d) ∧ z_Ca g (d - 1) 56 [.ref a] h (fun r => z_k r (fun v h' => z_T g d 44 7 ls (z_push v st) h' P) P)) := zt_cV (as := []) (kk := 0) zi_44_4 rfl (zt_call zj_44 zh_44) (z_opV ((congrArg (fun o => z_lookup z_cns (o, 39)) zo_44).trans zq_cns_LatinRectangles_Parser_39) ((congrArg (fun o => z_lookup z_prs (o, 39)) zo_44).trans zq_prs_LatinRectangles_Parser_39)) ((congrArg (fun o => z_clk o 39) zo_44).trans zk_LatinRectangles_Parser_39) rfl rfl rfl rfl (z_rcv0 zc_56)
theorem zi_44_7 : z_ins 44 7 = some (.aload_n 0, 1) := by decide +kernel
theorem ze_44_7 : z_T g d 44 7 (.ref a :: ls) st h P = z_T g d 44 8 (.ref a :: ls) (.ref a :: st) h P := zt_aloadn zi_44_7 rfl rfl
theorem zi_44_8 : z_ins 44 8 = some (.getfield 18, 3) := by decide +kernel
theorem ze_44_8 : z_T g d 44 8 ls (.ref a :: st) h P = z_gR h.1 a 5 0 (fun x => z_T g d 44 11 ls (x :: st) h P) := zt_getR zi_44_8 ((congrArg (fun o => z_fl o 18) zo_44).trans zf_LatinRectangles_Parser_18)
theorem zi_44_11 : z_ins 44 11 = some (.ldc 55, 2) := by decide +kernel
theorem ze_44_11 : z_T g d 44 11 ls st h P = z_T g d 44 13 ls (.retAddr 0 :: st) h P := zt_ldc zi_44_11 (by decide +kernel)
theorem zi_44_13 : z_ins 44 13 = some (.invokevirtual 57, 3) := by decide +kernel
theorem ze_44_13 : z_T g d 44 13 ls (.retAddr k0 :: .ref a :: st) h P = ((z_okS 8 st = true ∧ z_gO h.1 a 7 ∧ 0 < d) ∧ z_Ca g (d - 1) 59 [.ref a, .retAddr k0] h (fun r => z_k r (fun v h' => z_T g d 44 16 ls (z_push v st) h' P) P)) := zt_cV (as := [.retAddr k0]) (kk := 0) zi_44_13 rfl (zt_call zj_44 zh_44) (z_opV ((congrArg (fun o => z_lookup z_cns (o, 57)) zo_44).trans zq_cns_LatinRectangles_Parser_57) ((congrArg (fun o => z_lookup z_prs (o, 57)) zo_44).trans zq_prs_LatinRectangles_Parser_57)) ((congrArg (fun o => z_clk o 57) zo_44).trans zk_LatinRectangles_Parser_57) rfl rfl rfl rfl (z_rcv0 zc_59)
theorem zi_44_16 : z_ins 44 16 = some (.ifCond .ne 9, 3) := by decide +kernel
theorem ze_44_16 : z_T g d 44 16 ls (.int x :: st) h P = (if x = nI 0 then z_T g d 44 19 ls st h P else z_T g d 44 25 ls st h P) := zt_ifne zi_44_16 (by decide)
theorem zi_44_19 : z_ins 44 19 = some (.aload_n 0, 1) := by decide +kernel
theorem ze_44_19 : z_T g d 44 19 (.ref a :: ls) st h P = z_T g d 44 20 (.ref a :: ls) (.ref a :: st) h P := zt_aloadn zi_44_19 rfl rfl
theorem zi_44_20 : z_ins 44 20 = some (.iconst 1, 1) := by decide +kernel
theorem ze_44_20 : z_T g d 44 20 ls st h P = z_T g d 44 21 ls (.int (nI 1) :: st) h P := zt_iconst zi_44_20 rfl
theorem zi_44_21 : z_ins 44 21 = some (.invokevirtual 48, 3) := by decide +kernel
theorem ze_44_21 : z_T g d 44 21 ls (.int x0 :: .ref a :: st) h P = ((z_okS 8 st = true ∧ z_gO h.1 a 5 ∧ 0 < d) ∧ z_Ca g (d - 1) 43 [.ref a, .int x0] h (fun r => z_k r (fun v h' => z_T g d 44 24 ls (z_push v st) h' P) P)) := zt_cV (as := [.int x0]) (kk := 0) zi_44_21 rfl (zt_call zj_44 zh_44) (z_opV ((congrArg (fun o => z_lookup z_cns (o, 48)) zo_44).trans zq_cns_LatinRectangles_Parser_48) ((congrArg (fun o => z_lookup z_prs (o, 48)) zo_44).trans zq_prs_LatinRectangles_Parser_48)) ((congrArg (fun o => z_clk o 48) zo_44).trans zk_LatinRectangles_Parser_48) rfl rfl rfl rfl (z_rcv0 zc_43)
theorem zi_44_24 : z_ins 44 24 = some (.ireturn, 1) := by decide +kernel
theorem ze_44_24 : z_T g d 44 24 ls [.int x] h P = ((x = nI 0 ∨ x = nI 1) ∧ P (.inr (some (.int x)), h)) := zt_zreturn zi_44_24 zr_44
theorem zi_44_25 : z_ins 44 25 = some (.aload_n 0, 1) := by decide +kernel
theorem ze_44_25 : z_T g d 44 25 (.ref a :: ls) st h P = z_T g d 44 26 (.ref a :: ls) (.ref a :: st) h P := zt_aloadn zi_44_25 rfl rfl
theorem zi_44_26 : z_ins 44 26 = some (.iconst 1, 1) := by decide +kernel
theorem ze_44_26 : z_T g d 44 26 ls st h P = z_T g d 44 27 ls (.int (nI 1) :: st) h P := zt_iconst zi_44_26 rfl
theorem zi_44_27 : z_ins 44 27 = some (.iconst 5, 1) := by decide +kernel
theorem ze_44_27 : z_T g d 44 27 ls st h P = z_T g d 44 28 ls (.int (nI 5) :: st) h P := zt_iconst zi_44_27 rfl
theorem zi_44_28 : z_ins 44 28 = some (.invokevirtual 61, 3) := by decide +kernel
theorem ze_44_28 : z_T g d 44 28 ls (.int x1 :: .int x0 :: .ref a :: st) h P = ((z_okS 8 st = true ∧ z_gO h.1 a 5 ∧ 0 < d) ∧ z_Ca g (d - 1) 49 [.ref a, .int x0, .int x1] h (fun r => z_k r (fun v h' => z_T g d 44 31 ls (z_push v st) h' P) P)) := zt_cV (as := [.int x0, .int x1]) (kk := 0) zi_44_28 rfl (zt_call zj_44 zh_44) (z_opV ((congrArg (fun o => z_lookup z_cns (o, 61)) zo_44).trans zq_cns_LatinRectangles_Parser_61) ((congrArg (fun o => z_lookup z_prs (o, 61)) zo_44).trans zq_prs_LatinRectangles_Parser_61)) ((congrArg (fun o => z_clk o 61) zo_44).trans zk_LatinRectangles_Parser_61) rfl rfl rfl rfl (z_rcv0 zc_49)
theorem zi_44_31 : z_ins 44 31 = some (.ifCond .ne 5, 3) := by decide +kernel
theorem ze_44_31 : z_T g d 44 31 ls (.int x :: st) h P = (if x = nI 0 then z_T g d 44 34 ls st h P else z_T g d 44 36 ls st h P) := zt_ifne zi_44_31 (by decide)
theorem zi_44_34 : z_ins 44 34 = some (.iconst 0, 1) := by decide +kernel
theorem ze_44_34 : z_T g d 44 34 ls st h P = z_T g d 44 35 ls (.int (nI 0) :: st) h P := zt_iconst zi_44_34 rfl
theorem zi_44_35 : z_ins 44 35 = some (.ireturn, 1) := by decide +kernel
theorem ze_44_35 : z_T g d 44 35 ls [.int x] h P = ((x = nI 0 ∨ x = nI 1) ∧ P (.inr (some (.int x)), h)) := zt_zreturn zi_44_35 zr_44
theorem zi_44_36 : z_ins 44 36 = some (.aload_n 0, 1) := by decide +kernel
theorem ze_44_36 : z_T g d 44 36 (.ref a :: ls) st h P = z_T g d 44 37 (.ref a :: ls) (.ref a :: st) h P := zt_aloadn zi_44_36 rfl rfl
theorem zi_44_37 : z_ins 44 37 = some (.getfield 18, 3) := by decide +kernel
theorem ze_44_37 : z_T g d 44 37 ls (.ref a :: st) h P = z_gR h.1 a 5 0 (fun x => z_T g d 44 40 ls (x :: st) h P) := zt_getR zi_44_37 ((congrArg (fun o => z_fl o 18) zo_44).trans zf_LatinRectangles_Parser_18)
theorem zi_44_40 : z_ins 44 40 = some (.getfield 65, 3) := by decide +kernel
theorem ze_44_40 : z_T g d 44 40 ls (.ref a :: st) h P = z_gI h.1 a 7 6 (fun x => z_T g d 44 43 ls (.int x :: st) h P) := zt_getI zi_44_40 ((congrArg (fun o => z_fl o 65) zo_44).trans zf_LatinRectangles_Parser_65)
theorem zi_44_43 : z_ins 44 43 = some (.istore_n 1, 1) := by decide +kernel
theorem ze_44_43 : z_T g d 44 43 (v0 :: v1 :: ls) (.int x :: st) h P = z_T g d 44 44 (v0 :: .int x :: ls) st h P := zt_istoren zi_44_43 rfl (Nat.le_add_left 2 _)
theorem zi_44_44 : z_ins 44 44 = some (.aload_n 0, 1) := by decide +kernel
theorem ze_44_44 : z_T g d 44 44 (.ref a :: ls) st h P = z_T g d 44 45 (.ref a :: ls) (.ref a :: st) h P := zt_aloadn zi_44_44 rfl rfl
theorem zi_44_45 : z_ins 44 45 = some (.iconst 2, 1) := by decide +kernel
theorem ze_44_45 : z_T g d 44 45 ls st h P = z_T g d 44 46 ls (.int (nI 2) :: st) h P := zt_iconst zi_44_45 rfl
theorem zi_44_46 : z_ins 44 46 = some (.iload_n 1, 1) := by decide +kernel
theorem ze_44_46 : z_T g d 44 46 (v0 :: .int x :: ls) st h P = z_T g d 44 47 (v0 :: .int x :: ls) (.int x :: st) h P := zt_iloadn zi_44_46 rfl rfl
theorem zi_44_47 : z_ins 44 47 = some (.invokestatic 68, 3) := by decide +kernel
theorem ze_44_47 (hok : z_okS 8 (.int y :: .int x :: st) = true) : z_T g d 44 47 ls (.int y :: .int x :: st) h P = z_T g d 44 50 ls (.int (if x < y then y else x) :: st) h P := zt_primS zi_44_47 ((congrArg (fun o => z_lookup z_cps (o, 68)) zo_44).trans zq_cps_LatinRectangles_Parser_68) ((congrArg (fun o => z_lookup z_prs (o, 68)) zo_44).trans zq_prs_LatinRectangles_Parser_68) (by decide) hok rfl
theorem zi_44_50 : z_ins 44 50 = some (.iconst 5, 1) := by decide +kernel
theorem ze_44_50 : z_T g d 44 50 ls st h P = z_T g d 44 51 ls (.int (nI 5) :: st) h P := zt_iconst zi_44_50 rfl
theorem zi_44_51 : z_ins 44 51 = some (.invokevirtual 61, 3) := by decide +kernel
theorem ze_44_51 : z_T g d 44 51 ls (.int x1 :: .int x0 :: .ref a :: st) h P = ((z_okS 8 st = true ∧ z_gO h.1 a 5 ∧ 0 < d) ∧ z_Ca g (d - 1) 49 [.ref a, .int x0, .int x1] h (fun r => z_k r (fun v h' => z_T g d 44 54 ls (z_push v st) h' P) P)) := zt_cV (as := [.int x0, .int x1]) (kk := 0) zi_44_51 rfl (zt_call zj_44 zh_44) (z_opV ((congrArg (fun o => z_lookup z_cns (o, 61)) zo_44).trans zq_cns_LatinRectangles_Parser_61) ((congrArg (fun o => z_lookup z_prs (o, 61)) zo_44).trans zq_prs_LatinRectangles_Parser_61)) ((congrArg (fun o => z_clk o 61) zo_44).trans zk_LatinRectangles_Parser_61) rfl rfl rfl rfl (z_rcv0 zc_49)
theorem zi_44_54 : z_ins 44 54 = some (.ifCond .ne 5, 3) := by decide +kernel
theorem ze_44_54 : z_T g d 44 54 ls (.int x :: st) h P = (if x = nI 0 then z_T g d 44 57 ls st h P else z_T g d 44 59 ls st h P) := zt_ifne zi_44_54 (by decide)
theorem zi_44_57 : z_ins 44 57 = some (.iconst 0, 1) := by decide +kernel
theorem ze_44_57 : z_T g d 44 57 ls st h P = z_T g d 44 58 ls (.int (nI 0) :: st) h P := zt_iconst zi_44_57 rfl
theorem zi_44_58 : z_ins 44 58 = some (.ireturn, 1) := by decide +kernel
theorem ze_44_58 : z_T g d 44 58 ls [.int x] h P = ((x = nI 0 ∨ x = nI 1) ∧ P (.inr (some (.int x)), h)) := zt_zreturn zi_44_58 zr_44
theorem zi_44_59 : z_ins 44 59 = some (.aload_n 0, 1) := by decide +kernel
theorem ze_44_59 : z_T g d 44 59 (.ref a :: ls) st h P = z_T g d 44 60 (.ref a :: ls) (.ref a :: st) h P := zt_aloadn zi_44_59 rfl rfl
theorem zi_44_60 : z_ins 44 60 = some (.getfield 12, 3) := by decide +kernel
theorem ze_44_60 : z_T g d 44 60 ls (.ref a :: st) h P = z_gR h.1 a 5 1 (fun x => z_T g d 44 63 ls (x :: st) h P) := zt_getR zi_44_60 ((congrArg (fun o => z_fl o 12) zo_44).trans zf_LatinRectangles_Parser_12)
theorem zi_44_63 : z_ins 44 63 = some (.iload_n 1, 1) := by decide +kernel
theorem ze_44_63 : z_T g d 44 63 (v0 :: .int x :: ls) st h P = z_T g d 44 64 (v0 :: .int x :: ls) (.int x :: st) h P := zt_iloadn zi_44_63 rfl rfl
theorem zi_44_64 : z_ins 44 64 = some (.aload_n 0, 1) := by decide +kernel
theorem ze_44_64 : z_T g d 44 64 (.ref a :: ls) st h P = z_T g d 44 65 (.ref a :: ls) (.ref a :: st) h P := zt_aloadn zi_44_64 rfl rfl
theorem zi_44_65 : z_ins 44 65 = some (.getfield 18, 3) := by decide +kernel
theorem ze_44_65 : z_T g d 44 65 ls (.ref a :: st) h P = z_gR h.1 a 5 0 (fun x => z_T g d 44 68 ls (x :: st) h P) := zt_getR zi_44_65 ((congrArg (fun o => z_fl o 18) zo_44).trans zf_LatinRectangles_Parser_18)
theorem zi_44_68 : z_ins 44 68 = some (.getfield 65, 3) := by decide +kernel
theorem ze_44_68 : z_T g d 44 68 ls (.ref a :: st) h P = z_gI h.1 a 7 6 (fun x => z_T g d 44 71 ls (.int x :: st) h P) := zt_getI zi_44_68 ((congrArg (fun o => z_fl o 65) zo_44).trans zf_LatinRectangles_Parser_65)
theorem zi_44_71 : z_ins 44 71 = some (.invokevirtual 74, 3) := by decide +kernel
theorem ze_44_71 : z_T g d 44 71 ls (.int x1 :: .int x0 :: .ref a :: st) h P = ((z_okS 8 st = true ∧ z_gO h.1 a 3 ∧ 0 < d) ∧ z_Ca g (d - 1) 24 [.ref a, .int x0, .int x1] h (fun r => z_k r (fun v h' => z_T g d 44 74 ls (z_push v st) h' P) P)) := zt_cV (as := [.int x0, .int x1]) (kk := 0) zi_44_71 rfl (zt_call zj_44 zh_44) (z_opV ((congrArg (fun o => z_lookup z_cns (o, 74)) zo_44).trans zq_cns_LatinRectangles_Parser_74) ((congrArg (fun o => z_lookup z_prs (o, 74)) zo_44).trans zq_prs_LatinRectangles_Parser_74)) ((congrArg (fun o => z_clk o 74) zo_44).trans zk_LatinRectangles_Parser_74) rfl rfl rfl rfl (z_rcv0 zc_24)
theorem zi_44_74 : z_ins 44 74 = some (.aload_n 0, 1) := by decide +kernel
theorem ze_44_74 : z_T g d 44 74 (.ref a :: ls) st h P = z_T g d 44 75 (.ref a :: ls) (.ref a :: st) h P := zt_aloadn zi_44_74 rfl rfl
theorem zi_44_75 : z_ins 44 75 = some (.invokevirtual 78, 3) := by decide +kernel
theorem ze_44_75 : z_T g d 44 75 ls (.ref a :: st) h P = ((z_okS 8 st = true ∧ z_gO h.1 a 5 ∧ 0 < d) ∧ z_Ca g (d - 1) 50 [.ref a] h (fun r => z_k r (fun v h' => z_T g d 44 78 ls (z_push v st) h' P) P)) := zt_cV (as := []) (kk := 0) zi_44_75 rfl (zt_call zj_44 zh_44) (z_opV ((congrArg (fun o => z_lookup z_cns (o, 78)) zo_44).trans zq_cns_LatinRectangles_Parser_78) ((congrArg (fun o => z_lookup z_prs (o, 78)) zo_44).trans zq_prs_LatinRectangles_Parser_78)) ((congrArg (fun o => z_clk o 78) zo_44).trans zk_LatinRectangles_Parser_78) rfl rfl rfl rfl (z_rcv0 zc_50)
theorem zi_44_78 : z_ins 44 78 = some (.ireturn, 1) := by decide +kernel
theorem ze_44_78 : z_T g d 44 78 ls [.int x] h P = ((x = nI 0 ∨ x = nI 1) ∧ P (.inr (some (.int x)), h)) := zt_zreturn zi_44_78 zr_44
-- LatinRectangles$Parser.readStatement()Z
theorem zm_45 : z_maxL 45 = 4 := by decide +kernel
theorem zh_45 : z_hds 45 = [] := by decide +kernel
theorem zj_45 : z_jdk 45 = false := by decide +kernel
theorem zr_45 : z_rt 45 = (some .boolean) := by decide +kernel
theorem zn_45 : z_Ca g d 45 [.ref a0] h P = z_T g d 45 0 [.ref a0, z_un, z_un, z_un] [] h P := z_Ca_ent zm_45 rfl rfl
theorem zi_45_0 : z_ins 45 0 = some (.aload_n 0, 1) := by decide +kernel
theorem ze_45_0 : z_T g d 45 0 (.ref a :: ls) st h P = z_T g d 45 1 (.ref a :: ls) (.ref a :: st) h P := zt_aloadn zi_45_0 rfl rfl
theorem zi_45_1 : z_ins 45 1 = some (.getfield 18, 3) := by decide +kernel
theorem ze_45_1 : z_T g d 45 1 ls (.ref a :: st) h P = z_gR h.1 a 5 0 (fun x => z_T g d 45 4 ls (x :: st) h P) := zt_getR zi_45_1 ((congrArg (fun o => z_fl o 18) zo_45).trans zf_LatinRectangles_Parser_18)
theorem zi_45_4 : z_ins 45 4 = some (.ldc 81, 2) := by decide +kernel
theorem ze_45_4 : z_T g d 45 4 ls st h P = z_T g d 45 6 ls (.retAddr 1 :: st) h P := zt_ldc zi_45_4 (by decide +kernel)
theorem zi_45_6 : z_ins 45 6 = some (.invokevirtual 57, 3) := by decide +kernel
theorem ze_45_6 : z_T g d 45 6 ls (.retAddr k0 :: .ref a :: st) h P = ((z_okS 8 st = true ∧ z_gO h.1 a 7 ∧ 0 < d) ∧ z_Ca g (d - 1) 59 [.ref a, .retAddr k0] h (fun r => z_k r (fun v h' => z_T g d 45 9 ls (z_push v st) h' P) P)) := zt_cV (as := [.retAddr k0]) (kk := 0) zi_45_6 rfl (zt_call zj_45 zh_45) (z_opV ((congrArg (fun o => z_lookup z_cns (o, 57)) zo_45).trans zq_cns_LatinRectangles_Parser_57) ((congrArg (fun o => z_lookup z_prs (o, 57)) zo_45).trans zq_prs_LatinRectangles_Parser_57)) ((congrArg (fun o => z_clk o 57) zo_45).trans zk_LatinRectangles_Parser_57) rfl rfl rfl rfl (z_rcv0 zc_59)
theorem zi_45_9 : z_ins 45 9 = some (.istore_n 1, 1) := by decide +kernel
theorem ze_45_9 : z_T g d 45 9 (v0 :: v1 :: ls) (.int x :: st) h P = z_T g d 45 10 (v0 :: .int x :: ls) st h P := zt_istoren zi_45_9 rfl (Nat.le_add_left 2 _)
theorem zi_45_10 : z_ins 45 10 = some (.iload_n 1, 1) := by decide +kernel
theorem ze_45_10 : z_T g d 45 10 (v0 :: .int x :: ls) st h P = z_T g d 45 11 (v0 :: .int x :: ls) (.int x :: st) h P := zt_iloadn zi_45_10 rfl rfl
theorem zi_45_11 : z_ins 45 11 = some (.ifCond .ne 21, 3) := by decide +kernel
theorem ze_45_11 : z_T g d 45 11 ls (.int x :: st) h P = (if x = nI 0 then z_T g d 45 14 ls st h P else z_T g d 45 32 ls st h P) := zt_ifne zi_45_11 (by decide)
theorem zi_45_14 : z_ins 45 14 = some (.aload_n 0, 1) := by decide +kernel
theorem ze_45_14 : z_T g d 45 14 (.ref a :: ls) st h P = z_T g d 45 15 (.ref a :: ls) (.ref a :: st) h P := zt_aloadn zi_45_14 rfl rfl
theorem zi_45_15 : z_ins 45 15 = some (.getfield 18, 3) := by decide +kernel
theorem ze_45_15 : z_T g d 45 15 ls (.ref a :: st) h P = z_gR h.1 a 5 0 (fun x => z_T g d 45 18 ls (x :: st) h P) := zt_getR zi_45_15 ((congrArg (fun o => z_fl o 18) zo_45).trans zf_LatinRectangles_Parser_18)
theorem zi_45_18 : z_ins 45 18 = some (.ldc 83, 2) := by decide +kernel
theorem ze_45_18 : z_T g d 45 18 ls st h P = z_T g d 45 20 ls (.retAddr 2 :: st) h P := zt_ldc zi_45_18 (by decide +kernel)
theorem zi_45_20 : z_ins 45 20 = some (.invokevirtual 57, 3) := by decide +kernel
theorem ze_45_20 : z_T g d 45 20 ls (.retAddr k0 :: .ref a :: st) h P = ((z_okS 8 st = true ∧ z_gO h.1 a 7 ∧ 0 < d) ∧ z_Ca g (d - 1) 59 [.ref a, .retAddr k0] h (fun r => z_k r (fun v h' => z_T g d 45 23 ls (z_push v st) h' P) P)) := zt_cV (as := [.retAddr k0]) (kk := 0) zi_45_20 rfl (zt_call zj_45 zh_45) (z_opV ((congrArg (fun o => z_lookup z_cns (o, 57)) zo_45).trans zq_cns_LatinRectangles_Parser_57) ((congrArg (fun o => z_lookup z_prs (o, 57)) zo_45).trans zq_prs_LatinRectangles_Parser_57)) ((congrArg (fun o => z_clk o 57) zo_45).trans zk_LatinRectangles_Parser_57) rfl rfl rfl rfl (z_rcv0 zc_59)
theorem zi_45_23 : z_ins 45 23 = some (.ifCond .ne 9, 3) := by decide +kernel
theorem ze_45_23 : z_T g d 45 23 ls (.int x :: st) h P = (if x = nI 0 then z_T g d 45 26 ls st h P else z_T g d 45 32 ls st h P) := zt_ifne zi_45_23 (by decide)
theorem zi_45_26 : z_ins 45 26 = some (.aload_n 0, 1) := by decide +kernel
theorem ze_45_26 : z_T g d 45 26 (.ref a :: ls) st h P = z_T g d 45 27 (.ref a :: ls) (.ref a :: st) h P := zt_aloadn zi_45_26 rfl rfl
theorem zi_45_27 : z_ins 45 27 = some (.iconst 1, 1) := by decide +kernel
theorem ze_45_27 : z_T g d 45 27 ls st h P = z_T g d 45 28 ls (.int (nI 1) :: st) h P := zt_iconst zi_45_27 rfl
theorem zi_45_28 : z_ins 45 28 = some (.invokevirtual 48, 3) := by decide +kernel
theorem ze_45_28 : z_T g d 45 28 ls (.int x0 :: .ref a :: st) h P = ((z_okS 8 st = true ∧ z_gO h.1 a 5 ∧ 0 < d) ∧ z_Ca g (d - 1) 43 [.ref a, .int x0] h (fun r => z_k r (fun v h' => z_T g d 45 31 ls (z_push v st) h' P) P)) := zt_cV (as := [.int x0]) (kk := 0) zi_45_28 rfl (zt_call zj_45 zh_45) (z_opV ((congrArg (fun o => z_lookup z_cns (o, 48)) zo_45).trans zq_cns_LatinRectangles_Parser_48) ((congrArg (fun o => z_lookup z_prs (o, 48)) zo_45).trans zq_prs_LatinRectangles_Parser_48)) ((congrArg (fun o => z_clk o 48) zo_45).trans zk_LatinRectangles_Parser_48) rfl rfl rfl rfl (z_rcv0 zc_43)
theorem zi_45_31 : z_ins 45 31 = some (.ireturn, 1) := by decide +kernel
theorem ze_45_31 : z_T g d 45 31 ls [.int x] h P = ((x = nI 0 ∨ x = nI 1) ∧ P (.inr (some (.int x)), h)) := zt_zreturn zi_45_31 zr_45
theorem zi_45_32 : z_ins 45 32 = some (.iload_n 1, 1) := by decide +kernel
theorem ze_45_32 : z_T g d 45 32 (v0 :: .int x :: ls) st h P = z_T g d 45 33 (v0 :: .int x :: ls) (.int x :: st) h P := zt_iloadn zi_45_32 rfl rfl
theorem zi_45_33 : z_ins 45 33 = some (.ifCond .eq 21, 3) := by decide +kernel
theorem ze_45_33 : z_T g d 45 33 ls (.int x :: st) h P = (if x = nI 0 then z_T g d 45 54 ls st h P else z_T g d 45 36 ls st h P) := zt_ifeq zi_45_33 (by decide)
theorem zi_45_36 : z_ins 45 36 = some (.aload_n 0, 1) := by decide +kernel
theorem ze_45_36 : z_T g d 45 36 (.ref a :: ls) st h P = z_T g d 45 37 (.ref a :: ls) (.ref a :: st) h P := zt_aloadn zi_45_36 rfl rfl
theorem zi_45_37 : z_ins 45 37 = some (.getfield 12, 3) := by decide +kernel
theorem ze_45_37 : z_T g d 45 37 ls (.ref a :: st) h P = z_gR h.1 a 5 1 (fun x => z_T g d 45 40 ls (x :: st) h P) := zt_getR zi_45_37 ((congrArg (fun o => z_fl o 12) zo_45).trans zf_LatinRectangles_Parser_12)
theorem zi_45_40 : z_ins 45 40 = some (.getfield 85, 3) := by decide +kernel
theorem ze_45_40 : z_T g d 45 40 ls (.ref a :: st) h P = z_gI h.1 a 3 9 (fun x => z_T g d 45 43 ls (.int x :: st) h P) := zt_getI zi_45_40 ((congrArg (fun o => z_fl o 85) zo_45).trans zf_LatinRectangles_Parser_85)
theorem zi_45_43 : z_ins 45 43 = some (.bipush 20, 2) := by decide +kernel
theorem ze_45_43 : z_T g d 45 43 ls st h P = z_T g d 45 45 ls (.int (nI 20) :: st) h P := zt_bipush zi_45_43 rfl
theorem zi_45_45 : z_ins 45 45 = some (.if_icmp .lt 9, 3) := by decide +kernel
theorem ze_45_45 : z_T g d 45 45 ls (.int y :: .int x :: st) h P = (if x < y then z_T g d 45 54 ls st h P else z_T g d 45 48 ls st h P) := zt_icmplt zi_45_45 (by decide)
theorem zi_45_48 : z_ins 45 48 = some (.aload_n 0, 1) := by decide +kernel
theorem ze_45_48 : z_T g d 45 48 (.ref a :: ls) st h P = z_T g d 45 49 (.ref a :: ls) (.ref a :: st) h P := zt_aloadn zi_45_48 rfl rfl
theorem zi_45_49 : z_ins 45 49 = some (.iconst 4, 1) := by decide +kernel
theorem ze_45_49 : z_T g d 45 49 ls st h P = z_T g d 45 50 ls (.int (nI 4) :: st) h P := zt_iconst zi_45_49 rfl
theorem zi_45_50 : z_ins 45 50 = some (.invokevirtual 48, 3) := by decide +kernel
theorem ze_45_50 : z_T g d 45 50 ls (.int x0 :: .ref a :: st) h P = ((z_okS 8 st = true ∧ z_gO h.1 a 5 ∧ 0 < d) ∧ z_Ca g (d - 1) 43 [.ref a, .int x0] h (fun r => z_k r (fun v h' => z_T g d 45 53 ls (z_push v st) h' P) P)) := zt_cV (as := [.int x0]) (kk := 0) zi_45_50 rfl (zt_call zj_45 zh_45) (z_opV ((congrArg (fun o => z_lookup z_cns (o, 48)) zo_45).trans zq_cns_LatinRectangles_Parser_48) ((congrArg (fun o => z_lookup z_prs (o, 48)) zo_45).trans zq_prs_LatinRectangles_Parser_48)) ((congrArg (fun o => z_clk o 48) zo_45).trans zk_LatinRectangles_Parser_48) rfl rfl rfl rfl (z_rcv0 zc_43)
theorem zi_45_53 : z_ins 45 53 = some (.ireturn, 1) := by decide +kernel
theorem ze_45_53 : z_T g d 45 53 ls [.int x] h P = ((x = nI 0 ∨ x = nI 1) ∧ P (.inr (some (.int x)), h)) := zt_zreturn zi_45_53 zr_45
theorem zi_45_54 : z_ins 45 54 = some (.aload_n 0, 1) := by decide +kernel
theorem ze_45_54 : z_T g d 45 54 (.ref a :: ls) st h P = z_T g d 45 55 (.ref a :: ls) (.ref a :: st) h P := zt_aloadn zi_45_54 rfl rfl
theorem zi_45_55 : z_ins 45 55 = some (.iconst 0, 1) := by decide +kernel
theorem ze_45_55 : z_T g d 45 55 ls st h P = z_T g d 45 56 ls (.int (nI 0) :: st) h P := zt_iconst zi_45_55 rfl
theorem zi_45_56 : z_ins 45 56 = some (.aload_n 0, 1) := by decide +kernel
theorem ze_45_56 : z_T g d 45 56 (.ref a :: ls) st h P = z_T g d 45 57 (.ref a :: ls) (.ref a :: st) h P := zt_aloadn zi_45_56 rfl rfl
theorem zi_45_57 : z_ins 45 57 = some (.getfield 12, 3) := by decide +kernel
theorem ze_45_57 : z_T g d 45 57 ls (.ref a :: st) h P = z_gR h.1 a 5 1 (fun x => z_T g d 45 60 ls (x :: st) h P) := zt_getR zi_45_57 ((congrArg (fun o => z_fl o 12) zo_45).trans zf_LatinRectangles_Parser_12)
theorem zi_45_60 : z_ins 45 60 = some (.getfield 88, 3) := by decide +kernel
theorem ze_45_60 : z_T g d 45 60 ls (.ref a :: st) h P = z_gI h.1 a 3 5 (fun x => z_T g d 45 63 ls (.int x :: st) h P) := zt_getI zi_45_60 ((congrArg (fun o => z_fl o 88) zo_45).trans zf_LatinRectangles_Parser_88)
theorem zi_45_63 : z_ins 45 63 = some (.iconst 1, 1) := by decide +kernel
theorem ze_45_63 : z_T g d 45 63 ls st h P = z_T g d 45 64 ls (.int (nI 1) :: st) h P := zt_iconst zi_45_63 rfl
theorem zi_45_64 : z_ins 45 64 = some (.isub, 1) := by decide +kernel
theorem ze_45_64 : z_T g d 45 64 ls (.int y :: .int x :: st) h P = z_T g d 45 65 ls (.int (x - y) :: st) h P := zt_bin (f := fun x y => x - y) zi_45_64 rfl (fun _ _ _ => rfl)
theorem zi_45_65 : z_ins 45 65 = some (.invokevirtual 61, 3) := by decide +kernel
theorem ze_45_65 : z_T g d 45 65 ls (.int x1 :: .int x0 :: .ref a :: st) h P = ((z_okS 8 st = true ∧ z_gO h.1 a 5 ∧ 0 < d) ∧ z_Ca g (d - 1) 49 [.ref a, .int x0, .int x1] h (fun r => z_k r (fun v h' => z_T g d 45 68 ls (z_push v st) h' P) P)) := zt_cV (as := [.int x0, .int x1]) (kk := 0) zi_45_65 rfl (zt_call zj_45 zh_45) (z_opV ((congrArg (fun o => z_lookup z_cns (o, 61)) zo_45).trans zq_cns_LatinRectangles_Parser_61) ((congrArg (fun o => z_lookup z_prs (o, 61)) zo_45).trans zq_prs_LatinRectangles_Parser_61)) ((congrArg (fun o => z_clk o 61) zo_45).trans zk_LatinRectangles_Parser_61) rfl rfl rfl rfl (z_rcv0 zc_49)
theorem zi_45_68 : z_ins 45 68 = some (.ifCond .ne 5, 3) := by decide +kernel
theorem ze_45_68 : z_T g d 45 68 ls (.int x :: st) h P = (if x = nI 0 then z_T g d 45 71 ls st h P else z_T g d 45 73 ls st h P) := zt_ifne zi_45_68 (by decide)
theorem zi_45_71 : z_ins 45 71 = some (.iconst 0, 1) := by decide +kernel
theorem ze_45_71 : z_T g d 45 71 ls st h P = z_T g d 45 72 ls (.int (nI 0) :: st) h P := zt_iconst zi_45_71 rfl
theorem zi_45_72 : z_ins 45 72 = some (.ireturn, 1) := by decide +kernel
theorem ze_45_72 : z_T g d 45 72 ls [.int x] h P = ((x = nI 0 ∨ x = nI 1) ∧ P (.inr (some (.int x)), h)) := zt_zreturn zi_45_72 zr_45
theorem zi_45_73 : z_ins 45 73 = some (.aload_n 0, 1) := by decide +kernel
theorem ze_45_73 : z_T g d 45 73 (.ref a :: ls) st h P = z_T g d 45 74 (.ref a :: ls) (.ref a :: st) h P := zt_aloadn zi_45_73 rfl rfl
theorem zi_45_74 : z_ins 45 74 = some (.getfield 18, 3) := by decide +kernel
theorem ze_45_74 : z_T g d 45 74 ls (.ref a :: st) h P = z_gR h.1 a 5 0 (fun x => z_T g d 45 77 ls (x :: st) h P) := zt_getR zi_45_74 ((congrArg (fun o => z_fl o 18) zo_45).trans zf_LatinRectangles_Parser_18)
theorem zi_45_77 : z_ins 45 77 = some (.getfield 65, 3) := by decide +kernel
theorem ze_45_77 : z_T g d 45 77 ls (.ref a :: st) h P = z_gI h.1 a 7 6 (fun x => z_T g d 45 80 ls (.int x :: st) h P) := zt_getI zi_45_77 ((congrArg (fun o => z_fl o 65) zo_45).trans zf_LatinRectangles_Parser_65)
theorem zi_45_80 : z_ins 45 80 = some (.istore_n 2, 1) := by decide +kernel
theorem ze_45_80 : z_T g d 45 80 (v0 :: v1 :: v2 :: ls) (.int x :: st) h P = z_T g d 45 81 (v0 :: v1 :: .int x :: ls) st h P := zt_istoren zi_45_80 rfl (Nat.le_add_left 3 _)
theorem zi_45_81 : z_ins 45 81 = some (.aload_n 0, 1) := by decide +kernel
theorem ze_45_81 : z_T g d 45 81 (.ref a :: ls) st h P = z_T g d 45 82 (.ref a :: ls) (.ref a :: st) h P := zt_aloadn zi_45_81 rfl rfl
theorem zi_45_82 : z_ins 45 82 = some (.iconst 0, 1) := by decide +kernel
theorem ze_45_82 : z_T g d 45 82 ls st h P = z_T g d 45 83 ls (.int (nI 0) :: st) h P := zt_iconst zi_45_82 rfl
theorem zi_45_83 : z_ins 45 83 = some (.aload_n 0, 1) := by decide +kernel
theorem ze_45_83 : z_T g d 45 83 (.ref a :: ls) st h P = z_T g d 45 84 (.ref a :: ls) (.ref a :: st) h P := zt_aloadn zi_45_83 rfl rfl
theorem zi_45_84 : z_ins 45 84 = some (.getfield 12, 3) := by decide +kernel
theorem ze_45_84 : z_T g d 45 84 ls (.ref a :: st) h P = z_gR h.1 a 5 1 (fun x => z_T g d 45 87 ls (x :: st) h P) := zt_getR zi_45_84 ((congrArg (fun o => z_fl o 12) zo_45).trans zf_LatinRectangles_Parser_12)
theorem zi_45_87 : z_ins 45 87 = some (.getfield 91, 3) := by decide +kernel
theorem ze_45_87 : z_T g d 45 87 ls (.ref a :: st) h P = z_gI h.1 a 3 6 (fun x => z_T g d 45 90 ls (.int x :: st) h P) := zt_getI zi_45_87 ((congrArg (fun o => z_fl o 91) zo_45).trans zf_LatinRectangles_Parser_91)
theorem zi_45_90 : z_ins 45 90 = some (.iconst 1, 1) := by decide +kernel
theorem ze_45_90 : z_T g d 45 90 ls st h P = z_T g d 45 91 ls (.int (nI 1) :: st) h P := zt_iconst zi_45_90 rfl
theorem zi_45_91 : z_ins 45 91 = some (.isub, 1) := by decide +kernel
theorem ze_45_91 : z_T g d 45 91 ls (.int y :: .int x :: st) h P = z_T g d 45 92 ls (.int (x - y) :: st) h P := zt_bin (f := fun x y => x - y) zi_45_91 rfl (fun _ _ _ => rfl)
theorem zi_45_92 : z_ins 45 92 = some (.invokevirtual 61, 3) := by decide +kernel
theorem ze_45_92 : z_T g d 45 92 ls (.int x1 :: .int x0 :: .ref a :: st) h P = ((z_okS 8 st = true ∧ z_gO h.1 a 5 ∧ 0 < d) ∧ z_Ca g (d - 1) 49 [.ref a, .int x0, .int x1] h (fun r => z_k r (fun v h' => z_T g d 45 95 ls (z_push v st) h' P) P)) := zt_cV (as := [.int x0, .int x1]) (kk := 0) zi_45_92 rfl (zt_call zj_45 zh_45) (z_opV ((congrArg (fun o => z_lookup z_cns (o, 61)) zo_45).trans zq_cns_LatinRectangles_Parser_61) ((congrArg (fun o => z_lookup z_prs (o, 61)) zo_45).trans zq_prs_LatinRectangles_Parser_61)) ((congrArg (fun o => z_clk o 61) zo_45).trans zk_LatinRectangles_Parser_61) rfl rfl rfl rfl (z_rcv0 zc_49)
theorem zi_45_95 : z_ins 45 95 = some (.ifCond .ne 5, 3) := by decide +kernel
theorem ze_45_95 : z_T g d 45 95 ls (.int x :: st) h P = (if x = nI 0 then z_T g d 45 98 ls st h P else z_T g d 45 100 ls st h P) := zt_ifne zi_45_95 (by decide)
theorem zi_45_98 : z_ins 45 98 = some (.iconst 0, 1) := by decide +kernel
theorem ze_45_98 : z_T g d 45 98 ls st h P = z_T g d 45 99 ls (.int (nI 0) :: st) h P := zt_iconst zi_45_98 rfl
theorem zi_45_99 : z_ins 45 99 = some (.ireturn, 1) := by decide +kernel
theorem ze_45_99 : z_T g d 45 99 ls [.int x] h P = ((x = nI 0 ∨ x = nI 1) ∧ P (.inr (some (.int x)), h)) := zt_zreturn zi_45_99 zr_45
theorem zi_45_100 : z_ins 45 100 = some (.aload_n 0, 1) := by decide +kernel
theorem ze_45_100 : z_T g d 45 100 (.ref a :: ls) st h P = z_T g d 45 101 (.ref a :: ls) (.ref a :: st) h P := zt_aloadn zi_45_100 rfl rfl
theorem zi_45_101 : z_ins 45 101 = some (.getfield 18, 3) := by decide +kernel
theorem ze_45_101 : z_T g d 45 101 ls (.ref a :: st) h P = z_gR h.1 a 5 0 (fun x => z_T g d 45 104 ls (x :: st) h P) := zt_getR zi_45_101 ((congrArg (fun o => z_fl o 18) zo_45).trans zf_LatinRectangles_Parser_18)
theorem zi_45_104 : z_ins 45 104 = some (.getfield 65, 3) := by decide +kernel
theorem ze_45_104 : z_T g d 45 104 ls (.ref a :: st) h P = z_gI h.1 a 7 6 (fun x => z_T g d 45 107 ls (.int x :: st) h P) := zt_getI zi_45_104 ((congrArg (fun o => z_fl o 65) zo_45).trans zf_LatinRectangles_Parser_65)
theorem zi_45_107 : z_ins 45 107 = some (.istore_n 3, 1) := by decide +kernel
theorem ze_45_107 : z_T g d 45 107 (v0 :: v1 :: v2 :: v3 :: ls) (.int x :: st) h P = z_T g d 45 108 (v0 :: v1 :: v2 :: .int x :: ls) st h P := zt_istoren zi_45_107 rfl (Nat.le_add_left 4 _)
theorem zi_45_108 : z_ins 45 108 = some (.iload_n 1, 1) := by decide +kernel
theorem ze_45_108 : z_T g d 45 108 (v0 :: .int x :: ls) st h P = z_T g d 45 109 (v0 :: .int x :: ls) (.int x :: st) h P := zt_iloadn zi_45_108 rfl rfl
theorem zi_45_109 : z_ins 45 109 = some (.ifCond .eq 15, 3) := by decide +kernel
theorem ze_45_109 : z_T g d 45 109 ls (.int x :: st) h P = (if x = nI 0 then z_T g d 45 124 ls st h P else z_T g d 45 112 ls st h P) := zt_ifeq zi_45_109 (by decide)
theorem zi_45_112 : z_ins 45 112 = some (.aload_n 0, 1) := by decide +kernel
theorem ze_45_112 : z_T g d 45 112 (.ref a :: ls) st h P = z_T g d 45 113 (.ref a :: ls) (.ref a :: st) h P := zt_aloadn zi_45_112 rfl rfl
theorem zi_45_113 : z_ins 45 113 = some (.iload_n 2, 1) := by decide +kernel
theorem ze_45_113 : z_T g d 45 113 (v0 :: v1 :: .int x :: ls) st h P = z_T g d 45 114 (v0 :: v1 :: .int x :: ls) (.int x :: st) h P := zt_iloadn zi_45_113 rfl rfl
theorem zi_45_114 : z_ins 45 114 = some (.iload_n 3, 1) := by decide +kernel
theorem ze_45_114 : z_T g d 45 114 (v0 :: v1 :: v2 :: .int x :: ls) st h P = z_T g d 45 115 (v0 :: v1 :: v2 :: .int x :: ls) (.int x :: st) h P := zt_iloadn zi_45_114 rfl rfl
theorem zi_45_115 : z_ins 45 115 = some (.invokevirtual 94, 3) := by decide +kernel
theorem ze_45_115 : z_T g d 45 115 ls (.int x1 :: .int x0 :: .ref a :: st) h P = ((z_okS 8 st = true ∧ z_gO h.1 a 5 ∧ 0 < d) ∧ z_Ca g (d - 1) 47 [.ref a, .int x0, .int x1] h (fun r => z_k r (fun v h' => z_T g d 45 118 ls (z_push v st) h' P) P)) := zt_cV (as := [.int x0, .int x1]) (kk := 0) zi_45_115 rfl (zt_call zj_45 zh_45) (z_opV ((congrArg (fun o => z_lookup z_cns (o, 94)) zo_45).trans zq_cns_LatinRectangles_Parser_94) ((congrArg (fun o => z_lookup z_prs (o, 94)) zo_45).trans zq_prs_LatinRectangles_Parser_94)) ((congrArg (fun o => z_clk o 94) zo_45).trans zk_LatinRectangles_Parser_94) rfl rfl rfl rfl (z_rcv0 zc_47)
theorem zi_45_118 : z_ins 45 118 = some (.ifCond .eq 15, 3) := by decide +kernel
theorem ze_45_118 : z_T g d 45 118 ls (.int x :: st) h P = (if x = nI 0 then z_T g d 45 133 ls st h P else z_T g d 45 121 ls st h P) := zt_ifeq zi_45_118 (by decide)
theorem zi_45_121 : z_ins 45 121 = some (.goto 14, 3) := by decide +kernel
theorem ze_45_121 : z_T g d 45 121 ls st h P = z_T g d 45 135 ls st h P := zt_goto zi_45_121 (by decide)
theorem zi_45_124 : z_ins 45 124 = some (.aload_n 0, 1) := by decide +kernel
theorem ze_45_124 : z_T g d 45 124 (.ref a :: ls) st h P = z_T g d 45 125 (.ref a :: ls) (.ref a :: st) h P := zt_aloadn zi_45_124 rfl rfl
theorem zi_45_125 : z_ins 45 125 = some (.iload_n 2, 1) := by decide +kernel
theorem ze_45_125 : z_T g d 45 125 (v0 :: v1 :: .int x :: ls) st h P = z_T g d 45 126 (v0 :: v1 :: .int x :: ls) (.int x :: st) h P := zt_iloadn zi_45_125 rfl rfl
theorem zi_45_126 : z_ins 45 126 = some (.iload_n 3, 1) := by decide +kernel
theorem ze_45_126 : z_T g d 45 126 (v0 :: v1 :: v2 :: .int x :: ls) st h P = z_T g d 45 127 (v0 :: v1 :: v2 :: .int x :: ls) (.int x :: st) h P := zt_iloadn zi_45_126 rfl rfl
theorem zi_45_127 : z_ins 45 127 = some (.invokevirtual 97, 3) := by decide +kernel
theorem ze_45_127 : z_T g d 45 127 ls (.int x1 :: .int x0 :: .ref a :: st) h P = ((z_okS 8 st = true ∧ z_gO h.1 a 5 ∧ 0 < d) ∧ z_Ca g (d - 1) 46 [.ref a, .int x0, .int x1] h (fun r => z_k r (fun v h' => z_T g d 45 130 ls (z_push v st) h' P) P)) := zt_cV (as := [.int x0, .int x1]) (kk := 0) zi_45_127 rfl (zt_call zj_45 zh_45) (z_opV ((congrArg (fun o => z_lookup z_cns (o, 97)) zo_45).trans zq_cns_LatinRectangles_Parser_97) ((congrArg (fun o => z_lookup z_prs (o, 97)) zo_45).trans zq_prs_LatinRectangles_Parser_97)) ((congrArg (fun o => z_clk o 97) zo_45).trans zk_LatinRectangles_Parser_97) rfl rfl rfl rfl (z_rcv0 zc_46)
theorem zi_45_130 : z_ins 45 130 = some (.ifCond .ne 5, 3) := by decide +kernel
theorem ze_45_130 : z_T g d 45 130 ls (.int x :: st) h P = (if x = nI 0 then z_T g d 45 133 ls st h P else z_T g d 45 135 ls st h P) := zt_ifne zi_45_130 (by decide)
theorem zi_45_133 : z_ins 45 133 = some (.iconst 0, 1) := by decide +kernel
theorem ze_45_133 : z_T g d 45 133 ls st h P = z_T g d 45 134 ls (.int (nI 0) :: st) h P := zt_iconst zi_45_133 rfl
theorem zi_45_134 : z_ins 45 134 = some (.ireturn, 1) := by decide +kernel
theorem ze_45_134 : z_T g d 45 134 ls [.int x] h P = ((x = nI 0 ∨ x = nI 1) ∧ P (.inr (some (.int x)), h)) := zt_zreturn zi_45_134 zr_45
theorem zi_45_135 : z_ins 45 135 = some (.aload_n 0, 1) := by decide +kernel
theorem ze_45_135 : z_T g d 45 135 (.ref a :: ls) st h P = z_T g d 45 136 (.ref a :: ls) (.ref a :: st) h P := zt_aloadn zi_45_135 rfl rfl
theorem zi_45_136 : z_ins 45 136 = some (.invokevirtual 78, 3) := by decide +kernel
theorem ze_45_136 : z_T g d 45 136 ls (.ref a :: st) h P = ((z_okS 8 st = true ∧ z_gO h.1 a 5 ∧ 0 < d) ∧ z_Ca g (d - 1) 50 [.ref a] h (fun r => z_k r (fun v h' => z_T g d 45 139 ls (z_push v st) h' P) P)) := zt_cV (as := []) (kk := 0) zi_45_136 rfl (zt_call zj_45 zh_45) (z_opV ((congrArg (fun o => z_lookup z_cns (o, 78)) zo_45).trans zq_cns_LatinRectangles_Parser_78) ((congrArg (fun o => z_lookup z_prs (o, 78)) zo_45).trans zq_prs_LatinRectangles_Parser_78)) ((congrArg (fun o => z_clk o 78) zo_45).trans zk_LatinRectangles_Parser_78) rfl rfl rfl rfl (z_rcv0 zc_50)
theorem zi_45_139 : z_ins 45 139 = some (.ireturn, 1) := by decide +kernel
theorem ze_45_139 : z_T g d 45 139 ls [.int x] h P = ((x = nI 0 ∨ x = nI 1) ∧ P (.inr (some (.int x)), h)) := zt_zreturn zi_45_139 zr_45
-- LatinRectangles$Parser.readGiven(II)Z
theorem zm_46 : z_maxL 46 = 3 := by decide +kernel
theorem zh_46 : z_hds 46 = [] := by decide +kernel
theorem zj_46 : z_jdk 46 = false := by decide +kernel
theorem zr_46 : z_rt 46 = (some .boolean) := by decide +kernel
theorem zn_46 : z_Ca g d 46 [.ref a0, .int x1, .int x2] h P = z_T g d 46 0 [.ref a0, .int x1, .int x2] [] h P := z_Ca_ent zm_46 rfl rfl
theorem zi_46_0 : z_ins 46 0 = some (.aload_n 0, 1) := by decide +kernel
theorem ze_46_0 : z_T g d 46 0 (.ref a :: ls) st h P = z_T g d 46 1 (.ref a :: ls) (.ref a :: st) h P := zt_aloadn zi_46_0 rfl rfl
theorem zi_46_1 : z_ins 46 1 = some (.invokevirtual 100, 3) := by decide +kernel
theorem ze_46_1 : z_T g d 46 1 ls (.ref a :: st) h P = ((z_okS 8 st = true ∧ z_gO h.1 a 5 ∧ 0 < d) ∧ z_Ca g (d - 1) 48 [.ref a] h (fun r => z_k r (fun v h' => z_T g d 46 4 ls (z_push v st) h' P) P)) := zt_cV (as := []) (kk := 0) zi_46_1 rfl (zt_call zj_46 zh_46) (z_opV ((congrArg (fun o => z_lookup z_cns (o, 100)) zo_46).trans zq_cns_LatinRectangles_Parser_100) ((congrArg (fun o => z_lookup z_prs (o, 100)) zo_46).trans zq_prs_LatinRectangles_Parser_100)) ((congrArg (fun o => z_clk o 100) zo_46).trans zk_LatinRectangles_Parser_100) rfl rfl rfl rfl (z_rcv0 zc_48)
theorem zi_46_4 : z_ins 46 4 = some (.ifCond .ne 5, 3) := by decide +kernel
theorem ze_46_4 : z_T g d 46 4 ls (.int x :: st) h P = (if x = nI 0 then z_T g d 46 7 ls st h P else z_T g d 46 9 ls st h P) := zt_ifne zi_46_4 (by decide)
theorem zi_46_7 : z_ins 46 7 = some (.iconst 0, 1) := by decide +kernel
theorem ze_46_7 : z_T g d 46 7 ls st h P = z_T g d 46 8 ls (.int (nI 0) :: st) h P := zt_iconst zi_46_7 rfl
theorem zi_46_8 : z_ins 46 8 = some (.ireturn, 1) := by decide +kernel
theorem ze_46_8 : z_T g d 46 8 ls [.int x] h P = ((x = nI 0 ∨ x = nI 1) ∧ P (.inr (some (.int x)), h)) := zt_zreturn zi_46_8 zr_46
theorem zi_46_9 : z_ins 46 9 = some (.aload_n 0, 1) := by decide +kernel
theorem ze_46_9 : z_T g d 46 9 (.ref a :: ls) st h P = z_T g d 46 10 (.ref a :: ls) (.ref a :: st) h P := zt_aloadn zi_46_9 rfl rfl
theorem zi_46_10 : z_ins 46 10 = some (.getfield 12, 3) := by decide +kernel
theorem ze_46_10 : z_T g d 46 10 ls (.ref a :: st) h P = z_gR h.1 a 5 1 (fun x => z_T g d 46 13 ls (x :: st) h P) := zt_getR zi_46_10 ((congrArg (fun o => z_fl o 12) zo_46).trans zf_LatinRectangles_Parser_12)
theorem zi_46_13 : z_ins 46 13 = some (.getfield 103, 3) := by decide +kernel
theorem ze_46_13 : z_T g d 46 13 ls (.ref a :: st) h P = z_gR h.1 a 3 0 (fun x => z_T g d 46 16 ls (x :: st) h P) := zt_getR zi_46_13 ((congrArg (fun o => z_fl o 103) zo_46).trans zf_LatinRectangles_Parser_103)
theorem zi_46_16 : z_ins 46 16 = some (.iload_n 1, 1) := by decide +kernel
theorem ze_46_16 : z_T g d 46 16 (v0 :: .int x :: ls) st h P = z_T g d 46 17 (v0 :: .int x :: ls) (.int x :: st) h P := zt_iloadn zi_46_16 rfl rfl
theorem zi_46_17 : z_ins 46 17 = some (.iconst 5, 1) := by decide +kernel
theorem ze_46_17 : z_T g d 46 17 ls st h P = z_T g d 46 18 ls (.int (nI 5) :: st) h P := zt_iconst zi_46_17 rfl
theorem zi_46_18 : z_ins 46 18 = some (.imul, 1) := by decide +kernel
theorem ze_46_18 : z_T g d 46 18 ls (.int y :: .int x :: st) h P = z_T g d 46 19 ls (.int (x * y) :: st) h P := zt_bin (f := fun x y => x * y) zi_46_18 rfl (fun _ _ _ => rfl)
theorem zi_46_19 : z_ins 46 19 = some (.iload_n 2, 1) := by decide +kernel
theorem ze_46_19 : z_T g d 46 19 (v0 :: v1 :: .int x :: ls) st h P = z_T g d 46 20 (v0 :: v1 :: .int x :: ls) (.int x :: st) h P := zt_iloadn zi_46_19 rfl rfl
theorem zi_46_20 : z_ins 46 20 = some (.iadd, 1) := by decide +kernel
theorem ze_46_20 : z_T g d 46 20 ls (.int y :: .int x :: st) h P = z_T g d 46 21 ls (.int (x + y) :: st) h P := zt_bin (f := fun x y => x + y) zi_46_20 rfl (fun _ _ _ => rfl)
theorem zi_46_21 : z_ins 46 21 = some (.iaload, 1) := by decide +kernel
theorem ze_46_21 : z_T g d 46 21 ls (.int x :: .ref a :: st) h P = z_aL h.1 a z_tI x (fun v => z_T g d 46 22 ls (.int v :: st) h P) := zt_iaload zi_46_21
theorem zi_46_22 : z_ins 46 22 = some (.iconst (-1), 1) := by decide +kernel
theorem ze_46_22 : z_T g d 46 22 ls st h P = z_T g d 46 23 ls (.int (-1) :: st) h P := zt_iconst zi_46_22 rfl
theorem zi_46_23 : z_ins 46 23 = some (.if_icmp .eq 9, 3) := by decide +kernel
theorem ze_46_23 : z_T g d 46 23 ls (.int y :: .int x :: st) h P = (if x = y then z_T g d 46 32 ls st h P else z_T g d 46 26 ls st h P) := zt_icmpeq zi_46_23 (by decide)
theorem zi_46_26 : z_ins 46 26 = some (.aload_n 0, 1) := by decide +kernel
theorem ze_46_26 : z_T g d 46 26 (.ref a :: ls) st h P = z_T g d 46 27 (.ref a :: ls) (.ref a :: st) h P := zt_aloadn zi_46_26 rfl rfl
theorem zi_46_27 : z_ins 46 27 = some (.iconst 2, 1) := by decide +kernel
theorem ze_46_27 : z_T g d 46 27 ls st h P = z_T g d 46 28 ls (.int (nI 2) :: st) h P := zt_iconst zi_46_27 rfl
theorem zi_46_28 : z_ins 46 28 = some (.invokevirtual 48, 3) := by decide +kernel
theorem ze_46_28 : z_T g d 46 28 ls (.int x0 :: .ref a :: st) h P = ((z_okS 8 st = true ∧ z_gO h.1 a 5 ∧ 0 < d) ∧ z_Ca g (d - 1) 43 [.ref a, .int x0] h (fun r => z_k r (fun v h' => z_T g d 46 31 ls (z_push v st) h' P) P)) := zt_cV (as := [.int x0]) (kk := 0) zi_46_28 rfl (zt_call zj_46 zh_46) (z_opV ((congrArg (fun o => z_lookup z_cns (o, 48)) zo_46).trans zq_cns_LatinRectangles_Parser_48) ((congrArg (fun o => z_lookup z_prs (o, 48)) zo_46).trans zq_prs_LatinRectangles_Parser_48)) ((congrArg (fun o => z_clk o 48) zo_46).trans zk_LatinRectangles_Parser_48) rfl rfl rfl rfl (z_rcv0 zc_43)
theorem zi_46_31 : z_ins 46 31 = some (.ireturn, 1) := by decide +kernel
theorem ze_46_31 : z_T g d 46 31 ls [.int x] h P = ((x = nI 0 ∨ x = nI 1) ∧ P (.inr (some (.int x)), h)) := zt_zreturn zi_46_31 zr_46
theorem zi_46_32 : z_ins 46 32 = some (.aload_n 0, 1) := by decide +kernel
theorem ze_46_32 : z_T g d 46 32 (.ref a :: ls) st h P = z_T g d 46 33 (.ref a :: ls) (.ref a :: st) h P := zt_aloadn zi_46_32 rfl rfl
theorem zi_46_33 : z_ins 46 33 = some (.getfield 18, 3) := by decide +kernel
theorem ze_46_33 : z_T g d 46 33 ls (.ref a :: st) h P = z_gR h.1 a 5 0 (fun x => z_T g d 46 36 ls (x :: st) h P) := zt_getR zi_46_33 ((congrArg (fun o => z_fl o 18) zo_46).trans zf_LatinRectangles_Parser_18)
theorem zi_46_36 : z_ins 46 36 = some (.getfield 65, 3) := by decide +kernel
theorem ze_46_36 : z_T g d 46 36 ls (.ref a :: st) h P = z_gI h.1 a 7 6 (fun x => z_T g d 46 39 ls (.int x :: st) h P) := zt_getI zi_46_36 ((congrArg (fun o => z_fl o 65) zo_46).trans zf_LatinRectangles_Parser_65)
theorem zi_46_39 : z_ins 46 39 = some (.aload_n 0, 1) := by decide +kernel
theorem ze_46_39 : z_T g d 46 39 (.ref a :: ls) st h P = z_T g d 46 40 (.ref a :: ls) (.ref a :: st) h P := zt_aloadn zi_46_39 rfl rfl
theorem zi_46_40 : z_ins 46 40 = some (.getfield 12, 3) := by decide +kernel
theorem ze_46_40 : z_T g d 46 40 ls (.ref a :: st) h P = z_gR h.1 a 5 1 (fun x => z_T g d 46 43 ls (x :: st) h P) := zt_getR zi_46_40 ((congrArg (fun o => z_fl o 12) zo_46).trans zf_LatinRectangles_Parser_12)
theorem zi_46_43 : z_ins 46 43 = some (.getfield 91, 3) := by decide +kernel
theorem ze_46_43 : z_T g d 46 43 ls (.ref a :: st) h P = z_gI h.1 a 3 6 (fun x => z_T g d 46 46 ls (.int x :: st) h P) := zt_getI zi_46_43 ((congrArg (fun o => z_fl o 91) zo_46).trans zf_LatinRectangles_Parser_91)
theorem zi_46_46 : z_ins 46 46 = some (.if_icmp .lt 9, 3) := by decide +kernel
theorem ze_46_46 : z_T g d 46 46 ls (.int y :: .int x :: st) h P = (if x < y then z_T g d 46 55 ls st h P else z_T g d 46 49 ls st h P) := zt_icmplt zi_46_46 (by decide)
theorem zi_46_49 : z_ins 46 49 = some (.aload_n 0, 1) := by decide +kernel
theorem ze_46_49 : z_T g d 46 49 (.ref a :: ls) st h P = z_T g d 46 50 (.ref a :: ls) (.ref a :: st) h P := zt_aloadn zi_46_49 rfl rfl
theorem zi_46_50 : z_ins 46 50 = some (.iconst 3, 1) := by decide +kernel
theorem ze_46_50 : z_T g d 46 50 ls st h P = z_T g d 46 51 ls (.int (nI 3) :: st) h P := zt_iconst zi_46_50 rfl
theorem zi_46_51 : z_ins 46 51 = some (.invokevirtual 48, 3) := by decide +kernel
theorem ze_46_51 : z_T g d 46 51 ls (.int x0 :: .ref a :: st) h P = ((z_okS 8 st = true ∧ z_gO h.1 a 5 ∧ 0 < d) ∧ z_Ca g (d - 1) 43 [.ref a, .int x0] h (fun r => z_k r (fun v h' => z_T g d 46 54 ls (z_push v st) h' P) P)) := zt_cV (as := [.int x0]) (kk := 0) zi_46_51 rfl (zt_call zj_46 zh_46) (z_opV ((congrArg (fun o => z_lookup z_cns (o, 48)) zo_46).trans zq_cns_LatinRectangles_Parser_48) ((congrArg (fun o => z_lookup z_prs (o, 48)) zo_46).trans zq_prs_LatinRectangles_Parser_48)) ((congrArg (fun o => z_clk o 48) zo_46).trans zk_LatinRectangles_Parser_48) rfl rfl rfl rfl (z_rcv0 zc_43)
theorem zi_46_54 : z_ins 46 54 = some (.ireturn, 1) := by decide +kernel
theorem ze_46_54 : z_T g d 46 54 ls [.int x] h P = ((x = nI 0 ∨ x = nI 1) ∧ P (.inr (some (.int x)), h)) := zt_zreturn zi_46_54 zr_46
theorem zi_46_55 : z_ins 46 55 = some (.aload_n 0, 1) := by decide +kernel
theorem ze_46_55 : z_T g d 46 55 (.ref a :: ls) st h P = z_T g d 46 56 (.ref a :: ls) (.ref a :: st) h P := zt_aloadn zi_46_55 rfl rfl
theorem zi_46_56 : z_ins 46 56 = some (.getfield 12, 3) := by decide +kernel
theorem ze_46_56 : z_T g d 46 56 ls (.ref a :: st) h P = z_gR h.1 a 5 1 (fun x => z_T g d 46 59 ls (x :: st) h P) := zt_getR zi_46_56 ((congrArg (fun o => z_fl o 12) zo_46).trans zf_LatinRectangles_Parser_12)
theorem zi_46_59 : z_ins 46 59 = some (.iload_n 1, 1) := by decide +kernel
theorem ze_46_59 : z_T g d 46 59 (v0 :: .int x :: ls) st h P = z_T g d 46 60 (v0 :: .int x :: ls) (.int x :: st) h P := zt_iloadn zi_46_59 rfl rfl
theorem zi_46_60 : z_ins 46 60 = some (.iload_n 2, 1) := by decide +kernel
theorem ze_46_60 : z_T g d 46 60 (v0 :: v1 :: .int x :: ls) st h P = z_T g d 46 61 (v0 :: v1 :: .int x :: ls) (.int x :: st) h P := zt_iloadn zi_46_60 rfl rfl
theorem zi_46_61 : z_ins 46 61 = some (.invokevirtual 107, 3) := by decide +kernel
theorem ze_46_61 : z_T g d 46 61 ls (.int x1 :: .int x0 :: .ref a :: st) h P = ((z_okS 8 st = true ∧ z_gO h.1 a 3 ∧ 0 < d) ∧ z_Ca g (d - 1) 34 [.ref a, .int x0, .int x1] h (fun r => z_k r (fun v h' => z_T g d 46 64 ls (z_push v st) h' P) P)) := zt_cV (as := [.int x0, .int x1]) (kk := 0) zi_46_61 rfl (zt_call zj_46 zh_46) (z_opV ((congrArg (fun o => z_lookup z_cns (o, 107)) zo_46).trans zq_cns_LatinRectangles_Parser_107) ((congrArg (fun o => z_lookup z_prs (o, 107)) zo_46).trans zq_prs_LatinRectangles_Parser_107)) ((congrArg (fun o => z_clk o 107) zo_46).trans zk_LatinRectangles_Parser_107) rfl rfl rfl rfl (z_rcv0 zc_34)
theorem zi_46_64 : z_ins 46 64 = some (.aload_n 0, 1) := by decide +kernel
theorem ze_46_64 : z_T g d 46 64 (.ref a :: ls) st h P = z_T g d 46 65 (.ref a :: ls) (.ref a :: st) h P := zt_aloadn zi_46_64 rfl rfl
theorem zi_46_65 : z_ins 46 65 = some (.getfield 18, 3) := by decide +kernel
theorem ze_46_65 : z_T g d 46 65 ls (.ref a :: st) h P = z_gR h.1 a 5 0 (fun x => z_T g d 46 68 ls (x :: st) h P) := zt_getR zi_46_65 ((congrArg (fun o => z_fl o 18) zo_46).trans zf_LatinRectangles_Parser_18)
theorem zi_46_68 : z_ins 46 68 = some (.getfield 65, 3) := by decide +kernel
theorem ze_46_68 : z_T g d 46 68 ls (.ref a :: st) h P = z_gI h.1 a 7 6 (fun x => z_T g d 46 71 ls (.int x :: st) h P) := zt_getI zi_46_68 ((congrArg (fun o => z_fl o 65) zo_46).trans zf_LatinRectangles_Parser_65)
theorem zi_46_71 : z_ins 46 71 = some (.ishr, 1) := by decide +kernel
theorem ze_46_71 : z_T g d 46 71 ls (.int y :: .int x :: st) h P = z_T g d 46 72 ls (.int (x >>> (y &&& 31)) :: st) h P := zt_bin (f := fun x y => x >>> (y &&& 31)) zi_46_71 rfl (fun _ _ _ => rfl)
theorem zi_46_72 : z_ins 46 72 = some (.iconst 1, 1) := by decide +kernel
theorem ze_46_72 : z_T g d 46 72 ls st h P = z_T g d 46 73 ls (.int (nI 1) :: st) h P := zt_iconst zi_46_72 rfl
theorem zi_46_73 : z_ins 46 73 = some (.iand, 1) := by decide +kernel
theorem ze_46_73 : z_T g d 46 73 ls (.int y :: .int x :: st) h P = z_T g d 46 74 ls (.int (x &&& y) :: st) h P := zt_bin (f := fun x y => x &&& y) zi_46_73 rfl (fun _ _ _ => rfl)
theorem zi_46_74 : z_ins 46 74 = some (.ifCond .ne 9, 3) := by decide +kernel
theorem ze_46_74 : z_T g d 46 74 ls (.int x :: st) h P = (if x = nI 0 then z_T g d 46 77 ls st h P else z_T g d 46 83 ls st h P) := zt_ifne zi_46_74 (by decide)
theorem zi_46_77 : z_ins 46 77 = some (.aload_n 0, 1) := by decide +kernel
theorem ze_46_77 : z_T g d 46 77 (.ref a :: ls) st h P = z_T g d 46 78 (.ref a :: ls) (.ref a :: st) h P := zt_aloadn zi_46_77 rfl rfl
theorem zi_46_78 : z_ins 46 78 = some (.iconst 2, 1) := by decide +kernel
theorem ze_46_78 : z_T g d 46 78 ls st h P = z_T g d 46 79 ls (.int (nI 2) :: st) h P := zt_iconst zi_46_78 rfl
theorem zi_46_79 : z_ins 46 79 = some (.invokevirtual 48, 3) := by decide +kernel
theorem ze_46_79 : z_T g d 46 79 ls (.int x0 :: .ref a :: st) h P = ((z_okS 8 st = true ∧ z_gO h.1 a 5 ∧ 0 < d) ∧ z_Ca g (d - 1) 43 [.ref a, .int x0] h (fun r => z_k r (fun v h' => z_T g d 46 82 ls (z_push v st) h' P) P)) := zt_cV (as := [.int x0]) (kk := 0) zi_46_79 rfl (zt_call zj_46 zh_46) (z_opV ((congrArg (fun o => z_lookup z_cns (o, 48)) zo_46).trans zq_cns_LatinRectangles_Parser_48) ((congrArg (fun o => z_lookup z_prs (o, 48)) zo_46).trans zq_prs_LatinRectangles_Parser_48)) ((congrArg (fun o => z_clk o 48) zo_46).trans zk_LatinRectangles_Parser_48) rfl rfl rfl rfl (z_rcv0 zc_43)
theorem zi_46_82 : z_ins 46 82 = some (.ireturn, 1) := by decide +kernel
theorem ze_46_82 : z_T g d 46 82 ls [.int x] h P = ((x = nI 0 ∨ x = nI 1) ∧ P (.inr (some (.int x)), h)) := zt_zreturn zi_46_82 zr_46
theorem zi_46_83 : z_ins 46 83 = some (.aload_n 0, 1) := by decide +kernel
theorem ze_46_83 : z_T g d 46 83 (.ref a :: ls) st h P = z_T g d 46 84 (.ref a :: ls) (.ref a :: st) h P := zt_aloadn zi_46_83 rfl rfl
theorem zi_46_84 : z_ins 46 84 = some (.getfield 12, 3) := by decide +kernel
theorem ze_46_84 : z_T g d 46 84 ls (.ref a :: st) h P = z_gR h.1 a 5 1 (fun x => z_T g d 46 87 ls (x :: st) h P) := zt_getR zi_46_84 ((congrArg (fun o => z_fl o 12) zo_46).trans zf_LatinRectangles_Parser_12)
theorem zi_46_87 : z_ins 46 87 = some (.iload_n 1, 1) := by decide +kernel
theorem ze_46_87 : z_T g d 46 87 (v0 :: .int x :: ls) st h P = z_T g d 46 88 (v0 :: .int x :: ls) (.int x :: st) h P := zt_iloadn zi_46_87 rfl rfl
theorem zi_46_88 : z_ins 46 88 = some (.iload_n 2, 1) := by decide +kernel
theorem ze_46_88 : z_T g d 46 88 (v0 :: v1 :: .int x :: ls) st h P = z_T g d 46 89 (v0 :: v1 :: .int x :: ls) (.int x :: st) h P := zt_iloadn zi_46_88 rfl rfl
theorem zi_46_89 : z_ins 46 89 = some (.aload_n 0, 1) := by decide +kernel
theorem ze_46_89 : z_T g d 46 89 (.ref a :: ls) st h P = z_T g d 46 90 (.ref a :: ls) (.ref a :: st) h P := zt_aloadn zi_46_89 rfl rfl
theorem zi_46_90 : z_ins 46 90 = some (.getfield 18, 3) := by decide +kernel
theorem ze_46_90 : z_T g d 46 90 ls (.ref a :: st) h P = z_gR h.1 a 5 0 (fun x => z_T g d 46 93 ls (x :: st) h P) := zt_getR zi_46_90 ((congrArg (fun o => z_fl o 18) zo_46).trans zf_LatinRectangles_Parser_18)
theorem zi_46_93 : z_ins 46 93 = some (.getfield 65, 3) := by decide +kernel
theorem ze_46_93 : z_T g d 46 93 ls (.ref a :: st) h P = z_gI h.1 a 7 6 (fun x => z_T g d 46 96 ls (.int x :: st) h P) := zt_getI zi_46_93 ((congrArg (fun o => z_fl o 65) zo_46).trans zf_LatinRectangles_Parser_65)
theorem zi_46_96 : z_ins 46 96 = some (.invokevirtual 110, 3) := by decide +kernel
theorem ze_46_96 : z_T g d 46 96 ls (.int x2 :: .int x1 :: .int x0 :: .ref a :: st) h P = ((z_okS 8 st = true ∧ z_gO h.1 a 3 ∧ 0 < d) ∧ z_Ca g (d - 1) 31 [.ref a, .int x0, .int x1, .int x2] h (fun r => z_k r (fun v h' => z_T g d 46 99 ls (z_push v st) h' P) P)) := zt_cV (as := [.int x0, .int x1, .int x2]) (kk := 0) zi_46_96 rfl (zt_call zj_46 zh_46) (z_opV ((congrArg (fun o => z_lookup z_cns (o, 110)) zo_46).trans zq_cns_LatinRectangles_Parser_110) ((congrArg (fun o => z_lookup z_prs (o, 110)) zo_46).trans zq_prs_LatinRectangles_Parser_110)) ((congrArg (fun o => z_clk o 110) zo_46).trans zk_LatinRectangles_Parser_110) rfl rfl rfl rfl (z_rcv0 zc_31)
theorem zi_46_99 : z_ins 46 99 = some (.iconst 1, 1) := by decide +kernel
theorem ze_46_99 : z_T g d 46 99 ls st h P = z_T g d 46 100 ls (.int (nI 1) :: st) h P := zt_iconst zi_46_99 rfl
theorem zi_46_100 : z_ins 46 100 = some (.ireturn, 1) := by decide +kernel
theorem ze_46_100 : z_T g d 46 100 ls [.int x] h P = ((x = nI 0 ∨ x = nI 1) ∧ P (.inr (some (.int x)), h)) := zt_zreturn zi_46_100 zr_46
-- LatinRectangles$Parser.readBan(II)Z
theorem zm_47 : z_maxL 47 = 4 := by decide +kernel
theorem zh_47 : z_hds 47 = [] := by decide +kernel
theorem zj_47 : z_jdk 47 = false := by decide +kernel
theorem zr_47 : z_rt 47 = (some .boolean) := by decide +kernel
theorem zn_47 : z_Ca g d 47 [.ref a0, .int x1, .int x2] h P = z_T g d 47 0 [.ref a0, .int x1, .int x2, z_un] [] h P := z_Ca_ent zm_47 rfl rfl
theorem zi_47_0 : z_ins 47 0 = some (.aload_n 0, 1) := by decide +kernel
theorem ze_47_0 : z_T g d 47 0 (.ref a :: ls) st h P = z_T g d 47 1 (.ref a :: ls) (.ref a :: st) h P := zt_aloadn zi_47_0 rfl rfl
theorem zi_47_1 : z_ins 47 1 = some (.iconst 0, 1) := by decide +kernel
theorem ze_47_1 : z_T g d 47 1 ls st h P = z_T g d 47 2 ls (.int (nI 0) :: st) h P := zt_iconst zi_47_1 rfl
theorem zi_47_2 : z_ins 47 2 = some (.aload_n 0, 1) := by decide +kernel
theorem ze_47_2 : z_T g d 47 2 (.ref a :: ls) st h P = z_T g d 47 3 (.ref a :: ls) (.ref a :: st) h P := zt_aloadn zi_47_2 rfl rfl
theorem zi_47_3 : z_ins 47 3 = some (.getfield 12, 3) := by decide +kernel
theorem ze_47_3 : z_T g d 47 3 ls (.ref a :: st) h P = z_gR h.1 a 5 1 (fun x => z_T g d 47 6 ls (x :: st) h P) := zt_getR zi_47_3 ((congrArg (fun o => z_fl o 12) zo_47).trans zf_LatinRectangles_Parser_12)
theorem zi_47_6 : z_ins 47 6 = some (.getfield 91, 3) := by decide +kernel
theorem ze_47_6 : z_T g d 47 6 ls (.ref a :: st) h P = z_gI h.1 a 3 6 (fun x => z_T g d 47 9 ls (.int x :: st) h P) := zt_getI zi_47_6 ((congrArg (fun o => z_fl o 91) zo_47).trans zf_LatinRectangles_Parser_91)
theorem zi_47_9 : z_ins 47 9 = some (.iconst 1, 1) := by decide +kernel
theorem ze_47_9 : z_T g d 47 9 ls st h P = z_T g d 47 10 ls (.int (nI 1) :: st) h P := zt_iconst zi_47_9 rfl
theorem zi_47_10 : z_ins 47 10 = some (.isub, 1) := by decide +kernel
theorem ze_47_10 : z_T g d 47 10 ls (.int y :: .int x :: st) h P = z_T g d 47 11 ls (.int (x - y) :: st) h P := zt_bin (f := fun x y => x - y) zi_47_10 rfl (fun _ _ _ => rfl)
theorem zi_47_11 : z_ins 47 11 = some (.invokevirtual 61, 3) := by decide +kernel
theorem ze_47_11 : z_T g d 47 11 ls (.int x1 :: .int x0 :: .ref a :: st) h P = ((z_okS 8 st = true ∧ z_gO h.1 a 5 ∧ 0 < d) ∧ z_Ca g (d - 1) 49 [.ref a, .int x0, .int x1] h (fun r => z_k r (fun v h' => z_T g d 47 14 ls (z_push v st) h' P) P)) := zt_cV (as := [.int x0, .int x1]) (kk := 0) zi_47_11 rfl (zt_call zj_47 zh_47) (z_opV ((congrArg (fun o => z_lookup z_cns (o, 61)) zo_47).trans zq_cns_LatinRectangles_Parser_61) ((congrArg (fun o => z_lookup z_prs (o, 61)) zo_47).trans zq_prs_LatinRectangles_Parser_61)) ((congrArg (fun o => z_clk o 61) zo_47).trans zk_LatinRectangles_Parser_61) rfl rfl rfl rfl (z_rcv0 zc_49)
theorem zi_47_14 : z_ins 47 14 = some (.ifCond .ne 5, 3) := by decide +kernel
theorem ze_47_14 : z_T g d 47 14 ls (.int x :: st) h P = (if x = nI 0 then z_T g d 47 17 ls st h P else z_T g d 47 19 ls st h P) := zt_ifne zi_47_14 (by decide)
theorem zi_47_17 : z_ins 47 17 = some (.iconst 0, 1) := by decide +kernel
theorem ze_47_17 : z_T g d 47 17 ls st h P = z_T g d 47 18 ls (.int (nI 0) :: st) h P := zt_iconst zi_47_17 rfl
theorem zi_47_18 : z_ins 47 18 = some (.ireturn, 1) := by decide +kernel
theorem ze_47_18 : z_T g d 47 18 ls [.int x] h P = ((x = nI 0 ∨ x = nI 1) ∧ P (.inr (some (.int x)), h)) := zt_zreturn zi_47_18 zr_47
theorem zi_47_19 : z_ins 47 19 = some (.iload_n 1, 1) := by decide +kernel
theorem ze_47_19 : z_T g d 47 19 (v0 :: .int x :: ls) st h P = z_T g d 47 20 (v0 :: .int x :: ls) (.int x :: st) h P := zt_iloadn zi_47_19 rfl rfl
theorem zi_47_20 : z_ins 47 20 = some (.iconst 5, 1) := by decide +kernel
theorem ze_47_20 : z_T g d 47 20 ls st h P = z_T g d 47 21 ls (.int (nI 5) :: st) h P := zt_iconst zi_47_20 rfl
theorem zi_47_21 : z_ins 47 21 = some (.imul, 1) := by decide +kernel
theorem ze_47_21 : z_T g d 47 21 ls (.int y :: .int x :: st) h P = z_T g d 47 22 ls (.int (x * y) :: st) h P := zt_bin (f := fun x y => x * y) zi_47_21 rfl (fun _ _ _ => rfl)
theorem zi_47_22 : z_ins 47 22 = some (.iload_n 2, 1) := by decide +kernel
theorem ze_47_22 : z_T g d 47 22 (v0 :: v1 :: .int x :: ls) st h P = z_T g d 47 23 (v0 :: v1 :: .int x :: ls) (.int x :: st) h P := zt_iloadn zi_47_22 rfl rfl
theorem zi_47_23 : z_ins 47 23 = some (.iadd, 1) := by decide +kernel
theorem ze_47_23 : z_T g d 47 23 ls (.int y :: .int x :: st) h P = z_T g d 47 24 ls (.int (x + y) :: st) h P := zt_bin (f := fun x y => x + y) zi_47_23 rfl (fun _ _ _ => rfl)
theorem zi_47_24 : z_ins 47 24 = some (.istore_n 3, 1) := by decide +kernel
theorem ze_47_24 : z_T g d 47 24 (v0 :: v1 :: v2 :: v3 :: ls) (.int x :: st) h P = z_T g d 47 25 (v0 :: v1 :: v2 :: .int x :: ls) st h P := zt_istoren zi_47_24 rfl (Nat.le_add_left 4 _)
theorem zi_47_25 : z_ins 47 25 = some (.aload_n 0, 1) := by decide +kernel
theorem ze_47_25 : z_T g d 47 25 (.ref a :: ls) st h P = z_T g d 47 26 (.ref a :: ls) (.ref a :: st) h P := zt_aloadn zi_47_25 rfl rfl
theorem zi_47_26 : z_ins 47 26 = some (.getfield 12, 3) := by decide +kernel
theorem ze_47_26 : z_T g d 47 26 ls (.ref a :: st) h P = z_gR h.1 a 5 1 (fun x => z_T g d 47 29 ls (x :: st) h P) := zt_getR zi_47_26 ((congrArg (fun o => z_fl o 12) zo_47).trans zf_LatinRectangles_Parser_12)
theorem zi_47_29 : z_ins 47 29 = some (.iload_n 3, 1) := by decide +kernel
theorem ze_47_29 : z_T g d 47 29 (v0 :: v1 :: v2 :: .int x :: ls) st h P = z_T g d 47 30 (v0 :: v1 :: v2 :: .int x :: ls) (.int x :: st) h P := zt_iloadn zi_47_29 rfl rfl
theorem zi_47_30 : z_ins 47 30 = some (.aload_n 0, 1) := by decide +kernel
theorem ze_47_30 : z_T g d 47 30 (.ref a :: ls) st h P = z_T g d 47 31 (.ref a :: ls) (.ref a :: st) h P := zt_aloadn zi_47_30 rfl rfl
theorem zi_47_31 : z_ins 47 31 = some (.getfield 18, 3) := by decide +kernel
theorem ze_47_31 : z_T g d 47 31 ls (.ref a :: st) h P = z_gR h.1 a 5 0 (fun x => z_T g d 47 34 ls (x :: st) h P) := zt_getR zi_47_31 ((congrArg (fun o => z_fl o 18) zo_47).trans zf_LatinRectangles_Parser_18)
theorem zi_47_34 : z_ins 47 34 = some (.getfield 65, 3) := by decide +kernel
theorem ze_47_34 : z_T g d 47 34 ls (.ref a :: st) h P = z_gI h.1 a 7 6 (fun x => z_T g d 47 37 ls (.int x :: st) h P) := zt_getI zi_47_34 ((congrArg (fun o => z_fl o 65) zo_47).trans zf_LatinRectangles_Parser_65)
theorem zi_47_37 : z_ins 47 37 = some (.invokevirtual 114, 3) := by decide +kernel
theorem ze_47_37 : z_T g d 47 37 ls (.int x1 :: .int x0 :: .ref a :: st) h P = ((z_okS 8 st = true ∧ z_gO h.1 a 3 ∧ 0 < d) ∧ z_Ca g (d - 1) 33 [.ref a, .int x0, .int x1] h (fun r => z_k r (fun v h' => z_T g d 47 40 ls (z_push v st) h' P) P)) := zt_cV (as := [.int x0, .int x1]) (kk := 0) zi_47_37 rfl (zt_call zj_47 zh_47) (z_opV ((congrArg (fun o => z_lookup z_cns (o, 114)) zo_47).trans zq_cns_LatinRectangles_Parser_114) ((congrArg (fun o => z_lookup z_prs (o, 114)) zo_47).trans zq_prs_LatinRectangles_Parser_114)) ((congrArg (fun o => z_clk o 114) zo_47).trans zk_LatinRectangles_Parser_114) rfl rfl rfl rfl (z_rcv0 zc_33)
theorem zi_47_40 : z_ins 47 40 = some (.ifCond .ne 22, 3) := by decide +kernel
theorem ze_47_40 : z_T g d 47 40 ls (.int x :: st) h P = (if x = nI 0 then z_T g d 47 43 ls st h P else z_T g d 47 62 ls st h P) := zt_ifne zi_47_40 (by decide)
theorem zi_47_43 : z_ins 47 43 = some (.aload_n 0, 1) := by decide +kernel
theorem ze_47_43 : z_T g d 47 43 (.ref a :: ls) st h P = z_T g d 47 44 (.ref a :: ls) (.ref a :: st) h P := zt_aloadn zi_47_43 rfl rfl
theorem zi_47_44 : z_ins 47 44 = some (.getfield 12, 3) := by decide +kernel
theorem ze_47_44 : z_T g d 47 44 ls (.ref a :: st) h P = z_gR h.1 a 5 1 (fun x => z_T g d 47 47 ls (x :: st) h P) := zt_getR zi_47_44 ((congrArg (fun o => z_fl o 12) zo_47).trans zf_LatinRectangles_Parser_12)
theorem zi_47_47 : z_ins 47 47 = some (.getfield 103, 3) := by decide +kernel
theorem ze_47_47 : z_T g d 47 47 ls (.ref a :: st) h P = z_gR h.1 a 3 0 (fun x => z_T g d 47 50 ls (x :: st) h P) := zt_getR zi_47_47 ((congrArg (fun o => z_fl o 103) zo_47).trans zf_LatinRectangles_Parser_103)
theorem zi_47_50 : z_ins 47 50 = some (.iload_n 3, 1) := by decide +kernel
theorem ze_47_50 : z_T g d 47 50 (v0 :: v1 :: v2 :: .int x :: ls) st h P = z_T g d 47 51 (v0 :: v1 :: v2 :: .int x :: ls) (.int x :: st) h P := zt_iloadn zi_47_50 rfl rfl
theorem zi_47_51 : z_ins 47 51 = some (.iaload, 1) := by decide +kernel
theorem ze_47_51 : z_T g d 47 51 ls (.int x :: .ref a :: st) h P = z_aL h.1 a z_tI x (fun v => z_T g d 47 52 ls (.int v :: st) h P) := zt_iaload zi_47_51
theorem zi_47_52 : z_ins 47 52 = some (.aload_n 0, 1) := by decide +kernel
theorem ze_47_52 : z_T g d 47 52 (.ref a :: ls) st h P = z_T g d 47 53 (.ref a :: ls) (.ref a :: st) h P := zt_aloadn zi_47_52 rfl rfl
theorem zi_47_53 : z_ins 47 53 = some (.getfield 18, 3) := by decide +kernel
theorem ze_47_53 : z_T g d 47 53 ls (.ref a :: st) h P = z_gR h.1 a 5 0 (fun x => z_T g d 47 56 ls (x :: st) h P) := zt_getR zi_47_53 ((congrArg (fun o => z_fl o 18) zo_47).trans zf_LatinRectangles_Parser_18)
theorem zi_47_56 : z_ins 47 56 = some (.getfield 65, 3) := by decide +kernel
theorem ze_47_56 : z_T g d 47 56 ls (.ref a :: st) h P = z_gI h.1 a 7 6 (fun x => z_T g d 47 59 ls (.int x :: st) h P) := zt_getI zi_47_56 ((congrArg (fun o => z_fl o 65) zo_47).trans zf_LatinRectangles_Parser_65)
theorem zi_47_59 : z_ins 47 59 = some (.if_icmp .ne 9, 3) := by decide +kernel
theorem ze_47_59 : z_T g d 47 59 ls (.int y :: .int x :: st) h P = (if x = y then z_T g d 47 62 ls st h P else z_T g d 47 68 ls st h P) := zt_icmpne zi_47_59 (by decide)
theorem zi_47_62 : z_ins 47 62 = some (.aload_n 0, 1) := by decide +kernel
theorem ze_47_62 : z_T g d 47 62 (.ref a :: ls) st h P = z_T g d 47 63 (.ref a :: ls) (.ref a :: st) h P := zt_aloadn zi_47_62 rfl rfl
theorem zi_47_63 : z_ins 47 63 = some (.iconst 2, 1) := by decide +kernel
theorem ze_47_63 : z_T g d 47 63 ls st h P = z_T g d 47 64 ls (.int (nI 2) :: st) h P := zt_iconst zi_47_63 rfl
theorem zi_47_64 : z_ins 47 64 = some (.invokevirtual 48, 3) := by decide +kernel
theorem ze_47_64 : z_T g d 47 64 ls (.int x0 :: .ref a :: st) h P = ((z_okS 8 st = true ∧ z_gO h.1 a 5 ∧ 0 < d) ∧ z_Ca g (d - 1) 43 [.ref a, .int x0] h (fun r => z_k r (fun v h' => z_T g d 47 67 ls (z_push v st) h' P) P)) := zt_cV (as := [.int x0]) (kk := 0) zi_47_64 rfl (zt_call zj_47 zh_47) (z_opV ((congrArg (fun o => z_lookup z_cns (o, 48)) zo_47).trans zq_cns_LatinRectangles_Parser_48) ((congrArg (fun o => z_lookup z_prs (o, 48)) zo_47).trans zq_prs_LatinRectangles_Parser_48)) ((congrArg (fun o => z_clk o 48) zo_47).trans zk_LatinRectangles_Parser_48) rfl rfl rfl rfl (z_rcv0 zc_43)
theorem zi_47_67 : z_ins 47 67 = some (.ireturn, 1) := by decide +kernel
theorem ze_47_67 : z_T g d 47 67 ls [.int x] h P = ((x = nI 0 ∨ x = nI 1) ∧ P (.inr (some (.int x)), h)) := zt_zreturn zi_47_67 zr_47
theorem zi_47_68 : z_ins 47 68 = some (.aload_n 0, 1) := by decide +kernel
theorem ze_47_68 : z_T g d 47 68 (.ref a :: ls) st h P = z_T g d 47 69 (.ref a :: ls) (.ref a :: st) h P := zt_aloadn zi_47_68 rfl rfl
theorem zi_47_69 : z_ins 47 69 = some (.getfield 12, 3) := by decide +kernel
theorem ze_47_69 : z_T g d 47 69 ls (.ref a :: st) h P = z_gR h.1 a 5 1 (fun x => z_T g d 47 72 ls (x :: st) h P) := zt_getR zi_47_69 ((congrArg (fun o => z_fl o 12) zo_47).trans zf_LatinRectangles_Parser_12)
theorem zi_47_72 : z_ins 47 72 = some (.iload_n 3, 1) := by decide +kernel
theorem ze_47_72 : z_T g d 47 72 (v0 :: v1 :: v2 :: .int x :: ls) st h P = z_T g d 47 73 (v0 :: v1 :: v2 :: .int x :: ls) (.int x :: st) h P := zt_iloadn zi_47_72 rfl rfl
theorem zi_47_73 : z_ins 47 73 = some (.aload_n 0, 1) := by decide +kernel
theorem ze_47_73 : z_T g d 47 73 (.ref a :: ls) st h P = z_T g d 47 74 (.ref a :: ls) (.ref a :: st) h P := zt_aloadn zi_47_73 rfl rfl
theorem zi_47_74 : z_ins 47 74 = some (.getfield 18, 3) := by decide +kernel
theorem ze_47_74 : z_T g d 47 74 ls (.ref a :: st) h P = z_gR h.1 a 5 0 (fun x => z_T g d 47 77 ls (x :: st) h P) := zt_getR zi_47_74 ((congrArg (fun o => z_fl o 18) zo_47).trans zf_LatinRectangles_Parser_18)
theorem zi_47_77 : z_ins 47 77 = some (.getfield 65, 3) := by decide +kernel
theorem ze_47_77 : z_T g d 47 77 ls (.ref a :: st) h P = z_gI h.1 a 7 6 (fun x => z_T g d 47 80 ls (.int x :: st) h P) := zt_getI zi_47_77 ((congrArg (fun o => z_fl o 65) zo_47).trans zf_LatinRectangles_Parser_65)
theorem zi_47_80 : z_ins 47 80 = some (.invokevirtual 117, 3) := by decide +kernel
theorem ze_47_80 : z_T g d 47 80 ls (.int x1 :: .int x0 :: .ref a :: st) h P = ((z_okS 8 st = true ∧ z_gO h.1 a 3 ∧ 0 < d) ∧ z_Ca g (d - 1) 32 [.ref a, .int x0, .int x1] h (fun r => z_k r (fun v h' => z_T g d 47 83 ls (z_push v st) h' P) P)) := zt_cV (as := [.int x0, .int x1]) (kk := 0) zi_47_80 rfl (zt_call zj_47 zh_47) (z_opV ((congrArg (fun o => z_lookup z_cns (o, 117)) zo_47).trans zq_cns_LatinRectangles_Parser_117) ((congrArg (fun o => z_lookup z_prs (o, 117)) zo_47).trans zq_prs_LatinRectangles_Parser_117)) ((congrArg (fun o => z_clk o 117) zo_47).trans zk_LatinRectangles_Parser_117) rfl rfl rfl rfl (z_rcv0 zc_32)
theorem zi_47_83 : z_ins 47 83 = some (.iconst 1, 1) := by decide +kernel
theorem ze_47_83 : z_T g d 47 83 ls st h P = z_T g d 47 84 ls (.int (nI 1) :: st) h P := zt_iconst zi_47_83 rfl
theorem zi_47_84 : z_ins 47 84 = some (.ireturn, 1) := by decide +kernel
theorem ze_47_84 : z_T g d 47 84 ls [.int x] h P = ((x = nI 0 ∨ x = nI 1) ∧ P (.inr (some (.int x)), h)) := zt_zreturn zi_47_84 zr_47
-- LatinRectangles$Parser.readNumber()Z
theorem zm_48 : z_maxL 48 = 1 := by decide +kernel
theorem zh_48 : z_hds 48 = [] := by decide +kernel
theorem zj_48 : z_jdk 48 = false := by decide +kernel
theorem zr_48 : z_rt 48 = (some .boolean) := by decide +kernel
theorem zn_48 : z_Ca g d 48 [.ref a0] h P = z_T g d 48 0 [.ref a0] [] h P := z_Ca_ent zm_48 rfl rfl
theorem zi_48_0 : z_ins 48 0 = some (.aload_n 0, 1) := by decide +kernel
theorem ze_48_0 : z_T g d 48 0 (.ref a :: ls) st h P = z_T g d 48 1 (.ref a :: ls) (.ref a :: st) h P := zt_aloadn zi_48_0 rfl rfl
theorem zi_48_1 : z_ins 48 1 = some (.getfield 18, 3) := by decide +kernel
theorem ze_48_1 : z_T g d 48 1 ls (.ref a :: st) h P = z_gR h.1 a 5 0 (fun x => z_T g d 48 4 ls (x :: st) h P) := zt_getR zi_48_1 ((congrArg (fun o => z_fl o 18) zo_48).trans zf_LatinRectangles_Parser_18)
theorem zi_48_4 : z_ins 48 4 = some (.invokevirtual 39, 3) := by decide +kernel
theorem ze_48_4 : z_T g d 48 4 ls (.ref a :: st) h P = ((z_okS 8 st = true ∧ z_gO h.1 a 7 ∧ 0 < d) ∧ z_Ca g (d - 1) 56 [.ref a] h (fun r => z_k r (fun v h' => z_T g d 48 7 ls (z_push v st) h' P) P)) := zt_cV (as := []) (kk := 0) zi_48_4 rfl (zt_call zj_48 zh_48) (z_opV ((congrArg (fun o => z_lookup z_cns (o, 39)) zo_48).trans zq_cns_LatinRectangles_Parser_39) ((congrArg (fun o => z_lookup z_prs (o, 39)) zo_48).trans zq_prs_LatinRectangles_Parser_39)) ((congrArg (fun o => z_clk o 39) zo_48).trans zk_LatinRectangles_Parser_39) rfl rfl rfl rfl (z_rcv0 zc_56)
theorem zi_48_7 : z_ins 48 7 = some (.aload_n 0, 1) := by decide +kernel
theorem ze_48_7 : z_T g d 48 7 (.ref a :: ls) st h P = z_T g d 48 8 (.ref a :: ls) (.ref a :: st) h P := zt_aloadn zi_48_7 rfl rfl
theorem zi_48_8 : z_ins 48 8 = some (.getfield 18, 3) := by decide +kernel
theorem ze_48_8 : z_T g d 48 8 ls (.ref a :: st) h P = z_gR h.1 a 5 0 (fun x => z_T g d 48 11 ls (x :: st) h P) := zt_getR zi_48_8 ((congrArg (fun o => z_fl o 18) zo_48).trans zf_LatinRectangles_Parser_18)
theorem zi_48_11 : z_ins 48 11 = some (.getfield 42, 3) := by decide +kernel
theorem ze_48_11 : z_T g d 48 11 ls (.ref a :: st) h P = z_gI h.1 a 7 4 (fun x => z_T g d 48 14 ls (.int x :: st) h P) := zt_getI zi_48_11 ((congrArg (fun o => z_fl o 42) zo_48).trans zf_LatinRectangles_Parser_42)
theorem zi_48_14 : z_ins 48 14 = some (.iconst 3, 1) := by decide +kernel
theorem ze_48_14 : z_T g d 48 14 ls st h P = z_T g d 48 15 ls (.int (nI 3) :: st) h P := zt_iconst zi_48_14 rfl
theorem zi_48_15 : z_ins 48 15 = some (.if_icmp .eq 11, 3) := by decide +kernel
theorem ze_48_15 : z_T g d 48 15 ls (.int y :: .int x :: st) h P = (if x = y then z_T g d 48 26 ls st h P else z_T g d 48 18 ls st h P) := zt_icmpeq zi_48_15 (by decide)
theorem zi_48_18 : z_ins 48 18 = some (.aload_n 0, 1) := by decide +kernel
theorem ze_48_18 : z_T g d 48 18 (.ref a :: ls) st h P = z_T g d 48 19 (.ref a :: ls) (.ref a :: st) h P := zt_aloadn zi_48_18 rfl rfl
theorem zi_48_19 : z_ins 48 19 = some (.iconst 1, 1) := by decide +kernel
theorem ze_48_19 : z_T g d 48 19 ls st h P = z_T g d 48 20 ls (.int (nI 1) :: st) h P := zt_iconst zi_48_19 rfl
theorem zi_48_20 : z_ins 48 20 = some (.invokevirtual 48, 3) := by decide +kernel
theorem ze_48_20 : z_T g d 48 20 ls (.int x0 :: .ref a :: st) h P = ((z_okS 8 st = true ∧ z_gO h.1 a 5 ∧ 0 < d) ∧ z_Ca g (d - 1) 43 [.ref a, .int x0] h (fun r => z_k r (fun v h' => z_T g d 48 23 ls (z_push v st) h' P) P)) := zt_cV (as := [.int x0]) (kk := 0) zi_48_20 rfl (zt_call zj_48 zh_48) (z_opV ((congrArg (fun o => z_lookup z_cns (o, 48)) zo_48).trans zq_cns_LatinRectangles_Parser_48) ((congrArg (fun o => z_lookup z_prs (o, 48)) zo_48).trans zq_prs_LatinRectangles_Parser_48)) ((congrArg (fun o => z_clk o 48) zo_48).trans zk_LatinRectangles_Parser_48) rfl rfl rfl rfl (z_rcv0 zc_43)
theorem zi_48_23 : z_ins 48 23 = some (.ifCond .eq 7, 3) := by decide +kernel
theorem ze_48_23 : z_T g d 48 23 ls (.int x :: st) h P = (if x = nI 0 then z_T g d 48 30 ls st h P else z_T g d 48 26 ls st h P) := zt_ifeq zi_48_23 (by decide)
theorem zi_48_26 : z_ins 48 26 = some (.iconst 1, 1) := by decide +kernel
theorem ze_48_26 : z_T g d 48 26 ls st h P = z_T g d 48 27 ls (.int (nI 1) :: st) h P := zt_iconst zi_48_26 rfl
theorem zi_48_27 : z_ins 48 27 = some (.goto 4, 3) := by decide +kernel
theorem ze_48_27 : z_T g d 48 27 ls st h P = z_T g d 48 31 ls st h P := zt_goto zi_48_27 (by decide)
theorem zi_48_30 : z_ins 48 30 = some (.iconst 0, 1) := by decide +kernel
theorem ze_48_30 : z_T g d 48 30 ls st h P = z_T g d 48 31 ls (.int (nI 0) :: st) h P := zt_iconst zi_48_30 rfl
theorem zi_48_31 : z_ins 48 31 = some (.ireturn, 1) := by decide +kernel
theorem ze_48_31 : z_T g d 48 31 ls [.int x] h P = ((x = nI 0 ∨ x = nI 1) ∧ P (.inr (some (.int x)), h)) := zt_zreturn zi_48_31 zr_48
-- LatinRectangles$Parser.readNumberWithin(II)Z
theorem zm_49 : z_maxL 49 = 3 := by decide +kernel
theorem zh_49 : z_hds 49 = [] := by decide +kernel
theorem zj_49 : z_jdk 49 = false := by decide +kernel
theorem zr_49 : z_rt 49 = (some .boolean) := by decide +kernel
theorem zn_49 : z_Ca g d 49 [.ref a0, .int x1, .int x2] h P = z_T g d 49 0 [.ref a0, .int x1, .int x2] [] h P := z_Ca_ent zm_49 rfl rfl
theorem zi_49_0 : z_ins 49 0 = some (.aload_n 0, 1) := by decide +kernel
theorem ze_49_0 : z_T g d 49 0 (.ref a :: ls) st h P = z_T g d 49 1 (.ref a :: ls) (.ref a :: st) h P := zt_aloadn zi_49_0 rfl rfl
theorem zi_49_1 : z_ins 49 1 = some (.getfield 18, 3) := by decide +kernel
theorem ze_49_1 : z_T g d 49 1 ls (.ref a :: st) h P = z_gR h.1 a 5 0 (fun x => z_T g d 49 4 ls (x :: st) h P) := zt_getR zi_49_1 ((congrArg (fun o => z_fl o 18) zo_49).trans zf_LatinRectangles_Parser_18)
theorem zi_49_4 : z_ins 49 4 = some (.invokevirtual 39, 3) := by decide +kernel
theorem ze_49_4 : z_T g d 49 4 ls (.ref a :: st) h P = ((z_okS 8 st = true ∧ z_gO h.1 a 7 ∧ 0 < d) ∧ z_Ca g (d - 1) 56 [.ref a] h (fun r => z_k r (fun v h' => z_T g d 49 7 ls (z_push v st) h' P) P)) := zt_cV (as := []) (kk := 0) zi_49_4 rfl (zt_call zj_49 zh_49) (z_opV ((congrArg (fun o => z_lookup z_cns (o, 39)) zo_49).trans zq_cns_LatinRectangles_Parser_39) ((congrArg (fun o => z_lookup z_prs (o, 39)) zo_49).trans zq_prs_LatinRectangles_Parser_39)) ((congrArg (fun o => z_clk o 39) zo_49).trans zk_LatinRectangles_Parser_39) rfl rfl rfl rfl (z_rcv0 zc_56)
theorem zi_49_7 : z_ins 49 7 = some (.aload_n 0, 1) := by decide +kernel
theorem ze_49_7 : z_T g d 49 7 (.ref a :: ls) st h P = z_T g d 49 8 (.ref a :: ls) (.ref a :: st) h P := zt_aloadn zi_49_7 rfl rfl
theorem zi_49_8 : z_ins 49 8 = some (.getfield 18, 3) := by decide +kernel
theorem ze_49_8 : z_T g d 49 8 ls (.ref a :: st) h P = z_gR h.1 a 5 0 (fun x => z_T g d 49 11 ls (x :: st) h P) := zt_getR zi_49_8 ((congrArg (fun o => z_fl o 18) zo_49).trans zf_LatinRectangles_Parser_18)
theorem zi_49_11 : z_ins 49 11 = some (.getfield 42, 3) := by decide +kernel
theorem ze_49_11 : z_T g d 49 11 ls (.ref a :: st) h P = z_gI h.1 a 7 4 (fun x => z_T g d 49 14 ls (.int x :: st) h P) := zt_getI zi_49_11 ((congrArg (fun o => z_fl o 42) zo_49).trans zf_LatinRectangles_Parser_42)
theorem zi_49_14 : z_ins 49 14 = some (.iconst 3, 1) := by decide +kernel
theorem ze_49_14 : z_T g d 49 14 ls st h P = z_T g d 49 15 ls (.int (nI 3) :: st) h P := zt_iconst zi_49_14 rfl
theorem zi_49_15 : z_ins 49 15 = some (.if_icmp .eq 9, 3) := by decide +kernel
theorem ze_49_15 : z_T g d 49 15 ls (.int y :: .int x :: st) h P = (if x = y then z_T g d 49 24 ls st h P else z_T g d 49 18 ls st h P) := zt_icmpeq zi_49_15 (by decide)
theorem zi_49_18 : z_ins 49 18 = some (.aload_n 0, 1) := by decide +kernel
theorem ze_49_18 : z_T g d 49 18 (.ref a :: ls) st h P = z_T g d 49 19 (.ref a :: ls) (.ref a :: st) h P := zt_aloadn zi_49_18 rfl rfl
theorem zi_49_19 : z_ins 49 19 = some (.iconst 1, 1) := by decide +kernel
theorem ze_49_19 : z_T g d 49 19 ls st h P = z_T g d 49 20 ls (.int (nI 1) :: st) h P := zt_iconst zi_49_19 rfl
theorem zi_49_20 : z_ins 49 20 = some (.invokevirtual 48, 3) := by decide +kernel
theorem ze_49_20 : z_T g d 49 20 ls (.int x0 :: .ref a :: st) h P = ((z_okS 8 st = true ∧ z_gO h.1 a 5 ∧ 0 < d) ∧ z_Ca g (d - 1) 43 [.ref a, .int x0] h (fun r => z_k r (fun v h' => z_T g d 49 23 ls (z_push v st) h' P) P)) := zt_cV (as := [.int x0]) (kk := 0) zi_49_20 rfl (zt_call zj_49 zh_49) (z_opV ((congrArg (fun o => z_lookup z_cns (o, 48)) zo_49).trans zq_cns_LatinRectangles_Parser_48) ((congrArg (fun o => z_lookup z_prs (o, 48)) zo_49).trans zq_prs_LatinRectangles_Parser_48)) ((congrArg (fun o => z_clk o 48) zo_49).trans zk_LatinRectangles_Parser_48) rfl rfl rfl rfl (z_rcv0 zc_43)
theorem zi_49_23 : z_ins 49 23 = some (.ireturn, 1) := by decide +kernel
theorem ze_49_23 : z_T g d 49 23 ls [.int x] h P = ((x = nI 0 ∨ x = nI 1) ∧ P (.inr (some (.int x)), h)) := zt_zreturn zi_49_23 zr_49
theorem zi_49_24 : z_ins 49 24 = some (.aload_n 0, 1) := by decide +kernel
theorem ze_49_24 : z_T g d 49 24 (.ref a :: ls) st h P = z_T g d 49 25 (.ref a :: ls) (.ref a :: st) h P := zt_aloadn zi_49_24 rfl rfl
theorem zi_49_25 : z_ins 49 25 = some (.getfield 18, 3) := by decide +kernel
theorem ze_49_25 : z_T g d 49 25 ls (.ref a :: st) h P = z_gR h.1 a 5 0 (fun x => z_T g d 49 28 ls (x :: st) h P) := zt_getR zi_49_25 ((congrArg (fun o => z_fl o 18) zo_49).trans zf_LatinRectangles_Parser_18)
theorem zi_49_28 : z_ins 49 28 = some (.getfield 65, 3) := by decide +kernel
theorem ze_49_28 : z_T g d 49 28 ls (.ref a :: st) h P = z_gI h.1 a 7 6 (fun x => z_T g d 49 31 ls (.int x :: st) h P) := zt_getI zi_49_28 ((congrArg (fun o => z_fl o 65) zo_49).trans zf_LatinRectangles_Parser_65)
theorem zi_49_31 : z_ins 49 31 = some (.iload_n 1, 1) := by decide +kernel
theorem ze_49_31 : z_T g d 49 31 (v0 :: .int x :: ls) st h P = z_T g d 49 32 (v0 :: .int x :: ls) (.int x :: st) h P := zt_iloadn zi_49_31 rfl rfl
theorem zi_49_32 : z_ins 49 32 = some (.if_icmp .lt 14, 3) := by decide +kernel
theorem ze_49_32 : z_T g d 49 32 ls (.int y :: .int x :: st) h P = (if x < y then z_T g d 49 46 ls st h P else z_T g d 49 35 ls st h P) := zt_icmplt zi_49_32 (by decide)
theorem zi_49_35 : z_ins 49 35 = some (.aload_n 0, 1) := by decide +kernel
theorem ze_49_35 : z_T g d 49 35 (.ref a :: ls) st h P = z_T g d 49 36 (.ref a :: ls) (.ref a :: st) h P := zt_aloadn zi_49_35 rfl rfl
theorem zi_49_36 : z_ins 49 36 = some (.getfield 18, 3) := by decide +kernel
theorem ze_49_36 : z_T g d 49 36 ls (.ref a :: st) h P = z_gR h.1 a 5 0 (fun x => z_T g d 49 39 ls (x :: st) h P) := zt_getR zi_49_36 ((congrArg (fun o => z_fl o 18) zo_49).trans zf_LatinRectangles_Parser_18)
theorem zi_49_39 : z_ins 49 39 = some (.getfield 65, 3) := by decide +kernel
theorem ze_49_39 : z_T g d 49 39 ls (.ref a :: st) h P = z_gI h.1 a 7 6 (fun x => z_T g d 49 42 ls (.int x :: st) h P) := zt_getI zi_49_39 ((congrArg (fun o => z_fl o 65) zo_49).trans zf_LatinRectangles_Parser_65)
theorem zi_49_42 : z_ins 49 42 = some (.iload_n 2, 1) := by decide +kernel
theorem ze_49_42 : z_T g d 49 42 (v0 :: v1 :: .int x :: ls) st h P = z_T g d 49 43 (v0 :: v1 :: .int x :: ls) (.int x :: st) h P := zt_iloadn zi_49_42 rfl rfl
theorem zi_49_43 : z_ins 49 43 = some (.if_icmp .le 11, 3) := by decide +kernel
theorem ze_49_43 : z_T g d 49 43 ls (.int y :: .int x :: st) h P = (if y < x then z_T g d 49 46 ls st h P else z_T g d 49 54 ls st h P) := zt_icmple zi_49_43 (by decide)
theorem zi_49_46 : z_ins 49 46 = some (.aload_n 0, 1) := by decide +kernel
theorem ze_49_46 : z_T g d 49 46 (.ref a :: ls) st h P = z_T g d 49 47 (.ref a :: ls) (.ref a :: st) h P := zt_aloadn zi_49_46 rfl rfl
theorem zi_49_47 : z_ins 49 47 = some (.iconst 3, 1) := by decide +kernel
theorem ze_49_47 : z_T g d 49 47 ls st h P = z_T g d 49 48 ls (.int (nI 3) :: st) h P := zt_iconst zi_49_47 rfl
theorem zi_49_48 : z_ins 49 48 = some (.invokevirtual 48, 3) := by decide +kernel
theorem ze_49_48 : z_T g d 49 48 ls (.int x0 :: .ref a :: st) h P = ((z_okS 8 st = true ∧ z_gO h.1 a 5 ∧ 0 < d) ∧ z_Ca g (d - 1) 43 [.ref a, .int x0] h (fun r => z_k r (fun v h' => z_T g d 49 51 ls (z_push v st) h' P) P)) := zt_cV (as := [.int x0]) (kk := 0) zi_49_48 rfl (zt_call zj_49 zh_49) (z_opV ((congrArg (fun o => z_lookup z_cns (o, 48)) zo_49).trans zq_cns_LatinRectangles_Parser_48) ((congrArg (fun o => z_lookup z_prs (o, 48)) zo_49).trans zq_prs_LatinRectangles_Parser_48)) ((congrArg (fun o => z_clk o 48) zo_49).trans zk_LatinRectangles_Parser_48) rfl rfl rfl rfl (z_rcv0 zc_43)
theorem zi_49_51 : z_ins 49 51 = some (.ifCond .eq 7, 3) := by decide +kernel
theorem ze_49_51 : z_T g d 49 51 ls (.int x :: st) h P = (if x = nI 0 then z_T g d 49 58 ls st h P else z_T g d 49 54 ls st h P) := zt_ifeq zi_49_51 (by decide)
theorem zi_49_54 : z_ins 49 54 = some (.iconst 1, 1) := by decide +kernel
theorem ze_49_54 : z_T g d 49 54 ls st h P = z_T g d 49 55 ls (.int (nI 1) :: st) h P := zt_iconst zi_49_54 rfl
theorem zi_49_55 : z_ins 49 55 = some (.goto 4, 3) := by decide +kernel
theorem ze_49_55 : z_T g d 49 55 ls st h P = z_T g d 49 59 ls st h P := zt_goto zi_49_55 (by decide)
theorem zi_49_58 : z_ins 49 58 = some (.iconst 0, 1) := by decide +kernel
theorem ze_49_58 : z_T g d 49 58 ls st h P = z_T g d 49 59 ls (.int (nI 0) :: st) h P := zt_iconst zi_49_58 rfl
theorem zi_49_59 : z_ins 49 59 = some (.ireturn, 1) := by decide +kernel
theorem ze_49_59 : z_T g d 49 59 ls [.int x] h P = ((x = nI 0 ∨ x = nI 1) ∧ P (.inr (some (.int x)), h)) := zt_zreturn zi_49_59 zr_49
-- LatinRectangles$Parser.readSemicolon()Z
theorem zm_50 : z_maxL 50 = 1 := by decide +kernel
theorem zh_50 : z_hds 50 = [] := by decide +kernel
theorem zj_50 : z_jdk 50 = false := by decide +kernel
theorem zr_50 : z_rt 50 = (some .boolean) := by decide +kernel
theorem zn_50 : z_Ca g d 50 [.ref a0] h P = z_T g d 50 0 [.ref a0] [] h P := z_Ca_ent zm_50 rfl rfl
theorem zi_50_0 : z_ins 50 0 = some (.aload_n 0, 1) := by decide +kernel
theorem ze_50_0 : z_T g d 50 0 (.ref a :: ls) st h P = z_T g d 50 1 (.ref a :: ls) (.ref a :: st) h P := zt_aloadn zi_50_0 rfl rfl
theorem zi_50_1 : z_ins 50 1 = some (.getfield 18, 3) := by decide +kernel
theorem ze_50_1 : z_T g d 50 1 ls (.ref a :: st) h P = z_gR h.1 a 5 0 (fun x => z_T g d 50 4 ls (x :: st) h P) := zt_getR zi_50_1 ((congrArg (fun o => z_fl o 18) zo_50).trans zf_LatinRectangles_Parser_18)
theorem zi_50_4 : z_ins 50 4 = some (.invokevirtual 39, 3) := by decide +kernel
theorem ze_50_4 : z_T g d 50 4 ls (.ref a :: st) h P = ((z_okS 8 st = true ∧ z_gO h.1 a 7 ∧ 0 < d) ∧ z_Ca g (d - 1) 56 [.ref a] h (fun r => z_k r (fun v h' => z_T g d 50 7 ls (z_push v st) h' P) P)) := zt_cV (as := []) (kk := 0) zi_50_4 rfl (zt_call zj_50 zh_50) (z_opV ((congrArg (fun o => z_lookup z_cns (o, 39)) zo_50).trans zq_cns_LatinRectangles_Parser_39) ((congrArg (fun o => z_lookup z_prs (o, 39)) zo_50).trans zq_prs_LatinRectangles_Parser_39)) ((congrArg (fun o => z_clk o 39) zo_50).trans zk_LatinRectangles_Parser_39) rfl rfl rfl rfl (z_rcv0 zc_56)
theorem zi_50_7 : z_ins 50 7 = some (.aload_n 0, 1) := by decide +kernel
theorem ze_50_7 : z_T g d 50 7 (.ref a :: ls) st h P = z_T g d 50 8 (.ref a :: ls) (.ref a :: st) h P := zt_aloadn zi_50_7 rfl rfl
theorem zi_50_8 : z_ins 50 8 = some (.getfield 18, 3) := by decide +kernel
theorem ze_50_8 : z_T g d 50 8 ls (.ref a :: st) h P = z_gR h.1 a 5 0 (fun x => z_T g d 50 11 ls (x :: st) h P) := zt_getR zi_50_8 ((congrArg (fun o => z_fl o 18) zo_50).trans zf_LatinRectangles_Parser_18)
theorem zi_50_11 : z_ins 50 11 = some (.getfield 42, 3) := by decide +kernel
theorem ze_50_11 : z_T g d 50 11 ls (.ref a :: st) h P = z_gI h.1 a 7 4 (fun x => z_T g d 50 14 ls (.int x :: st) h P) := zt_getI zi_50_11 ((congrArg (fun o => z_fl o 42) zo_50).trans zf_LatinRectangles_Parser_42)
theorem zi_50_14 : z_ins 50 14 = some (.iconst 4, 1) := by decide +kernel
theorem ze_50_14 : z_T g d 50 14 ls st h P = z_T g d 50 15 ls (.int (nI 4) :: st) h P := zt_iconst zi_50_14 rfl
theorem zi_50_15 : z_ins 50 15 = some (.if_icmp .eq 11, 3) := by decide +kernel
theorem ze_50_15 : z_T g d 50 15 ls (.int y :: .int x :: st) h P = (if x = y then z_T g d 50 26 ls st h P else z_T g d 50 18 ls st h P) := zt_icmpeq zi_50_15 (by decide)
theorem zi_50_18 : z_ins 50 18 = some (.aload_n 0, 1) := by decide +kernel
theorem ze_50_18 : z_T g d 50 18 (.ref a :: ls) st h P = z_T g d 50 19 (.ref a :: ls) (.ref a :: st) h P := zt_aloadn zi_50_18 rfl rfl
theorem zi_50_19 : z_ins 50 19 = some (.iconst 1, 1) := by decide +kernel
theorem ze_50_19 : z_T g d 50 19 ls st h P = z_T g d 50 20 ls (.int (nI 1) :: st) h P := zt_iconst zi_50_19 rfl
theorem zi_50_20 : z_ins 50 20 = some (.invokevirtual 48, 3) := by decide +kernel
theorem ze_50_20 : z_T g d 50 20 ls (.int x0 :: .ref a :: st) h P = ((z_okS 8 st = true ∧ z_gO h.1 a 5 ∧ 0 < d) ∧ z_Ca g (d - 1) 43 [.ref a, .int x0] h (fun r => z_k r (fun v h' => z_T g d 50 23 ls (z_push v st) h' P) P)) := zt_cV (as := [.int x0]) (kk := 0) zi_50_20 rfl (zt_call zj_50 zh_50) (z_opV ((congrArg (fun o => z_lookup z_cns (o, 48)) zo_50).trans zq_cns_LatinRectangles_Parser_48) ((congrArg (fun o => z_lookup z_prs (o, 48)) zo_50).trans zq_prs_LatinRectangles_Parser_48)) ((congrArg (fun o => z_clk o 48) zo_50).trans zk_LatinRectangles_Parser_48) rfl rfl rfl rfl (z_rcv0 zc_43)
theorem zi_50_23 : z_ins 50 23 = some (.ifCond .eq 7, 3) := by decide +kernel
theorem ze_50_23 : z_T g d 50 23 ls (.int x :: st) h P = (if x = nI 0 then z_T g d 50 30 ls st h P else z_T g d 50 26 ls st h P) := zt_ifeq zi_50_23 (by decide)
theorem zi_50_26 : z_ins 50 26 = some (.iconst 1, 1) := by decide +kernel
theorem ze_50_26 : z_T g d 50 26 ls st h P = z_T g d 50 27 ls (.int (nI 1) :: st) h P := zt_iconst zi_50_26 rfl
theorem zi_50_27 : z_ins 50 27 = some (.goto 4, 3) := by decide +kernel
theorem ze_50_27 : z_T g d 50 27 ls st h P = z_T g d 50 31 ls st h P := zt_goto zi_50_27 (by decide)
theorem zi_50_30 : z_ins 50 30 = some (.iconst 0, 1) := by decide +kernel
theorem ze_50_30 : z_T g d 50 30 ls st h P = z_T g d 50 31 ls (.int (nI 0) :: st) h P := zt_iconst zi_50_30 rfl
theorem zi_50_31 : z_ins 50 31 = some (.ireturn, 1) := by decide +kernel
theorem ze_50_31 : z_T g d 50 31 ls [.int x] h P = ((x = nI 0 ∨ x = nI 1) ∧ P (.inr (some (.int x)), h)) := zt_zreturn zi_50_31 zr_50
-- LatinRectangles$Text.<init>()V
theorem zm_53 : z_maxL 53 = 1 := by decide +kernel
theorem zh_53 : z_hds 53 = [] := by decide +kernel
theorem zj_53 : z_jdk 53 = false := by decide +kernel
theorem zr_53 : z_rt 53 = none := by decide +kernel
theorem zn_53 : z_Ca g d 53 [.ref a0] h P = z_T g d 53 0 [.ref a0] [] h P := z_Ca_ent zm_53 rfl rfl
theorem zi_53_0 : z_ins 53 0 = some (.aload_n 0, 1) := by decide +kernel
theorem ze_53_0 : z_T g d 53 0 (.ref a :: ls) st h P = z_T g d 53 1 (.ref a :: ls) (.ref a :: st) h P := zt_aloadn zi_53_0 rfl rfl
theorem zi_53_1 : z_ins 53 1 = some (.invokespecial 3, 3) := by decide +kernel
theorem ze_53_1 : z_T g d 53 1 ls (.ref a :: st) h P = (z_okS 8 st = true ∧ z_T g d 53 4 ls st h P) := zt_objInit zi_53_1 ((congrArg (fun o => z_lookup z_ois (o, 3)) zo_53).trans zq_ois_LatinRectangles_Text_3)
theorem zi_53_4 : z_ins 53 4 = some (.aload_n 0, 1) := by decide +kernel
theorem ze_53_4 : z_T g d 53 4 (.ref a :: ls) st h P = z_T g d 53 5 (.ref a :: ls) (.ref a :: st) h P := zt_aloadn zi_53_4 rfl rfl
theorem zi_53_5 : z_ins 53 5 = some (.sipush 500, 3) := by decide +kernel
theorem ze_53_5 : z_T g d 53 5 ls st h P = z_T g d 53 8 ls (.int (nI 500) :: st) h P := zt_sipush zi_53_5 rfl
theorem zi_53_8 : z_ins 53 8 = some (.newarray .byte, 2) := by decide +kernel
theorem ze_53_8 : z_T g d 53 8 ls (.int x :: st) h P = z_nA h .byte x (fun q h' => z_T g d 53 10 ls (.ref q :: st) h' P) := zt_newarray zi_53_8
theorem zi_53_10 : z_ins 53 10 = some (.putfield 9, 3) := by decide +kernel
theorem ze_53_10 : z_T g d 53 10 ls (.ref b :: .ref a :: st) h P = z_pF h.1 a 7 0 (.ref b) (fun f => z_T g d 53 13 ls st (f, h.2) P) := zt_put zi_53_10 ((congrArg (fun o => z_fl o 9) zo_53).trans zf_LatinRectangles_Text_9) (by decide +kernel) rfl rfl
theorem zi_53_13 : z_ins 53 13 = some (.return_, 1) := by decide +kernel
theorem ze_53_13 : z_T g d 53 13 ls [] h P = P (.inr none, h) := zt_return zi_53_13 zr_53
-- LatinRectangles$Text.add(I)V
theorem zm_54 : z_maxL 54 = 3 := by decide +kernel
theorem zh_54 : z_hds 54 = [] := by decide +kernel
theorem zj_54 : z_jdk 54 = false := by decide +kernel
theorem zr_54 : z_rt 54 = none := by decide +kernel
theorem zn_54 : z_Ca g d 54 [.ref a0, .int x1] h P = z_T g d 54 0 [.ref a0, .int x1, z_un] [] h P := z_Ca_ent zm_54 rfl rfl
theorem zi_54_0 : z_ins 54 0 = some (.bipush 24, 2) := by decide +kernel
theorem ze_54_0 : z_T g d 54 0 ls st h P = z_T g d 54 2 ls (.int (nI 24) :: st) h P := zt_bipush zi_54_0 rfl
theorem zi_54_2 : z_ins 54 2 = some (.istore_n 2, 1) := by decide +kernel
theorem ze_54_2 : z_T g d 54 2 (v0 :: v1 :: v2 :: ls) (.int x :: st) h P = z_T g d 54 3 (v0 :: v1 :: .int x :: ls) st h P := zt_istoren zi_54_2 rfl (Nat.le_add_left 3 _)
theorem zi_54_3 : z_ins 54 3 = some (.iload_n 2, 1) := by decide +kernel
theorem ze_54_3 : z_T g d 54 3 (v0 :: v1 :: .int x :: ls) st h P = z_T g d 54 4 (v0 :: v1 :: .int x :: ls) (.int x :: st) h P := zt_iloadn zi_54_3 rfl rfl
theorem zi_54_4 : z_ins 54 4 = some (.ifCond .lt 42, 3) := by decide +kernel
theorem ze_54_4 : z_T g d 54 4 ls (.int x :: st) h P = (if x < nI 0 then z_T g d 54 46 ls st h P else z_T g d 54 7 ls st h P) := zt_iflt zi_54_4 (by decide)
theorem zi_54_7 : z_ins 54 7 = some (.aload_n 0, 1) := by decide +kernel
theorem ze_54_7 : z_T g d 54 7 (.ref a :: ls) st h P = z_T g d 54 8 (.ref a :: ls) (.ref a :: st) h P := zt_aloadn zi_54_7 rfl rfl
theorem zi_54_8 : z_ins 54 8 = some (.getfield 15, 3) := by decide +kernel
theorem ze_54_8 : z_T g d 54 8 ls (.ref a :: st) h P = z_gI h.1 a 7 1 (fun x => z_T g d 54 11 ls (.int x :: st) h P) := zt_getI zi_54_8 ((congrArg (fun o => z_fl o 15) zo_54).trans zf_LatinRectangles_Text_15)
theorem zi_54_11 : z_ins 54 11 = some (.sipush 500, 3) := by decide +kernel
theorem ze_54_11 : z_T g d 54 11 ls st h P = z_T g d 54 14 ls (.int (nI 500) :: st) h P := zt_sipush zi_54_11 rfl
theorem zi_54_14 : z_ins 54 14 = some (.if_icmp .ge 26, 3) := by decide +kernel
theorem ze_54_14 : z_T g d 54 14 ls (.int y :: .int x :: st) h P = (if x < y then z_T g d 54 17 ls st h P else z_T g d 54 40 ls st h P) := zt_icmpge zi_54_14 (by decide)
theorem zi_54_17 : z_ins 54 17 = some (.aload_n 0, 1) := by decide +kernel
theorem ze_54_17 : z_T g d 54 17 (.ref a :: ls) st h P = z_T g d 54 18 (.ref a :: ls) (.ref a :: st) h P := zt_aloadn zi_54_17 rfl rfl
theorem zi_54_18 : z_ins 54 18 = some (.getfield 9, 3) := by decide +kernel
theorem ze_54_18 : z_T g d 54 18 ls (.ref a :: st) h P = z_gR h.1 a 7 0 (fun x => z_T g d 54 21 ls (x :: st) h P) := zt_getR zi_54_18 ((congrArg (fun o => z_fl o 9) zo_54).trans zf_LatinRectangles_Text_9)
theorem zi_54_21 : z_ins 54 21 = some (.aload_n 0, 1) := by decide +kernel
theorem ze_54_21 : z_T g d 54 21 (.ref a :: ls) st h P = z_T g d 54 22 (.ref a :: ls) (.ref a :: st) h P := zt_aloadn zi_54_21 rfl rfl
theorem zi_54_22 : z_ins 54 22 = some (.getfield 15, 3) := by decide +kernel
theorem ze_54_22 : z_T g d 54 22 ls (.ref a :: st) h P = z_gI h.1 a 7 1 (fun x => z_T g d 54 25 ls (.int x :: st) h P) := zt_getI zi_54_22 ((congrArg (fun o => z_fl o 15) zo_54).trans zf_LatinRectangles_Text_15)
theorem zi_54_25 : z_ins 54 25 = some (.iload_n 1, 1) := by decide +kernel
theorem ze_54_25 : z_T g d 54 25 (v0 :: .int x :: ls) st h P = z_T g d 54 26 (v0 :: .int x :: ls) (.int x :: st) h P := zt_iloadn zi_54_25 rfl rfl
theorem zi_54_26 : z_ins 54 26 = some (.iload_n 2, 1) := by decide +kernel
theorem ze_54_26 : z_T g d 54 26 (v0 :: v1 :: .int x :: ls) st h P = z_T g d 54 27 (v0 :: v1 :: .int x :: ls) (.int x :: st) h P := zt_iloadn zi_54_26 rfl rfl
theorem zi_54_27 : z_ins 54 27 = some (.iushr, 1) := by decide +kernel
theorem ze_54_27 : z_T g d 54 27 ls (.int y :: .int x :: st) h P = z_T g d 54 28 ls (.int ((x.toUInt32 >>> (y.toUInt32 &&& Int32.toUInt32 31)).toInt32) :: st) h P := zt_bin (f := fun x y => (x.toUInt32 >>> (y.toUInt32 &&& Int32.toUInt32 31)).toInt32) zi_54_27 rfl (fun _ _ _ => rfl)
theorem zi_54_28 : z_ins 54 28 = some (.i2b, 1) := by decide +kernel
theorem ze_54_28 : z_T g d 54 28 ls (.int x :: st) h P = z_T g d 54 29 ls (.int x.toInt8.toInt32 :: st) h P := zt_i2b zi_54_28
theorem zi_54_29 : z_ins 54 29 = some (.bastore, 1) := by decide +kernel
theorem ze_54_29 : z_T g d 54 29 ls (.int y :: .int x :: .ref a :: st) h P = z_aS h.1 a z_tB x y (fun f => z_T g d 54 30 ls st (f, h.2) P) := zt_bastore zi_54_29
theorem zi_54_30 : z_ins 54 30 = some (.aload_n 0, 1) := by decide +kernel
theorem ze_54_30 : z_T g d 54 30 (.ref a :: ls) st h P = z_T g d 54 31 (.ref a :: ls) (.ref a :: st) h P := zt_aloadn zi_54_30 rfl rfl
theorem zi_54_31 : z_ins 54 31 = some (.dup, 1) := by decide +kernel
theorem ze_54_31 : z_T g d 54 31 ls (.ref a :: st) h P = z_T g d 54 32 ls (.ref a :: .ref a :: st) h P := zt_dup rfl zi_54_31
theorem ze_54_31_i : z_T g d 54 31 ls (.int x :: st) h P = z_T g d 54 32 ls (.int x :: .int x :: st) h P := zt_dup rfl zi_54_31
theorem zi_54_32 : z_ins 54 32 = some (.getfield 15, 3) := by decide +kernel
theorem ze_54_32 : z_T g d 54 32 ls (.ref a :: st) h P = z_gI h.1 a 7 1 (fun x => z_T g d 54 35 ls (.int x :: st) h P) := zt_getI zi_54_32 ((congrArg (fun o => z_fl o 15) zo_54).trans zf_LatinRectangles_Text_15)
theorem zi_54_35 : z_ins 54 35 = some (.iconst 1, 1) := by decide +kernel
theorem ze_54_35 : z_T g d 54 35 ls st h P = z_T g d 54 36 ls (.int (nI 1) :: st) h P := zt_iconst zi_54_35 rfl
theorem zi_54_36 : z_ins 54 36 = some (.iadd, 1) := by decide +kernel
theorem ze_54_36 : z_T g d 54 36 ls (.int y :: .int x :: st) h P = z_T g d 54 37 ls (.int (x + y) :: st) h P := zt_bin (f := fun x y => x + y) zi_54_36 rfl (fun _ _ _ => rfl)
theorem zi_54_37 : z_ins 54 37 = some (.putfield 15, 3) := by decide +kernel
theorem ze_54_37 : z_T g d 54 37 ls (.int x :: .ref a :: st) h P = z_pF h.1 a 7 1 (.int x) (fun f => z_T g d 54 40 ls st (f, h.2) P) := zt_put zi_54_37 ((congrArg (fun o => z_fl o 15) zo_54).trans zf_LatinRectangles_Text_15) (by decide +kernel) rfl rfl
theorem zi_54_40 : z_ins 54 40 = some (.iinc 2 (-8), 3) := by decide +kernel
theorem ze_54_40 : z_T g d 54 40 (v0 :: v1 :: .int x :: ls) st h P = z_T g d 54 43 (v0 :: v1 :: .int (x + (-8)) :: ls) st h P := zt_iinc zi_54_40 rfl rfl
theorem zi_54_43 : z_ins 54 43 = some (.goto (-40), 3) := by decide +kernel
theorem ze_54_43 : z_T g d 54 43 ls st h P = z_T g d 54 3 ls st h P := zt_goto zi_54_43 (by decide)
theorem zi_54_46 : z_ins 54 46 = some (.return_, 1) := by decide +kernel
theorem ze_54_46 : z_T g d 54 46 ls [] h P = P (.inr none, h) := zt_return zi_54_46 zr_54
-- LatinRectangles$Text.open(I)V
theorem zm_55 : z_maxL 55 = 2 := by decide +kernel
theorem zh_55 : z_hds 55 = [] := by decide +kernel
theorem zj_55 : z_jdk 55 = false := by decide +kernel
theorem zr_55 : z_rt 55 = none := by decide +kernel
theorem zn_55 : z_Ca g d 55 [.ref a0, .int x1] h P = z_T g d 55 0 [.ref a0, .int x1] [] h P := z_Ca_ent zm_55 rfl rfl
theorem zi_55_0 : z_ins 55 0 = some (.aload_n 0, 1) := by decide +kernel
theorem ze_55_0 : z_T g d 55 0 (.ref a :: ls) st h P = z_T g d 55 1 (.ref a :: ls) (.ref a :: st) h P := zt_aloadn zi_55_0 rfl rfl
theorem zi_55_1 : z_ins 55 1 = some (.iload_n 1, 1) := by decide +kernel
theorem ze_55_1 : z_T g d 55 1 (v0 :: .int x :: ls) st h P = z_T g d 55 2 (v0 :: .int x :: ls) (.int x :: st) h P := zt_iloadn zi_55_1 rfl rfl
theorem zi_55_2 : z_ins 55 2 = some (.aload_n 0, 1) := by decide +kernel
theorem ze_55_2 : z_T g d 55 2 (.ref a :: ls) st h P = z_T g d 55 3 (.ref a :: ls) (.ref a :: st) h P := zt_aloadn zi_55_2 rfl rfl
theorem zi_55_3 : z_ins 55 3 = some (.getfield 15, 3) := by decide +kernel
theorem ze_55_3 : z_T g d 55 3 ls (.ref a :: st) h P = z_gI h.1 a 7 1 (fun x => z_T g d 55 6 ls (.int x :: st) h P) := zt_getI zi_55_3 ((congrArg (fun o => z_fl o 15) zo_55).trans zf_LatinRectangles_Text_15)
theorem zi_55_6 : z_ins 55 6 = some (.invokestatic 19, 3) := by decide +kernel
theorem ze_55_6 (hok : z_okS 8 (.int y :: .int x :: st) = true) : z_T g d 55 6 ls (.int y :: .int x :: st) h P = z_T g d 55 9 ls (.int (if y < x then y else x) :: st) h P := zt_primS zi_55_6 ((congrArg (fun o => z_lookup z_cps (o, 19)) zo_55).trans zq_cps_LatinRectangles_Text_19) ((congrArg (fun o => z_lookup z_prs (o, 19)) zo_55).trans zq_prs_LatinRectangles_Text_19) (by decide) hok rfl
theorem zi_55_9 : z_ins 55 9 = some (.putfield 25, 3) := by decide +kernel
theorem ze_55_9 : z_T g d 55 9 ls (.int x :: .ref a :: st) h P = z_pF h.1 a 7 2 (.int x) (fun f => z_T g d 55 12 ls st (f, h.2) P) := zt_put zi_55_9 ((congrArg (fun o => z_fl o 25) zo_55).trans zf_LatinRectangles_Text_25) (by decide +kernel) rfl rfl
theorem zi_55_12 : z_ins 55 12 = some (.aload_n 0, 1) := by decide +kernel
theorem ze_55_12 : z_T g d 55 12 (.ref a :: ls) st h P = z_T g d 55 13 (.ref a :: ls) (.ref a :: st) h P := zt_aloadn zi_55_12 rfl rfl
theorem zi_55_13 : z_ins 55 13 = some (.iconst 0, 1) := by decide +kernel
theorem ze_55_13 : z_T g d 55 13 ls st h P = z_T g d 55 14 ls (.int (nI 0) :: st) h P := zt_iconst zi_55_13 rfl
theorem zi_55_14 : z_ins 55 14 = some (.putfield 28, 3) := by decide +kernel
theorem ze_55_14 : z_T g d 55 14 ls (.int x :: .ref a :: st) h P = z_pF h.1 a 7 3 (.int x) (fun f => z_T g d 55 17 ls st (f, h.2) P) := zt_put zi_55_14 ((congrArg (fun o => z_fl o 28) zo_55).trans zf_LatinRectangles_Text_28) (by decide +kernel) rfl rfl
theorem zi_55_17 : z_ins 55 17 = some (.aload_n 0, 1) := by decide +kernel
theorem ze_55_17 : z_T g d 55 17 (.ref a :: ls) st h P = z_T g d 55 18 (.ref a :: ls) (.ref a :: st) h P := zt_aloadn zi_55_17 rfl rfl
theorem zi_55_18 : z_ins 55 18 = some (.iconst 0, 1) := by decide +kernel
theorem ze_55_18 : z_T g d 55 18 ls st h P = z_T g d 55 19 ls (.int (nI 0) :: st) h P := zt_iconst zi_55_18 rfl
theorem zi_55_19 : z_ins 55 19 = some (.putfield 31, 3) := by decide +kernel
theorem ze_55_19 : z_T g d 55 19 ls (.int x :: .ref a :: st) h P = z_pF h.1 a 7 5 (.int x) (fun f => z_T g d 55 22 ls st (f, h.2) P) := zt_put zi_55_19 ((congrArg (fun o => z_fl o 31) zo_55).trans zf_LatinRectangles_Text_31) (by decide +kernel) rfl rfl
theorem zi_55_22 : z_ins 55 22 = some (.aload_n 0, 1) := by decide +kernel
theorem ze_55_22 : z_T g d 55 22 (.ref a :: ls) st h P = z_T g d 55 23 (.ref a :: ls) (.ref a :: st) h P := zt_aloadn zi_55_22 rfl rfl
theorem zi_55_23 : z_ins 55 23 = some (.iconst 0, 1) := by decide +kernel
theorem ze_55_23 : z_T g d 55 23 ls st h P = z_T g d 55 24 ls (.int (nI 0) :: st) h P := zt_iconst zi_55_23 rfl
theorem zi_55_24 : z_ins 55 24 = some (.putfield 34, 3) := by decide +kernel
theorem ze_55_24 : z_T g d 55 24 ls (.int x :: .ref a :: st) h P = z_pF h.1 a 7 4 (.int x) (fun f => z_T g d 55 27 ls st (f, h.2) P) := zt_put zi_55_24 ((congrArg (fun o => z_fl o 34) zo_55).trans zf_LatinRectangles_Text_34) (by decide +kernel) rfl rfl
theorem zi_55_27 : z_ins 55 27 = some (.aload_n 0, 1) := by decide +kernel
theorem ze_55_27 : z_T g d 55 27 (.ref a :: ls) st h P = z_T g d 55 28 (.ref a :: ls) (.ref a :: st) h P := zt_aloadn zi_55_27 rfl rfl
theorem zi_55_28 : z_ins 55 28 = some (.iconst 0, 1) := by decide +kernel
theorem ze_55_28 : z_T g d 55 28 ls st h P = z_T g d 55 29 ls (.int (nI 0) :: st) h P := zt_iconst zi_55_28 rfl
theorem zi_55_29 : z_ins 55 29 = some (.putfield 37, 3) := by decide +kernel
theorem ze_55_29 : z_T g d 55 29 ls (.int x :: .ref a :: st) h P = z_pF h.1 a 7 6 (.int x) (fun f => z_T g d 55 32 ls st (f, h.2) P) := zt_put zi_55_29 ((congrArg (fun o => z_fl o 37) zo_55).trans zf_LatinRectangles_Text_37) (by decide +kernel) rfl rfl
theorem zi_55_32 : z_ins 55 32 = some (.return_, 1) := by decide +kernel
theorem ze_55_32 : z_T g d 55 32 ls [] h P = P (.inr none, h) := zt_return zi_55_32 zr_55
-- LatinRectangles$Text.advance()V
theorem zm_56 : z_maxL 56 = 2 := by decide +kernel
theorem zh_56 : z_hds 56 = [] := by decide +kernel
theorem zj_56 : z_jdk 56 = false := by decide +kernel
theorem zr_56 : z_rt 56 = none := by decide +kernel
theorem zn_56 : z_Ca g d 56 [.ref a0] h P = z_T g d 56 0 [.ref a0, z_un] [] h P := z_Ca_ent zm_56 rfl rfl
theorem zi_56_0 : z_ins 56 0 = some (.aload_n 0, 1) := by decide +kernel
theorem ze_56_0 : z_T g d 56 0 (.ref a :: ls) st h P = z_T g d 56 1 (.ref a :: ls) (.ref a :: st) h P := zt_aloadn zi_56_0 rfl rfl
theorem zi_56_1 : z_ins 56 1 = some (.getfield 28, 3) := by decide +kernel
theorem ze_56_1 : z_T g d 56 1 ls (.ref a :: st) h P = z_gI h.1 a 7 3 (fun x => z_T g d 56 4 ls (.int x :: st) h P) := zt_getI zi_56_1 ((congrArg (fun o => z_fl o 28) zo_56).trans zf_LatinRectangles_Text_28)
theorem zi_56_4 : z_ins 56 4 = some (.aload_n 0, 1) := by decide +kernel
theorem ze_56_4 : z_T g d 56 4 (.ref a :: ls) st h P = z_T g d 56 5 (.ref a :: ls) (.ref a :: st) h P := zt_aloadn zi_56_4 rfl rfl
theorem zi_56_5 : z_ins 56 5 = some (.getfield 25, 3) := by decide +kernel
theorem ze_56_5 : z_T g d 56 5 ls (.ref a :: st) h P = z_gI h.1 a 7 2 (fun x => z_T g d 56 8 ls (.int x :: st) h P) := zt_getI zi_56_5 ((congrArg (fun o => z_fl o 25) zo_56).trans zf_LatinRectangles_Text_25)
theorem zi_56_8 : z_ins 56 8 = some (.if_icmp .ge 44, 3) := by decide +kernel
theorem ze_56_8 : z_T g d 56 8 ls (.int y :: .int x :: st) h P = (if x < y then z_T g d 56 11 ls st h P else z_T g d 56 52 ls st h P) := zt_icmpge zi_56_8 (by decide)
theorem zi_56_11 : z_ins 56 11 = some (.aload_n 0, 1) := by decide +kernel
theorem ze_56_11 : z_T g d 56 11 (.ref a :: ls) st h P = z_T g d 56 12 (.ref a :: ls) (.ref a :: st) h P := zt_aloadn zi_56_11 rfl rfl
theorem zi_56_12 : z_ins 56 12 = some (.getfield 9, 3) := by decide +kernel
theorem ze_56_12 : z_T g d 56 12 ls (.ref a :: st) h P = z_gR h.1 a 7 0 (fun x => z_T g d 56 15 ls (x :: st) h P) := zt_getR zi_56_12 ((congrArg (fun o => z_fl o 9) zo_56).trans zf_LatinRectangles_Text_9)
theorem zi_56_15 : z_ins 56 15 = some (.aload_n 0, 1) := by decide +kernel
theorem ze_56_15 : z_T g d 56 15 (.ref a :: ls) st h P = z_T g d 56 16 (.ref a :: ls) (.ref a :: st) h P := zt_aloadn zi_56_15 rfl rfl
theorem zi_56_16 : z_ins 56 16 = some (.getfield 28, 3) := by decide +kernel
theorem ze_56_16 : z_T g d 56 16 ls (.ref a :: st) h P = z_gI h.1 a 7 3 (fun x => z_T g d 56 19 ls (.int x :: st) h P) := zt_getI zi_56_16 ((congrArg (fun o => z_fl o 28) zo_56).trans zf_LatinRectangles_Text_28)
theorem zi_56_19 : z_ins 56 19 = some (.baload, 1) := by decide +kernel
theorem ze_56_19 : z_T g d 56 19 ls (.int x :: .ref a :: st) h P = z_aL h.1 a z_tB x (fun v => z_T g d 56 20 ls (.int v :: st) h P) := zt_baload zi_56_19
theorem zi_56_20 : z_ins 56 20 = some (.bipush 32, 2) := by decide +kernel
theorem ze_56_20 : z_T g d 56 20 ls st h P = z_T g d 56 22 ls (.int (nI 32) :: st) h P := zt_bipush zi_56_20 rfl
theorem zi_56_22 : z_ins 56 22 = some (.if_icmp .eq 17, 3) := by decide +kernel
theorem ze_56_22 : z_T g d 56 22 ls (.int y :: .int x :: st) h P = (if x = y then z_T g d 56 39 ls st h P else z_T g d 56 25 ls st h P) := zt_icmpeq zi_56_22 (by decide)
theorem zi_56_25 : z_ins 56 25 = some (.aload_n 0, 1) := by decide +kernel
theorem ze_56_25 : z_T g d 56 25 (.ref a :: ls) st h P = z_T g d 56 26 (.ref a :: ls) (.ref a :: st) h P := zt_aloadn zi_56_25 rfl rfl
theorem zi_56_26 : z_ins 56 26 = some (.getfield 9, 3) := by decide +kernel
theorem ze_56_26 : z_T g d 56 26 ls (.ref a :: st) h P = z_gR h.1 a 7 0 (fun x => z_T g d 56 29 ls (x :: st) h P) := zt_getR zi_56_26 ((congrArg (fun o => z_fl o 9) zo_56).trans zf_LatinRectangles_Text_9)
theorem zi_56_29 : z_ins 56 29 = some (.aload_n 0, 1) := by decide +kernel
theorem ze_56_29 : z_T g d 56 29 (.ref a :: ls) st h P = z_T g d 56 30 (.ref a :: ls) (.ref a :: st) h P := zt_aloadn zi_56_29 rfl rfl
theorem zi_56_30 : z_ins 56 30 = some (.getfield 28, 3) := by decide +kernel
theorem ze_56_30 : z_T g d 56 30 ls (.ref a :: st) h P = z_gI h.1 a 7 3 (fun x => z_T g d 56 33 ls (.int x :: st) h P) := zt_getI zi_56_30 ((congrArg (fun o => z_fl o 28) zo_56).trans zf_LatinRectangles_Text_28)
theorem zi_56_33 : z_ins 56 33 = some (.baload, 1) := by decide +kernel
theorem ze_56_33 : z_T g d 56 33 ls (.int x :: .ref a :: st) h P = z_aL h.1 a z_tB x (fun v => z_T g d 56 34 ls (.int v :: st) h P) := zt_baload zi_56_33
theorem zi_56_34 : z_ins 56 34 = some (.bipush 10, 2) := by decide +kernel
theorem ze_56_34 : z_T g d 56 34 ls st h P = z_T g d 56 36 ls (.int (nI 10) :: st) h P := zt_bipush zi_56_34 rfl
theorem zi_56_36 : z_ins 56 36 = some (.if_icmp .ne 16, 3) := by decide +kernel
theorem ze_56_36 : z_T g d 56 36 ls (.int y :: .int x :: st) h P = (if x = y then z_T g d 56 39 ls st h P else z_T g d 56 52 ls st h P) := zt_icmpne zi_56_36 (by decide)
theorem zi_56_39 : z_ins 56 39 = some (.aload_n 0, 1) := by decide +kernel
theorem ze_56_39 : z_T g d 56 39 (.ref a :: ls) st h P = z_T g d 56 40 (.ref a :: ls) (.ref a :: st) h P := zt_aloadn zi_56_39 rfl rfl
theorem zi_56_40 : z_ins 56 40 = some (.dup, 1) := by decide +kernel
theorem ze_56_40 : z_T g d 56 40 ls (.ref a :: st) h P = z_T g d 56 41 ls (.ref a :: .ref a :: st) h P := zt_dup rfl zi_56_40
theorem ze_56_40_i : z_T g d 56 40 ls (.int x :: st) h P = z_T g d 56 41 ls (.int x :: .int x :: st) h P := zt_dup rfl zi_56_40
theorem zi_56_41 : z_ins 56 41 = some (.getfield 28, 3) := by decide +kernel
theorem ze_56_41 : z_T g d 56 41 ls (.ref a :: st) h P = z_gI h.1 a 7 3 (fun x => z_T g d 56 44 ls (.int x :: st) h P) := zt_getI zi_56_41 ((congrArg (fun o => z_fl o 28) zo_56).trans zf_LatinRectangles_Text_28)
theorem zi_56_44 : z_ins 56 44 = some (.iconst 1, 1) := by decide +kernel
theorem ze_56_44 : z_T g d 56 44 ls st h P = z_T g d 56 45 ls (.int (nI 1) :: st) h P := zt_iconst zi_56_44 rfl
theorem zi_56_45 : z_ins 56 45 = some (.iadd, 1) := by decide +kernel
theorem ze_56_45 : z_T g d 56 45 ls (.int y :: .int x :: st) h P = z_T g d 56 46 ls (.int (x + y) :: st) h P := zt_bin (f := fun x y => x + y) zi_56_45 rfl (fun _ _ _ => rfl)
theorem zi_56_46 : z_ins 56 46 = some (.putfield 28, 3) := by decide +kernel
theorem ze_56_46 : z_T g d 56 46 ls (.int x :: .ref a :: st) h P = z_pF h.1 a 7 3 (.int x) (fun f => z_T g d 56 49 ls st (f, h.2) P) := zt_put zi_56_46 ((congrArg (fun o => z_fl o 28) zo_56).trans zf_LatinRectangles_Text_28) (by decide +kernel) rfl rfl
theorem zi_56_49 : z_ins 56 49 = some (.goto (-49), 3) := by decide +kernel
theorem ze_56_49 : z_T g d 56 49 ls st h P = z_T g d 56 0 ls st h P := zt_goto zi_56_49 (by decide)
theorem zi_56_52 : z_ins 56 52 = some (.aload_n 0, 1) := by decide +kernel
theorem ze_56_52 : z_T g d 56 52 (.ref a :: ls) st h P = z_T g d 56 53 (.ref a :: ls) (.ref a :: st) h P := zt_aloadn zi_56_52 rfl rfl
theorem zi_56_53 : z_ins 56 53 = some (.aload_n 0, 1) := by decide +kernel
theorem ze_56_53 : z_T g d 56 53 (.ref a :: ls) st h P = z_T g d 56 54 (.ref a :: ls) (.ref a :: st) h P := zt_aloadn zi_56_53 rfl rfl
theorem zi_56_54 : z_ins 56 54 = some (.getfield 28, 3) := by decide +kernel
theorem ze_56_54 : z_T g d 56 54 ls (.ref a :: st) h P = z_gI h.1 a 7 3 (fun x => z_T g d 56 57 ls (.int x :: st) h P) := zt_getI zi_56_54 ((congrArg (fun o => z_fl o 28) zo_56).trans zf_LatinRectangles_Text_28)
theorem zi_56_57 : z_ins 56 57 = some (.putfield 31, 3) := by decide +kernel
theorem ze_56_57 : z_T g d 56 57 ls (.int x :: .ref a :: st) h P = z_pF h.1 a 7 5 (.int x) (fun f => z_T g d 56 60 ls st (f, h.2) P) := zt_put zi_56_57 ((congrArg (fun o => z_fl o 31) zo_56).trans zf_LatinRectangles_Text_31) (by decide +kernel) rfl rfl
theorem zi_56_60 : z_ins 56 60 = some (.aload_n 0, 1) := by decide +kernel
theorem ze_56_60 : z_T g d 56 60 (.ref a :: ls) st h P = z_T g d 56 61 (.ref a :: ls) (.ref a :: st) h P := zt_aloadn zi_56_60 rfl rfl
theorem zi_56_61 : z_ins 56 61 = some (.getfield 31, 3) := by decide +kernel
theorem ze_56_61 : z_T g d 56 61 ls (.ref a :: st) h P = z_gI h.1 a 7 5 (fun x => z_T g d 56 64 ls (.int x :: st) h P) := zt_getI zi_56_61 ((congrArg (fun o => z_fl o 31) zo_56).trans zf_LatinRectangles_Text_31)
theorem zi_56_64 : z_ins 56 64 = some (.aload_n 0, 1) := by decide +kernel
theorem ze_56_64 : z_T g d 56 64 (.ref a :: ls) st h P = z_T g d 56 65 (.ref a :: ls) (.ref a :: st) h P := zt_aloadn zi_56_64 rfl rfl
theorem zi_56_65 : z_ins 56 65 = some (.getfield 25, 3) := by decide +kernel
theorem ze_56_65 : z_T g d 56 65 ls (.ref a :: st) h P = z_gI h.1 a 7 2 (fun x => z_T g d 56 68 ls (.int x :: st) h P) := zt_getI zi_56_65 ((congrArg (fun o => z_fl o 25) zo_56).trans zf_LatinRectangles_Text_25)
theorem zi_56_68 : z_ins 56 68 = some (.if_icmp .lt 9, 3) := by decide +kernel
theorem ze_56_68 : z_T g d 56 68 ls (.int y :: .int x :: st) h P = (if x < y then z_T g d 56 77 ls st h P else z_T g d 56 71 ls st h P) := zt_icmplt zi_56_68 (by decide)
theorem zi_56_71 : z_ins 56 71 = some (.aload_n 0, 1) := by decide +kernel
theorem ze_56_71 : z_T g d 56 71 (.ref a :: ls) st h P = z_T g d 56 72 (.ref a :: ls) (.ref a :: st) h P := zt_aloadn zi_56_71 rfl rfl
theorem zi_56_72 : z_ins 56 72 = some (.iconst 0, 1) := by decide +kernel
theorem ze_56_72 : z_T g d 56 72 ls st h P = z_T g d 56 73 ls (.int (nI 0) :: st) h P := zt_iconst zi_56_72 rfl
theorem zi_56_73 : z_ins 56 73 = some (.putfield 34, 3) := by decide +kernel
theorem ze_56_73 : z_T g d 56 73 ls (.int x :: .ref a :: st) h P = z_pF h.1 a 7 4 (.int x) (fun f => z_T g d 56 76 ls st (f, h.2) P) := zt_put zi_56_73 ((congrArg (fun o => z_fl o 34) zo_56).trans zf_LatinRectangles_Text_34) (by decide +kernel) rfl rfl
theorem zi_56_76 : z_ins 56 76 = some (.return_, 1) := by decide +kernel
theorem ze_56_76 : z_T g d 56 76 ls [] h P = P (.inr none, h) := zt_return zi_56_76 zr_56
theorem zi_56_77 : z_ins 56 77 = some (.aload_n 0, 1) := by decide +kernel
theorem ze_56_77 : z_T g d 56 77 (.ref a :: ls) st h P = z_T g d 56 78 (.ref a :: ls) (.ref a :: st) h P := zt_aloadn zi_56_77 rfl rfl
theorem zi_56_78 : z_ins 56 78 = some (.getfield 9, 3) := by decide +kernel
theorem ze_56_78 : z_T g d 56 78 ls (.ref a :: st) h P = z_gR h.1 a 7 0 (fun x => z_T g d 56 81 ls (x :: st) h P) := zt_getR zi_56_78 ((congrArg (fun o => z_fl o 9) zo_56).trans zf_LatinRectangles_Text_9)
theorem zi_56_81 : z_ins 56 81 = some (.aload_n 0, 1) := by decide +kernel
theorem ze_56_81 : z_T g d 56 81 (.ref a :: ls) st h P = z_T g d 56 82 (.ref a :: ls) (.ref a :: st) h P := zt_aloadn zi_56_81 rfl rfl
theorem zi_56_82 : z_ins 56 82 = some (.getfield 31, 3) := by decide +kernel
theorem ze_56_82 : z_T g d 56 82 ls (.ref a :: st) h P = z_gI h.1 a 7 5 (fun x => z_T g d 56 85 ls (.int x :: st) h P) := zt_getI zi_56_82 ((congrArg (fun o => z_fl o 31) zo_56).trans zf_LatinRectangles_Text_31)
theorem zi_56_85 : z_ins 56 85 = some (.baload, 1) := by decide +kernel
theorem ze_56_85 : z_T g d 56 85 ls (.int x :: .ref a :: st) h P = z_aL h.1 a z_tB x (fun v => z_T g d 56 86 ls (.int v :: st) h P) := zt_baload zi_56_85
theorem zi_56_86 : z_ins 56 86 = some (.istore_n 1, 1) := by decide +kernel
theorem ze_56_86 : z_T g d 56 86 (v0 :: v1 :: ls) (.int x :: st) h P = z_T g d 56 87 (v0 :: .int x :: ls) st h P := zt_istoren zi_56_86 rfl (Nat.le_add_left 2 _)
theorem zi_56_87 : z_ins 56 87 = some (.iload_n 1, 1) := by decide +kernel
theorem ze_56_87 : z_T g d 56 87 (v0 :: .int x :: ls) st h P = z_T g d 56 88 (v0 :: .int x :: ls) (.int x :: st) h P := zt_iloadn zi_56_87 rfl rfl
theorem zi_56_88 : z_ins 56 88 = some (.bipush 97, 2) := by decide +kernel
theorem ze_56_88 : z_T g d 56 88 ls st h P = z_T g d 56 90 ls (.int (nI 97) :: st) h P := zt_bipush zi_56_88 rfl
theorem zi_56_90 : z_ins 56 90 = some (.if_icmp .lt 47, 3) := by decide +kernel
theorem ze_56_90 : z_T g d 56 90 ls (.int y :: .int x :: st) h P = (if x < y then z_T g d 56 137 ls st h P else z_T g d 56 93 ls st h P) := zt_icmplt zi_56_90 (by decide)
theorem zi_56_93 : z_ins 56 93 = some (.iload_n 1, 1) := by decide +kernel
theorem ze_56_93 : z_T g d 56 93 (v0 :: .int x :: ls) st h P = z_T g d 56 94 (v0 :: .int x :: ls) (.int x :: st) h P := zt_iloadn zi_56_93 rfl rfl
theorem zi_56_94 : z_ins 56 94 = some (.bipush 122, 2) := by decide +kernel
theorem ze_56_94 : z_T g d 56 94 ls st h P = z_T g d 56 96 ls (.int (nI 122) :: st) h P := zt_bipush zi_56_94 rfl
theorem zi_56_96 : z_ins 56 96 = some (.if_icmp .gt 41, 3) := by decide +kernel
theorem ze_56_96 : z_T g d 56 96 ls (.int y :: .int x :: st) h P = (if y < x then z_T g d 56 137 ls st h P else z_T g d 56 99 ls st h P) := zt_icmpgt zi_56_96 (by decide)
theorem zi_56_99 : z_ins 56 99 = some (.aload_n 0, 1) := by decide +kernel
theorem ze_56_99 : z_T g d 56 99 (.ref a :: ls) st h P = z_T g d 56 100 (.ref a :: ls) (.ref a :: st) h P := zt_aloadn zi_56_99 rfl rfl
theorem zi_56_100 : z_ins 56 100 = some (.aload_n 0, 1) := by decide +kernel
theorem ze_56_100 : z_T g d 56 100 (.ref a :: ls) st h P = z_T g d 56 101 (.ref a :: ls) (.ref a :: st) h P := zt_aloadn zi_56_100 rfl rfl
theorem zi_56_101 : z_ins 56 101 = some (.bipush 97, 2) := by decide +kernel
theorem ze_56_101 : z_T g d 56 101 ls st h P = z_T g d 56 103 ls (.int (nI 97) :: st) h P := zt_bipush zi_56_101 rfl
theorem zi_56_103 : z_ins 56 103 = some (.bipush 122, 2) := by decide +kernel
theorem ze_56_103 : z_T g d 56 103 ls st h P = z_T g d 56 105 ls (.int (nI 122) :: st) h P := zt_bipush zi_56_103 rfl
theorem zi_56_105 : z_ins 56 105 = some (.invokevirtual 40, 3) := by decide +kernel
theorem ze_56_105 : z_T g d 56 105 ls (.int x1 :: .int x0 :: .ref a :: st) h P = ((z_okS 8 st = true ∧ z_gO h.1 a 7 ∧ 0 < d) ∧ z_Ca g (d - 1) 57 [.ref a, .int x0, .int x1] h (fun r => z_k r (fun v h' => z_T g d 56 108 ls (z_push v st) h' P) P)) := zt_cV (as := [.int x0, .int x1]) (kk := 0) zi_56_105 rfl (zt_call zj_56 zh_56) (z_opV ((congrArg (fun o => z_lookup z_cns (o, 40)) zo_56).trans zq_cns_LatinRectangles_Text_40) ((congrArg (fun o => z_lookup z_prs (o, 40)) zo_56).trans zq_prs_LatinRectangles_Text_40)) ((congrArg (fun o => z_clk o 40) zo_56).trans zk_LatinRectangles_Text_40) rfl rfl rfl rfl (z_rcv0 zc_57)
theorem zi_56_108 : z_ins 56 108 = some (.putfield 28, 3) := by decide +kernel
theorem ze_56_108 : z_T g d 56 108 ls (.int x :: .ref a :: st) h P = z_pF h.1 a 7 3 (.int x) (fun f => z_T g d 56 111 ls st (f, h.2) P) := zt_put zi_56_108 ((congrArg (fun o => z_fl o 28) zo_56).trans zf_LatinRectangles_Text_28) (by decide +kernel) rfl rfl
theorem zi_56_111 : z_ins 56 111 = some (.aload_n 0, 1) := by decide +kernel
theorem ze_56_111 : z_T g d 56 111 (.ref a :: ls) st h P = z_T g d 56 112 (.ref a :: ls) (.ref a :: st) h P := zt_aloadn zi_56_111 rfl rfl
theorem zi_56_112 : z_ins 56 112 = some (.aload_n 0, 1) := by decide +kernel
theorem ze_56_112 : z_T g d 56 112 (.ref a :: ls) st h P = z_T g d 56 113 (.ref a :: ls) (.ref a :: st) h P := zt_aloadn zi_56_112 rfl rfl
theorem zi_56_113 : z_ins 56 113 = some (.getfield 28, 3) := by decide +kernel
theorem ze_56_113 : z_T g d 56 113 ls (.ref a :: st) h P = z_gI h.1 a 7 3 (fun x => z_T g d 56 116 ls (.int x :: st) h P) := zt_getI zi_56_113 ((congrArg (fun o => z_fl o 28) zo_56).trans zf_LatinRectangles_Text_28)
theorem zi_56_116 : z_ins 56 116 = some (.aload_n 0, 1) := by decide +kernel
theorem ze_56_116 : z_T g d 56 116 (.ref a :: ls) st h P = z_T g d 56 117 (.ref a :: ls) (.ref a :: st) h P := zt_aloadn zi_56_116 rfl rfl
theorem zi_56_117 : z_ins 56 117 = some (.getfield 31, 3) := by decide +kernel
theorem ze_56_117 : z_T g d 56 117 ls (.ref a :: st) h P = z_gI h.1 a 7 5 (fun x => z_T g d 56 120 ls (.int x :: st) h P) := zt_getI zi_56_117 ((congrArg (fun o => z_fl o 31) zo_56).trans zf_LatinRectangles_Text_31)
theorem zi_56_120 : z_ins 56 120 = some (.isub, 1) := by decide +kernel
theorem ze_56_120 : z_T g d 56 120 ls (.int y :: .int x :: st) h P = z_T g d 56 121 ls (.int (x - y) :: st) h P := zt_bin (f := fun x y => x - y) zi_56_120 rfl (fun _ _ _ => rfl)
theorem zi_56_121 : z_ins 56 121 = some (.bipush 9, 2) := by decide +kernel
theorem ze_56_121 : z_T g d 56 121 ls st h P = z_T g d 56 123 ls (.int (nI 9) :: st) h P := zt_bipush zi_56_121 rfl
theorem zi_56_123 : z_ins 56 123 = some (.if_icmp .gt 7, 3) := by decide +kernel
theorem ze_56_123 : z_T g d 56 123 ls (.int y :: .int x :: st) h P = (if y < x then z_T g d 56 130 ls st h P else z_T g d 56 126 ls st h P) := zt_icmpgt zi_56_123 (by decide)
theorem zi_56_126 : z_ins 56 126 = some (.iconst 2, 1) := by decide +kernel
theorem ze_56_126 : z_T g d 56 126 ls st h P = z_T g d 56 127 ls (.int (nI 2) :: st) h P := zt_iconst zi_56_126 rfl
theorem zi_56_127 : z_ins 56 127 = some (.goto 4, 3) := by decide +kernel
theorem ze_56_127 : z_T g d 56 127 ls st h P = z_T g d 56 131 ls st h P := zt_goto zi_56_127 (by decide)
theorem zi_56_130 : z_ins 56 130 = some (.iconst 1, 1) := by decide +kernel
theorem ze_56_130 : z_T g d 56 130 ls st h P = z_T g d 56 131 ls (.int (nI 1) :: st) h P := zt_iconst zi_56_130 rfl
theorem zi_56_131 : z_ins 56 131 = some (.putfield 34, 3) := by decide +kernel
theorem ze_56_131 : z_T g d 56 131 ls (.int x :: .ref a :: st) h P = z_pF h.1 a 7 4 (.int x) (fun f => z_T g d 56 134 ls st (f, h.2) P) := zt_put zi_56_131 ((congrArg (fun o => z_fl o 34) zo_56).trans zf_LatinRectangles_Text_34) (by decide +kernel) rfl rfl
theorem zi_56_134 : z_ins 56 134 = some (.goto 81, 3) := by decide +kernel
theorem ze_56_134 : z_T g d 56 134 ls st h P = z_T g d 56 215 ls st h P := zt_goto zi_56_134 (by decide)
theorem zi_56_137 : z_ins 56 137 = some (.iload_n 1, 1) := by decide +kernel
theorem ze_56_137 : z_T g d 56 137 (v0 :: .int x :: ls) st h P = z_T g d 56 138 (v0 :: .int x :: ls) (.int x :: st) h P := zt_iloadn zi_56_137 rfl rfl
theorem zi_56_138 : z_ins 56 138 = some (.bipush 48, 2) := by decide +kernel
theorem ze_56_138 : z_T g d 56 138 ls st h P = z_T g d 56 140 ls (.int (nI 48) :: st) h P := zt_bipush zi_56_138 rfl
theorem zi_56_140 : z_ins 56 140 = some (.if_icmp .lt 50, 3) := by decide +kernel
theorem ze_56_140 : z_T g d 56 140 ls (.int y :: .int x :: st) h P = (if x < y then z_T g d 56 190 ls st h P else z_T g d 56 143 ls st h P) := zt_icmplt zi_56_140 (by decide)
theorem zi_56_143 : z_ins 56 143 = some (.iload_n 1, 1) := by decide +kernel
theorem ze_56_143 : z_T g d 56 143 (v0 :: .int x :: ls) st h P = z_T g d 56 144 (v0 :: .int x :: ls) (.int x :: st) h P := zt_iloadn zi_56_143 rfl rfl
theorem zi_56_144 : z_ins 56 144 = some (.bipush 57, 2) := by decide +kernel
theorem ze_56_144 : z_T g d 56 144 ls st h P = z_T g d 56 146 ls (.int (nI 57) :: st) h P := zt_bipush zi_56_144 rfl
theorem zi_56_146 : z_ins 56 146 = some (.if_icmp .gt 44, 3) := by decide +kernel
theorem ze_56_146 : z_T g d 56 146 ls (.int y :: .int x :: st) h P = (if y < x then z_T g d 56 190 ls st h P else z_T g d 56 149 ls st h P) := zt_icmpgt zi_56_146 (by decide)
theorem zi_56_149 : z_ins 56 149 = some (.aload_n 0, 1) := by decide +kernel
theorem ze_56_149 : z_T g d 56 149 (.ref a :: ls) st h P = z_T g d 56 150 (.ref a :: ls) (.ref a :: st) h P := zt_aloadn zi_56_149 rfl rfl
theorem zi_56_150 : z_ins 56 150 = some (.aload_n 0, 1) := by decide +kernel
theorem ze_56_150 : z_T g d 56 150 (.ref a :: ls) st h P = z_T g d 56 151 (.ref a :: ls) (.ref a :: st) h P := zt_aloadn zi_56_150 rfl rfl
theorem zi_56_151 : z_ins 56 151 = some (.bipush 48, 2) := by decide +kernel
theorem ze_56_151 : z_T g d 56 151 ls st h P = z_T g d 56 153 ls (.int (nI 48) :: st) h P := zt_bipush zi_56_151 rfl
theorem zi_56_153 : z_ins 56 153 = some (.bipush 57, 2) := by decide +kernel
theorem ze_56_153 : z_T g d 56 153 ls st h P = z_T g d 56 155 ls (.int (nI 57) :: st) h P := zt_bipush zi_56_153 rfl
theorem zi_56_155 : z_ins 56 155 = some (.invokevirtual 40, 3) := by decide +kernel
theorem ze_56_155 : z_T g d 56 155 ls (.int x1 :: .int x0 :: .ref a :: st) h P = ((z_okS 8 st = true ∧ z_gO h.1 a 7 ∧ 0 < d) ∧ z_Ca g (d - 1) 57 [.ref a, .int x0, .int x1] h (fun r => z_k r (fun v h' => z_T g d 56 158 ls (z_push v st) h' P) P)) := zt_cV (as := [.int x0, .int x1]) (kk := 0) zi_56_155 rfl (zt_call zj_56 zh_56) (z_opV ((congrArg (fun o => z_lookup z_cns (o, 40)) zo_56).trans zq_cns_LatinRectangles_Text_40) ((congrArg (fun o => z_lookup z_prs (o, 40)) zo_56).trans zq_prs_LatinRectangles_Text_40)) ((congrArg (fun o => z_clk o 40) zo_56).trans zk_LatinRectangles_Text_40) rfl rfl rfl rfl (z_rcv0 zc_57)
theorem zi_56_158 : z_ins 56 158 = some (.putfield 28, 3) := by decide +kernel
theorem ze_56_158 : z_T g d 56 158 ls (.int x :: .ref a :: st) h P = z_pF h.1 a 7 3 (.int x) (fun f => z_T g d 56 161 ls st (f, h.2) P) := zt_put zi_56_158 ((congrArg (fun o => z_fl o 28) zo_56).trans zf_LatinRectangles_Text_28) (by decide +kernel) rfl rfl
theorem zi_56_161 : z_ins 56 161 = some (.aload_n 0, 1) := by decide +kernel
theorem ze_56_161 : z_T g d 56 161 (.ref a :: ls) st h P = z_T g d 56 162 (.ref a :: ls) (.ref a :: st) h P := zt_aloadn zi_56_161 rfl rfl
theorem zi_56_162 : z_ins 56 162 = some (.aload_n 0, 1) := by decide +kernel
theorem ze_56_162 : z_T g d 56 162 (.ref a :: ls) st h P = z_T g d 56 163 (.ref a :: ls) (.ref a :: st) h P := zt_aloadn zi_56_162 rfl rfl
theorem zi_56_163 : z_ins 56 163 = some (.getfield 28, 3) := by decide +kernel
theorem ze_56_163 : z_T g d 56 163 ls (.ref a :: st) h P = z_gI h.1 a 7 3 (fun x => z_T g d 56 166 ls (.int x :: st) h P) := zt_getI zi_56_163 ((congrArg (fun o => z_fl o 28) zo_56).trans zf_LatinRectangles_Text_28)
theorem zi_56_166 : z_ins 56 166 = some (.aload_n 0, 1) := by decide +kernel
theorem ze_56_166 : z_T g d 56 166 (.ref a :: ls) st h P = z_T g d 56 167 (.ref a :: ls) (.ref a :: st) h P := zt_aloadn zi_56_166 rfl rfl
theorem zi_56_167 : z_ins 56 167 = some (.getfield 31, 3) := by decide +kernel
theorem ze_56_167 : z_T g d 56 167 ls (.ref a :: st) h P = z_gI h.1 a 7 5 (fun x => z_T g d 56 170 ls (.int x :: st) h P) := zt_getI zi_56_167 ((congrArg (fun o => z_fl o 31) zo_56).trans zf_LatinRectangles_Text_31)
theorem zi_56_170 : z_ins 56 170 = some (.isub, 1) := by decide +kernel
theorem ze_56_170 : z_T g d 56 170 ls (.int y :: .int x :: st) h P = z_T g d 56 171 ls (.int (x - y) :: st) h P := zt_bin (f := fun x y => x - y) zi_56_170 rfl (fun _ _ _ => rfl)
theorem zi_56_171 : z_ins 56 171 = some (.iconst 2, 1) := by decide +kernel
theorem ze_56_171 : z_T g d 56 171 ls st h P = z_T g d 56 172 ls (.int (nI 2) :: st) h P := zt_iconst zi_56_171 rfl
theorem zi_56_172 : z_ins 56 172 = some (.if_icmp .gt 7, 3) := by decide +kernel
theorem ze_56_172 : z_T g d 56 172 ls (.int y :: .int x :: st) h P = (if y < x then z_T g d 56 179 ls st h P else z_T g d 56 175 ls st h P) := zt_icmpgt zi_56_172 (by decide)
theorem zi_56_175 : z_ins 56 175 = some (.iconst 3, 1) := by decide +kernel
theorem ze_56_175 : z_T g d 56 175 ls st h P = z_T g d 56 176 ls (.int (nI 3) :: st) h P := zt_iconst zi_56_175 rfl
theorem zi_56_176 : z_ins 56 176 = some (.goto 4, 3) := by decide +kernel
theorem ze_56_176 : z_T g d 56 176 ls st h P = z_T g d 56 180 ls st h P := zt_goto zi_56_176 (by decide)
theorem zi_56_179 : z_ins 56 179 = some (.iconst 1, 1) := by decide +kernel
theorem ze_56_179 : z_T g d 56 179 ls st h P = z_T g d 56 180 ls (.int (nI 1) :: st) h P := zt_iconst zi_56_179 rfl
theorem zi_56_180 : z_ins 56 180 = some (.putfield 34, 3) := by decide +kernel
theorem ze_56_180 : z_T g d 56 180 ls (.int x :: .ref a :: st) h P = z_pF h.1 a 7 4 (.int x) (fun f => z_T g d 56 183 ls st (f, h.2) P) := zt_put zi_56_180 ((congrArg (fun o => z_fl o 34) zo_56).trans zf_LatinRectangles_Text_34) (by decide +kernel) rfl rfl
theorem zi_56_183 : z_ins 56 183 = some (.aload_n 0, 1) := by decide +kernel
theorem ze_56_183 : z_T g d 56 183 (.ref a :: ls) st h P = z_T g d 56 184 (.ref a :: ls) (.ref a :: st) h P := zt_aloadn zi_56_183 rfl rfl
theorem zi_56_184 : z_ins 56 184 = some (.invokevirtual 43, 3) := by decide +kernel
theorem ze_56_184 : z_T g d 56 184 ls (.ref a :: st) h P = ((z_okS 8 st = true ∧ z_gO h.1 a 7 ∧ 0 < d) ∧ z_Ca g (d - 1) 58 [.ref a] h (fun r => z_k r (fun v h' => z_T g d 56 187 ls (z_push v st) h' P) P)) := zt_cV (as := []) (kk := 0) zi_56_184 rfl (zt_call zj_56 zh_56) (z_opV ((congrArg (fun o => z_lookup z_cns (o, 43)) zo_56).trans zq_cns_LatinRectangles_Text_43) ((congrArg (fun o => z_lookup z_prs (o, 43)) zo_56).trans zq_prs_LatinRectangles_Text_43)) ((congrArg (fun o => z_clk o 43) zo_56).trans zk_LatinRectangles_Text_43) rfl rfl rfl rfl (z_rcv0 zc_58)
theorem zi_56_187 : z_ins 56 187 = some (.goto 28, 3) := by decide +kernel
theorem ze_56_187 : z_T g d 56 187 ls st h P = z_T g d 56 215 ls st h P := zt_goto zi_56_187 (by decide)
theorem zi_56_190 : z_ins 56 190 = some (.aload_n 0, 1) := by decide +kernel
theorem ze_56_190 : z_T g d 56 190 (.ref a :: ls) st h P = z_T g d 56 191 (.ref a :: ls) (.ref a :: st) h P := zt_aloadn zi_56_190 rfl rfl
theorem zi_56_191 : z_ins 56 191 = some (.aload_n 0, 1) := by decide +kernel
theorem ze_56_191 : z_T g d 56 191 (.ref a :: ls) st h P = z_T g d 56 192 (.ref a :: ls) (.ref a :: st) h P := zt_aloadn zi_56_191 rfl rfl
theorem zi_56_192 : z_ins 56 192 = some (.getfield 31, 3) := by decide +kernel
theorem ze_56_192 : z_T g d 56 192 ls (.ref a :: st) h P = z_gI h.1 a 7 5 (fun x => z_T g d 56 195 ls (.int x :: st) h P) := zt_getI zi_56_192 ((congrArg (fun o => z_fl o 31) zo_56).trans zf_LatinRectangles_Text_31)
theorem zi_56_195 : z_ins 56 195 = some (.iconst 1, 1) := by decide +kernel
theorem ze_56_195 : z_T g d 56 195 ls st h P = z_T g d 56 196 ls (.int (nI 1) :: st) h P := zt_iconst zi_56_195 rfl
theorem zi_56_196 : z_ins 56 196 = some (.iadd, 1) := by decide +kernel
theorem ze_56_196 : z_T g d 56 196 ls (.int y :: .int x :: st) h P = z_T g d 56 197 ls (.int (x + y) :: st) h P := zt_bin (f := fun x y => x + y) zi_56_196 rfl (fun _ _ _ => rfl)
theorem zi_56_197 : z_ins 56 197 = some (.putfield 28, 3) := by decide +kernel
theorem ze_56_197 : z_T g d 56 197 ls (.int x :: .ref a :: st) h P = z_pF h.1 a 7 3 (.int x) (fun f => z_T g d 56 200 ls st (f, h.2) P) := zt_put zi_56_197 ((congrArg (fun o => z_fl o 28) zo_56).trans zf_LatinRectangles_Text_28) (by decide +kernel) rfl rfl
theorem zi_56_200 : z_ins 56 200 = some (.aload_n 0, 1) := by decide +kernel
theorem ze_56_200 : z_T g d 56 200 (.ref a :: ls) st h P = z_T g d 56 201 (.ref a :: ls) (.ref a :: st) h P := zt_aloadn zi_56_200 rfl rfl
theorem zi_56_201 : z_ins 56 201 = some (.iload_n 1, 1) := by decide +kernel
theorem ze_56_201 : z_T g d 56 201 (v0 :: .int x :: ls) st h P = z_T g d 56 202 (v0 :: .int x :: ls) (.int x :: st) h P := zt_iloadn zi_56_201 rfl rfl
theorem zi_56_202 : z_ins 56 202 = some (.bipush 59, 2) := by decide +kernel
theorem ze_56_202 : z_T g d 56 202 ls st h P = z_T g d 56 204 ls (.int (nI 59) :: st) h P := zt_bipush zi_56_202 rfl
theorem zi_56_204 : z_ins 56 204 = some (.if_icmp .ne 7, 3) := by decide +kernel
theorem ze_56_204 : z_T g d 56 204 ls (.int y :: .int x :: st) h P = (if x = y then z_T g d 56 207 ls st h P else z_T g d 56 211 ls st h P) := zt_icmpne zi_56_204 (by decide)
theorem zi_56_207 : z_ins 56 207 = some (.iconst 4, 1) := by decide +kernel
theorem ze_56_207 : z_T g d 56 207 ls st h P = z_T g d 56 208 ls (.int (nI 4) :: st) h P := zt_iconst zi_56_207 rfl
theorem zi_56_208 : z_ins 56 208 = some (.goto 4, 3) := by decide +kernel
theorem ze_56_208 : z_T g d 56 208 ls st h P = z_T g d 56 212 ls st h P := zt_goto zi_56_208 (by decide)
theorem zi_56_211 : z_ins 56 211 = some (.iconst 1, 1) := by decide +kernel
theorem ze_56_211 : z_T g d 56 211 ls st h P = z_T g d 56 212 ls (.int (nI 1) :: st) h P := zt_iconst zi_56_211 rfl
theorem zi_56_212 : z_ins 56 212 = some (.putfield 34, 3) := by decide +kernel
theorem ze_56_212 : z_T g d 56 212 ls (.int x :: .ref a :: st) h P = z_pF h.1 a 7 4 (.int x) (fun f => z_T g d 56 215 ls st (f, h.2) P) := zt_put zi_56_212 ((congrArg (fun o => z_fl o 34) zo_56).trans zf_LatinRectangles_Text_34) (by decide +kernel) rfl rfl
theorem zi_56_215 : z_ins 56 215 = some (.return_, 1) := by decide +kernel
theorem ze_56_215 : z_T g d 56 215 ls [] h P = P (.inr none, h) := zt_return zi_56_215 zr_56
-- LatinRectangles$Text.runEnd(II)I
theorem zm_57 : z_maxL 57 = 4 := by decide +kernel
theorem zh_57 : z_hds 57 = [] := by decide +kernel
theorem zj_57 : z_jdk 57 = false := by decide +kernel
theorem zr_57 : z_rt 57 = (some .int) := by decide +kernel
theorem zn_57 : z_Ca g d 57 [.ref a0, .int x1, .int x2] h P = z_T g d 57 0 [.ref a0, .int x1, .int x2, z_un] [] h P := z_Ca_ent zm_57 rfl rfl
theorem zi_57_0 : z_ins 57 0 = some (.aload_n 0, 1) := by decide +kernel
theorem ze_57_0 : z_T g d 57 0 (.ref a :: ls) st h P = z_T g d 57 1 (.ref a :: ls) (.ref a :: st) h P := zt_aloadn zi_57_0 rfl rfl
theorem zi_57_1 : z_ins 57 1 = some (.getfield 31, 3) := by decide +kernel
theorem ze_57_1 : z_T g d 57 1 ls (.ref a :: st) h P = z_gI h.1 a 7 5 (fun x => z_T g d 57 4 ls (.int x :: st) h P) := zt_getI zi_57_1 ((congrArg (fun o => z_fl o 31) zo_57).trans zf_LatinRectangles_Text_31)
theorem zi_57_4 : z_ins 57 4 = some (.istore_n 3, 1) := by decide +kernel
theorem ze_57_4 : z_T g d 57 4 (v0 :: v1 :: v2 :: v3 :: ls) (.int x :: st) h P = z_T g d 57 5 (v0 :: v1 :: v2 :: .int x :: ls) st h P := zt_istoren zi_57_4 rfl (Nat.le_add_left 4 _)
theorem zi_57_5 : z_ins 57 5 = some (.iload_n 3, 1) := by decide +kernel
theorem ze_57_5 : z_T g d 57 5 (v0 :: v1 :: v2 :: .int x :: ls) st h P = z_T g d 57 6 (v0 :: v1 :: v2 :: .int x :: ls) (.int x :: st) h P := zt_iloadn zi_57_5 rfl rfl
theorem zi_57_6 : z_ins 57 6 = some (.aload_n 0, 1) := by decide +kernel
theorem ze_57_6 : z_T g d 57 6 (.ref a :: ls) st h P = z_T g d 57 7 (.ref a :: ls) (.ref a :: st) h P := zt_aloadn zi_57_6 rfl rfl
theorem zi_57_7 : z_ins 57 7 = some (.getfield 25, 3) := by decide +kernel
theorem ze_57_7 : z_T g d 57 7 ls (.ref a :: st) h P = z_gI h.1 a 7 2 (fun x => z_T g d 57 10 ls (.int x :: st) h P) := zt_getI zi_57_7 ((congrArg (fun o => z_fl o 25) zo_57).trans zf_LatinRectangles_Text_25)
theorem zi_57_10 : z_ins 57 10 = some (.if_icmp .ge 29, 3) := by decide +kernel
theorem ze_57_10 : z_T g d 57 10 ls (.int y :: .int x :: st) h P = (if x < y then z_T g d 57 13 ls st h P else z_T g d 57 39 ls st h P) := zt_icmpge zi_57_10 (by decide)
theorem zi_57_13 : z_ins 57 13 = some (.aload_n 0, 1) := by decide +kernel
theorem ze_57_13 : z_T g d 57 13 (.ref a :: ls) st h P = z_T g d 57 14 (.ref a :: ls) (.ref a :: st) h P := zt_aloadn zi_57_13 rfl rfl
theorem zi_57_14 : z_ins 57 14 = some (.getfield 9, 3) := by decide +kernel
theorem ze_57_14 : z_T g d 57 14 ls (.ref a :: st) h P = z_gR h.1 a 7 0 (fun x => z_T g d 57 17 ls (x :: st) h P) := zt_getR zi_57_14 ((congrArg (fun o => z_fl o 9) zo_57).trans zf_LatinRectangles_Text_9)
theorem zi_57_17 : z_ins 57 17 = some (.iload_n 3, 1) := by decide +kernel
theorem ze_57_17 : z_T g d 57 17 (v0 :: v1 :: v2 :: .int x :: ls) st h P = z_T g d 57 18 (v0 :: v1 :: v2 :: .int x :: ls) (.int x :: st) h P := zt_iloadn zi_57_17 rfl rfl
theorem zi_57_18 : z_ins 57 18 = some (.baload, 1) := by decide +kernel
theorem ze_57_18 : z_T g d 57 18 ls (.int x :: .ref a :: st) h P = z_aL h.1 a z_tB x (fun v => z_T g d 57 19 ls (.int v :: st) h P) := zt_baload zi_57_18
theorem zi_57_19 : z_ins 57 19 = some (.iload_n 1, 1) := by decide +kernel
theorem ze_57_19 : z_T g d 57 19 (v0 :: .int x :: ls) st h P = z_T g d 57 20 (v0 :: .int x :: ls) (.int x :: st) h P := zt_iloadn zi_57_19 rfl rfl
theorem zi_57_20 : z_ins 57 20 = some (.if_icmp .lt 19, 3) := by decide +kernel
theorem ze_57_20 : z_T g d 57 20 ls (.int y :: .int x :: st) h P = (if x < y then z_T g d 57 39 ls st h P else z_T g d 57 23 ls st h P) := zt_icmplt zi_57_20 (by decide)
theorem zi_57_23 : z_ins 57 23 = some (.aload_n 0, 1) := by decide +kernel
theorem ze_57_23 : z_T g d 57 23 (.ref a :: ls) st h P = z_T g d 57 24 (.ref a :: ls) (.ref a :: st) h P := zt_aloadn zi_57_23 rfl rfl
theorem zi_57_24 : z_ins 57 24 = some (.getfield 9, 3) := by decide +kernel
theorem ze_57_24 : z_T g d 57 24 ls (.ref a :: st) h P = z_gR h.1 a 7 0 (fun x => z_T g d 57 27 ls (x :: st) h P) := zt_getR zi_57_24 ((congrArg (fun o => z_fl o 9) zo_57).trans zf_LatinRectangles_Text_9)
theorem zi_57_27 : z_ins 57 27 = some (.iload_n 3, 1) := by decide +kernel
theorem ze_57_27 : z_T g d 57 27 (v0 :: v1 :: v2 :: .int x :: ls) st h P = z_T g d 57 28 (v0 :: v1 :: v2 :: .int x :: ls) (.int x :: st) h P := zt_iloadn zi_57_27 rfl rfl
theorem zi_57_28 : z_ins 57 28 = some (.baload, 1) := by decide +kernel
theorem ze_57_28 : z_T g d 57 28 ls (.int x :: .ref a :: st) h P = z_aL h.1 a z_tB x (fun v => z_T g d 57 29 ls (.int v :: st) h P) := zt_baload zi_57_28
theorem zi_57_29 : z_ins 57 29 = some (.iload_n 2, 1) := by decide +kernel
theorem ze_57_29 : z_T g d 57 29 (v0 :: v1 :: .int x :: ls) st h P = z_T g d 57 30 (v0 :: v1 :: .int x :: ls) (.int x :: st) h P := zt_iloadn zi_57_29 rfl rfl
theorem zi_57_30 : z_ins 57 30 = some (.if_icmp .gt 9, 3) := by decide +kernel
theorem ze_57_30 : z_T g d 57 30 ls (.int y :: .int x :: st) h P = (if y < x then z_T g d 57 39 ls st h P else z_T g d 57 33 ls st h P) := zt_icmpgt zi_57_30 (by decide)
theorem zi_57_33 : z_ins 57 33 = some (.iinc 3 1, 3) := by decide +kernel
theorem ze_57_33 : z_T g d 57 33 (v0 :: v1 :: v2 :: .int x :: ls) st h P = z_T g d 57 36 (v0 :: v1 :: v2 :: .int (x + (nI 1)) :: ls) st h P := zt_iinc zi_57_33 rfl rfl
theorem zi_57_36 : z_ins 57 36 = some (.goto (-31), 3) := by decide +kernel
theorem ze_57_36 : z_T g d 57 36 ls st h P = z_T g d 57 5 ls st h P := zt_goto zi_57_36 (by decide)
theorem zi_57_39 : z_ins 57 39 = some (.iload_n 3, 1) := by decide +kernel
theorem ze_57_39 : z_T g d 57 39 (v0 :: v1 :: v2 :: .int x :: ls) st h P = z_T g d 57 40 (v0 :: v1 :: v2 :: .int x :: ls) (.int x :: st) h P := zt_iloadn zi_57_39 rfl rfl
theorem zi_57_40 : z_ins 57 40 = some (.ireturn, 1) := by decide +kernel
theorem ze_57_40 : z_T g d 57 40 ls [.int x] h P = P (.inr (some (.int x)), h) := zt_ireturn zi_57_40 zr_57
-- LatinRectangles$Text.readValue()V
theorem zm_58 : z_maxL 58 = 2 := by decide +kernel
theorem zh_58 : z_hds 58 = [] := by decide +kernel
theorem zj_58 : z_jdk 58 = false := by decide +kernel
theorem zr_58 : z_rt 58 = none := by decide +kernel
theorem zn_58 : z_Ca g d 58 [.ref a0] h P = z_T g d 58 0 [.ref a0, z_un] [] h P := z_Ca_ent zm_58 rfl rfl
theorem zi_58_0 : z_ins 58 0 = some (.aload_n 0, 1) := by decide +kernel
theorem ze_58_0 : z_T g d 58 0 (.ref a :: ls) st h P = z_T g d 58 1 (.ref a :: ls) (.ref a :: st) h P := zt_aloadn zi_58_0 rfl rfl
theorem zi_58_1 : z_ins 58 1 = some (.iconst 0, 1) := by decide +kernel
theorem ze_58_1 : z_T g d 58 1 ls st h P = z_T g d 58 2 ls (.int (nI 0) :: st) h P := zt_iconst zi_58_1 rfl
theorem zi_58_2 : z_ins 58 2 = some (.putfield 37, 3) := by decide +kernel
theorem ze_58_2 : z_T g d 58 2 ls (.int x :: .ref a :: st) h P = z_pF h.1 a 7 6 (.int x) (fun f => z_T g d 58 5 ls st (f, h.2) P) := zt_put zi_58_2 ((congrArg (fun o => z_fl o 37) zo_58).trans zf_LatinRectangles_Text_37) (by decide +kernel) rfl rfl
theorem zi_58_5 : z_ins 58 5 = some (.aload_n 0, 1) := by decide +kernel
theorem ze_58_5 : z_T g d 58 5 (.ref a :: ls) st h P = z_T g d 58 6 (.ref a :: ls) (.ref a :: st) h P := zt_aloadn zi_58_5 rfl rfl
theorem zi_58_6 : z_ins 58 6 = some (.getfield 31, 3) := by decide +kernel
theorem ze_58_6 : z_T g d 58 6 ls (.ref a :: st) h P = z_gI h.1 a 7 5 (fun x => z_T g d 58 9 ls (.int x :: st) h P) := zt_getI zi_58_6 ((congrArg (fun o => z_fl o 31) zo_58).trans zf_LatinRectangles_Text_31)
theorem zi_58_9 : z_ins 58 9 = some (.istore_n 1, 1) := by decide +kernel
theorem ze_58_9 : z_T g d 58 9 (v0 :: v1 :: ls) (.int x :: st) h P = z_T g d 58 10 (v0 :: .int x :: ls) st h P := zt_istoren zi_58_9 rfl (Nat.le_add_left 2 _)
theorem zi_58_10 : z_ins 58 10 = some (.aload_n 0, 1) := by decide +kernel
theorem ze_58_10 : z_T g d 58 10 (.ref a :: ls) st h P = z_T g d 58 11 (.ref a :: ls) (.ref a :: st) h P := zt_aloadn zi_58_10 rfl rfl
theorem zi_58_11 : z_ins 58 11 = some (.getfield 34, 3) := by decide +kernel
theorem ze_58_11 : z_T g d 58 11 ls (.ref a :: st) h P = z_gI h.1 a 7 4 (fun x => z_T g d 58 14 ls (.int x :: st) h P) := zt_getI zi_58_11 ((congrArg (fun o => z_fl o 34) zo_58).trans zf_LatinRectangles_Text_34)
theorem zi_58_14 : z_ins 58 14 = some (.iconst 3, 1) := by decide +kernel
theorem ze_58_14 : z_T g d 58 14 ls st h P = z_T g d 58 15 ls (.int (nI 3) :: st) h P := zt_iconst zi_58_14 rfl
theorem zi_58_15 : z_ins 58 15 = some (.if_icmp .ne 38, 3) := by decide +kernel
theorem ze_58_15 : z_T g d 58 15 ls (.int y :: .int x :: st) h P = (if x = y then z_T g d 58 18 ls st h P else z_T g d 58 53 ls st h P) := zt_icmpne zi_58_15 (by decide)
theorem zi_58_18 : z_ins 58 18 = some (.iload_n 1, 1) := by decide +kernel
theorem ze_58_18 : z_T g d 58 18 (v0 :: .int x :: ls) st h P = z_T g d 58 19 (v0 :: .int x :: ls) (.int x :: st) h P := zt_iloadn zi_58_18 rfl rfl
theorem zi_58_19 : z_ins 58 19 = some (.aload_n 0, 1) := by decide +kernel
theorem ze_58_19 : z_T g d 58 19 (.ref a :: ls) st h P = z_T g d 58 20 (.ref a :: ls) (.ref a :: st) h P := zt_aloadn zi_58_19 rfl rfl
theorem zi_58_20 : z_ins 58 20 = some (.getfield 28, 3) := by decide +kernel
theorem ze_58_20 : z_T g d 58 20 ls (.ref a :: st) h P = z_gI h.1 a 7 3 (fun x => z_T g d 58 23 ls (.int x :: st) h P) := zt_getI zi_58_20 ((congrArg (fun o => z_fl o 28) zo_58).trans zf_LatinRectangles_Text_28)
theorem zi_58_23 : z_ins 58 23 = some (.if_icmp .ge 30, 3) := by decide +kernel
theorem ze_58_23 : z_T g d 58 23 ls (.int y :: .int x :: st) h P = (if x < y then z_T g d 58 26 ls st h P else z_T g d 58 53 ls st h P) := zt_icmpge zi_58_23 (by decide)
theorem zi_58_26 : z_ins 58 26 = some (.aload_n 0, 1) := by decide +kernel
theorem ze_58_26 : z_T g d 58 26 (.ref a :: ls) st h P = z_T g d 58 27 (.ref a :: ls) (.ref a :: st) h P := zt_aloadn zi_58_26 rfl rfl
theorem zi_58_27 : z_ins 58 27 = some (.aload_n 0, 1) := by decide +kernel
theorem ze_58_27 : z_T g d 58 27 (.ref a :: ls) st h P = z_T g d 58 28 (.ref a :: ls) (.ref a :: st) h P := zt_aloadn zi_58_27 rfl rfl
theorem zi_58_28 : z_ins 58 28 = some (.getfield 37, 3) := by decide +kernel
theorem ze_58_28 : z_T g d 58 28 ls (.ref a :: st) h P = z_gI h.1 a 7 6 (fun x => z_T g d 58 31 ls (.int x :: st) h P) := zt_getI zi_58_28 ((congrArg (fun o => z_fl o 37) zo_58).trans zf_LatinRectangles_Text_37)
theorem zi_58_31 : z_ins 58 31 = some (.bipush 10, 2) := by decide +kernel
theorem ze_58_31 : z_T g d 58 31 ls st h P = z_T g d 58 33 ls (.int (nI 10) :: st) h P := zt_bipush zi_58_31 rfl
theorem zi_58_33 : z_ins 58 33 = some (.imul, 1) := by decide +kernel
theorem ze_58_33 : z_T g d 58 33 ls (.int y :: .int x :: st) h P = z_T g d 58 34 ls (.int (x * y) :: st) h P := zt_bin (f := fun x y => x * y) zi_58_33 rfl (fun _ _ _ => rfl)
theorem zi_58_34 : z_ins 58 34 = some (.aload_n 0, 1) := by decide +kernel
theorem ze_58_34 : z_T g d 58 34 (.ref a :: ls) st h P = z_T g d 58 35 (.ref a :: ls) (.ref a :: st) h P := zt_aloadn zi_58_34 rfl rfl
theorem zi_58_35 : z_ins 58 35 = some (.getfield 9, 3) := by decide +kernel
theorem ze_58_35 : z_T g d 58 35 ls (.ref a :: st) h P = z_gR h.1 a 7 0 (fun x => z_T g d 58 38 ls (x :: st) h P) := zt_getR zi_58_35 ((congrArg (fun o => z_fl o 9) zo_58).trans zf_LatinRectangles_Text_9)
theorem zi_58_38 : z_ins 58 38 = some (.iload_n 1, 1) := by decide +kernel
theorem ze_58_38 : z_T g d 58 38 (v0 :: .int x :: ls) st h P = z_T g d 58 39 (v0 :: .int x :: ls) (.int x :: st) h P := zt_iloadn zi_58_38 rfl rfl
theorem zi_58_39 : z_ins 58 39 = some (.baload, 1) := by decide +kernel
theorem ze_58_39 : z_T g d 58 39 ls (.int x :: .ref a :: st) h P = z_aL h.1 a z_tB x (fun v => z_T g d 58 40 ls (.int v :: st) h P) := zt_baload zi_58_39
theorem zi_58_40 : z_ins 58 40 = some (.iadd, 1) := by decide +kernel
theorem ze_58_40 : z_T g d 58 40 ls (.int y :: .int x :: st) h P = z_T g d 58 41 ls (.int (x + y) :: st) h P := zt_bin (f := fun x y => x + y) zi_58_40 rfl (fun _ _ _ => rfl)
theorem zi_58_41 : z_ins 58 41 = some (.bipush 48, 2) := by decide +kernel
theorem ze_58_41 : z_T g d 58 41 ls st h P = z_T g d 58 43 ls (.int (nI 48) :: st) h P := zt_bipush zi_58_41 rfl
theorem zi_58_43 : z_ins 58 43 = some (.isub, 1) := by decide +kernel
theorem ze_58_43 : z_T g d 58 43 ls (.int y :: .int x :: st) h P = z_T g d 58 44 ls (.int (x - y) :: st) h P := zt_bin (f := fun x y => x - y) zi_58_43 rfl (fun _ _ _ => rfl)
theorem zi_58_44 : z_ins 58 44 = some (.putfield 37, 3) := by decide +kernel
theorem ze_58_44 : z_T g d 58 44 ls (.int x :: .ref a :: st) h P = z_pF h.1 a 7 6 (.int x) (fun f => z_T g d 58 47 ls st (f, h.2) P) := zt_put zi_58_44 ((congrArg (fun o => z_fl o 37) zo_58).trans zf_LatinRectangles_Text_37) (by decide +kernel) rfl rfl
theorem zi_58_47 : z_ins 58 47 = some (.iinc 1 1, 3) := by decide +kernel
theorem ze_58_47 : z_T g d 58 47 (v0 :: .int x :: ls) st h P = z_T g d 58 50 (v0 :: .int (x + (nI 1)) :: ls) st h P := zt_iinc zi_58_47 rfl rfl
theorem zi_58_50 : z_ins 58 50 = some (.goto (-40), 3) := by decide +kernel
theorem ze_58_50 : z_T g d 58 50 ls st h P = z_T g d 58 10 ls st h P := zt_goto zi_58_50 (by decide)
theorem zi_58_53 : z_ins 58 53 = some (.return_, 1) := by decide +kernel
theorem ze_58_53 : z_T g d 58 53 ls [] h P = P (.inr none, h) := zt_return zi_58_53 zr_58
-- LatinRectangles$Text.isWord(Ljava/lang/String;)Z
theorem zm_59 : z_maxL 59 = 3 := by decide +kernel
theorem zh_59 : z_hds 59 = [] := by decide +kernel
theorem zj_59 : z_jdk 59 = false := by decide +kernel
theorem zr_59 : z_rt 59 = (some .boolean) := by decide +kernel
theorem zn_59 : z_Ca g d 59 [.ref a0, .retAddr k1] h P = z_T g d 59 0 [.ref a0, .retAddr k1, z_un] [] h P := z_Ca_ent zm_59 rfl rfl
theorem zi_59_0 : z_ins 59 0 = some (.aload_n 0, 1) := by decide +kernel
theorem ze_59_0 : z_T g d 59 0 (.ref a :: ls) st h P = z_T g d 59 1 (.ref a :: ls) (.ref a :: st) h P := zt_aloadn zi_59_0 rfl rfl
theorem zi_59_1 : z_ins 59 1 = some (.getfield 34, 3) := by decide +kernel
theorem ze_59_1 : z_T g d 59 1 ls (.ref a :: st) h P = z_gI h.1 a 7 4 (fun x => z_T g d 59 4 ls (.int x :: st) h P) := zt_getI zi_59_1 ((congrArg (fun o => z_fl o 34) zo_59).trans zf_LatinRectangles_Text_34)
theorem zi_59_4 : z_ins 59 4 = some (.iconst 2, 1) := by decide +kernel
theorem ze_59_4 : z_T g d 59 4 ls st h P = z_T g d 59 5 ls (.int (nI 2) :: st) h P := zt_iconst zi_59_4 rfl
theorem zi_59_5 : z_ins 59 5 = some (.if_icmp .ne 19, 3) := by decide +kernel
theorem ze_59_5 : z_T g d 59 5 ls (.int y :: .int x :: st) h P = (if x = y then z_T g d 59 8 ls st h P else z_T g d 59 24 ls st h P) := zt_icmpne zi_59_5 (by decide)
theorem zi_59_8 : z_ins 59 8 = some (.aload_n 0, 1) := by decide +kernel
theorem ze_59_8 : z_T g d 59 8 (.ref a :: ls) st h P = z_T g d 59 9 (.ref a :: ls) (.ref a :: st) h P := zt_aloadn zi_59_8 rfl rfl
theorem zi_59_9 : z_ins 59 9 = some (.getfield 28, 3) := by decide +kernel
theorem ze_59_9 : z_T g d 59 9 ls (.ref a :: st) h P = z_gI h.1 a 7 3 (fun x => z_T g d 59 12 ls (.int x :: st) h P) := zt_getI zi_59_9 ((congrArg (fun o => z_fl o 28) zo_59).trans zf_LatinRectangles_Text_28)
theorem zi_59_12 : z_ins 59 12 = some (.aload_n 0, 1) := by decide +kernel
theorem ze_59_12 : z_T g d 59 12 (.ref a :: ls) st h P = z_T g d 59 13 (.ref a :: ls) (.ref a :: st) h P := zt_aloadn zi_59_12 rfl rfl
theorem zi_59_13 : z_ins 59 13 = some (.getfield 31, 3) := by decide +kernel
theorem ze_59_13 : z_T g d 59 13 ls (.ref a :: st) h P = z_gI h.1 a 7 5 (fun x => z_T g d 59 16 ls (.int x :: st) h P) := zt_getI zi_59_13 ((congrArg (fun o => z_fl o 31) zo_59).trans zf_LatinRectangles_Text_31)
theorem zi_59_16 : z_ins 59 16 = some (.isub, 1) := by decide +kernel
theorem ze_59_16 : z_T g d 59 16 ls (.int y :: .int x :: st) h P = z_T g d 59 17 ls (.int (x - y) :: st) h P := zt_bin (f := fun x y => x - y) zi_59_16 rfl (fun _ _ _ => rfl)
theorem zi_59_17 : z_ins 59 17 = some (.aload_n 1, 1) := by decide +kernel
theorem ze_59_17 : z_T g d 59 17 (v0 :: .retAddr b :: ls) st h P = z_T g d 59 18 (v0 :: .retAddr b :: ls) (.retAddr b :: st) h P := zt_aloadnS zi_59_17 rfl rfl
theorem zi_59_18 : z_ins 59 18 = some (.invokevirtual 46, 3) := by decide +kernel
theorem ze_59_18 (hk : b < 3) (hok : z_okS 8 (.retAddr b :: st) = true) : z_T g d 59 18 ls (.retAddr b :: st) h P = z_T g d 59 21 ls (.int (nI (z_lit b).length) :: st) h P := zt_prim zi_59_18 ((congrArg (fun o => z_lookup z_cns (o, 46)) zo_59).trans zq_cns_LatinRectangles_Text_46) ((congrArg (fun o => z_lookup z_prs (o, 46)) zo_59).trans zq_prs_LatinRectangles_Text_46) rfl hok (by simp only [z_prim, hk, if_true])
theorem zi_59_21 : z_ins 59 21 = some (.if_icmp .eq 5, 3) := by decide +kernel
theorem ze_59_21 : z_T g d 59 21 ls (.int y :: .int x :: st) h P = (if x = y then z_T g d 59 26 ls st h P else z_T g d 59 24 ls st h P) := zt_icmpeq zi_59_21 (by decide)
theorem zi_59_24 : z_ins 59 24 = some (.iconst 0, 1) := by decide +kernel
theorem ze_59_24 : z_T g d 59 24 ls st h P = z_T g d 59 25 ls (.int (nI 0) :: st) h P := zt_iconst zi_59_24 rfl
theorem zi_59_25 : z_ins 59 25 = some (.ireturn, 1) := by decide +kernel
theorem ze_59_25 : z_T g d 59 25 ls [.int x] h P = ((x = nI 0 ∨ x = nI 1) ∧ P (.inr (some (.int x)), h)) := zt_zreturn zi_59_25 zr_59
theorem zi_59_26 : z_ins 59 26 = some (.iconst 0, 1) := by decide +kernel
theorem ze_59_26 : z_T g d 59 26 ls st h P = z_T g d 59 27 ls (.int (nI 0) :: st) h P := zt_iconst zi_59_26 rfl
theorem zi_59_27 : z_ins 59 27 = some (.istore_n 2, 1) := by decide +kernel
theorem ze_59_27 : z_T g d 59 27 (v0 :: v1 :: v2 :: ls) (.int x :: st) h P = z_T g d 59 28 (v0 :: v1 :: .int x :: ls) st h P := zt_istoren zi_59_27 rfl (Nat.le_add_left 3 _)
theorem zi_59_28 : z_ins 59 28 = some (.iload_n 2, 1) := by decide +kernel
theorem ze_59_28 : z_T g d 59 28 (v0 :: v1 :: .int x :: ls) st h P = z_T g d 59 29 (v0 :: v1 :: .int x :: ls) (.int x :: st) h P := zt_iloadn zi_59_28 rfl rfl
theorem zi_59_29 : z_ins 59 29 = some (.aload_n 1, 1) := by decide +kernel
theorem ze_59_29 : z_T g d 59 29 (v0 :: .retAddr b :: ls) st h P = z_T g d 59 30 (v0 :: .retAddr b :: ls) (.retAddr b :: st) h P := zt_aloadnS zi_59_29 rfl rfl
theorem zi_59_30 : z_ins 59 30 = some (.invokevirtual 46, 3) := by decide +kernel
theorem ze_59_30 (hk : b < 3) (hok : z_okS 8 (.retAddr b :: st) = true) : z_T g d 59 30 ls (.retAddr b :: st) h P = z_T g d 59 33 ls (.int (nI (z_lit b).length) :: st) h P := zt_prim zi_59_30 ((congrArg (fun o => z_lookup z_cns (o, 46)) zo_59).trans zq_cns_LatinRectangles_Text_46) ((congrArg (fun o => z_lookup z_prs (o, 46)) zo_59).trans zq_prs_LatinRectangles_Text_46) rfl hok (by simp only [z_prim, hk, if_true])
theorem zi_59_33 : z_ins 59 33 = some (.if_icmp .ge 30, 3) := by decide +kernel
theorem ze_59_33 : z_T g d 59 33 ls (.int y :: .int x :: st) h P = (if x < y then z_T g d 59 36 ls st h P else z_T g d 59 63 ls st h P) := zt_icmpge zi_59_33 (by decide)
theorem zi_59_36 : z_ins 59 36 = some (.aload_n 0, 1) := by decide +kernel
theorem ze_59_36 : z_T g d 59 36 (.ref a :: ls) st h P = z_T g d 59 37 (.ref a :: ls) (.ref a :: st) h P := zt_aloadn zi_59_36 rfl rfl
theorem zi_59_37 : z_ins 59 37 = some (.getfield 9, 3) := by decide +kernel
theorem ze_59_37 : z_T g d 59 37 ls (.ref a :: st) h P = z_gR h.1 a 7 0 (fun x => z_T g d 59 40 ls (x :: st) h P) := zt_getR zi_59_37 ((congrArg (fun o => z_fl o 9) zo_59).trans zf_LatinRectangles_Text_9)
theorem zi_59_40 : z_ins 59 40 = some (.aload_n 0, 1) := by decide +kernel
theorem ze_59_40 : z_T g d 59 40 (.ref a :: ls) st h P = z_T g d 59 41 (.ref a :: ls) (.ref a :: st) h P := zt_aloadn zi_59_40 rfl rfl
theorem zi_59_41 : z_ins 59 41 = some (.getfield 31, 3) := by decide +kernel
theorem ze_59_41 : z_T g d 59 41 ls (.ref a :: st) h P = z_gI h.1 a 7 5 (fun x => z_T g d 59 44 ls (.int x :: st) h P) := zt_getI zi_59_41 ((congrArg (fun o => z_fl o 31) zo_59).trans zf_LatinRectangles_Text_31)
theorem zi_59_44 : z_ins 59 44 = some (.iload_n 2, 1) := by decide +kernel
theorem ze_59_44 : z_T g d 59 44 (v0 :: v1 :: .int x :: ls) st h P = z_T g d 59 45 (v0 :: v1 :: .int x :: ls) (.int x :: st) h P := zt_iloadn zi_59_44 rfl rfl
theorem zi_59_45 : z_ins 59 45 = some (.iadd, 1) := by decide +kernel
theorem ze_59_45 : z_T g d 59 45 ls (.int y :: .int x :: st) h P = z_T g d 59 46 ls (.int (x + y) :: st) h P := zt_bin (f := fun x y => x + y) zi_59_45 rfl (fun _ _ _ => rfl)
theorem zi_59_46 : z_ins 59 46 = some (.baload, 1) := by decide +kernel
theorem ze_59_46 : z_T g d 59 46 ls (.int x :: .ref a :: st) h P = z_aL h.1 a z_tB x (fun v => z_T g d 59 47 ls (.int v :: st) h P) := zt_baload zi_59_46
theorem zi_59_47 : z_ins 59 47 = some (.aload_n 1, 1) := by decide +kernel
theorem ze_59_47 : z_T g d 59 47 (v0 :: .retAddr b :: ls) st h P = z_T g d 59 48 (v0 :: .retAddr b :: ls) (.retAddr b :: st) h P := zt_aloadnS zi_59_47 rfl rfl
theorem zi_59_48 : z_ins 59 48 = some (.iload_n 2, 1) := by decide +kernel
theorem ze_59_48 : z_T g d 59 48 (v0 :: v1 :: .int x :: ls) st h P = z_T g d 59 49 (v0 :: v1 :: .int x :: ls) (.int x :: st) h P := zt_iloadn zi_59_48 rfl rfl
theorem zi_59_49 : z_ins 59 49 = some (.invokevirtual 51, 3) := by decide +kernel
theorem ze_59_49 (hk : b < 3) (hj : z_idx x (z_lit b).length = true) (hok : z_okS 8 (.int x :: .retAddr b :: st) = true) : z_T g d 59 49 ls (.int x :: .retAddr b :: st) h P = z_T g d 59 52 ls (.int ((z_lit b).getD x.toNatClampNeg 0) :: st) h P := zt_prim zi_59_49 ((congrArg (fun o => z_lookup z_cns (o, 51)) zo_59).trans zq_cns_LatinRectangles_Text_51) ((congrArg (fun o => z_lookup z_prs (o, 51)) zo_59).trans zq_prs_LatinRectangles_Text_51) rfl hok (by simp only [z_prim, hk, hj, and_self, if_true])
theorem zi_59_52 : z_ins 59 52 = some (.if_icmp .eq 5, 3) := by decide +kernel
theorem ze_59_52 : z_T g d 59 52 ls (.int y :: .int x :: st) h P = (if x = y then z_T g d 59 57 ls st h P else z_T g d 59 55 ls st h P) := zt_icmpeq zi_59_52 (by decide)
theorem zi_59_55 : z_ins 59 55 = some (.iconst 0, 1) := by decide +kernel
theorem ze_59_55 : z_T g d 59 55 ls st h P = z_T g d 59 56 ls (.int (nI 0) :: st) h P := zt_iconst zi_59_55 rfl
theorem zi_59_56 : z_ins 59 56 = some (.ireturn, 1) := by decide +kernel
theorem ze_59_56 : z_T g d 59 56 ls [.int x] h P = ((x = nI 0 ∨ x = nI 1) ∧ P (.inr (some (.int x)), h)) := zt_zreturn zi_59_56 zr_59
theorem zi_59_57 : z_ins 59 57 = some (.iinc 2 1, 3) := by decide +kernel
theorem ze_59_57 : z_T g d 59 57 (v0 :: v1 :: .int x :: ls) st h P = z_T g d 59 60 (v0 :: v1 :: .int (x + (nI 1)) :: ls) st h P := zt_iinc zi_59_57 rfl rfl
theorem zi_59_60 : z_ins 59 60 = some (.goto (-32), 3) := by decide +kernel
theorem ze_59_60 : z_T g d 59 60 ls st h P = z_T g d 59 28 ls st h P := zt_goto zi_59_60 (by decide)
theorem zi_59_63 : z_ins 59 63 = some (.iconst 1, 1) := by decide +kernel
theorem ze_59_63 : z_T g d 59 63 ls st h P = z_T g d 59 64 ls (.int (nI 1) :: st) h P := zt_iconst zi_59_63 rfl
theorem zi_59_64 : z_ins 59 64 = some (.ireturn, 1) := by decide +kernel
theorem ze_59_64 : z_T g d 59 64 ls [.int x] h P = ((x = nI 0 ∨ x = nI 1) ∧ P (.inr (some (.int x)), h)) := zt_zreturn zi_59_64 zr_59
end
