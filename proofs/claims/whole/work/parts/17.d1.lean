section
variable {g : z_G} {d : Nat} {h : z_H} {P : z_Res → Prop} {ls st : List Value} {v0 v1 v2 v3 v4 v5 v6 v7 v8 v9 v10 v11 : Value} {x y x0 x1 x2 x3 x4 x5 x6 : Int32} {u w : Int64} {a b a0 a1 a2 a3 a4 a5 k0 k1 : Nat}
-- LatinRectangles.<init>()V
theorem zo_79 : z_own 79 = "LatinRectangles" := by decide +kernel
theorem zm_79 : z_maxL 79 = 1 := by decide +kernel
theorem zh_79 : z_hds 79 = [] := by decide +kernel
theorem zr_79 : z_rt 79 = none := by decide +kernel
theorem zn_79 : z_Ca g d 79 [.ref a0] h P = z_T g d 79 0 [.ref a0] [] h P := z_Ca_ent zm_79 rfl rfl
theorem zi_79_0 : z_ins 79 0 = some (.aload_n 0, 1) := by decide +kernel
theorem ze_79_0 : z_T g d 79 0 (.ref a :: ls) st h P = z_T g d 79 1 (.ref a :: ls) (.ref a :: st) h P := zt_aloadn zi_79_0 rfl rfl
theorem zi_79_1 : z_ins 79 1 = some (.invokespecial 3, 3) := by decide +kernel
theorem ze_79_1 : z_T g d 79 1 ls (.ref a :: st) h P = (z_okS 8 st = true ∧ z_T g d 79 4 ls st h P) := zt_objInit zi_79_1 ((congrArg (fun o => z_lookup z_ois (o, 3)) zo_79).trans zq_LatinRectangles_3)
theorem zi_79_4 : z_ins 79 4 = some (.aload_n 0, 1) := by decide +kernel
theorem ze_79_4 : z_T g d 79 4 (.ref a :: ls) st h P = z_T g d 79 5 (.ref a :: ls) (.ref a :: st) h P := zt_aloadn zi_79_4 rfl rfl
theorem zi_79_5 : z_ins 79 5 = some (.new 9, 3) := by decide +kernel
theorem ze_79_5 : z_T g d 79 5 ls st h P = z_nO h 3 10 [.null, .null, .null, .null, .null, .int 0, .int 0, .int 0, .int 0, .int 0] (fun q h' => z_T g d 79 8 ls (.ref q :: st) h' P) := zt_new zi_79_5 (by decide +kernel)
theorem zi_79_8 : z_ins 79 8 = some (.dup, 1) := by decide +kernel
theorem ze_79_8 : z_T g d 79 8 ls (.ref a :: st) h P = z_T g d 79 9 ls (.ref a :: .ref a :: st) h P := zt_dupR zi_79_8
theorem ze_79_8_i : z_T g d 79 8 ls (.int x :: st) h P = z_T g d 79 9 ls (.int x :: .int x :: st) h P := zt_dupI zi_79_8
theorem zi_79_9 : z_ins 79 9 = some (.invokespecial 11, 3) := by decide +kernel
theorem ze_79_9 : z_T g d 79 9 ls (.ref a :: st) h P = ((z_okS 8 st = true ∧ 0 < d) ∧ z_Ca g (d - 1) 27 [.ref a] h (fun r => z_k r (fun v h' => z_T g d 79 12 ls (z_push v st) h' P) P)) := zt_callI (as := []) zi_79_9 ((congrArg (fun o => z_lookup z_ois (o, 11)) zo_79).trans zp_LatinRectangles_11) ((congrArg (fun o => z_clk o 11) zo_79).trans zk_LatinRectangles_11) (by decide) zh_79 rfl rfl rfl
theorem zi_79_12 : z_ins 79 12 = some (.putfield 12, 3) := by decide +kernel
theorem ze_79_12 : z_T g d 79 12 ls (.ref b :: .ref a :: st) h P = z_pF h.1 a 9 0 (.ref b) (fun f => z_T g d 79 15 ls st (f, h.2) P) := zt_putR zi_79_12 ((congrArg (fun o => z_fl o 12) zo_79).trans zf_LatinRectangles_12) (by decide +kernel)
theorem zi_79_15 : z_ins 79 15 = some (.aload_n 0, 1) := by decide +kernel
theorem ze_79_15 : z_T g d 79 15 (.ref a :: ls) st h P = z_T g d 79 16 (.ref a :: ls) (.ref a :: st) h P := zt_aloadn zi_79_15 rfl rfl
theorem zi_79_16 : z_ins 79 16 = some (.new 16, 3) := by decide +kernel
theorem ze_79_16 : z_T g d 79 16 ls st h P = z_nO h 7 7 [.null, .int 0, .int 0, .int 0, .int 0, .int 0, .int 0] (fun q h' => z_T g d 79 19 ls (.ref q :: st) h' P) := zt_new zi_79_16 (by decide +kernel)
theorem zi_79_19 : z_ins 79 19 = some (.dup, 1) := by decide +kernel
theorem ze_79_19 : z_T g d 79 19 ls (.ref a :: st) h P = z_T g d 79 20 ls (.ref a :: .ref a :: st) h P := zt_dupR zi_79_19
theorem ze_79_19_i : z_T g d 79 19 ls (.int x :: st) h P = z_T g d 79 20 ls (.int x :: .int x :: st) h P := zt_dupI zi_79_19
theorem zi_79_20 : z_ins 79 20 = some (.invokespecial 18, 3) := by decide +kernel
theorem ze_79_20 : z_T g d 79 20 ls (.ref a :: st) h P = ((z_okS 8 st = true ∧ 0 < d) ∧ z_Ca g (d - 1) 63 [.ref a] h (fun r => z_k r (fun v h' => z_T g d 79 23 ls (z_push v st) h' P) P)) := zt_callI (as := []) zi_79_20 ((congrArg (fun o => z_lookup z_ois (o, 18)) zo_79).trans zp_LatinRectangles_18) ((congrArg (fun o => z_clk o 18) zo_79).trans zk_LatinRectangles_18) (by decide) zh_79 rfl rfl rfl
theorem zi_79_23 : z_ins 79 23 = some (.putfield 19, 3) := by decide +kernel
theorem ze_79_23 : z_T g d 79 23 ls (.ref b :: .ref a :: st) h P = z_pF h.1 a 9 1 (.ref b) (fun f => z_T g d 79 26 ls st (f, h.2) P) := zt_putR zi_79_23 ((congrArg (fun o => z_fl o 19) zo_79).trans zf_LatinRectangles_19) (by decide +kernel)
theorem zi_79_26 : z_ins 79 26 = some (.aload_n 0, 1) := by decide +kernel
theorem ze_79_26 : z_T g d 79 26 (.ref a :: ls) st h P = z_T g d 79 27 (.ref a :: ls) (.ref a :: st) h P := zt_aloadn zi_79_26 rfl rfl
theorem zi_79_27 : z_ins 79 27 = some (.new 23, 3) := by decide +kernel
theorem ze_79_27 : z_T g d 79 27 ls st h P = z_nO h 5 4 [.null, .null, .int 0, .int 0] (fun q h' => z_T g d 79 30 ls (.ref q :: st) h' P) := zt_new zi_79_27 (by decide +kernel)
theorem zi_79_30 : z_ins 79 30 = some (.dup, 1) := by decide +kernel
theorem ze_79_30 : z_T g d 79 30 ls (.ref a :: st) h P = z_T g d 79 31 ls (.ref a :: .ref a :: st) h P := zt_dupR zi_79_30
theorem ze_79_30_i : z_T g d 79 30 ls (.int x :: st) h P = z_T g d 79 31 ls (.int x :: .int x :: st) h P := zt_dupI zi_79_30
theorem zi_79_31 : z_ins 79 31 = some (.aload_n 0, 1) := by decide +kernel
theorem ze_79_31 : z_T g d 79 31 (.ref a :: ls) st h P = z_T g d 79 32 (.ref a :: ls) (.ref a :: st) h P := zt_aloadn zi_79_31 rfl rfl
theorem zi_79_32 : z_ins 79 32 = some (.getfield 19, 3) := by decide +kernel
theorem ze_79_32 : z_T g d 79 32 ls (.ref a :: st) h P = z_gR h.1 a 9 1 (fun x => z_T g d 79 35 ls (.ref x :: st) h P) := zt_getR zi_79_32 ((congrArg (fun o => z_fl o 19) zo_79).trans zf_LatinRectangles_19)
theorem zi_79_35 : z_ins 79 35 = some (.invokespecial 25, 3) := by decide +kernel
theorem ze_79_35 : z_T g d 79 35 ls (.ref a0 :: .ref a :: st) h P = ((z_okS 8 st = true ∧ 0 < d) ∧ z_Ca g (d - 1) 47 [.ref a, .ref a0] h (fun r => z_k r (fun v h' => z_T g d 79 38 ls (z_push v st) h' P) P)) := zt_callI (as := [.ref a0]) zi_79_35 ((congrArg (fun o => z_lookup z_ois (o, 25)) zo_79).trans zp_LatinRectangles_25) ((congrArg (fun o => z_clk o 25) zo_79).trans zk_LatinRectangles_25) (by decide) zh_79 rfl rfl rfl
theorem zi_79_38 : z_ins 79 38 = some (.putfield 28, 3) := by decide +kernel
theorem ze_79_38 : z_T g d 79 38 ls (.ref b :: .ref a :: st) h P = z_pF h.1 a 9 2 (.ref b) (fun f => z_T g d 79 41 ls st (f, h.2) P) := zt_putR zi_79_38 ((congrArg (fun o => z_fl o 28) zo_79).trans zf_LatinRectangles_28) (by decide +kernel)
theorem zi_79_41 : z_ins 79 41 = some (.aload_n 0, 1) := by decide +kernel
theorem ze_79_41 : z_T g d 79 41 (.ref a :: ls) st h P = z_T g d 79 42 (.ref a :: ls) (.ref a :: st) h P := zt_aloadn zi_79_41 rfl rfl
theorem zi_79_42 : z_ins 79 42 = some (.new 32, 3) := by decide +kernel
theorem ze_79_42 : z_T g d 79 42 ls st h P = z_nO h 2 1 [.null] (fun q h' => z_T g d 79 45 ls (.ref q :: st) h' P) := zt_new zi_79_42 (by decide +kernel)
theorem zi_79_45 : z_ins 79 45 = some (.dup, 1) := by decide +kernel
theorem ze_79_45 : z_T g d 79 45 ls (.ref a :: st) h P = z_T g d 79 46 ls (.ref a :: .ref a :: st) h P := zt_dupR zi_79_45
theorem ze_79_45_i : z_T g d 79 45 ls (.int x :: st) h P = z_T g d 79 46 ls (.int x :: .int x :: st) h P := zt_dupI zi_79_45
theorem zi_79_46 : z_ins 79 46 = some (.aload_n 0, 1) := by decide +kernel
theorem ze_79_46 : z_T g d 79 46 (.ref a :: ls) st h P = z_T g d 79 47 (.ref a :: ls) (.ref a :: st) h P := zt_aloadn zi_79_46 rfl rfl
theorem zi_79_47 : z_ins 79 47 = some (.getfield 12, 3) := by decide +kernel
theorem ze_79_47 : z_T g d 79 47 ls (.ref a :: st) h P = z_gR h.1 a 9 0 (fun x => z_T g d 79 50 ls (.ref x :: st) h P) := zt_getR zi_79_47 ((congrArg (fun o => z_fl o 12) zo_79).trans zf_LatinRectangles_12)
theorem zi_79_50 : z_ins 79 50 = some (.invokespecial 34, 3) := by decide +kernel
theorem ze_79_50 : z_T g d 79 50 ls (.ref a0 :: .ref a :: st) h P = ((z_okS 8 st = true ∧ 0 < d) ∧ z_Ca g (d - 1) 19 [.ref a, .ref a0] h (fun r => z_k r (fun v h' => z_T g d 79 53 ls (z_push v st) h' P) P)) := zt_callI (as := [.ref a0]) zi_79_50 ((congrArg (fun o => z_lookup z_ois (o, 34)) zo_79).trans zp_LatinRectangles_34) ((congrArg (fun o => z_clk o 34) zo_79).trans zk_LatinRectangles_34) (by decide) zh_79 rfl rfl rfl
theorem zi_79_53 : z_ins 79 53 = some (.putfield 37, 3) := by decide +kernel
theorem ze_79_53 : z_T g d 79 53 ls (.ref b :: .ref a :: st) h P = z_pF h.1 a 9 3 (.ref b) (fun f => z_T g d 79 56 ls st (f, h.2) P) := zt_putR zi_79_53 ((congrArg (fun o => z_fl o 37) zo_79).trans zf_LatinRectangles_37) (by decide +kernel)
theorem zi_79_56 : z_ins 79 56 = some (.aload_n 0, 1) := by decide +kernel
theorem ze_79_56 : z_T g d 79 56 (.ref a :: ls) st h P = z_T g d 79 57 (.ref a :: ls) (.ref a :: st) h P := zt_aloadn zi_79_56 rfl rfl
theorem zi_79_57 : z_ins 79 57 = some (.new 41, 3) := by decide +kernel
theorem ze_79_57 : z_T g d 79 57 ls st h P = z_nO h 0 4 [.null, .null, .null, .int 0] (fun q h' => z_T g d 79 60 ls (.ref q :: st) h' P) := zt_new zi_79_57 (by decide +kernel)
theorem zi_79_60 : z_ins 79 60 = some (.dup, 1) := by decide +kernel
theorem ze_79_60 : z_T g d 79 60 ls (.ref a :: st) h P = z_T g d 79 61 ls (.ref a :: .ref a :: st) h P := zt_dupR zi_79_60
theorem ze_79_60_i : z_T g d 79 60 ls (.int x :: st) h P = z_T g d 79 61 ls (.int x :: .int x :: st) h P := zt_dupI zi_79_60
theorem zi_79_61 : z_ins 79 61 = some (.aload_n 0, 1) := by decide +kernel
theorem ze_79_61 : z_T g d 79 61 (.ref a :: ls) st h P = z_T g d 79 62 (.ref a :: ls) (.ref a :: st) h P := zt_aloadn zi_79_61 rfl rfl
theorem zi_79_62 : z_ins 79 62 = some (.getfield 12, 3) := by decide +kernel
theorem ze_79_62 : z_T g d 79 62 ls (.ref a :: st) h P = z_gR h.1 a 9 0 (fun x => z_T g d 79 65 ls (.ref x :: st) h P) := zt_getR zi_79_62 ((congrArg (fun o => z_fl o 12) zo_79).trans zf_LatinRectangles_12)
theorem zi_79_65 : z_ins 79 65 = some (.invokespecial 43, 3) := by decide +kernel
theorem ze_79_65 : z_T g d 79 65 ls (.ref a0 :: .ref a :: st) h P = ((z_okS 8 st = true ∧ 0 < d) ∧ z_Ca g (d - 1) 0 [.ref a, .ref a0] h (fun r => z_k r (fun v h' => z_T g d 79 68 ls (z_push v st) h' P) P)) := zt_callI (as := [.ref a0]) zi_79_65 ((congrArg (fun o => z_lookup z_ois (o, 43)) zo_79).trans zp_LatinRectangles_43) ((congrArg (fun o => z_clk o 43) zo_79).trans zk_LatinRectangles_43) (by decide) zh_79 rfl rfl rfl
theorem zi_79_68 : z_ins 79 68 = some (.putfield 44, 3) := by decide +kernel
theorem ze_79_68 : z_T g d 79 68 ls (.ref b :: .ref a :: st) h P = z_pF h.1 a 9 4 (.ref b) (fun f => z_T g d 79 71 ls st (f, h.2) P) := zt_putR zi_79_68 ((congrArg (fun o => z_fl o 44) zo_79).trans zf_LatinRectangles_44) (by decide +kernel)
theorem zi_79_71 : z_ins 79 71 = some (.aload_n 0, 1) := by decide +kernel
theorem ze_79_71 : z_T g d 79 71 (.ref a :: ls) st h P = z_T g d 79 72 (.ref a :: ls) (.ref a :: st) h P := zt_aloadn zi_79_71 rfl rfl
theorem zi_79_72 : z_ins 79 72 = some (.new 48, 3) := by decide +kernel
theorem ze_79_72 : z_T g d 79 72 ls st h P = z_nO h 8 4 [.null, .null, .int 0, .int 0] (fun q h' => z_T g d 79 75 ls (.ref q :: st) h' P) := zt_new zi_79_72 (by decide +kernel)
theorem zi_79_75 : z_ins 79 75 = some (.dup, 1) := by decide +kernel
theorem ze_79_75 : z_T g d 79 75 ls (.ref a :: st) h P = z_T g d 79 76 ls (.ref a :: .ref a :: st) h P := zt_dupR zi_79_75
theorem ze_79_75_i : z_T g d 79 75 ls (.int x :: st) h P = z_T g d 79 76 ls (.int x :: .int x :: st) h P := zt_dupI zi_79_75
theorem zi_79_76 : z_ins 79 76 = some (.aload_n 0, 1) := by decide +kernel
theorem ze_79_76 : z_T g d 79 76 (.ref a :: ls) st h P = z_T g d 79 77 (.ref a :: ls) (.ref a :: st) h P := zt_aloadn zi_79_76 rfl rfl
theorem zi_79_77 : z_ins 79 77 = some (.getfield 12, 3) := by decide +kernel
theorem ze_79_77 : z_T g d 79 77 ls (.ref a :: st) h P = z_gR h.1 a 9 0 (fun x => z_T g d 79 80 ls (.ref x :: st) h P) := zt_getR zi_79_77 ((congrArg (fun o => z_fl o 12) zo_79).trans zf_LatinRectangles_12)
theorem zi_79_80 : z_ins 79 80 = some (.invokespecial 50, 3) := by decide +kernel
theorem ze_79_80 : z_T g d 79 80 ls (.ref a0 :: .ref a :: st) h P = ((z_okS 8 st = true ∧ 0 < d) ∧ z_Ca g (d - 1) 70 [.ref a, .ref a0] h (fun r => z_k r (fun v h' => z_T g d 79 83 ls (z_push v st) h' P) P)) := zt_callI (as := [.ref a0]) zi_79_80 ((congrArg (fun o => z_lookup z_ois (o, 50)) zo_79).trans zp_LatinRectangles_50) ((congrArg (fun o => z_clk o 50) zo_79).trans zk_LatinRectangles_50) (by decide) zh_79 rfl rfl rfl
theorem zi_79_83 : z_ins 79 83 = some (.putfield 51, 3) := by decide +kernel
theorem ze_79_83 : z_T g d 79 83 ls (.ref b :: .ref a :: st) h P = z_pF h.1 a 9 5 (.ref b) (fun f => z_T g d 79 86 ls st (f, h.2) P) := zt_putR zi_79_83 ((congrArg (fun o => z_fl o 51) zo_79).trans zf_LatinRectangles_51) (by decide +kernel)
theorem zi_79_86 : z_ins 79 86 = some (.aload_n 0, 1) := by decide +kernel
theorem ze_79_86 : z_T g d 79 86 (.ref a :: ls) st h P = z_T g d 79 87 (.ref a :: ls) (.ref a :: st) h P := zt_aloadn zi_79_86 rfl rfl
theorem zi_79_87 : z_ins 79 87 = some (.new 55, 3) := by decide +kernel
theorem ze_79_87 : z_T g d 79 87 ls st h P = z_nO h 1 3 [.null, .null, .int 0] (fun q h' => z_T g d 79 90 ls (.ref q :: st) h' P) := zt_new zi_79_87 (by decide +kernel)
theorem zi_79_90 : z_ins 79 90 = some (.dup, 1) := by decide +kernel
theorem ze_79_90 : z_T g d 79 90 ls (.ref a :: st) h P = z_T g d 79 91 ls (.ref a :: .ref a :: st) h P := zt_dupR zi_79_90
theorem ze_79_90_i : z_T g d 79 90 ls (.int x :: st) h P = z_T g d 79 91 ls (.int x :: .int x :: st) h P := zt_dupI zi_79_90
theorem zi_79_91 : z_ins 79 91 = some (.aload_n 0, 1) := by decide +kernel
theorem ze_79_91 : z_T g d 79 91 (.ref a :: ls) st h P = z_T g d 79 92 (.ref a :: ls) (.ref a :: st) h P := zt_aloadn zi_79_91 rfl rfl
theorem zi_79_92 : z_ins 79 92 = some (.getfield 12, 3) := by decide +kernel
theorem ze_79_92 : z_T g d 79 92 ls (.ref a :: st) h P = z_gR h.1 a 9 0 (fun x => z_T g d 79 95 ls (.ref x :: st) h P) := zt_getR zi_79_92 ((congrArg (fun o => z_fl o 12) zo_79).trans zf_LatinRectangles_12)
theorem zi_79_95 : z_ins 79 95 = some (.invokespecial 57, 3) := by decide +kernel
theorem ze_79_95 : z_T g d 79 95 ls (.ref a0 :: .ref a :: st) h P = ((z_okS 8 st = true ∧ 0 < d) ∧ z_Ca g (d - 1) 8 [.ref a, .ref a0] h (fun r => z_k r (fun v h' => z_T g d 79 98 ls (z_push v st) h' P) P)) := zt_callI (as := [.ref a0]) zi_79_95 ((congrArg (fun o => z_lookup z_ois (o, 57)) zo_79).trans zp_LatinRectangles_57) ((congrArg (fun o => z_clk o 57) zo_79).trans zk_LatinRectangles_57) (by decide) zh_79 rfl rfl rfl
theorem zi_79_98 : z_ins 79 98 = some (.putfield 58, 3) := by decide +kernel
theorem ze_79_98 : z_T g d 79 98 ls (.ref b :: .ref a :: st) h P = z_pF h.1 a 9 6 (.ref b) (fun f => z_T g d 79 101 ls st (f, h.2) P) := zt_putR zi_79_98 ((congrArg (fun o => z_fl o 58) zo_79).trans zf_LatinRectangles_58) (by decide +kernel)
theorem zi_79_101 : z_ins 79 101 = some (.aload_n 0, 1) := by decide +kernel
theorem ze_79_101 : z_T g d 79 101 (.ref a :: ls) st h P = z_T g d 79 102 (.ref a :: ls) (.ref a :: st) h P := zt_aloadn zi_79_101 rfl rfl
theorem zi_79_102 : z_ins 79 102 = some (.new 62, 3) := by decide +kernel
theorem ze_79_102 : z_T g d 79 102 ls st h P = z_nO h 4 3 [.null, .int 0, .int 0] (fun q h' => z_T g d 79 105 ls (.ref q :: st) h' P) := zt_new zi_79_102 (by decide +kernel)
theorem zi_79_105 : z_ins 79 105 = some (.dup, 1) := by decide +kernel
theorem ze_79_105 : z_T g d 79 105 ls (.ref a :: st) h P = z_T g d 79 106 ls (.ref a :: .ref a :: st) h P := zt_dupR zi_79_105
theorem ze_79_105_i : z_T g d 79 105 ls (.int x :: st) h P = z_T g d 79 106 ls (.int x :: .int x :: st) h P := zt_dupI zi_79_105
theorem zi_79_106 : z_ins 79 106 = some (.invokespecial 64, 3) := by decide +kernel
theorem ze_79_106 : z_T g d 79 106 ls (.ref a :: st) h P = ((z_okS 8 st = true ∧ 0 < d) ∧ z_Ca g (d - 1) 43 [.ref a] h (fun r => z_k r (fun v h' => z_T g d 79 109 ls (z_push v st) h' P) P)) := zt_callI (as := []) zi_79_106 ((congrArg (fun o => z_lookup z_ois (o, 64)) zo_79).trans zp_LatinRectangles_64) ((congrArg (fun o => z_clk o 64) zo_79).trans zk_LatinRectangles_64) (by decide) zh_79 rfl rfl rfl
theorem zi_79_109 : z_ins 79 109 = some (.putfield 65, 3) := by decide +kernel
theorem ze_79_109 : z_T g d 79 109 ls (.ref b :: .ref a :: st) h P = z_pF h.1 a 9 7 (.ref b) (fun f => z_T g d 79 112 ls st (f, h.2) P) := zt_putR zi_79_109 ((congrArg (fun o => z_fl o 65) zo_79).trans zf_LatinRectangles_65) (by decide +kernel)
theorem zi_79_112 : z_ins 79 112 = some (.aload_n 0, 1) := by decide +kernel
theorem ze_79_112 : z_T g d 79 112 (.ref a :: ls) st h P = z_T g d 79 113 (.ref a :: ls) (.ref a :: st) h P := zt_aloadn zi_79_112 rfl rfl
theorem zi_79_113 : z_ins 79 113 = some (.new 69, 3) := by decide +kernel
theorem ze_79_113 : z_T g d 79 113 ls st h P = z_nO h 6 2 [.null, .null] (fun q h' => z_T g d 79 116 ls (.ref q :: st) h' P) := zt_new zi_79_113 (by decide +kernel)
theorem zi_79_116 : z_ins 79 116 = some (.dup, 1) := by decide +kernel
theorem ze_79_116 : z_T g d 79 116 ls (.ref a :: st) h P = z_T g d 79 117 ls (.ref a :: .ref a :: st) h P := zt_dupR zi_79_116
theorem ze_79_116_i : z_T g d 79 116 ls (.int x :: st) h P = z_T g d 79 117 ls (.int x :: .int x :: st) h P := zt_dupI zi_79_116
theorem zi_79_117 : z_ins 79 117 = some (.invokespecial 71, 3) := by decide +kernel
theorem ze_79_117 : z_T g d 79 117 ls (.ref a :: st) h P = ((z_okS 8 st = true ∧ 0 < d) ∧ z_Ca g (d - 1) 57 [.ref a] h (fun r => z_k r (fun v h' => z_T g d 79 120 ls (z_push v st) h' P) P)) := zt_callI (as := []) zi_79_117 ((congrArg (fun o => z_lookup z_ois (o, 71)) zo_79).trans zp_LatinRectangles_71) ((congrArg (fun o => z_clk o 71) zo_79).trans zk_LatinRectangles_71) (by decide) zh_79 rfl rfl rfl
theorem zi_79_120 : z_ins 79 120 = some (.putfield 72, 3) := by decide +kernel
theorem ze_79_120 : z_T g d 79 120 ls (.ref b :: .ref a :: st) h P = z_pF h.1 a 9 8 (.ref b) (fun f => z_T g d 79 123 ls st (f, h.2) P) := zt_putR zi_79_120 ((congrArg (fun o => z_fl o 72) zo_79).trans zf_LatinRectangles_72) (by decide +kernel)
theorem zi_79_123 : z_ins 79 123 = some (.aload_n 0, 1) := by decide +kernel
theorem ze_79_123 : z_T g d 79 123 (.ref a :: ls) st h P = z_T g d 79 124 (.ref a :: ls) (.ref a :: st) h P := zt_aloadn zi_79_123 rfl rfl
theorem zi_79_124 : z_ins 79 124 = some (.iconst 5, 1) := by decide +kernel
theorem ze_79_124 : z_T g d 79 124 ls st h P = z_T g d 79 125 ls (.int (nI 5) :: st) h P := zt_iconst zi_79_124 rfl
theorem zi_79_125 : z_ins 79 125 = some (.newarray .int, 2) := by decide +kernel
theorem ze_79_125 : z_T g d 79 125 ls (.int x :: st) h P = z_nA h .int x (fun q h' => z_T g d 79 127 ls (.ref q :: st) h' P) := zt_newarray zi_79_125
theorem zi_79_127 : z_ins 79 127 = some (.putfield 76, 3) := by decide +kernel
theorem ze_79_127 : z_T g d 79 127 ls (.ref b :: .ref a :: st) h P = z_pF h.1 a 9 9 (.ref b) (fun f => z_T g d 79 130 ls st (f, h.2) P) := zt_putR zi_79_127 ((congrArg (fun o => z_fl o 76) zo_79).trans zf_LatinRectangles_76) (by decide +kernel)
theorem zi_79_130 : z_ins 79 130 = some (.aload_n 0, 1) := by decide +kernel
theorem ze_79_130 : z_T g d 79 130 (.ref a :: ls) st h P = z_T g d 79 131 (.ref a :: ls) (.ref a :: st) h P := zt_aloadn zi_79_130 rfl rfl
theorem zi_79_131 : z_ins 79 131 = some (.iconst (-1), 1) := by decide +kernel
theorem ze_79_131 : z_T g d 79 131 ls st h P = z_T g d 79 132 ls (.int (-1) :: st) h P := zt_iconst zi_79_131 rfl
theorem zi_79_132 : z_ins 79 132 = some (.putfield 80, 3) := by decide +kernel
theorem ze_79_132 : z_T g d 79 132 ls (.int x :: .ref a :: st) h P = z_pF h.1 a 9 10 (.int x) (fun f => z_T g d 79 135 ls st (f, h.2) P) := zt_putI zi_79_132 ((congrArg (fun o => z_fl o 80) zo_79).trans zf_LatinRectangles_80)
theorem zi_79_135 : z_ins 79 135 = some (.return_, 1) := by decide +kernel
theorem ze_79_135 : z_T g d 79 135 ls [] h P = P (.inr none, h) := zt_return zi_79_135 zr_79
-- LatinRectangles.append(IIIII)I
theorem zo_80 : z_own 80 = "LatinRectangles" := by decide +kernel
theorem zm_80 : z_maxL 80 = 6 := by decide +kernel
theorem zh_80 : z_hds 80 = [] := by decide +kernel
theorem zr_80 : z_rt 80 = (some .int) := by decide +kernel
theorem zn_80 : z_Ca g d 80 [.ref a0, .int x1, .int x2, .int x3, .int x4, .int x5] h P = z_T g d 80 0 [.ref a0, .int x1, .int x2, .int x3, .int x4, .int x5] [] h P := z_Ca_ent zm_80 rfl rfl
theorem zi_80_0 : z_ins 80 0 = some (.aload_n 0, 1) := by decide +kernel
theorem ze_80_0 : z_T g d 80 0 (.ref a :: ls) st h P = z_T g d 80 1 (.ref a :: ls) (.ref a :: st) h P := zt_aloadn zi_80_0 rfl rfl
theorem zi_80_1 : z_ins 80 1 = some (.getfield 19, 3) := by decide +kernel
theorem ze_80_1 : z_T g d 80 1 ls (.ref a :: st) h P = z_gR h.1 a 9 1 (fun x => z_T g d 80 4 ls (.ref x :: st) h P) := zt_getR zi_80_1 ((congrArg (fun o => z_fl o 19) zo_80).trans zf_LatinRectangles_19)
theorem zi_80_4 : z_ins 80 4 = some (.getfield 84, 3) := by decide +kernel
theorem ze_80_4 : z_T g d 80 4 ls (.ref a :: st) h P = z_gI h.1 a 7 1 (fun x => z_T g d 80 7 ls (.int x :: st) h P) := zt_getI zi_80_4 ((congrArg (fun o => z_fl o 84) zo_80).trans zf_LatinRectangles_84)
theorem zi_80_7 : z_ins 80 7 = some (.bipush 20, 2) := by decide +kernel
theorem ze_80_7 : z_T g d 80 7 ls st h P = z_T g d 80 9 ls (.int (nI 20) :: st) h P := zt_bipush zi_80_7 rfl
theorem zi_80_9 : z_ins 80 9 = some (.iadd, 1) := by decide +kernel
theorem ze_80_9 : z_T g d 80 9 ls (.int y :: .int x :: st) h P = z_T g d 80 10 ls (.int (x + y) :: st) h P := zt_bin (f := fun x y => x + y) zi_80_9 rfl (fun _ _ _ => rfl)
theorem zi_80_10 : z_ins 80 10 = some (.sipush 500, 3) := by decide +kernel
theorem ze_80_10 : z_T g d 80 10 ls st h P = z_T g d 80 13 ls (.int (nI 500) :: st) h P := zt_sipush zi_80_10 rfl
theorem zi_80_13 : z_ins 80 13 = some (.if_icmp .le 5, 3) := by decide +kernel
theorem ze_80_13 : z_T g d 80 13 ls (.int y :: .int x :: st) h P = (if y < x then z_T g d 80 16 ls st h P else z_T g d 80 18 ls st h P) := zt_icmple zi_80_13 (by decide)
theorem zi_80_16 : z_ins 80 16 = some (.iconst (-1), 1) := by decide +kernel
theorem ze_80_16 : z_T g d 80 16 ls st h P = z_T g d 80 17 ls (.int (-1) :: st) h P := zt_iconst zi_80_16 rfl
theorem zi_80_17 : z_ins 80 17 = some (.ireturn, 1) := by decide +kernel
theorem ze_80_17 : z_T g d 80 17 ls [.int x] h P = P (.inr (some (.int x)), h) := zt_ireturn zi_80_17 zr_80
theorem zi_80_18 : z_ins 80 18 = some (.aload_n 0, 1) := by decide +kernel
theorem ze_80_18 : z_T g d 80 18 (.ref a :: ls) st h P = z_T g d 80 19 (.ref a :: ls) (.ref a :: st) h P := zt_aloadn zi_80_18 rfl rfl
theorem zi_80_19 : z_ins 80 19 = some (.getfield 19, 3) := by decide +kernel
theorem ze_80_19 : z_T g d 80 19 ls (.ref a :: st) h P = z_gR h.1 a 9 1 (fun x => z_T g d 80 22 ls (.ref x :: st) h P) := zt_getR zi_80_19 ((congrArg (fun o => z_fl o 19) zo_80).trans zf_LatinRectangles_19)
theorem zi_80_22 : z_ins 80 22 = some (.iload_n 1, 1) := by decide +kernel
theorem ze_80_22 : z_T g d 80 22 (v0 :: .int x :: ls) st h P = z_T g d 80 23 (v0 :: .int x :: ls) (.int x :: st) h P := zt_iloadn zi_80_22 rfl rfl
theorem zi_80_23 : z_ins 80 23 = some (.invokevirtual 87, 3) := by decide +kernel
theorem ze_80_23 : z_T g d 80 23 ls (.int x0 :: .ref a :: st) h P = ((z_okS 8 st = true ∧ z_gO h.1 a 7 ∧ 0 < d) ∧ z_Ca g (d - 1) 64 [.ref a, .int x0] h (fun r => z_k r (fun v h' => z_T g d 80 26 ls (z_push v st) h' P) P)) := zt_callV (as := [.int x0]) zi_80_23 ((congrArg (fun o => z_lookup z_prs (o, 87)) zo_80).trans zp_LatinRectangles_87) ((congrArg (fun o => z_clk o 87) zo_80).trans zk_LatinRectangles_87) zh_80 zc_64 rfl rfl rfl
theorem zi_80_26 : z_ins 80 26 = some (.aload_n 0, 1) := by decide +kernel
theorem ze_80_26 : z_T g d 80 26 (.ref a :: ls) st h P = z_T g d 80 27 (.ref a :: ls) (.ref a :: st) h P := zt_aloadn zi_80_26 rfl rfl
theorem zi_80_27 : z_ins 80 27 = some (.getfield 19, 3) := by decide +kernel
theorem ze_80_27 : z_T g d 80 27 ls (.ref a :: st) h P = z_gR h.1 a 9 1 (fun x => z_T g d 80 30 ls (.ref x :: st) h P) := zt_getR zi_80_27 ((congrArg (fun o => z_fl o 19) zo_80).trans zf_LatinRectangles_19)
theorem zi_80_30 : z_ins 80 30 = some (.iload_n 2, 1) := by decide +kernel
theorem ze_80_30 : z_T g d 80 30 (v0 :: v1 :: .int x :: ls) st h P = z_T g d 80 31 (v0 :: v1 :: .int x :: ls) (.int x :: st) h P := zt_iloadn zi_80_30 rfl rfl
theorem zi_80_31 : z_ins 80 31 = some (.invokevirtual 87, 3) := by decide +kernel
theorem ze_80_31 : z_T g d 80 31 ls (.int x0 :: .ref a :: st) h P = ((z_okS 8 st = true ∧ z_gO h.1 a 7 ∧ 0 < d) ∧ z_Ca g (d - 1) 64 [.ref a, .int x0] h (fun r => z_k r (fun v h' => z_T g d 80 34 ls (z_push v st) h' P) P)) := zt_callV (as := [.int x0]) zi_80_31 ((congrArg (fun o => z_lookup z_prs (o, 87)) zo_80).trans zp_LatinRectangles_87) ((congrArg (fun o => z_clk o 87) zo_80).trans zk_LatinRectangles_87) zh_80 zc_64 rfl rfl rfl
theorem zi_80_34 : z_ins 80 34 = some (.aload_n 0, 1) := by decide +kernel
theorem ze_80_34 : z_T g d 80 34 (.ref a :: ls) st h P = z_T g d 80 35 (.ref a :: ls) (.ref a :: st) h P := zt_aloadn zi_80_34 rfl rfl
theorem zi_80_35 : z_ins 80 35 = some (.getfield 19, 3) := by decide +kernel
theorem ze_80_35 : z_T g d 80 35 ls (.ref a :: st) h P = z_gR h.1 a 9 1 (fun x => z_T g d 80 38 ls (.ref x :: st) h P) := zt_getR zi_80_35 ((congrArg (fun o => z_fl o 19) zo_80).trans zf_LatinRectangles_19)
theorem zi_80_38 : z_ins 80 38 = some (.iload_n 3, 1) := by decide +kernel
theorem ze_80_38 : z_T g d 80 38 (v0 :: v1 :: v2 :: .int x :: ls) st h P = z_T g d 80 39 (v0 :: v1 :: v2 :: .int x :: ls) (.int x :: st) h P := zt_iloadn zi_80_38 rfl rfl
theorem zi_80_39 : z_ins 80 39 = some (.invokevirtual 87, 3) := by decide +kernel
theorem ze_80_39 : z_T g d 80 39 ls (.int x0 :: .ref a :: st) h P = ((z_okS 8 st = true ∧ z_gO h.1 a 7 ∧ 0 < d) ∧ z_Ca g (d - 1) 64 [.ref a, .int x0] h (fun r => z_k r (fun v h' => z_T g d 80 42 ls (z_push v st) h' P) P)) := zt_callV (as := [.int x0]) zi_80_39 ((congrArg (fun o => z_lookup z_prs (o, 87)) zo_80).trans zp_LatinRectangles_87) ((congrArg (fun o => z_clk o 87) zo_80).trans zk_LatinRectangles_87) zh_80 zc_64 rfl rfl rfl
theorem zi_80_42 : z_ins 80 42 = some (.aload_n 0, 1) := by decide +kernel
theorem ze_80_42 : z_T g d 80 42 (.ref a :: ls) st h P = z_T g d 80 43 (.ref a :: ls) (.ref a :: st) h P := zt_aloadn zi_80_42 rfl rfl
theorem zi_80_43 : z_ins 80 43 = some (.getfield 19, 3) := by decide +kernel
theorem ze_80_43 : z_T g d 80 43 ls (.ref a :: st) h P = z_gR h.1 a 9 1 (fun x => z_T g d 80 46 ls (.ref x :: st) h P) := zt_getR zi_80_43 ((congrArg (fun o => z_fl o 19) zo_80).trans zf_LatinRectangles_19)
theorem zi_80_46 : z_ins 80 46 = some (.iload 4, 2) := by decide +kernel
theorem ze_80_46 : z_T g d 80 46 (v0 :: v1 :: v2 :: v3 :: .int x :: ls) st h P = z_T g d 80 48 (v0 :: v1 :: v2 :: v3 :: .int x :: ls) (.int x :: st) h P := zt_iload zi_80_46 rfl
theorem zi_80_48 : z_ins 80 48 = some (.invokevirtual 87, 3) := by decide +kernel
theorem ze_80_48 : z_T g d 80 48 ls (.int x0 :: .ref a :: st) h P = ((z_okS 8 st = true ∧ z_gO h.1 a 7 ∧ 0 < d) ∧ z_Ca g (d - 1) 64 [.ref a, .int x0] h (fun r => z_k r (fun v h' => z_T g d 80 51 ls (z_push v st) h' P) P)) := zt_callV (as := [.int x0]) zi_80_48 ((congrArg (fun o => z_lookup z_prs (o, 87)) zo_80).trans zp_LatinRectangles_87) ((congrArg (fun o => z_clk o 87) zo_80).trans zk_LatinRectangles_87) zh_80 zc_64 rfl rfl rfl
theorem zi_80_51 : z_ins 80 51 = some (.aload_n 0, 1) := by decide +kernel
theorem ze_80_51 : z_T g d 80 51 (.ref a :: ls) st h P = z_T g d 80 52 (.ref a :: ls) (.ref a :: st) h P := zt_aloadn zi_80_51 rfl rfl
theorem zi_80_52 : z_ins 80 52 = some (.getfield 19, 3) := by decide +kernel
theorem ze_80_52 : z_T g d 80 52 ls (.ref a :: st) h P = z_gR h.1 a 9 1 (fun x => z_T g d 80 55 ls (.ref x :: st) h P) := zt_getR zi_80_52 ((congrArg (fun o => z_fl o 19) zo_80).trans zf_LatinRectangles_19)
theorem zi_80_55 : z_ins 80 55 = some (.iload 5, 2) := by decide +kernel
theorem ze_80_55 : z_T g d 80 55 (v0 :: v1 :: v2 :: v3 :: v4 :: .int x :: ls) st h P = z_T g d 80 57 (v0 :: v1 :: v2 :: v3 :: v4 :: .int x :: ls) (.int x :: st) h P := zt_iload zi_80_55 rfl
theorem zi_80_57 : z_ins 80 57 = some (.invokevirtual 87, 3) := by decide +kernel
theorem ze_80_57 : z_T g d 80 57 ls (.int x0 :: .ref a :: st) h P = ((z_okS 8 st = true ∧ z_gO h.1 a 7 ∧ 0 < d) ∧ z_Ca g (d - 1) 64 [.ref a, .int x0] h (fun r => z_k r (fun v h' => z_T g d 80 60 ls (z_push v st) h' P) P)) := zt_callV (as := [.int x0]) zi_80_57 ((congrArg (fun o => z_lookup z_prs (o, 87)) zo_80).trans zp_LatinRectangles_87) ((congrArg (fun o => z_clk o 87) zo_80).trans zk_LatinRectangles_87) zh_80 zc_64 rfl rfl rfl
theorem zi_80_60 : z_ins 80 60 = some (.aload_n 0, 1) := by decide +kernel
theorem ze_80_60 : z_T g d 80 60 (.ref a :: ls) st h P = z_T g d 80 61 (.ref a :: ls) (.ref a :: st) h P := zt_aloadn zi_80_60 rfl rfl
theorem zi_80_61 : z_ins 80 61 = some (.getfield 19, 3) := by decide +kernel
theorem ze_80_61 : z_T g d 80 61 ls (.ref a :: st) h P = z_gR h.1 a 9 1 (fun x => z_T g d 80 64 ls (.ref x :: st) h P) := zt_getR zi_80_61 ((congrArg (fun o => z_fl o 19) zo_80).trans zf_LatinRectangles_19)
theorem zi_80_64 : z_ins 80 64 = some (.getfield 84, 3) := by decide +kernel
theorem ze_80_64 : z_T g d 80 64 ls (.ref a :: st) h P = z_gI h.1 a 7 1 (fun x => z_T g d 80 67 ls (.int x :: st) h P) := zt_getI zi_80_64 ((congrArg (fun o => z_fl o 84) zo_80).trans zf_LatinRectangles_84)
theorem zi_80_67 : z_ins 80 67 = some (.ireturn, 1) := by decide +kernel
theorem ze_80_67 : z_T g d 80 67 ls [.int x] h P = P (.inr (some (.int x)), h) := zt_ireturn zi_80_67 zr_80
-- LatinRectangles.parse(I)I
theorem zo_81 : z_own 81 = "LatinRectangles" := by decide +kernel
theorem zm_81 : z_maxL 81 = 3 := by decide +kernel
theorem zh_81 : z_hds 81 = [] := by decide +kernel
theorem zr_81 : z_rt 81 = (some .int) := by decide +kernel
theorem zn_81 : z_Ca g d 81 [.ref a0, .int x1] h P = z_T g d 81 0 [.ref a0, .int x1, z_un] [] h P := z_Ca_ent zm_81 rfl rfl
theorem zi_81_0 : z_ins 81 0 = some (.iload_n 1, 1) := by decide +kernel
theorem ze_81_0 : z_T g d 81 0 (v0 :: .int x :: ls) st h P = z_T g d 81 1 (v0 :: .int x :: ls) (.int x :: st) h P := zt_iloadn zi_81_0 rfl rfl
theorem zi_81_1 : z_ins 81 1 = some (.ifCond .lt 14, 3) := by decide +kernel
theorem ze_81_1 : z_T g d 81 1 ls (.int x :: st) h P = (if x < nI 0 then z_T g d 81 15 ls st h P else z_T g d 81 4 ls st h P) := zt_iflt zi_81_1 (by decide)
theorem zi_81_4 : z_ins 81 4 = some (.iload_n 1, 1) := by decide +kernel
theorem ze_81_4 : z_T g d 81 4 (v0 :: .int x :: ls) st h P = z_T g d 81 5 (v0 :: .int x :: ls) (.int x :: st) h P := zt_iloadn zi_81_4 rfl rfl
theorem zi_81_5 : z_ins 81 5 = some (.aload_n 0, 1) := by decide +kernel
theorem ze_81_5 : z_T g d 81 5 (.ref a :: ls) st h P = z_T g d 81 6 (.ref a :: ls) (.ref a :: st) h P := zt_aloadn zi_81_5 rfl rfl
theorem zi_81_6 : z_ins 81 6 = some (.getfield 19, 3) := by decide +kernel
theorem ze_81_6 : z_T g d 81 6 ls (.ref a :: st) h P = z_gR h.1 a 9 1 (fun x => z_T g d 81 9 ls (.ref x :: st) h P) := zt_getR zi_81_6 ((congrArg (fun o => z_fl o 19) zo_81).trans zf_LatinRectangles_19)
theorem zi_81_9 : z_ins 81 9 = some (.getfield 84, 3) := by decide +kernel
theorem ze_81_9 : z_T g d 81 9 ls (.ref a :: st) h P = z_gI h.1 a 7 1 (fun x => z_T g d 81 12 ls (.int x :: st) h P) := zt_getI zi_81_9 ((congrArg (fun o => z_fl o 84) zo_81).trans zf_LatinRectangles_84)
theorem zi_81_12 : z_ins 81 12 = some (.if_icmp .le 13, 3) := by decide +kernel
theorem ze_81_12 : z_T g d 81 12 ls (.int y :: .int x :: st) h P = (if y < x then z_T g d 81 15 ls st h P else z_T g d 81 25 ls st h P) := zt_icmple zi_81_12 (by decide)
theorem zi_81_15 : z_ins 81 15 = some (.new 91, 3) := by decide +kernel
theorem ze_81_15 : z_T g d 81 15 ls [] h P = P (.inl "java/lang/IllegalArgumentException", (h.1, none, h.2.2.1 + 1, h.2.2.2 + 6)) := zt_throwN zi_81_15 (by decide +kernel) (by decide +kernel) zh_81
theorem zi_81_25 : z_ins 81 25 = some (.aload_n 0, 1) := by decide +kernel
theorem ze_81_25 : z_T g d 81 25 (.ref a :: ls) st h P = z_T g d 81 26 (.ref a :: ls) (.ref a :: st) h P := zt_aloadn zi_81_25 rfl rfl
theorem zi_81_26 : z_ins 81 26 = some (.getfield 28, 3) := by decide +kernel
theorem ze_81_26 : z_T g d 81 26 ls (.ref a :: st) h P = z_gR h.1 a 9 2 (fun x => z_T g d 81 29 ls (.ref x :: st) h P) := zt_getR zi_81_26 ((congrArg (fun o => z_fl o 28) zo_81).trans zf_LatinRectangles_28)
theorem zi_81_29 : z_ins 81 29 = some (.iload_n 1, 1) := by decide +kernel
theorem ze_81_29 : z_T g d 81 29 (v0 :: .int x :: ls) st h P = z_T g d 81 30 (v0 :: .int x :: ls) (.int x :: st) h P := zt_iloadn zi_81_29 rfl rfl
theorem zi_81_30 : z_ins 81 30 = some (.invokevirtual 98, 3) := by decide +kernel
theorem ze_81_30 : z_T g d 81 30 ls (.int x0 :: .ref a :: st) h P = ((z_okS 8 st = true ∧ z_gO h.1 a 5 ∧ 0 < d) ∧ z_Ca g (d - 1) 48 [.ref a, .int x0] h (fun r => z_k r (fun v h' => z_T g d 81 33 ls (z_push v st) h' P) P)) := zt_callV (as := [.int x0]) zi_81_30 ((congrArg (fun o => z_lookup z_prs (o, 98)) zo_81).trans zp_LatinRectangles_98) ((congrArg (fun o => z_clk o 98) zo_81).trans zk_LatinRectangles_98) zh_81 zc_48 rfl rfl rfl
theorem zi_81_33 : z_ins 81 33 = some (.istore_n 2, 1) := by decide +kernel
theorem ze_81_33 : z_T g d 81 33 (v0 :: v1 :: v2 :: ls) (.int x :: st) h P = z_T g d 81 34 (v0 :: v1 :: .int x :: ls) st h P := zt_istoren zi_81_33 rfl (Nat.le_add_left 3 _)
theorem zi_81_34 : z_ins 81 34 = some (.aload_n 0, 1) := by decide +kernel
theorem ze_81_34 : z_T g d 81 34 (.ref a :: ls) st h P = z_T g d 81 35 (.ref a :: ls) (.ref a :: st) h P := zt_aloadn zi_81_34 rfl rfl
theorem zi_81_35 : z_ins 81 35 = some (.getfield 19, 3) := by decide +kernel
theorem ze_81_35 : z_T g d 81 35 ls (.ref a :: st) h P = z_gR h.1 a 9 1 (fun x => z_T g d 81 38 ls (.ref x :: st) h P) := zt_getR zi_81_35 ((congrArg (fun o => z_fl o 19) zo_81).trans zf_LatinRectangles_19)
theorem zi_81_38 : z_ins 81 38 = some (.iconst 0, 1) := by decide +kernel
theorem ze_81_38 : z_T g d 81 38 ls st h P = z_T g d 81 39 ls (.int (nI 0) :: st) h P := zt_iconst zi_81_38 rfl
theorem zi_81_39 : z_ins 81 39 = some (.putfield 84, 3) := by decide +kernel
theorem ze_81_39 : z_T g d 81 39 ls (.int x :: .ref a :: st) h P = z_pF h.1 a 7 1 (.int x) (fun f => z_T g d 81 42 ls st (f, h.2) P) := zt_putI zi_81_39 ((congrArg (fun o => z_fl o 84) zo_81).trans zf_LatinRectangles_84)
theorem zi_81_42 : z_ins 81 42 = some (.iload_n 2, 1) := by decide +kernel
theorem ze_81_42 : z_T g d 81 42 (v0 :: v1 :: .int x :: ls) st h P = z_T g d 81 43 (v0 :: v1 :: .int x :: ls) (.int x :: st) h P := zt_iloadn zi_81_42 rfl rfl
theorem zi_81_43 : z_ins 81 43 = some (.ifCond .ne 22, 3) := by decide +kernel
theorem ze_81_43 : z_T g d 81 43 ls (.int x :: st) h P = (if x = nI 0 then z_T g d 81 46 ls st h P else z_T g d 81 65 ls st h P) := zt_ifne zi_81_43 (by decide)
theorem zi_81_46 : z_ins 81 46 = some (.aload_n 0, 1) := by decide +kernel
theorem ze_81_46 : z_T g d 81 46 (.ref a :: ls) st h P = z_T g d 81 47 (.ref a :: ls) (.ref a :: st) h P := zt_aloadn zi_81_46 rfl rfl
theorem zi_81_47 : z_ins 81 47 = some (.aload_n 0, 1) := by decide +kernel
theorem ze_81_47 : z_T g d 81 47 (.ref a :: ls) st h P = z_T g d 81 48 (.ref a :: ls) (.ref a :: st) h P := zt_aloadn zi_81_47 rfl rfl
theorem zi_81_48 : z_ins 81 48 = some (.getfield 28, 3) := by decide +kernel
theorem ze_81_48 : z_T g d 81 48 ls (.ref a :: st) h P = z_gR h.1 a 9 2 (fun x => z_T g d 81 51 ls (.ref x :: st) h P) := zt_getR zi_81_48 ((congrArg (fun o => z_fl o 28) zo_81).trans zf_LatinRectangles_28)
theorem zi_81_51 : z_ins 81 51 = some (.getfield 102, 3) := by decide +kernel
theorem ze_81_51 : z_T g d 81 51 ls (.ref a :: st) h P = z_gI h.1 a 5 3 (fun x => z_T g d 81 54 ls (.int x :: st) h P) := zt_getI zi_81_51 ((congrArg (fun o => z_fl o 102) zo_81).trans zf_LatinRectangles_102)
theorem zi_81_54 : z_ins 81 54 = some (.putfield 80, 3) := by decide +kernel
theorem ze_81_54 : z_T g d 81 54 ls (.int x :: .ref a :: st) h P = z_pF h.1 a 9 10 (.int x) (fun f => z_T g d 81 57 ls st (f, h.2) P) := zt_putI zi_81_54 ((congrArg (fun o => z_fl o 80) zo_81).trans zf_LatinRectangles_80)
theorem zi_81_57 : z_ins 81 57 = some (.aload_n 0, 1) := by decide +kernel
theorem ze_81_57 : z_T g d 81 57 (.ref a :: ls) st h P = z_T g d 81 58 (.ref a :: ls) (.ref a :: st) h P := zt_aloadn zi_81_57 rfl rfl
theorem zi_81_58 : z_ins 81 58 = some (.getfield 28, 3) := by decide +kernel
theorem ze_81_58 : z_T g d 81 58 ls (.ref a :: st) h P = z_gR h.1 a 9 2 (fun x => z_T g d 81 61 ls (.ref x :: st) h P) := zt_getR zi_81_58 ((congrArg (fun o => z_fl o 28) zo_81).trans zf_LatinRectangles_28)
theorem zi_81_61 : z_ins 81 61 = some (.getfield 105, 3) := by decide +kernel
theorem ze_81_61 : z_T g d 81 61 ls (.ref a :: st) h P = z_gI h.1 a 5 2 (fun x => z_T g d 81 64 ls (.int x :: st) h P) := zt_getI zi_81_61 ((congrArg (fun o => z_fl o 105) zo_81).trans zf_LatinRectangles_105)
theorem zi_81_64 : z_ins 81 64 = some (.ireturn, 1) := by decide +kernel
theorem ze_81_64 : z_T g d 81 64 ls [.int x] h P = P (.inr (some (.int x)), h) := zt_ireturn zi_81_64 zr_81
theorem zi_81_65 : z_ins 81 65 = some (.aload_n 0, 1) := by decide +kernel
theorem ze_81_65 : z_T g d 81 65 (.ref a :: ls) st h P = z_T g d 81 66 (.ref a :: ls) (.ref a :: st) h P := zt_aloadn zi_81_65 rfl rfl
theorem zi_81_66 : z_ins 81 66 = some (.iconst (-1), 1) := by decide +kernel
theorem ze_81_66 : z_T g d 81 66 ls st h P = z_T g d 81 67 ls (.int (-1) :: st) h P := zt_iconst zi_81_66 rfl
theorem zi_81_67 : z_ins 81 67 = some (.putfield 80, 3) := by decide +kernel
theorem ze_81_67 : z_T g d 81 67 ls (.int x :: .ref a :: st) h P = z_pF h.1 a 9 10 (.int x) (fun f => z_T g d 81 70 ls st (f, h.2) P) := zt_putI zi_81_67 ((congrArg (fun o => z_fl o 80) zo_81).trans zf_LatinRectangles_80)
theorem zi_81_70 : z_ins 81 70 = some (.aload_n 0, 1) := by decide +kernel
theorem ze_81_70 : z_T g d 81 70 (.ref a :: ls) st h P = z_T g d 81 71 (.ref a :: ls) (.ref a :: st) h P := zt_aloadn zi_81_70 rfl rfl
theorem zi_81_71 : z_ins 81 71 = some (.getfield 12, 3) := by decide +kernel
theorem ze_81_71 : z_T g d 81 71 ls (.ref a :: st) h P = z_gR h.1 a 9 0 (fun x => z_T g d 81 74 ls (.ref x :: st) h P) := zt_getR zi_81_71 ((congrArg (fun o => z_fl o 12) zo_81).trans zf_LatinRectangles_12)
theorem zi_81_74 : z_ins 81 74 = some (.aload_n 0, 1) := by decide +kernel
theorem ze_81_74 : z_T g d 81 74 (.ref a :: ls) st h P = z_T g d 81 75 (.ref a :: ls) (.ref a :: st) h P := zt_aloadn zi_81_74 rfl rfl
theorem zi_81_75 : z_ins 81 75 = some (.getfield 28, 3) := by decide +kernel
theorem ze_81_75 : z_T g d 81 75 ls (.ref a :: st) h P = z_gR h.1 a 9 2 (fun x => z_T g d 81 78 ls (.ref x :: st) h P) := zt_getR zi_81_75 ((congrArg (fun o => z_fl o 28) zo_81).trans zf_LatinRectangles_28)
theorem zi_81_78 : z_ins 81 78 = some (.getfield 108, 3) := by decide +kernel
theorem ze_81_78 : z_T g d 81 78 ls (.ref a :: st) h P = z_gR h.1 a 5 1 (fun x => z_T g d 81 81 ls (.ref x :: st) h P) := zt_getR zi_81_78 ((congrArg (fun o => z_fl o 108) zo_81).trans zf_LatinRectangles_108)
theorem zi_81_81 : z_ins 81 81 = some (.invokevirtual 111, 3) := by decide +kernel
theorem ze_81_81 : z_T g d 81 81 ls (.ref a0 :: .ref a :: st) h P = ((z_okS 8 st = true ∧ z_gO h.1 a 3 ∧ 0 < d) ∧ z_Ca g (d - 1) 30 [.ref a, .ref a0] h (fun r => z_k r (fun v h' => z_T g d 81 84 ls (z_push v st) h' P) P)) := zt_callV (as := [.ref a0]) zi_81_81 ((congrArg (fun o => z_lookup z_prs (o, 111)) zo_81).trans zp_LatinRectangles_111) ((congrArg (fun o => z_clk o 111) zo_81).trans zk_LatinRectangles_111) zh_81 zc_30 rfl rfl rfl
theorem zi_81_84 : z_ins 81 84 = some (.aload_n 0, 1) := by decide +kernel
theorem ze_81_84 : z_T g d 81 84 (.ref a :: ls) st h P = z_T g d 81 85 (.ref a :: ls) (.ref a :: st) h P := zt_aloadn zi_81_84 rfl rfl
theorem zi_81_85 : z_ins 81 85 = some (.getfield 65, 3) := by decide +kernel
theorem ze_81_85 : z_T g d 81 85 ls (.ref a :: st) h P = z_gR h.1 a 9 7 (fun x => z_T g d 81 88 ls (.ref x :: st) h P) := zt_getR zi_81_85 ((congrArg (fun o => z_fl o 65) zo_81).trans zf_LatinRectangles_65)
theorem zi_81_88 : z_ins 81 88 = some (.invokevirtual 114, 3) := by decide +kernel
theorem ze_81_88 : z_T g d 81 88 ls (.ref a :: st) h P = ((z_okS 8 st = true ∧ z_gO h.1 a 4 ∧ 0 < d) ∧ z_Ca g (d - 1) 44 [.ref a] h (fun r => z_k r (fun v h' => z_T g d 81 91 ls (z_push v st) h' P) P)) := zt_callV (as := []) zi_81_88 ((congrArg (fun o => z_lookup z_prs (o, 114)) zo_81).trans zp_LatinRectangles_114) ((congrArg (fun o => z_clk o 114) zo_81).trans zk_LatinRectangles_114) zh_81 zc_44 rfl rfl rfl
theorem zi_81_91 : z_ins 81 91 = some (.aload_n 0, 1) := by decide +kernel
theorem ze_81_91 : z_T g d 81 91 (.ref a :: ls) st h P = z_T g d 81 92 (.ref a :: ls) (.ref a :: st) h P := zt_aloadn zi_81_91 rfl rfl
theorem zi_81_92 : z_ins 81 92 = some (.getfield 72, 3) := by decide +kernel
theorem ze_81_92 : z_T g d 81 92 ls (.ref a :: st) h P = z_gR h.1 a 9 8 (fun x => z_T g d 81 95 ls (.ref x :: st) h P) := zt_getR zi_81_92 ((congrArg (fun o => z_fl o 72) zo_81).trans zf_LatinRectangles_72)
theorem zi_81_95 : z_ins 81 95 = some (.invokevirtual 117, 3) := by decide +kernel
theorem ze_81_95 : z_T g d 81 95 ls (.ref a :: st) h P = ((z_okS 8 st = true ∧ z_gO h.1 a 6 ∧ 0 < d) ∧ z_Ca g (d - 1) 58 [.ref a] h (fun r => z_k r (fun v h' => z_T g d 81 98 ls (z_push v st) h' P) P)) := zt_callV (as := []) zi_81_95 ((congrArg (fun o => z_lookup z_prs (o, 117)) zo_81).trans zp_LatinRectangles_117) ((congrArg (fun o => z_clk o 117) zo_81).trans zk_LatinRectangles_117) zh_81 zc_58 rfl rfl rfl
theorem zi_81_98 : z_ins 81 98 = some (.iconst 0, 1) := by decide +kernel
theorem ze_81_98 : z_T g d 81 98 ls st h P = z_T g d 81 99 ls (.int (nI 0) :: st) h P := zt_iconst zi_81_98 rfl
theorem zi_81_99 : z_ins 81 99 = some (.ireturn, 1) := by decide +kernel
theorem ze_81_99 : z_T g d 81 99 ls [.int x] h P = P (.inr (some (.int x)), h) := zt_ireturn zi_81_99 zr_81
-- LatinRectangles.errorPosition()I
theorem zo_82 : z_own 82 = "LatinRectangles" := by decide +kernel
theorem zm_82 : z_maxL 82 = 1 := by decide +kernel
theorem zh_82 : z_hds 82 = [] := by decide +kernel
theorem zr_82 : z_rt 82 = (some .int) := by decide +kernel
theorem zn_82 : z_Ca g d 82 [.ref a0] h P = z_T g d 82 0 [.ref a0] [] h P := z_Ca_ent zm_82 rfl rfl
theorem zi_82_0 : z_ins 82 0 = some (.aload_n 0, 1) := by decide +kernel
theorem ze_82_0 : z_T g d 82 0 (.ref a :: ls) st h P = z_T g d 82 1 (.ref a :: ls) (.ref a :: st) h P := zt_aloadn zi_82_0 rfl rfl
theorem zi_82_1 : z_ins 82 1 = some (.getfield 80, 3) := by decide +kernel
theorem ze_82_1 : z_T g d 82 1 ls (.ref a :: st) h P = z_gI h.1 a 9 10 (fun x => z_T g d 82 4 ls (.int x :: st) h P) := zt_getI zi_82_1 ((congrArg (fun o => z_fl o 80) zo_82).trans zf_LatinRectangles_80)
theorem zi_82_4 : z_ins 82 4 = some (.ireturn, 1) := by decide +kernel
theorem ze_82_4 : z_T g d 82 4 ls [.int x] h P = P (.inr (some (.int x)), h) := zt_ireturn zi_82_4 zr_82
-- LatinRectangles.size(I)I
theorem zo_83 : z_own 83 = "LatinRectangles" := by decide +kernel
theorem zm_83 : z_maxL 83 = 2 := by decide +kernel
theorem zh_83 : z_hds 83 = [] := by decide +kernel
theorem zr_83 : z_rt 83 = (some .int) := by decide +kernel
theorem zn_83 : z_Ca g d 83 [.ref a0, .int x1] h P = z_T g d 83 0 [.ref a0, .int x1] [] h P := z_Ca_ent zm_83 rfl rfl
theorem zi_83_0 : z_ins 83 0 = some (.iload_n 1, 1) := by decide +kernel
theorem ze_83_0 : z_T g d 83 0 (v0 :: .int x :: ls) st h P = z_T g d 83 1 (v0 :: .int x :: ls) (.int x :: st) h P := zt_iloadn zi_83_0 rfl rfl
theorem zi_83_1 : z_ins 83 1 = some (.bipush 6, 2) := by decide +kernel
theorem ze_83_1 : z_T g d 83 1 ls st h P = z_T g d 83 3 ls (.int (nI 6) :: st) h P := zt_bipush zi_83_1 rfl
theorem zi_83_3 : z_ins 83 3 = some (.invokestatic 118, 3) := by decide +kernel
theorem ze_83_3 : z_T g d 83 3 ls (.int x1 :: .int x0 :: st) h P = ((z_okS 8 st = true ∧ 0 < d) ∧ z_Ca g (d - 1) 117 [.int x0, .int x1] h (fun r => z_k r (fun v h' => z_T g d 83 6 ls (z_push v st) h' P) P)) := zt_callS0 (as := [.int x0, .int x1]) zi_83_3 ((congrArg (fun o => z_lookup z_prs (o, 118)) zo_83).trans zp_LatinRectangles_118) ((congrArg (fun o => z_clk o 118) zo_83).trans zk_LatinRectangles_118) zh_83 rfl rfl rfl
theorem zi_83_6 : z_ins 83 6 = some (.iload_n 1, 1) := by decide +kernel
theorem ze_83_6 : z_T g d 83 6 (v0 :: .int x :: ls) st h P = z_T g d 83 7 (v0 :: .int x :: ls) (.int x :: st) h P := zt_iloadn zi_83_6 rfl rfl
theorem zi_83_7 : z_ins 83 7 = some (.tableswitch 85 0 5 #[37, 45, 53, 61, 69, 77], 37) := by decide +kernel
theorem ze_83_7_0 : z_T g d 83 7 ls (.int (nI 0) :: st) h P = z_T g d 83 44 ls st h P := zt_swIn zi_83_7 (by decide) (by decide) rfl (by decide)
theorem ze_83_7_1 : z_T g d 83 7 ls (.int (nI 1) :: st) h P = z_T g d 83 52 ls st h P := zt_swIn zi_83_7 (by decide) (by decide) rfl (by decide)
theorem ze_83_7_2 : z_T g d 83 7 ls (.int (nI 2) :: st) h P = z_T g d 83 60 ls st h P := zt_swIn zi_83_7 (by decide) (by decide) rfl (by decide)
theorem ze_83_7_3 : z_T g d 83 7 ls (.int (nI 3) :: st) h P = z_T g d 83 68 ls st h P := zt_swIn zi_83_7 (by decide) (by decide) rfl (by decide)
theorem ze_83_7_4 : z_T g d 83 7 ls (.int (nI 4) :: st) h P = z_T g d 83 76 ls st h P := zt_swIn zi_83_7 (by decide) (by decide) rfl (by decide)
theorem ze_83_7_5 : z_T g d 83 7 ls (.int (nI 5) :: st) h P = z_T g d 83 84 ls st h P := zt_swIn zi_83_7 (by decide) (by decide) rfl (by decide)
theorem ze_83_7_6 : z_T g d 83 7 ls (.int (nI 6) :: st) h P = z_T g d 83 92 ls st h P := zt_swOut zi_83_7 (by decide) (by decide)
theorem zi_83_44 : z_ins 83 44 = some (.aload_n 0, 1) := by decide +kernel
theorem ze_83_44 : z_T g d 83 44 (.ref a :: ls) st h P = z_T g d 83 45 (.ref a :: ls) (.ref a :: st) h P := zt_aloadn zi_83_44 rfl rfl
theorem zi_83_45 : z_ins 83 45 = some (.getfield 12, 3) := by decide +kernel
theorem ze_83_45 : z_T g d 83 45 ls (.ref a :: st) h P = z_gR h.1 a 9 0 (fun x => z_T g d 83 48 ls (.ref x :: st) h P) := zt_getR zi_83_45 ((congrArg (fun o => z_fl o 12) zo_83).trans zf_LatinRectangles_12)
theorem zi_83_48 : z_ins 83 48 = some (.getfield 122, 3) := by decide +kernel
theorem ze_83_48 : z_T g d 83 48 ls (.ref a :: st) h P = z_gI h.1 a 3 5 (fun x => z_T g d 83 51 ls (.int x :: st) h P) := zt_getI zi_83_48 ((congrArg (fun o => z_fl o 122) zo_83).trans zf_LatinRectangles_122)
theorem zi_83_51 : z_ins 83 51 = some (.ireturn, 1) := by decide +kernel
theorem ze_83_51 : z_T g d 83 51 ls [.int x] h P = P (.inr (some (.int x)), h) := zt_ireturn zi_83_51 zr_83
theorem zi_83_52 : z_ins 83 52 = some (.aload_n 0, 1) := by decide +kernel
theorem ze_83_52 : z_T g d 83 52 (.ref a :: ls) st h P = z_T g d 83 53 (.ref a :: ls) (.ref a :: st) h P := zt_aloadn zi_83_52 rfl rfl
theorem zi_83_53 : z_ins 83 53 = some (.getfield 12, 3) := by decide +kernel
theorem ze_83_53 : z_T g d 83 53 ls (.ref a :: st) h P = z_gR h.1 a 9 0 (fun x => z_T g d 83 56 ls (.ref x :: st) h P) := zt_getR zi_83_53 ((congrArg (fun o => z_fl o 12) zo_83).trans zf_LatinRectangles_12)
theorem zi_83_56 : z_ins 83 56 = some (.getfield 125, 3) := by decide +kernel
theorem ze_83_56 : z_T g d 83 56 ls (.ref a :: st) h P = z_gI h.1 a 3 6 (fun x => z_T g d 83 59 ls (.int x :: st) h P) := zt_getI zi_83_56 ((congrArg (fun o => z_fl o 125) zo_83).trans zf_LatinRectangles_125)
theorem zi_83_59 : z_ins 83 59 = some (.ireturn, 1) := by decide +kernel
theorem ze_83_59 : z_T g d 83 59 ls [.int x] h P = P (.inr (some (.int x)), h) := zt_ireturn zi_83_59 zr_83
theorem zi_83_60 : z_ins 83 60 = some (.aload_n 0, 1) := by decide +kernel
theorem ze_83_60 : z_T g d 83 60 (.ref a :: ls) st h P = z_T g d 83 61 (.ref a :: ls) (.ref a :: st) h P := zt_aloadn zi_83_60 rfl rfl
theorem zi_83_61 : z_ins 83 61 = some (.getfield 12, 3) := by decide +kernel
theorem ze_83_61 : z_T g d 83 61 ls (.ref a :: st) h P = z_gR h.1 a 9 0 (fun x => z_T g d 83 64 ls (.ref x :: st) h P) := zt_getR zi_83_61 ((congrArg (fun o => z_fl o 12) zo_83).trans zf_LatinRectangles_12)
theorem zi_83_64 : z_ins 83 64 = some (.getfield 128, 3) := by decide +kernel
theorem ze_83_64 : z_T g d 83 64 ls (.ref a :: st) h P = z_gI h.1 a 3 7 (fun x => z_T g d 83 67 ls (.int x :: st) h P) := zt_getI zi_83_64 ((congrArg (fun o => z_fl o 128) zo_83).trans zf_LatinRectangles_128)
theorem zi_83_67 : z_ins 83 67 = some (.ireturn, 1) := by decide +kernel
theorem ze_83_67 : z_T g d 83 67 ls [.int x] h P = P (.inr (some (.int x)), h) := zt_ireturn zi_83_67 zr_83
theorem zi_83_68 : z_ins 83 68 = some (.aload_n 0, 1) := by decide +kernel
theorem ze_83_68 : z_T g d 83 68 (.ref a :: ls) st h P = z_T g d 83 69 (.ref a :: ls) (.ref a :: st) h P := zt_aloadn zi_83_68 rfl rfl
theorem zi_83_69 : z_ins 83 69 = some (.getfield 12, 3) := by decide +kernel
theorem ze_83_69 : z_T g d 83 69 ls (.ref a :: st) h P = z_gR h.1 a 9 0 (fun x => z_T g d 83 72 ls (.ref x :: st) h P) := zt_getR zi_83_69 ((congrArg (fun o => z_fl o 12) zo_83).trans zf_LatinRectangles_12)
theorem zi_83_72 : z_ins 83 72 = some (.getfield 131, 3) := by decide +kernel
theorem ze_83_72 : z_T g d 83 72 ls (.ref a :: st) h P = z_gI h.1 a 3 8 (fun x => z_T g d 83 75 ls (.int x :: st) h P) := zt_getI zi_83_72 ((congrArg (fun o => z_fl o 131) zo_83).trans zf_LatinRectangles_131)
theorem zi_83_75 : z_ins 83 75 = some (.ireturn, 1) := by decide +kernel
theorem ze_83_75 : z_T g d 83 75 ls [.int x] h P = P (.inr (some (.int x)), h) := zt_ireturn zi_83_75 zr_83
theorem zi_83_76 : z_ins 83 76 = some (.aload_n 0, 1) := by decide +kernel
theorem ze_83_76 : z_T g d 83 76 (.ref a :: ls) st h P = z_T g d 83 77 (.ref a :: ls) (.ref a :: st) h P := zt_aloadn zi_83_76 rfl rfl
theorem zi_83_77 : z_ins 83 77 = some (.getfield 12, 3) := by decide +kernel
theorem ze_83_77 : z_T g d 83 77 ls (.ref a :: st) h P = z_gR h.1 a 9 0 (fun x => z_T g d 83 80 ls (.ref x :: st) h P) := zt_getR zi_83_77 ((congrArg (fun o => z_fl o 12) zo_83).trans zf_LatinRectangles_12)
theorem zi_83_80 : z_ins 83 80 = some (.getfield 134, 3) := by decide +kernel
theorem ze_83_80 : z_T g d 83 80 ls (.ref a :: st) h P = z_gI h.1 a 3 9 (fun x => z_T g d 83 83 ls (.int x :: st) h P) := zt_getI zi_83_80 ((congrArg (fun o => z_fl o 134) zo_83).trans zf_LatinRectangles_134)
theorem zi_83_83 : z_ins 83 83 = some (.ireturn, 1) := by decide +kernel
theorem ze_83_83 : z_T g d 83 83 ls [.int x] h P = P (.inr (some (.int x)), h) := zt_ireturn zi_83_83 zr_83
theorem zi_83_84 : z_ins 83 84 = some (.aload_n 0, 1) := by decide +kernel
theorem ze_83_84 : z_T g d 83 84 (.ref a :: ls) st h P = z_T g d 83 85 (.ref a :: ls) (.ref a :: st) h P := zt_aloadn zi_83_84 rfl rfl
theorem zi_83_85 : z_ins 83 85 = some (.getfield 12, 3) := by decide +kernel
theorem ze_83_85 : z_T g d 83 85 ls (.ref a :: st) h P = z_gR h.1 a 9 0 (fun x => z_T g d 83 88 ls (.ref x :: st) h P) := zt_getR zi_83_85 ((congrArg (fun o => z_fl o 12) zo_83).trans zf_LatinRectangles_12)
theorem zi_83_88 : z_ins 83 88 = some (.invokevirtual 137, 3) := by decide +kernel
theorem ze_83_88 : z_T g d 83 88 ls (.ref a :: st) h P = ((z_okS 8 st = true ∧ z_gO h.1 a 3 ∧ 0 < d) ∧ z_Ca g (d - 1) 41 [.ref a] h (fun r => z_k r (fun v h' => z_T g d 83 91 ls (z_push v st) h' P) P)) := zt_callV (as := []) zi_83_88 ((congrArg (fun o => z_lookup z_prs (o, 137)) zo_83).trans zp_LatinRectangles_137) ((congrArg (fun o => z_clk o 137) zo_83).trans zk_LatinRectangles_137) zh_83 zc_41 rfl rfl rfl
theorem zi_83_91 : z_ins 83 91 = some (.ireturn, 1) := by decide +kernel
theorem ze_83_91 : z_T g d 83 91 ls [.int x] h P = P (.inr (some (.int x)), h) := zt_ireturn zi_83_91 zr_83
theorem zi_83_92 : z_ins 83 92 = some (.aload_n 0, 1) := by decide +kernel
theorem ze_83_92 : z_T g d 83 92 (.ref a :: ls) st h P = z_T g d 83 93 (.ref a :: ls) (.ref a :: st) h P := zt_aloadn zi_83_92 rfl rfl
theorem zi_83_93 : z_ins 83 93 = some (.getfield 12, 3) := by decide +kernel
theorem ze_83_93 : z_T g d 83 93 ls (.ref a :: st) h P = z_gR h.1 a 9 0 (fun x => z_T g d 83 96 ls (.ref x :: st) h P) := zt_getR zi_83_93 ((congrArg (fun o => z_fl o 12) zo_83).trans zf_LatinRectangles_12)
theorem zi_83_96 : z_ins 83 96 = some (.invokevirtual 141, 3) := by decide +kernel
theorem ze_83_96 : z_T g d 83 96 ls (.ref a :: st) h P = ((z_okS 8 st = true ∧ z_gO h.1 a 3 ∧ 0 < d) ∧ z_Ca g (d - 1) 40 [.ref a] h (fun r => z_k r (fun v h' => z_T g d 83 99 ls (z_push v st) h' P) P)) := zt_callV (as := []) zi_83_96 ((congrArg (fun o => z_lookup z_prs (o, 141)) zo_83).trans zp_LatinRectangles_141) ((congrArg (fun o => z_clk o 141) zo_83).trans zk_LatinRectangles_141) zh_83 zc_40 rfl rfl rfl
theorem zi_83_99 : z_ins 83 99 = some (.ireturn, 1) := by decide +kernel
theorem ze_83_99 : z_T g d 83 99 ls [.int x] h P = P (.inr (some (.int x)), h) := zt_ireturn zi_83_99 zr_83
-- LatinRectangles.symbol(II)I
theorem zo_84 : z_own 84 = "LatinRectangles" := by decide +kernel
theorem zm_84 : z_maxL 84 = 3 := by decide +kernel
theorem zh_84 : z_hds 84 = [] := by decide +kernel
theorem zr_84 : z_rt 84 = (some .int) := by decide +kernel
theorem zn_84 : z_Ca g d 84 [.ref a0, .int x1, .int x2] h P = z_T g d 84 0 [.ref a0, .int x1, .int x2] [] h P := z_Ca_ent zm_84 rfl rfl
theorem zi_84_0 : z_ins 84 0 = some (.aload_n 0, 1) := by decide +kernel
theorem ze_84_0 : z_T g d 84 0 (.ref a :: ls) st h P = z_T g d 84 1 (.ref a :: ls) (.ref a :: st) h P := zt_aloadn zi_84_0 rfl rfl
theorem zi_84_1 : z_ins 84 1 = some (.iload_n 1, 1) := by decide +kernel
theorem ze_84_1 : z_T g d 84 1 (v0 :: .int x :: ls) st h P = z_T g d 84 2 (v0 :: .int x :: ls) (.int x :: st) h P := zt_iloadn zi_84_1 rfl rfl
theorem zi_84_2 : z_ins 84 2 = some (.iload_n 2, 1) := by decide +kernel
theorem ze_84_2 : z_T g d 84 2 (v0 :: v1 :: .int x :: ls) st h P = z_T g d 84 3 (v0 :: v1 :: .int x :: ls) (.int x :: st) h P := zt_iloadn zi_84_2 rfl rfl
theorem zi_84_3 : z_ins 84 3 = some (.invokevirtual 144, 3) := by decide +kernel
theorem ze_84_3 : z_T g d 84 3 ls (.int x1 :: .int x0 :: .ref a :: st) h P = ((z_okS 8 st = true ∧ z_gO h.1 a 9 ∧ 0 < d) ∧ z_Ca g (d - 1) 113 [.ref a, .int x0, .int x1] h (fun r => z_k r (fun v h' => z_T g d 84 6 ls (z_push v st) h' P) P)) := zt_callV (as := [.int x0, .int x1]) zi_84_3 ((congrArg (fun o => z_lookup z_prs (o, 144)) zo_84).trans zp_LatinRectangles_144) ((congrArg (fun o => z_clk o 144) zo_84).trans zk_LatinRectangles_144) zh_84 zc_113 rfl rfl rfl
theorem zi_84_6 : z_ins 84 6 = some (.aload_n 0, 1) := by decide +kernel
theorem ze_84_6 : z_T g d 84 6 (.ref a :: ls) st h P = z_T g d 84 7 (.ref a :: ls) (.ref a :: st) h P := zt_aloadn zi_84_6 rfl rfl
theorem zi_84_7 : z_ins 84 7 = some (.getfield 12, 3) := by decide +kernel
theorem ze_84_7 : z_T g d 84 7 ls (.ref a :: st) h P = z_gR h.1 a 9 0 (fun x => z_T g d 84 10 ls (.ref x :: st) h P) := zt_getR zi_84_7 ((congrArg (fun o => z_fl o 12) zo_84).trans zf_LatinRectangles_12)
theorem zi_84_10 : z_ins 84 10 = some (.getfield 147, 3) := by decide +kernel
theorem ze_84_10 : z_T g d 84 10 ls (.ref a :: st) h P = z_gR h.1 a 3 0 (fun x => z_T g d 84 13 ls (.ref x :: st) h P) := zt_getR zi_84_10 ((congrArg (fun o => z_fl o 147) zo_84).trans zf_LatinRectangles_147)
theorem zi_84_13 : z_ins 84 13 = some (.iload_n 1, 1) := by decide +kernel
theorem ze_84_13 : z_T g d 84 13 (v0 :: .int x :: ls) st h P = z_T g d 84 14 (v0 :: .int x :: ls) (.int x :: st) h P := zt_iloadn zi_84_13 rfl rfl
theorem zi_84_14 : z_ins 84 14 = some (.iconst 5, 1) := by decide +kernel
theorem ze_84_14 : z_T g d 84 14 ls st h P = z_T g d 84 15 ls (.int (nI 5) :: st) h P := zt_iconst zi_84_14 rfl
theorem zi_84_15 : z_ins 84 15 = some (.imul, 1) := by decide +kernel
theorem ze_84_15 : z_T g d 84 15 ls (.int y :: .int x :: st) h P = z_T g d 84 16 ls (.int (x * y) :: st) h P := zt_bin (f := fun x y => x * y) zi_84_15 rfl (fun _ _ _ => rfl)
theorem zi_84_16 : z_ins 84 16 = some (.iload_n 2, 1) := by decide +kernel
theorem ze_84_16 : z_T g d 84 16 (v0 :: v1 :: .int x :: ls) st h P = z_T g d 84 17 (v0 :: v1 :: .int x :: ls) (.int x :: st) h P := zt_iloadn zi_84_16 rfl rfl
theorem zi_84_17 : z_ins 84 17 = some (.iadd, 1) := by decide +kernel
theorem ze_84_17 : z_T g d 84 17 ls (.int y :: .int x :: st) h P = z_T g d 84 18 ls (.int (x + y) :: st) h P := zt_bin (f := fun x y => x + y) zi_84_17 rfl (fun _ _ _ => rfl)
theorem zi_84_18 : z_ins 84 18 = some (.iaload, 1) := by decide +kernel
theorem ze_84_18 : z_T g d 84 18 ls (.int x :: .ref a :: st) h P = z_aL h.1 a z_tI x (fun v => z_T g d 84 19 ls (.int v :: st) h P) := zt_iaload zi_84_18
theorem zi_84_19 : z_ins 84 19 = some (.ireturn, 1) := by decide +kernel
theorem ze_84_19 : z_T g d 84 19 ls [.int x] h P = P (.inr (some (.int x)), h) := zt_ireturn zi_84_19 zr_84
-- LatinRectangles.isGiven(II)Z
theorem zo_85 : z_own 85 = "LatinRectangles" := by decide +kernel
theorem zm_85 : z_maxL 85 = 3 := by decide +kernel
theorem zh_85 : z_hds 85 = [] := by decide +kernel
theorem zr_85 : z_rt 85 = (some .boolean) := by decide +kernel
theorem zn_85 : z_Ca g d 85 [.ref a0, .int x1, .int x2] h P = z_T g d 85 0 [.ref a0, .int x1, .int x2] [] h P := z_Ca_ent zm_85 rfl rfl
theorem zi_85_0 : z_ins 85 0 = some (.aload_n 0, 1) := by decide +kernel
theorem ze_85_0 : z_T g d 85 0 (.ref a :: ls) st h P = z_T g d 85 1 (.ref a :: ls) (.ref a :: st) h P := zt_aloadn zi_85_0 rfl rfl
theorem zi_85_1 : z_ins 85 1 = some (.iload_n 1, 1) := by decide +kernel
theorem ze_85_1 : z_T g d 85 1 (v0 :: .int x :: ls) st h P = z_T g d 85 2 (v0 :: .int x :: ls) (.int x :: st) h P := zt_iloadn zi_85_1 rfl rfl
theorem zi_85_2 : z_ins 85 2 = some (.iload_n 2, 1) := by decide +kernel
theorem ze_85_2 : z_T g d 85 2 (v0 :: v1 :: .int x :: ls) st h P = z_T g d 85 3 (v0 :: v1 :: .int x :: ls) (.int x :: st) h P := zt_iloadn zi_85_2 rfl rfl
theorem zi_85_3 : z_ins 85 3 = some (.invokevirtual 144, 3) := by decide +kernel
theorem ze_85_3 : z_T g d 85 3 ls (.int x1 :: .int x0 :: .ref a :: st) h P = ((z_okS 8 st = true ∧ z_gO h.1 a 9 ∧ 0 < d) ∧ z_Ca g (d - 1) 113 [.ref a, .int x0, .int x1] h (fun r => z_k r (fun v h' => z_T g d 85 6 ls (z_push v st) h' P) P)) := zt_callV (as := [.int x0, .int x1]) zi_85_3 ((congrArg (fun o => z_lookup z_prs (o, 144)) zo_85).trans zp_LatinRectangles_144) ((congrArg (fun o => z_clk o 144) zo_85).trans zk_LatinRectangles_144) zh_85 zc_113 rfl rfl rfl
theorem zi_85_6 : z_ins 85 6 = some (.aload_n 0, 1) := by decide +kernel
theorem ze_85_6 : z_T g d 85 6 (.ref a :: ls) st h P = z_T g d 85 7 (.ref a :: ls) (.ref a :: st) h P := zt_aloadn zi_85_6 rfl rfl
theorem zi_85_7 : z_ins 85 7 = some (.getfield 12, 3) := by decide +kernel
theorem ze_85_7 : z_T g d 85 7 ls (.ref a :: st) h P = z_gR h.1 a 9 0 (fun x => z_T g d 85 10 ls (.ref x :: st) h P) := zt_getR zi_85_7 ((congrArg (fun o => z_fl o 12) zo_85).trans zf_LatinRectangles_12)
theorem zi_85_10 : z_ins 85 10 = some (.getfield 150, 3) := by decide +kernel
theorem ze_85_10 : z_T g d 85 10 ls (.ref a :: st) h P = z_gR h.1 a 3 1 (fun x => z_T g d 85 13 ls (.ref x :: st) h P) := zt_getR zi_85_10 ((congrArg (fun o => z_fl o 150) zo_85).trans zf_LatinRectangles_150)
theorem zi_85_13 : z_ins 85 13 = some (.iload_n 1, 1) := by decide +kernel
theorem ze_85_13 : z_T g d 85 13 (v0 :: .int x :: ls) st h P = z_T g d 85 14 (v0 :: .int x :: ls) (.int x :: st) h P := zt_iloadn zi_85_13 rfl rfl
theorem zi_85_14 : z_ins 85 14 = some (.iconst 5, 1) := by decide +kernel
theorem ze_85_14 : z_T g d 85 14 ls st h P = z_T g d 85 15 ls (.int (nI 5) :: st) h P := zt_iconst zi_85_14 rfl
theorem zi_85_15 : z_ins 85 15 = some (.imul, 1) := by decide +kernel
theorem ze_85_15 : z_T g d 85 15 ls (.int y :: .int x :: st) h P = z_T g d 85 16 ls (.int (x * y) :: st) h P := zt_bin (f := fun x y => x * y) zi_85_15 rfl (fun _ _ _ => rfl)
theorem zi_85_16 : z_ins 85 16 = some (.iload_n 2, 1) := by decide +kernel
theorem ze_85_16 : z_T g d 85 16 (v0 :: v1 :: .int x :: ls) st h P = z_T g d 85 17 (v0 :: v1 :: .int x :: ls) (.int x :: st) h P := zt_iloadn zi_85_16 rfl rfl
theorem zi_85_17 : z_ins 85 17 = some (.iadd, 1) := by decide +kernel
theorem ze_85_17 : z_T g d 85 17 ls (.int y :: .int x :: st) h P = z_T g d 85 18 ls (.int (x + y) :: st) h P := zt_bin (f := fun x y => x + y) zi_85_17 rfl (fun _ _ _ => rfl)
theorem zi_85_18 : z_ins 85 18 = some (.baload, 1) := by decide +kernel
theorem ze_85_18 : z_T g d 85 18 ls (.int x :: .ref a :: st) h P = z_aL h.1 a z_tB x (fun v => z_T g d 85 19 ls (.int v :: st) h P) := zt_baload zi_85_18
theorem zi_85_19 : z_ins 85 19 = some (.ireturn, 1) := by decide +kernel
theorem ze_85_19 : z_T g d 85 19 ls [.int x] h P = ((x = nI 0 ∨ x = nI 1) ∧ P (.inr (some (.int x)), h)) := zt_zreturn zi_85_19 zr_85
-- LatinRectangles.candidates(II)I
theorem zo_86 : z_own 86 = "LatinRectangles" := by decide +kernel
theorem zm_86 : z_maxL 86 = 3 := by decide +kernel
theorem zh_86 : z_hds 86 = [] := by decide +kernel
theorem zr_86 : z_rt 86 = (some .int) := by decide +kernel
theorem zn_86 : z_Ca g d 86 [.ref a0, .int x1, .int x2] h P = z_T g d 86 0 [.ref a0, .int x1, .int x2] [] h P := z_Ca_ent zm_86 rfl rfl
theorem zi_86_0 : z_ins 86 0 = some (.aload_n 0, 1) := by decide +kernel
theorem ze_86_0 : z_T g d 86 0 (.ref a :: ls) st h P = z_T g d 86 1 (.ref a :: ls) (.ref a :: st) h P := zt_aloadn zi_86_0 rfl rfl
theorem zi_86_1 : z_ins 86 1 = some (.iload_n 1, 1) := by decide +kernel
theorem ze_86_1 : z_T g d 86 1 (v0 :: .int x :: ls) st h P = z_T g d 86 2 (v0 :: .int x :: ls) (.int x :: st) h P := zt_iloadn zi_86_1 rfl rfl
theorem zi_86_2 : z_ins 86 2 = some (.iload_n 2, 1) := by decide +kernel
theorem ze_86_2 : z_T g d 86 2 (v0 :: v1 :: .int x :: ls) st h P = z_T g d 86 3 (v0 :: v1 :: .int x :: ls) (.int x :: st) h P := zt_iloadn zi_86_2 rfl rfl
theorem zi_86_3 : z_ins 86 3 = some (.invokevirtual 144, 3) := by decide +kernel
theorem ze_86_3 : z_T g d 86 3 ls (.int x1 :: .int x0 :: .ref a :: st) h P = ((z_okS 8 st = true ∧ z_gO h.1 a 9 ∧ 0 < d) ∧ z_Ca g (d - 1) 113 [.ref a, .int x0, .int x1] h (fun r => z_k r (fun v h' => z_T g d 86 6 ls (z_push v st) h' P) P)) := zt_callV (as := [.int x0, .int x1]) zi_86_3 ((congrArg (fun o => z_lookup z_prs (o, 144)) zo_86).trans zp_LatinRectangles_144) ((congrArg (fun o => z_clk o 144) zo_86).trans zk_LatinRectangles_144) zh_86 zc_113 rfl rfl rfl
theorem zi_86_6 : z_ins 86 6 = some (.aload_n 0, 1) := by decide +kernel
theorem ze_86_6 : z_T g d 86 6 (.ref a :: ls) st h P = z_T g d 86 7 (.ref a :: ls) (.ref a :: st) h P := zt_aloadn zi_86_6 rfl rfl
theorem zi_86_7 : z_ins 86 7 = some (.getfield 12, 3) := by decide +kernel
theorem ze_86_7 : z_T g d 86 7 ls (.ref a :: st) h P = z_gR h.1 a 9 0 (fun x => z_T g d 86 10 ls (.ref x :: st) h P) := zt_getR zi_86_7 ((congrArg (fun o => z_fl o 12) zo_86).trans zf_LatinRectangles_12)
theorem zi_86_10 : z_ins 86 10 = some (.iload_n 1, 1) := by decide +kernel
theorem ze_86_10 : z_T g d 86 10 (v0 :: .int x :: ls) st h P = z_T g d 86 11 (v0 :: .int x :: ls) (.int x :: st) h P := zt_iloadn zi_86_10 rfl rfl
theorem zi_86_11 : z_ins 86 11 = some (.iload_n 2, 1) := by decide +kernel
theorem ze_86_11 : z_T g d 86 11 (v0 :: v1 :: .int x :: ls) st h P = z_T g d 86 12 (v0 :: v1 :: .int x :: ls) (.int x :: st) h P := zt_iloadn zi_86_11 rfl rfl
theorem zi_86_12 : z_ins 86 12 = some (.invokevirtual 154, 3) := by decide +kernel
theorem ze_86_12 : z_T g d 86 12 ls (.int x1 :: .int x0 :: .ref a :: st) h P = ((z_okS 8 st = true ∧ z_gO h.1 a 3 ∧ 0 < d) ∧ z_Ca g (d - 1) 38 [.ref a, .int x0, .int x1] h (fun r => z_k r (fun v h' => z_T g d 86 15 ls (z_push v st) h' P) P)) := zt_callV (as := [.int x0, .int x1]) zi_86_12 ((congrArg (fun o => z_lookup z_prs (o, 154)) zo_86).trans zp_LatinRectangles_154) ((congrArg (fun o => z_clk o 154) zo_86).trans zk_LatinRectangles_154) zh_86 zc_38 rfl rfl rfl
theorem zi_86_15 : z_ins 86 15 = some (.ireturn, 1) := by decide +kernel
theorem ze_86_15 : z_T g d 86 15 ls [.int x] h P = P (.inr (some (.int x)), h) := zt_ireturn zi_86_15 zr_86
-- LatinRectangles.forcedCells()I
theorem zo_87 : z_own 87 = "LatinRectangles" := by decide +kernel
theorem zm_87 : z_maxL 87 = 1 := by decide +kernel
theorem zh_87 : z_hds 87 = [] := by decide +kernel
theorem zr_87 : z_rt 87 = (some .int) := by decide +kernel
theorem zn_87 : z_Ca g d 87 [.ref a0] h P = z_T g d 87 0 [.ref a0] [] h P := z_Ca_ent zm_87 rfl rfl
theorem zi_87_0 : z_ins 87 0 = some (.aload_n 0, 1) := by decide +kernel
theorem ze_87_0 : z_T g d 87 0 (.ref a :: ls) st h P = z_T g d 87 1 (.ref a :: ls) (.ref a :: st) h P := zt_aloadn zi_87_0 rfl rfl
theorem zi_87_1 : z_ins 87 1 = some (.getfield 37, 3) := by decide +kernel
theorem ze_87_1 : z_T g d 87 1 ls (.ref a :: st) h P = z_gR h.1 a 9 3 (fun x => z_T g d 87 4 ls (.ref x :: st) h P) := zt_getR zi_87_1 ((congrArg (fun o => z_fl o 37) zo_87).trans zf_LatinRectangles_37)
theorem zi_87_4 : z_ins 87 4 = some (.invokevirtual 158, 3) := by decide +kernel
theorem ze_87_4 : z_T g d 87 4 ls (.ref a :: st) h P = ((z_okS 8 st = true ∧ z_gO h.1 a 2 ∧ 0 < d) ∧ z_Ca g (d - 1) 20 [.ref a] h (fun r => z_k r (fun v h' => z_T g d 87 7 ls (z_push v st) h' P) P)) := zt_callV (as := []) zi_87_4 ((congrArg (fun o => z_lookup z_prs (o, 158)) zo_87).trans zp_LatinRectangles_158) ((congrArg (fun o => z_clk o 158) zo_87).trans zk_LatinRectangles_158) zh_87 zc_20 rfl rfl rfl
theorem zi_87_7 : z_ins 87 7 = some (.ireturn, 1) := by decide +kernel
theorem ze_87_7 : z_T g d 87 7 ls [.int x] h P = P (.inr (some (.int x)), h) := zt_ireturn zi_87_7 zr_87
-- LatinRectangles.forced(II)I
theorem zo_88 : z_own 88 = "LatinRectangles" := by decide +kernel
theorem zm_88 : z_maxL 88 = 6 := by decide +kernel
theorem zh_88 : z_hds 88 = [] := by decide +kernel
theorem zr_88 : z_rt 88 = (some .int) := by decide +kernel
theorem zn_88 : z_Ca g d 88 [.ref a0, .int x1, .int x2] h P = z_T g d 88 0 [.ref a0, .int x1, .int x2, z_un, z_un, z_un] [] h P := z_Ca_ent zm_88 rfl rfl
theorem zi_88_0 : z_ins 88 0 = some (.iload_n 2, 1) := by decide +kernel
theorem ze_88_0 : z_T g d 88 0 (v0 :: v1 :: .int x :: ls) st h P = z_T g d 88 1 (v0 :: v1 :: .int x :: ls) (.int x :: st) h P := zt_iloadn zi_88_0 rfl rfl
theorem zi_88_1 : z_ins 88 1 = some (.iconst 3, 1) := by decide +kernel
theorem ze_88_1 : z_T g d 88 1 ls st h P = z_T g d 88 2 ls (.int (nI 3) :: st) h P := zt_iconst zi_88_1 rfl
theorem zi_88_2 : z_ins 88 2 = some (.invokestatic 118, 3) := by decide +kernel
theorem ze_88_2 : z_T g d 88 2 ls (.int x1 :: .int x0 :: st) h P = ((z_okS 8 st = true ∧ 0 < d) ∧ z_Ca g (d - 1) 117 [.int x0, .int x1] h (fun r => z_k r (fun v h' => z_T g d 88 5 ls (z_push v st) h' P) P)) := zt_callS0 (as := [.int x0, .int x1]) zi_88_2 ((congrArg (fun o => z_lookup z_prs (o, 118)) zo_88).trans zp_LatinRectangles_118) ((congrArg (fun o => z_clk o 118) zo_88).trans zk_LatinRectangles_118) zh_88 rfl rfl rfl
theorem zi_88_5 : z_ins 88 5 = some (.aload_n 0, 1) := by decide +kernel
theorem ze_88_5 : z_T g d 88 5 (.ref a :: ls) st h P = z_T g d 88 6 (.ref a :: ls) (.ref a :: st) h P := zt_aloadn zi_88_5 rfl rfl
theorem zi_88_6 : z_ins 88 6 = some (.getfield 37, 3) := by decide +kernel
theorem ze_88_6 : z_T g d 88 6 ls (.ref a :: st) h P = z_gR h.1 a 9 3 (fun x => z_T g d 88 9 ls (.ref x :: st) h P) := zt_getR zi_88_6 ((congrArg (fun o => z_fl o 37) zo_88).trans zf_LatinRectangles_37)
theorem zi_88_9 : z_ins 88 9 = some (.iload_n 1, 1) := by decide +kernel
theorem ze_88_9 : z_T g d 88 9 (v0 :: .int x :: ls) st h P = z_T g d 88 10 (v0 :: .int x :: ls) (.int x :: st) h P := zt_iloadn zi_88_9 rfl rfl
theorem zi_88_10 : z_ins 88 10 = some (.invokevirtual 161, 3) := by decide +kernel
theorem ze_88_10 : z_T g d 88 10 ls (.int x0 :: .ref a :: st) h P = ((z_okS 8 st = true ∧ z_gO h.1 a 2 ∧ 0 < d) ∧ z_Ca g (d - 1) 21 [.ref a, .int x0] h (fun r => z_k r (fun v h' => z_T g d 88 13 ls (z_push v st) h' P) P)) := zt_callV (as := [.int x0]) zi_88_10 ((congrArg (fun o => z_lookup z_prs (o, 161)) zo_88).trans zp_LatinRectangles_161) ((congrArg (fun o => z_clk o 161) zo_88).trans zk_LatinRectangles_161) zh_88 zc_21 rfl rfl rfl
theorem zi_88_13 : z_ins 88 13 = some (.istore_n 3, 1) := by decide +kernel
theorem ze_88_13 : z_T g d 88 13 (v0 :: v1 :: v2 :: v3 :: ls) (.int x :: st) h P = z_T g d 88 14 (v0 :: v1 :: v2 :: .int x :: ls) st h P := zt_istoren zi_88_13 rfl (Nat.le_add_left 4 _)
theorem zi_88_14 : z_ins 88 14 = some (.iload_n 3, 1) := by decide +kernel
theorem ze_88_14 : z_T g d 88 14 (v0 :: v1 :: v2 :: .int x :: ls) st h P = z_T g d 88 15 (v0 :: v1 :: v2 :: .int x :: ls) (.int x :: st) h P := zt_iloadn zi_88_14 rfl rfl
theorem zi_88_15 : z_ins 88 15 = some (.iconst (-1), 1) := by decide +kernel
theorem ze_88_15 : z_T g d 88 15 ls st h P = z_T g d 88 16 ls (.int (-1) :: st) h P := zt_iconst zi_88_15 rfl
theorem zi_88_16 : z_ins 88 16 = some (.if_icmp .ne 5, 3) := by decide +kernel
theorem ze_88_16 : z_T g d 88 16 ls (.int y :: .int x :: st) h P = (if x = y then z_T g d 88 19 ls st h P else z_T g d 88 21 ls st h P) := zt_icmpne zi_88_16 (by decide)
theorem zi_88_19 : z_ins 88 19 = some (.iconst (-1), 1) := by decide +kernel
theorem ze_88_19 : z_T g d 88 19 ls st h P = z_T g d 88 20 ls (.int (-1) :: st) h P := zt_iconst zi_88_19 rfl
theorem zi_88_20 : z_ins 88 20 = some (.ireturn, 1) := by decide +kernel
theorem ze_88_20 : z_T g d 88 20 ls [.int x] h P = P (.inr (some (.int x)), h) := zt_ireturn zi_88_20 zr_88
theorem zi_88_21 : z_ins 88 21 = some (.iload_n 3, 1) := by decide +kernel
theorem ze_88_21 : z_T g d 88 21 (v0 :: v1 :: v2 :: .int x :: ls) st h P = z_T g d 88 22 (v0 :: v1 :: v2 :: .int x :: ls) (.int x :: st) h P := zt_iloadn zi_88_21 rfl rfl
theorem zi_88_22 : z_ins 88 22 = some (.iconst 5, 1) := by decide +kernel
theorem ze_88_22 : z_T g d 88 22 ls st h P = z_T g d 88 23 ls (.int (nI 5) :: st) h P := zt_iconst zi_88_22 rfl
theorem zi_88_23 : z_ins 88 23 = some (.idiv, 1) := by decide +kernel
theorem ze_88_23 : z_T g d 88 23 ls (.int y :: .int x :: st) h P = (¬ y = nI 0 ∧ z_T g d 88 24 ls (.int (x / y) :: st) h P) := zt_idiv zi_88_23
theorem zi_88_24 : z_ins 88 24 = some (.istore 4, 2) := by decide +kernel
theorem ze_88_24 : z_T g d 88 24 (v0 :: v1 :: v2 :: v3 :: v4 :: ls) (.int x :: st) h P = z_T g d 88 26 (v0 :: v1 :: v2 :: v3 :: .int x :: ls) st h P := zt_istore zi_88_24 (Nat.le_add_left 5 _)
theorem zi_88_26 : z_ins 88 26 = some (.iload_n 3, 1) := by decide +kernel
theorem ze_88_26 : z_T g d 88 26 (v0 :: v1 :: v2 :: .int x :: ls) st h P = z_T g d 88 27 (v0 :: v1 :: v2 :: .int x :: ls) (.int x :: st) h P := zt_iloadn zi_88_26 rfl rfl
theorem zi_88_27 : z_ins 88 27 = some (.iconst 5, 1) := by decide +kernel
theorem ze_88_27 : z_T g d 88 27 ls st h P = z_T g d 88 28 ls (.int (nI 5) :: st) h P := zt_iconst zi_88_27 rfl
theorem zi_88_28 : z_ins 88 28 = some (.irem, 1) := by decide +kernel
theorem ze_88_28 : z_T g d 88 28 ls (.int y :: .int x :: st) h P = (¬ y = nI 0 ∧ z_T g d 88 29 ls (.int (x - x / y * y) :: st) h P) := zt_irem zi_88_28
theorem zi_88_29 : z_ins 88 29 = some (.istore 5, 2) := by decide +kernel
theorem ze_88_29 : z_T g d 88 29 (v0 :: v1 :: v2 :: v3 :: v4 :: v5 :: ls) (.int x :: st) h P = z_T g d 88 31 (v0 :: v1 :: v2 :: v3 :: v4 :: .int x :: ls) st h P := zt_istore zi_88_29 (Nat.le_add_left 6 _)
theorem zi_88_31 : z_ins 88 31 = some (.iload_n 2, 1) := by decide +kernel
theorem ze_88_31 : z_T g d 88 31 (v0 :: v1 :: .int x :: ls) st h P = z_T g d 88 32 (v0 :: v1 :: .int x :: ls) (.int x :: st) h P := zt_iloadn zi_88_31 rfl rfl
theorem zi_88_32 : z_ins 88 32 = some (.tableswitch 46 0 2 #[28, 31, 34], 28) := by decide +kernel
theorem ze_88_32_0 : z_T g d 88 32 ls (.int (nI 0) :: st) h P = z_T g d 88 60 ls st h P := zt_swIn zi_88_32 (by decide) (by decide) rfl (by decide)
theorem ze_88_32_1 : z_T g d 88 32 ls (.int (nI 1) :: st) h P = z_T g d 88 63 ls st h P := zt_swIn zi_88_32 (by decide) (by decide) rfl (by decide)
theorem ze_88_32_2 : z_T g d 88 32 ls (.int (nI 2) :: st) h P = z_T g d 88 66 ls st h P := zt_swIn zi_88_32 (by decide) (by decide) rfl (by decide)
theorem ze_88_32_3 : z_T g d 88 32 ls (.int (nI 3) :: st) h P = z_T g d 88 78 ls st h P := zt_swOut zi_88_32 (by decide) (by decide)
theorem zi_88_60 : z_ins 88 60 = some (.iload 4, 2) := by decide +kernel
theorem ze_88_60 : z_T g d 88 60 (v0 :: v1 :: v2 :: v3 :: .int x :: ls) st h P = z_T g d 88 62 (v0 :: v1 :: v2 :: v3 :: .int x :: ls) (.int x :: st) h P := zt_iload zi_88_60 rfl
theorem zi_88_62 : z_ins 88 62 = some (.ireturn, 1) := by decide +kernel
theorem ze_88_62 : z_T g d 88 62 ls [.int x] h P = P (.inr (some (.int x)), h) := zt_ireturn zi_88_62 zr_88
theorem zi_88_63 : z_ins 88 63 = some (.iload 5, 2) := by decide +kernel
theorem ze_88_63 : z_T g d 88 63 (v0 :: v1 :: v2 :: v3 :: v4 :: .int x :: ls) st h P = z_T g d 88 65 (v0 :: v1 :: v2 :: v3 :: v4 :: .int x :: ls) (.int x :: st) h P := zt_iload zi_88_63 rfl
theorem zi_88_65 : z_ins 88 65 = some (.ireturn, 1) := by decide +kernel
theorem ze_88_65 : z_T g d 88 65 ls [.int x] h P = P (.inr (some (.int x)), h) := zt_ireturn zi_88_65 zr_88
theorem zi_88_66 : z_ins 88 66 = some (.aload_n 0, 1) := by decide +kernel
theorem ze_88_66 : z_T g d 88 66 (.ref a :: ls) st h P = z_T g d 88 67 (.ref a :: ls) (.ref a :: st) h P := zt_aloadn zi_88_66 rfl rfl
theorem zi_88_67 : z_ins 88 67 = some (.getfield 37, 3) := by decide +kernel
theorem ze_88_67 : z_T g d 88 67 ls (.ref a :: st) h P = z_gR h.1 a 9 3 (fun x => z_T g d 88 70 ls (.ref x :: st) h P) := zt_getR zi_88_67 ((congrArg (fun o => z_fl o 37) zo_88).trans zf_LatinRectangles_37)
theorem zi_88_70 : z_ins 88 70 = some (.iload 4, 2) := by decide +kernel
theorem ze_88_70 : z_T g d 88 70 (v0 :: v1 :: v2 :: v3 :: .int x :: ls) st h P = z_T g d 88 72 (v0 :: v1 :: v2 :: v3 :: .int x :: ls) (.int x :: st) h P := zt_iload zi_88_70 rfl
theorem zi_88_72 : z_ins 88 72 = some (.iload 5, 2) := by decide +kernel
theorem ze_88_72 : z_T g d 88 72 (v0 :: v1 :: v2 :: v3 :: v4 :: .int x :: ls) st h P = z_T g d 88 74 (v0 :: v1 :: v2 :: v3 :: v4 :: .int x :: ls) (.int x :: st) h P := zt_iload zi_88_72 rfl
theorem zi_88_74 : z_ins 88 74 = some (.invokevirtual 165, 3) := by decide +kernel
theorem ze_88_74 : z_T g d 88 74 ls (.int x1 :: .int x0 :: .ref a :: st) h P = ((z_okS 8 st = true ∧ z_gO h.1 a 2 ∧ 0 < d) ∧ z_Ca g (d - 1) 23 [.ref a, .int x0, .int x1] h (fun r => z_k r (fun v h' => z_T g d 88 77 ls (z_push v st) h' P) P)) := zt_callV (as := [.int x0, .int x1]) zi_88_74 ((congrArg (fun o => z_lookup z_prs (o, 165)) zo_88).trans zp_LatinRectangles_165) ((congrArg (fun o => z_clk o 165) zo_88).trans zk_LatinRectangles_165) zh_88 zc_23 rfl rfl rfl
theorem zi_88_77 : z_ins 88 77 = some (.ireturn, 1) := by decide +kernel
theorem ze_88_77 : z_T g d 88 77 ls [.int x] h P = P (.inr (some (.int x)), h) := zt_ireturn zi_88_77 zr_88
theorem zi_88_78 : z_ins 88 78 = some (.aload_n 0, 1) := by decide +kernel
theorem ze_88_78 : z_T g d 88 78 (.ref a :: ls) st h P = z_T g d 88 79 (.ref a :: ls) (.ref a :: st) h P := zt_aloadn zi_88_78 rfl rfl
theorem zi_88_79 : z_ins 88 79 = some (.getfield 37, 3) := by decide +kernel
theorem ze_88_79 : z_T g d 88 79 ls (.ref a :: st) h P = z_gR h.1 a 9 3 (fun x => z_T g d 88 82 ls (.ref x :: st) h P) := zt_getR zi_88_79 ((congrArg (fun o => z_fl o 37) zo_88).trans zf_LatinRectangles_37)
theorem zi_88_82 : z_ins 88 82 = some (.iload 4, 2) := by decide +kernel
theorem ze_88_82 : z_T g d 88 82 (v0 :: v1 :: v2 :: v3 :: .int x :: ls) st h P = z_T g d 88 84 (v0 :: v1 :: v2 :: v3 :: .int x :: ls) (.int x :: st) h P := zt_iload zi_88_82 rfl
theorem zi_88_84 : z_ins 88 84 = some (.iload 5, 2) := by decide +kernel
theorem ze_88_84 : z_T g d 88 84 (v0 :: v1 :: v2 :: v3 :: v4 :: .int x :: ls) st h P = z_T g d 88 86 (v0 :: v1 :: v2 :: v3 :: v4 :: .int x :: ls) (.int x :: st) h P := zt_iload zi_88_84 rfl
theorem zi_88_86 : z_ins 88 86 = some (.invokevirtual 168, 3) := by decide +kernel
theorem ze_88_86 : z_T g d 88 86 ls (.int x1 :: .int x0 :: .ref a :: st) h P = ((z_okS 8 st = true ∧ z_gO h.1 a 2 ∧ 0 < d) ∧ z_Ca g (d - 1) 22 [.ref a, .int x0, .int x1] h (fun r => z_k r (fun v h' => z_T g d 88 89 ls (z_push v st) h' P) P)) := zt_callV (as := [.int x0, .int x1]) zi_88_86 ((congrArg (fun o => z_lookup z_prs (o, 168)) zo_88).trans zp_LatinRectangles_168) ((congrArg (fun o => z_clk o 168) zo_88).trans zk_LatinRectangles_168) zh_88 zc_22 rfl rfl rfl
theorem zi_88_89 : z_ins 88 89 = some (.ireturn, 1) := by decide +kernel
theorem ze_88_89 : z_T g d 88 89 ls [.int x] h P = P (.inr (some (.int x)), h) := zt_ireturn zi_88_89 zr_88
-- LatinRectangles.emptyCell(II)I
theorem zo_89 : z_own 89 = "LatinRectangles" := by decide +kernel
theorem zm_89 : z_maxL 89 = 6 := by decide +kernel
theorem zh_89 : z_hds 89 = [] := by decide +kernel
theorem zr_89 : z_rt 89 = (some .int) := by decide +kernel
theorem zn_89 : z_Ca g d 89 [.ref a0, .int x1, .int x2] h P = z_T g d 89 0 [.ref a0, .int x1, .int x2, z_un, z_un, z_un] [] h P := z_Ca_ent zm_89 rfl rfl
theorem zi_89_0 : z_ins 89 0 = some (.iload_n 2, 1) := by decide +kernel
theorem ze_89_0 : z_T g d 89 0 (v0 :: v1 :: .int x :: ls) st h P = z_T g d 89 1 (v0 :: v1 :: .int x :: ls) (.int x :: st) h P := zt_iloadn zi_89_0 rfl rfl
theorem zi_89_1 : z_ins 89 1 = some (.iconst 2, 1) := by decide +kernel
theorem ze_89_1 : z_T g d 89 1 ls st h P = z_T g d 89 2 ls (.int (nI 2) :: st) h P := zt_iconst zi_89_1 rfl
theorem zi_89_2 : z_ins 89 2 = some (.invokestatic 118, 3) := by decide +kernel
theorem ze_89_2 : z_T g d 89 2 ls (.int x1 :: .int x0 :: st) h P = ((z_okS 8 st = true ∧ 0 < d) ∧ z_Ca g (d - 1) 117 [.int x0, .int x1] h (fun r => z_k r (fun v h' => z_T g d 89 5 ls (z_push v st) h' P) P)) := zt_callS0 (as := [.int x0, .int x1]) zi_89_2 ((congrArg (fun o => z_lookup z_prs (o, 118)) zo_89).trans zp_LatinRectangles_118) ((congrArg (fun o => z_clk o 118) zo_89).trans zk_LatinRectangles_118) zh_89 rfl rfl rfl
theorem zi_89_5 : z_ins 89 5 = some (.aload_n 0, 1) := by decide +kernel
theorem ze_89_5 : z_T g d 89 5 (.ref a :: ls) st h P = z_T g d 89 6 (.ref a :: ls) (.ref a :: st) h P := zt_aloadn zi_89_5 rfl rfl
theorem zi_89_6 : z_ins 89 6 = some (.iload_n 1, 1) := by decide +kernel
theorem ze_89_6 : z_T g d 89 6 (v0 :: .int x :: ls) st h P = z_T g d 89 7 (v0 :: .int x :: ls) (.int x :: st) h P := zt_iloadn zi_89_6 rfl rfl
theorem zi_89_7 : z_ins 89 7 = some (.invokevirtual 171, 3) := by decide +kernel
theorem ze_89_7 : z_T g d 89 7 ls (.int x0 :: .ref a :: st) h P = ((z_okS 8 st = true ∧ z_gO h.1 a 9 ∧ 0 < d) ∧ z_Ca g (d - 1) 118 [.ref a, .int x0] h (fun r => z_k r (fun v h' => z_T g d 89 10 ls (z_push v st) h' P) P)) := zt_callV (as := [.int x0]) zi_89_7 ((congrArg (fun o => z_lookup z_prs (o, 171)) zo_89).trans zp_LatinRectangles_171) ((congrArg (fun o => z_clk o 171) zo_89).trans zk_LatinRectangles_171) zh_89 zc_118 rfl rfl rfl
theorem zi_89_10 : z_ins 89 10 = some (.istore_n 3, 1) := by decide +kernel
theorem ze_89_10 : z_T g d 89 10 (v0 :: v1 :: v2 :: v3 :: ls) (.int x :: st) h P = z_T g d 89 11 (v0 :: v1 :: v2 :: .int x :: ls) st h P := zt_istoren zi_89_10 rfl (Nat.le_add_left 4 _)
theorem zi_89_11 : z_ins 89 11 = some (.iload_n 3, 1) := by decide +kernel
theorem ze_89_11 : z_T g d 89 11 (v0 :: v1 :: v2 :: .int x :: ls) st h P = z_T g d 89 12 (v0 :: v1 :: v2 :: .int x :: ls) (.int x :: st) h P := zt_iloadn zi_89_11 rfl rfl
theorem zi_89_12 : z_ins 89 12 = some (.iconst (-1), 1) := by decide +kernel
theorem ze_89_12 : z_T g d 89 12 ls st h P = z_T g d 89 13 ls (.int (-1) :: st) h P := zt_iconst zi_89_12 rfl
theorem zi_89_13 : z_ins 89 13 = some (.if_icmp .ne 5, 3) := by decide +kernel
theorem ze_89_13 : z_T g d 89 13 ls (.int y :: .int x :: st) h P = (if x = y then z_T g d 89 16 ls st h P else z_T g d 89 18 ls st h P) := zt_icmpne zi_89_13 (by decide)
theorem zi_89_16 : z_ins 89 16 = some (.iconst (-1), 1) := by decide +kernel
theorem ze_89_16 : z_T g d 89 16 ls st h P = z_T g d 89 17 ls (.int (-1) :: st) h P := zt_iconst zi_89_16 rfl
theorem zi_89_17 : z_ins 89 17 = some (.ireturn, 1) := by decide +kernel
theorem ze_89_17 : z_T g d 89 17 ls [.int x] h P = P (.inr (some (.int x)), h) := zt_ireturn zi_89_17 zr_89
theorem zi_89_18 : z_ins 89 18 = some (.iload_n 3, 1) := by decide +kernel
theorem ze_89_18 : z_T g d 89 18 (v0 :: v1 :: v2 :: .int x :: ls) st h P = z_T g d 89 19 (v0 :: v1 :: v2 :: .int x :: ls) (.int x :: st) h P := zt_iloadn zi_89_18 rfl rfl
theorem zi_89_19 : z_ins 89 19 = some (.iconst 5, 1) := by decide +kernel
theorem ze_89_19 : z_T g d 89 19 ls st h P = z_T g d 89 20 ls (.int (nI 5) :: st) h P := zt_iconst zi_89_19 rfl
theorem zi_89_20 : z_ins 89 20 = some (.idiv, 1) := by decide +kernel
theorem ze_89_20 : z_T g d 89 20 ls (.int y :: .int x :: st) h P = (¬ y = nI 0 ∧ z_T g d 89 21 ls (.int (x / y) :: st) h P) := zt_idiv zi_89_20
theorem zi_89_21 : z_ins 89 21 = some (.istore 4, 2) := by decide +kernel
theorem ze_89_21 : z_T g d 89 21 (v0 :: v1 :: v2 :: v3 :: v4 :: ls) (.int x :: st) h P = z_T g d 89 23 (v0 :: v1 :: v2 :: v3 :: .int x :: ls) st h P := zt_istore zi_89_21 (Nat.le_add_left 5 _)
theorem zi_89_23 : z_ins 89 23 = some (.iload_n 3, 1) := by decide +kernel
theorem ze_89_23 : z_T g d 89 23 (v0 :: v1 :: v2 :: .int x :: ls) st h P = z_T g d 89 24 (v0 :: v1 :: v2 :: .int x :: ls) (.int x :: st) h P := zt_iloadn zi_89_23 rfl rfl
theorem zi_89_24 : z_ins 89 24 = some (.iconst 5, 1) := by decide +kernel
theorem ze_89_24 : z_T g d 89 24 ls st h P = z_T g d 89 25 ls (.int (nI 5) :: st) h P := zt_iconst zi_89_24 rfl
theorem zi_89_25 : z_ins 89 25 = some (.irem, 1) := by decide +kernel
theorem ze_89_25 : z_T g d 89 25 ls (.int y :: .int x :: st) h P = (¬ y = nI 0 ∧ z_T g d 89 26 ls (.int (x - x / y * y) :: st) h P) := zt_irem zi_89_25
theorem zi_89_26 : z_ins 89 26 = some (.istore 5, 2) := by decide +kernel
theorem ze_89_26 : z_T g d 89 26 (v0 :: v1 :: v2 :: v3 :: v4 :: v5 :: ls) (.int x :: st) h P = z_T g d 89 28 (v0 :: v1 :: v2 :: v3 :: v4 :: .int x :: ls) st h P := zt_istore zi_89_26 (Nat.le_add_left 6 _)
theorem zi_89_28 : z_ins 89 28 = some (.iload_n 2, 1) := by decide +kernel
theorem ze_89_28 : z_T g d 89 28 (v0 :: v1 :: .int x :: ls) st h P = z_T g d 89 29 (v0 :: v1 :: .int x :: ls) (.int x :: st) h P := zt_iloadn zi_89_28 rfl rfl
theorem zi_89_29 : z_ins 89 29 = some (.lookupswitch 33 #[(0, 27), (1, 30)], 27) := by decide +kernel
theorem ze_89_29_0 : z_T g d 89 29 ls (.int (nI 0) :: st) h P = z_T g d 89 56 ls st h P := zt_swL zi_89_29 (by decide) (by decide)
theorem ze_89_29_1 : z_T g d 89 29 ls (.int (nI 1) :: st) h P = z_T g d 89 59 ls st h P := zt_swL zi_89_29 (by decide) (by decide)
theorem ze_89_29_2 : z_T g d 89 29 ls (.int (nI 2) :: st) h P = z_T g d 89 62 ls st h P := zt_swL zi_89_29 (by decide) (by decide)
theorem zi_89_56 : z_ins 89 56 = some (.iload 4, 2) := by decide +kernel
theorem ze_89_56 : z_T g d 89 56 (v0 :: v1 :: v2 :: v3 :: .int x :: ls) st h P = z_T g d 89 58 (v0 :: v1 :: v2 :: v3 :: .int x :: ls) (.int x :: st) h P := zt_iload zi_89_56 rfl
theorem zi_89_58 : z_ins 89 58 = some (.ireturn, 1) := by decide +kernel
theorem ze_89_58 : z_T g d 89 58 ls [.int x] h P = P (.inr (some (.int x)), h) := zt_ireturn zi_89_58 zr_89
theorem zi_89_59 : z_ins 89 59 = some (.iload 5, 2) := by decide +kernel
theorem ze_89_59 : z_T g d 89 59 (v0 :: v1 :: v2 :: v3 :: v4 :: .int x :: ls) st h P = z_T g d 89 61 (v0 :: v1 :: v2 :: v3 :: v4 :: .int x :: ls) (.int x :: st) h P := zt_iload zi_89_59 rfl
theorem zi_89_61 : z_ins 89 61 = some (.ireturn, 1) := by decide +kernel
theorem ze_89_61 : z_T g d 89 61 ls [.int x] h P = P (.inr (some (.int x)), h) := zt_ireturn zi_89_61 zr_89
theorem zi_89_62 : z_ins 89 62 = some (.aload_n 0, 1) := by decide +kernel
theorem ze_89_62 : z_T g d 89 62 (.ref a :: ls) st h P = z_T g d 89 63 (.ref a :: ls) (.ref a :: st) h P := zt_aloadn zi_89_62 rfl rfl
theorem zi_89_63 : z_ins 89 63 = some (.getfield 12, 3) := by decide +kernel
theorem ze_89_63 : z_T g d 89 63 ls (.ref a :: st) h P = z_gR h.1 a 9 0 (fun x => z_T g d 89 66 ls (.ref x :: st) h P) := zt_getR zi_89_63 ((congrArg (fun o => z_fl o 12) zo_89).trans zf_LatinRectangles_12)
theorem zi_89_66 : z_ins 89 66 = some (.iload 4, 2) := by decide +kernel
theorem ze_89_66 : z_T g d 89 66 (v0 :: v1 :: v2 :: v3 :: .int x :: ls) st h P = z_T g d 89 68 (v0 :: v1 :: v2 :: v3 :: .int x :: ls) (.int x :: st) h P := zt_iload zi_89_66 rfl
theorem zi_89_68 : z_ins 89 68 = some (.iload 5, 2) := by decide +kernel
theorem ze_89_68 : z_T g d 89 68 (v0 :: v1 :: v2 :: v3 :: v4 :: .int x :: ls) st h P = z_T g d 89 70 (v0 :: v1 :: v2 :: v3 :: v4 :: .int x :: ls) (.int x :: st) h P := zt_iload zi_89_68 rfl
theorem zi_89_70 : z_ins 89 70 = some (.invokevirtual 154, 3) := by decide +kernel
theorem ze_89_70 : z_T g d 89 70 ls (.int x1 :: .int x0 :: .ref a :: st) h P = ((z_okS 8 st = true ∧ z_gO h.1 a 3 ∧ 0 < d) ∧ z_Ca g (d - 1) 38 [.ref a, .int x0, .int x1] h (fun r => z_k r (fun v h' => z_T g d 89 73 ls (z_push v st) h' P) P)) := zt_callV (as := [.int x0, .int x1]) zi_89_70 ((congrArg (fun o => z_lookup z_prs (o, 154)) zo_89).trans zp_LatinRectangles_154) ((congrArg (fun o => z_clk o 154) zo_89).trans zk_LatinRectangles_154) zh_89 zc_38 rfl rfl rfl
theorem zi_89_73 : z_ins 89 73 = some (.invokestatic 174, 3) := by decide +kernel
theorem ze_89_73 : z_T g d 89 73 ls (.int x0 :: st) h P = ((z_okS 8 st = true ∧ 0 < d) ∧ z_Ca g (d - 1) 201 [.int x0] h (fun r => z_k r (fun v h' => z_T g d 89 76 ls (z_push v st) h' P) P)) := zt_callS0 (as := [.int x0]) zi_89_73 ((congrArg (fun o => z_lookup z_prs (o, 174)) zo_89).trans zp_LatinRectangles_174) ((congrArg (fun o => z_clk o 174) zo_89).trans zk_LatinRectangles_174) zh_89 rfl rfl rfl
theorem zi_89_76 : z_ins 89 76 = some (.ireturn, 1) := by decide +kernel
theorem ze_89_76 : z_T g d 89 76 ls [.int x] h P = P (.inr (some (.int x)), h) := zt_ireturn zi_89_76 zr_89
-- LatinRectangles.uses(I)I
theorem zo_90 : z_own 90 = "LatinRectangles" := by decide +kernel
theorem zm_90 : z_maxL 90 = 2 := by decide +kernel
theorem zh_90 : z_hds 90 = [] := by decide +kernel
theorem zr_90 : z_rt 90 = (some .int) := by decide +kernel
theorem zn_90 : z_Ca g d 90 [.ref a0, .int x1] h P = z_T g d 90 0 [.ref a0, .int x1] [] h P := z_Ca_ent zm_90 rfl rfl
theorem zi_90_0 : z_ins 90 0 = some (.aload_n 0, 1) := by decide +kernel
theorem ze_90_0 : z_T g d 90 0 (.ref a :: ls) st h P = z_T g d 90 1 (.ref a :: ls) (.ref a :: st) h P := zt_aloadn zi_90_0 rfl rfl
theorem zi_90_1 : z_ins 90 1 = some (.getfield 12, 3) := by decide +kernel
theorem ze_90_1 : z_T g d 90 1 ls (.ref a :: st) h P = z_gR h.1 a 9 0 (fun x => z_T g d 90 4 ls (.ref x :: st) h P) := zt_getR zi_90_1 ((congrArg (fun o => z_fl o 12) zo_90).trans zf_LatinRectangles_12)
theorem zi_90_4 : z_ins 90 4 = some (.iload_n 1, 1) := by decide +kernel
theorem ze_90_4 : z_T g d 90 4 (v0 :: .int x :: ls) st h P = z_T g d 90 5 (v0 :: .int x :: ls) (.int x :: st) h P := zt_iloadn zi_90_4 rfl rfl
theorem zi_90_5 : z_ins 90 5 = some (.invokevirtual 179, 3) := by decide +kernel
theorem ze_90_5 : z_T g d 90 5 ls (.int x0 :: .ref a :: st) h P = ((z_okS 8 st = true ∧ z_gO h.1 a 3 ∧ 0 < d) ∧ z_Ca g (d - 1) 42 [.ref a, .int x0] h (fun r => z_k r (fun v h' => z_T g d 90 8 ls (z_push v st) h' P) P)) := zt_callV (as := [.int x0]) zi_90_5 ((congrArg (fun o => z_lookup z_prs (o, 179)) zo_90).trans zp_LatinRectangles_179) ((congrArg (fun o => z_clk o 179) zo_90).trans zk_LatinRectangles_179) zh_90 zc_42 rfl rfl rfl
theorem zi_90_8 : z_ins 90 8 = some (.ireturn, 1) := by decide +kernel
theorem ze_90_8 : z_T g d 90 8 ls [.int x] h P = P (.inr (some (.int x)), h) := zt_ireturn zi_90_8 zr_90
-- LatinRectangles.symbolByUse(I)I
theorem zo_91 : z_own 91 = "LatinRectangles" := by decide +kernel
theorem zm_91 : z_maxL 91 = 5 := by decide +kernel
theorem zh_91 : z_hds 91 = [] := by decide +kernel
theorem zr_91 : z_rt 91 = (some .int) := by decide +kernel
theorem zn_91 : z_Ca g d 91 [.ref a0, .int x1] h P = z_T g d 91 0 [.ref a0, .int x1, z_un, z_un, z_un] [] h P := z_Ca_ent zm_91 rfl rfl
theorem zi_91_0 : z_ins 91 0 = some (.iload_n 1, 1) := by decide +kernel
theorem ze_91_0 : z_T g d 91 0 (v0 :: .int x :: ls) st h P = z_T g d 91 1 (v0 :: .int x :: ls) (.int x :: st) h P := zt_iloadn zi_91_0 rfl rfl
theorem zi_91_1 : z_ins 91 1 = some (.ifCond .lt 14, 3) := by decide +kernel
theorem ze_91_1 : z_T g d 91 1 ls (.int x :: st) h P = (if x < nI 0 then z_T g d 91 15 ls st h P else z_T g d 91 4 ls st h P) := zt_iflt zi_91_1 (by decide)
theorem zi_91_4 : z_ins 91 4 = some (.iload_n 1, 1) := by decide +kernel
theorem ze_91_4 : z_T g d 91 4 (v0 :: .int x :: ls) st h P = z_T g d 91 5 (v0 :: .int x :: ls) (.int x :: st) h P := zt_iloadn zi_91_4 rfl rfl
theorem zi_91_5 : z_ins 91 5 = some (.aload_n 0, 1) := by decide +kernel
theorem ze_91_5 : z_T g d 91 5 (.ref a :: ls) st h P = z_T g d 91 6 (.ref a :: ls) (.ref a :: st) h P := zt_aloadn zi_91_5 rfl rfl
theorem zi_91_6 : z_ins 91 6 = some (.getfield 12, 3) := by decide +kernel
theorem ze_91_6 : z_T g d 91 6 ls (.ref a :: st) h P = z_gR h.1 a 9 0 (fun x => z_T g d 91 9 ls (.ref x :: st) h P) := zt_getR zi_91_6 ((congrArg (fun o => z_fl o 12) zo_91).trans zf_LatinRectangles_12)
theorem zi_91_9 : z_ins 91 9 = some (.getfield 125, 3) := by decide +kernel
theorem ze_91_9 : z_T g d 91 9 ls (.ref a :: st) h P = z_gI h.1 a 3 6 (fun x => z_T g d 91 12 ls (.int x :: st) h P) := zt_getI zi_91_9 ((congrArg (fun o => z_fl o 125) zo_91).trans zf_LatinRectangles_125)
theorem zi_91_12 : z_ins 91 12 = some (.if_icmp .lt 5, 3) := by decide +kernel
theorem ze_91_12 : z_T g d 91 12 ls (.int y :: .int x :: st) h P = (if x < y then z_T g d 91 17 ls st h P else z_T g d 91 15 ls st h P) := zt_icmplt zi_91_12 (by decide)
theorem zi_91_15 : z_ins 91 15 = some (.iconst (-1), 1) := by decide +kernel
theorem ze_91_15 : z_T g d 91 15 ls st h P = z_T g d 91 16 ls (.int (-1) :: st) h P := zt_iconst zi_91_15 rfl
theorem zi_91_16 : z_ins 91 16 = some (.ireturn, 1) := by decide +kernel
theorem ze_91_16 : z_T g d 91 16 ls [.int x] h P = P (.inr (some (.int x)), h) := zt_ireturn zi_91_16 zr_91
theorem zi_91_17 : z_ins 91 17 = some (.iload_n 1, 1) := by decide +kernel
theorem ze_91_17 : z_T g d 91 17 (v0 :: .int x :: ls) st h P = z_T g d 91 18 (v0 :: .int x :: ls) (.int x :: st) h P := zt_iloadn zi_91_17 rfl rfl
theorem zi_91_18 : z_ins 91 18 = some (.istore_n 2, 1) := by decide +kernel
theorem ze_91_18 : z_T g d 91 18 (v0 :: v1 :: v2 :: ls) (.int x :: st) h P = z_T g d 91 19 (v0 :: v1 :: .int x :: ls) st h P := zt_istoren zi_91_18 rfl (Nat.le_add_left 3 _)
theorem zi_91_19 : z_ins 91 19 = some (.aload_n 0, 1) := by decide +kernel
theorem ze_91_19 : z_T g d 91 19 (.ref a :: ls) st h P = z_T g d 91 20 (.ref a :: ls) (.ref a :: st) h P := zt_aloadn zi_91_19 rfl rfl
theorem zi_91_20 : z_ins 91 20 = some (.getfield 12, 3) := by decide +kernel
theorem ze_91_20 : z_T g d 91 20 ls (.ref a :: st) h P = z_gR h.1 a 9 0 (fun x => z_T g d 91 23 ls (.ref x :: st) h P) := zt_getR zi_91_20 ((congrArg (fun o => z_fl o 12) zo_91).trans zf_LatinRectangles_12)
theorem zi_91_23 : z_ins 91 23 = some (.getfield 122, 3) := by decide +kernel
theorem ze_91_23 : z_T g d 91 23 ls (.ref a :: st) h P = z_gI h.1 a 3 5 (fun x => z_T g d 91 26 ls (.int x :: st) h P) := zt_getI zi_91_23 ((congrArg (fun o => z_fl o 122) zo_91).trans zf_LatinRectangles_122)
theorem zi_91_26 : z_ins 91 26 = some (.istore_n 3, 1) := by decide +kernel
theorem ze_91_26 : z_T g d 91 26 (v0 :: v1 :: v2 :: v3 :: ls) (.int x :: st) h P = z_T g d 91 27 (v0 :: v1 :: v2 :: .int x :: ls) st h P := zt_istoren zi_91_26 rfl (Nat.le_add_left 4 _)
theorem zi_91_27 : z_ins 91 27 = some (.iload_n 3, 1) := by decide +kernel
theorem ze_91_27 : z_T g d 91 27 (v0 :: v1 :: v2 :: .int x :: ls) st h P = z_T g d 91 28 (v0 :: v1 :: v2 :: .int x :: ls) (.int x :: st) h P := zt_iloadn zi_91_27 rfl rfl
theorem zi_91_28 : z_ins 91 28 = some (.ifCond .lt 53, 3) := by decide +kernel
theorem ze_91_28 : z_T g d 91 28 ls (.int x :: st) h P = (if x < nI 0 then z_T g d 91 81 ls st h P else z_T g d 91 31 ls st h P) := zt_iflt zi_91_28 (by decide)
theorem zi_91_31 : z_ins 91 31 = some (.iconst 0, 1) := by decide +kernel
theorem ze_91_31 : z_T g d 91 31 ls st h P = z_T g d 91 32 ls (.int (nI 0) :: st) h P := zt_iconst zi_91_31 rfl
theorem zi_91_32 : z_ins 91 32 = some (.istore 4, 2) := by decide +kernel
theorem ze_91_32 : z_T g d 91 32 (v0 :: v1 :: v2 :: v3 :: v4 :: ls) (.int x :: st) h P = z_T g d 91 34 (v0 :: v1 :: v2 :: v3 :: .int x :: ls) st h P := zt_istore zi_91_32 (Nat.le_add_left 5 _)
theorem zi_91_34 : z_ins 91 34 = some (.iload 4, 2) := by decide +kernel
theorem ze_91_34 : z_T g d 91 34 (v0 :: v1 :: v2 :: v3 :: .int x :: ls) st h P = z_T g d 91 36 (v0 :: v1 :: v2 :: v3 :: .int x :: ls) (.int x :: st) h P := zt_iload zi_91_34 rfl
theorem zi_91_36 : z_ins 91 36 = some (.aload_n 0, 1) := by decide +kernel
theorem ze_91_36 : z_T g d 91 36 (.ref a :: ls) st h P = z_T g d 91 37 (.ref a :: ls) (.ref a :: st) h P := zt_aloadn zi_91_36 rfl rfl
theorem zi_91_37 : z_ins 91 37 = some (.getfield 12, 3) := by decide +kernel
theorem ze_91_37 : z_T g d 91 37 ls (.ref a :: st) h P = z_gR h.1 a 9 0 (fun x => z_T g d 91 40 ls (.ref x :: st) h P) := zt_getR zi_91_37 ((congrArg (fun o => z_fl o 12) zo_91).trans zf_LatinRectangles_12)
theorem zi_91_40 : z_ins 91 40 = some (.getfield 125, 3) := by decide +kernel
theorem ze_91_40 : z_T g d 91 40 ls (.ref a :: st) h P = z_gI h.1 a 3 6 (fun x => z_T g d 91 43 ls (.int x :: st) h P) := zt_getI zi_91_40 ((congrArg (fun o => z_fl o 125) zo_91).trans zf_LatinRectangles_125)
theorem zi_91_43 : z_ins 91 43 = some (.if_icmp .ge 32, 3) := by decide +kernel
theorem ze_91_43 : z_T g d 91 43 ls (.int y :: .int x :: st) h P = (if x < y then z_T g d 91 46 ls st h P else z_T g d 91 75 ls st h P) := zt_icmpge zi_91_43 (by decide)
theorem zi_91_46 : z_ins 91 46 = some (.aload_n 0, 1) := by decide +kernel
theorem ze_91_46 : z_T g d 91 46 (.ref a :: ls) st h P = z_T g d 91 47 (.ref a :: ls) (.ref a :: st) h P := zt_aloadn zi_91_46 rfl rfl
theorem zi_91_47 : z_ins 91 47 = some (.getfield 12, 3) := by decide +kernel
theorem ze_91_47 : z_T g d 91 47 ls (.ref a :: st) h P = z_gR h.1 a 9 0 (fun x => z_T g d 91 50 ls (.ref x :: st) h P) := zt_getR zi_91_47 ((congrArg (fun o => z_fl o 12) zo_91).trans zf_LatinRectangles_12)
theorem zi_91_50 : z_ins 91 50 = some (.iload 4, 2) := by decide +kernel
theorem ze_91_50 : z_T g d 91 50 (v0 :: v1 :: v2 :: v3 :: .int x :: ls) st h P = z_T g d 91 52 (v0 :: v1 :: v2 :: v3 :: .int x :: ls) (.int x :: st) h P := zt_iload zi_91_50 rfl
theorem zi_91_52 : z_ins 91 52 = some (.invokevirtual 179, 3) := by decide +kernel
theorem ze_91_52 : z_T g d 91 52 ls (.int x0 :: .ref a :: st) h P = ((z_okS 8 st = true ∧ z_gO h.1 a 3 ∧ 0 < d) ∧ z_Ca g (d - 1) 42 [.ref a, .int x0] h (fun r => z_k r (fun v h' => z_T g d 91 55 ls (z_push v st) h' P) P)) := zt_callV (as := [.int x0]) zi_91_52 ((congrArg (fun o => z_lookup z_prs (o, 179)) zo_91).trans zp_LatinRectangles_179) ((congrArg (fun o => z_clk o 179) zo_91).trans zk_LatinRectangles_179) zh_91 zc_42 rfl rfl rfl
theorem zi_91_55 : z_ins 91 55 = some (.iload_n 3, 1) := by decide +kernel
theorem ze_91_55 : z_T g d 91 55 (v0 :: v1 :: v2 :: .int x :: ls) st h P = z_T g d 91 56 (v0 :: v1 :: v2 :: .int x :: ls) (.int x :: st) h P := zt_iloadn zi_91_55 rfl rfl
theorem zi_91_56 : z_ins 91 56 = some (.if_icmp .ne 13, 3) := by decide +kernel
theorem ze_91_56 : z_T g d 91 56 ls (.int y :: .int x :: st) h P = (if x = y then z_T g d 91 59 ls st h P else z_T g d 91 69 ls st h P) := zt_icmpne zi_91_56 (by decide)
theorem zi_91_59 : z_ins 91 59 = some (.iload_n 2, 1) := by decide +kernel
theorem ze_91_59 : z_T g d 91 59 (v0 :: v1 :: .int x :: ls) st h P = z_T g d 91 60 (v0 :: v1 :: .int x :: ls) (.int x :: st) h P := zt_iloadn zi_91_59 rfl rfl
theorem zi_91_60 : z_ins 91 60 = some (.ifCond .ne 6, 3) := by decide +kernel
theorem ze_91_60 : z_T g d 91 60 ls (.int x :: st) h P = (if x = nI 0 then z_T g d 91 63 ls st h P else z_T g d 91 66 ls st h P) := zt_ifne zi_91_60 (by decide)
theorem zi_91_63 : z_ins 91 63 = some (.iload 4, 2) := by decide +kernel
theorem ze_91_63 : z_T g d 91 63 (v0 :: v1 :: v2 :: v3 :: .int x :: ls) st h P = z_T g d 91 65 (v0 :: v1 :: v2 :: v3 :: .int x :: ls) (.int x :: st) h P := zt_iload zi_91_63 rfl
theorem zi_91_65 : z_ins 91 65 = some (.ireturn, 1) := by decide +kernel
theorem ze_91_65 : z_T g d 91 65 ls [.int x] h P = P (.inr (some (.int x)), h) := zt_ireturn zi_91_65 zr_91
theorem zi_91_66 : z_ins 91 66 = some (.iinc 2 (-1), 3) := by decide +kernel
theorem ze_91_66 : z_T g d 91 66 (v0 :: v1 :: .int x :: ls) st h P = z_T g d 91 69 (v0 :: v1 :: .int (x + (-1)) :: ls) st h P := zt_iinc zi_91_66 rfl rfl
theorem zi_91_69 : z_ins 91 69 = some (.iinc 4 1, 3) := by decide +kernel
theorem ze_91_69 : z_T g d 91 69 (v0 :: v1 :: v2 :: v3 :: .int x :: ls) st h P = z_T g d 91 72 (v0 :: v1 :: v2 :: v3 :: .int (x + (nI 1)) :: ls) st h P := zt_iinc zi_91_69 rfl rfl
theorem zi_91_72 : z_ins 91 72 = some (.goto (-38), 3) := by decide +kernel
theorem ze_91_72 : z_T g d 91 72 ls st h P = z_T g d 91 34 ls st h P := zt_goto zi_91_72 (by decide)
theorem zi_91_75 : z_ins 91 75 = some (.iinc 3 (-1), 3) := by decide +kernel
theorem ze_91_75 : z_T g d 91 75 (v0 :: v1 :: v2 :: .int x :: ls) st h P = z_T g d 91 78 (v0 :: v1 :: v2 :: .int (x + (-1)) :: ls) st h P := zt_iinc zi_91_75 rfl rfl
theorem zi_91_78 : z_ins 91 78 = some (.goto (-51), 3) := by decide +kernel
theorem ze_91_78 : z_T g d 91 78 ls st h P = z_T g d 91 27 ls st h P := zt_goto zi_91_78 (by decide)
theorem zi_91_81 : z_ins 91 81 = some (.iconst (-1), 1) := by decide +kernel
theorem ze_91_81 : z_T g d 91 81 ls st h P = z_T g d 91 82 ls (.int (-1) :: st) h P := zt_iconst zi_91_81 rfl
theorem zi_91_82 : z_ins 91 82 = some (.ireturn, 1) := by decide +kernel
theorem ze_91_82 : z_T g d 91 82 ls [.int x] h P = P (.inr (some (.int x)), h) := zt_ireturn zi_91_82 zr_91
-- LatinRectangles.completions(I)I
theorem zo_92 : z_own 92 = "LatinRectangles" := by decide +kernel
theorem zm_92 : z_maxL 92 = 2 := by decide +kernel
theorem zh_92 : z_hds 92 = [] := by decide +kernel
theorem zr_92 : z_rt 92 = (some .int) := by decide +kernel
theorem zn_92 : z_Ca g d 92 [.ref a0, .int x1] h P = z_T g d 92 0 [.ref a0, .int x1] [] h P := z_Ca_ent zm_92 rfl rfl
theorem zi_92_0 : z_ins 92 0 = some (.iload_n 1, 1) := by decide +kernel
theorem ze_92_0 : z_T g d 92 0 (v0 :: .int x :: ls) st h P = z_T g d 92 1 (v0 :: .int x :: ls) (.int x :: st) h P := zt_iloadn zi_92_0 rfl rfl
theorem zi_92_1 : z_ins 92 1 = some (.iconst 1, 1) := by decide +kernel
theorem ze_92_1 : z_T g d 92 1 ls st h P = z_T g d 92 2 ls (.int (nI 1) :: st) h P := zt_iconst zi_92_1 rfl
theorem zi_92_2 : z_ins 92 2 = some (.if_icmp .lt 10, 3) := by decide +kernel
theorem ze_92_2 : z_T g d 92 2 ls (.int y :: .int x :: st) h P = (if x < y then z_T g d 92 12 ls st h P else z_T g d 92 5 ls st h P) := zt_icmplt zi_92_2 (by decide)
theorem zi_92_5 : z_ins 92 5 = some (.iload_n 1, 1) := by decide +kernel
theorem ze_92_5 : z_T g d 92 5 (v0 :: .int x :: ls) st h P = z_T g d 92 6 (v0 :: .int x :: ls) (.int x :: st) h P := zt_iloadn zi_92_5 rfl rfl
theorem zi_92_6 : z_ins 92 6 = some (.sipush 1000, 3) := by decide +kernel
theorem ze_92_6 : z_T g d 92 6 ls st h P = z_T g d 92 9 ls (.int (nI 1000) :: st) h P := zt_sipush zi_92_6 rfl
theorem zi_92_9 : z_ins 92 9 = some (.if_icmp .le 13, 3) := by decide +kernel
theorem ze_92_9 : z_T g d 92 9 ls (.int y :: .int x :: st) h P = (if y < x then z_T g d 92 12 ls st h P else z_T g d 92 22 ls st h P) := zt_icmple zi_92_9 (by decide)
theorem zi_92_12 : z_ins 92 12 = some (.new 91, 3) := by decide +kernel
theorem ze_92_12 : z_T g d 92 12 ls [] h P = P (.inl "java/lang/IllegalArgumentException", (h.1, none, h.2.2.1 + 1, h.2.2.2 + 6)) := zt_throwN zi_92_12 (by decide +kernel) (by decide +kernel) zh_92
theorem zi_92_22 : z_ins 92 22 = some (.aload_n 0, 1) := by decide +kernel
theorem ze_92_22 : z_T g d 92 22 (.ref a :: ls) st h P = z_T g d 92 23 (.ref a :: ls) (.ref a :: st) h P := zt_aloadn zi_92_22 rfl rfl
theorem zi_92_23 : z_ins 92 23 = some (.getfield 44, 3) := by decide +kernel
theorem ze_92_23 : z_T g d 92 23 ls (.ref a :: st) h P = z_gR h.1 a 9 4 (fun x => z_T g d 92 26 ls (.ref x :: st) h P) := zt_getR zi_92_23 ((congrArg (fun o => z_fl o 44) zo_92).trans zf_LatinRectangles_44)
theorem zi_92_26 : z_ins 92 26 = some (.iload_n 1, 1) := by decide +kernel
theorem ze_92_26 : z_T g d 92 26 (v0 :: .int x :: ls) st h P = z_T g d 92 27 (v0 :: .int x :: ls) (.int x :: st) h P := zt_iloadn zi_92_26 rfl rfl
theorem zi_92_27 : z_ins 92 27 = some (.invokevirtual 184, 3) := by decide +kernel
theorem ze_92_27 : z_T g d 92 27 ls (.int x0 :: .ref a :: st) h P = ((z_okS 8 st = true ∧ z_gO h.1 a 0 ∧ 0 < d) ∧ z_Ca g (d - 1) 1 [.ref a, .int x0] h (fun r => z_k r (fun v h' => z_T g d 92 30 ls (z_push v st) h' P) P)) := zt_callV (as := [.int x0]) zi_92_27 ((congrArg (fun o => z_lookup z_prs (o, 184)) zo_92).trans zp_LatinRectangles_184) ((congrArg (fun o => z_clk o 184) zo_92).trans zk_LatinRectangles_184) zh_92 zc_1 rfl rfl rfl
theorem zi_92_30 : z_ins 92 30 = some (.ireturn, 1) := by decide +kernel
theorem ze_92_30 : z_T g d 92 30 ls [.int x] h P = P (.inr (some (.int x)), h) := zt_ireturn zi_92_30 zr_92
-- LatinRectangles.completed(II)I
theorem zo_93 : z_own 93 = "LatinRectangles" := by decide +kernel
theorem zm_93 : z_maxL 93 = 3 := by decide +kernel
theorem zh_93 : z_hds 93 = [] := by decide +kernel
theorem zr_93 : z_rt 93 = (some .int) := by decide +kernel
theorem zn_93 : z_Ca g d 93 [.ref a0, .int x1, .int x2] h P = z_T g d 93 0 [.ref a0, .int x1, .int x2] [] h P := z_Ca_ent zm_93 rfl rfl
theorem zi_93_0 : z_ins 93 0 = some (.aload_n 0, 1) := by decide +kernel
theorem ze_93_0 : z_T g d 93 0 (.ref a :: ls) st h P = z_T g d 93 1 (.ref a :: ls) (.ref a :: st) h P := zt_aloadn zi_93_0 rfl rfl
theorem zi_93_1 : z_ins 93 1 = some (.iload_n 1, 1) := by decide +kernel
theorem ze_93_1 : z_T g d 93 1 (v0 :: .int x :: ls) st h P = z_T g d 93 2 (v0 :: .int x :: ls) (.int x :: st) h P := zt_iloadn zi_93_1 rfl rfl
theorem zi_93_2 : z_ins 93 2 = some (.iload_n 2, 1) := by decide +kernel
theorem ze_93_2 : z_T g d 93 2 (v0 :: v1 :: .int x :: ls) st h P = z_T g d 93 3 (v0 :: v1 :: .int x :: ls) (.int x :: st) h P := zt_iloadn zi_93_2 rfl rfl
theorem zi_93_3 : z_ins 93 3 = some (.invokevirtual 144, 3) := by decide +kernel
theorem ze_93_3 : z_T g d 93 3 ls (.int x1 :: .int x0 :: .ref a :: st) h P = ((z_okS 8 st = true ∧ z_gO h.1 a 9 ∧ 0 < d) ∧ z_Ca g (d - 1) 113 [.ref a, .int x0, .int x1] h (fun r => z_k r (fun v h' => z_T g d 93 6 ls (z_push v st) h' P) P)) := zt_callV (as := [.int x0, .int x1]) zi_93_3 ((congrArg (fun o => z_lookup z_prs (o, 144)) zo_93).trans zp_LatinRectangles_144) ((congrArg (fun o => z_clk o 144) zo_93).trans zk_LatinRectangles_144) zh_93 zc_113 rfl rfl rfl
theorem zi_93_6 : z_ins 93 6 = some (.aload_n 0, 1) := by decide +kernel
theorem ze_93_6 : z_T g d 93 6 (.ref a :: ls) st h P = z_T g d 93 7 (.ref a :: ls) (.ref a :: st) h P := zt_aloadn zi_93_6 rfl rfl
theorem zi_93_7 : z_ins 93 7 = some (.getfield 44, 3) := by decide +kernel
theorem ze_93_7 : z_T g d 93 7 ls (.ref a :: st) h P = z_gR h.1 a 9 4 (fun x => z_T g d 93 10 ls (.ref x :: st) h P) := zt_getR zi_93_7 ((congrArg (fun o => z_fl o 44) zo_93).trans zf_LatinRectangles_44)
theorem zi_93_10 : z_ins 93 10 = some (.iload_n 1, 1) := by decide +kernel
theorem ze_93_10 : z_T g d 93 10 (v0 :: .int x :: ls) st h P = z_T g d 93 11 (v0 :: .int x :: ls) (.int x :: st) h P := zt_iloadn zi_93_10 rfl rfl
theorem zi_93_11 : z_ins 93 11 = some (.iload_n 2, 1) := by decide +kernel
theorem ze_93_11 : z_T g d 93 11 (v0 :: v1 :: .int x :: ls) st h P = z_T g d 93 12 (v0 :: v1 :: .int x :: ls) (.int x :: st) h P := zt_iloadn zi_93_11 rfl rfl
theorem zi_93_12 : z_ins 93 12 = some (.invokevirtual 186, 3) := by decide +kernel
theorem ze_93_12 : z_T g d 93 12 ls (.int x1 :: .int x0 :: .ref a :: st) h P = ((z_okS 8 st = true ∧ z_gO h.1 a 0 ∧ 0 < d) ∧ z_Ca g (d - 1) 2 [.ref a, .int x0, .int x1] h (fun r => z_k r (fun v h' => z_T g d 93 15 ls (z_push v st) h' P) P)) := zt_callV (as := [.int x0, .int x1]) zi_93_12 ((congrArg (fun o => z_lookup z_prs (o, 186)) zo_93).trans zp_LatinRectangles_186) ((congrArg (fun o => z_clk o 186) zo_93).trans zk_LatinRectangles_186) zh_93 zc_2 rfl rfl rfl
theorem zi_93_15 : z_ins 93 15 = some (.ireturn, 1) := by decide +kernel
theorem ze_93_15 : z_T g d 93 15 ls [.int x] h P = P (.inr (some (.int x)), h) := zt_ireturn zi_93_15 zr_93
-- LatinRectangles.possible(II)I
theorem zo_94 : z_own 94 = "LatinRectangles" := by decide +kernel
theorem zm_94 : z_maxL 94 = 3 := by decide +kernel
theorem zh_94 : z_hds 94 = [] := by decide +kernel
theorem zr_94 : z_rt 94 = (some .int) := by decide +kernel
theorem zn_94 : z_Ca g d 94 [.ref a0, .int x1, .int x2] h P = z_T g d 94 0 [.ref a0, .int x1, .int x2] [] h P := z_Ca_ent zm_94 rfl rfl
theorem zi_94_0 : z_ins 94 0 = some (.aload_n 0, 1) := by decide +kernel
theorem ze_94_0 : z_T g d 94 0 (.ref a :: ls) st h P = z_T g d 94 1 (.ref a :: ls) (.ref a :: st) h P := zt_aloadn zi_94_0 rfl rfl
theorem zi_94_1 : z_ins 94 1 = some (.iload_n 1, 1) := by decide +kernel
theorem ze_94_1 : z_T g d 94 1 (v0 :: .int x :: ls) st h P = z_T g d 94 2 (v0 :: .int x :: ls) (.int x :: st) h P := zt_iloadn zi_94_1 rfl rfl
theorem zi_94_2 : z_ins 94 2 = some (.iload_n 2, 1) := by decide +kernel
theorem ze_94_2 : z_T g d 94 2 (v0 :: v1 :: .int x :: ls) st h P = z_T g d 94 3 (v0 :: v1 :: .int x :: ls) (.int x :: st) h P := zt_iloadn zi_94_2 rfl rfl
theorem zi_94_3 : z_ins 94 3 = some (.invokevirtual 144, 3) := by decide +kernel
theorem ze_94_3 : z_T g d 94 3 ls (.int x1 :: .int x0 :: .ref a :: st) h P = ((z_okS 8 st = true ∧ z_gO h.1 a 9 ∧ 0 < d) ∧ z_Ca g (d - 1) 113 [.ref a, .int x0, .int x1] h (fun r => z_k r (fun v h' => z_T g d 94 6 ls (z_push v st) h' P) P)) := zt_callV (as := [.int x0, .int x1]) zi_94_3 ((congrArg (fun o => z_lookup z_prs (o, 144)) zo_94).trans zp_LatinRectangles_144) ((congrArg (fun o => z_clk o 144) zo_94).trans zk_LatinRectangles_144) zh_94 zc_113 rfl rfl rfl
theorem zi_94_6 : z_ins 94 6 = some (.aload_n 0, 1) := by decide +kernel
theorem ze_94_6 : z_T g d 94 6 (.ref a :: ls) st h P = z_T g d 94 7 (.ref a :: ls) (.ref a :: st) h P := zt_aloadn zi_94_6 rfl rfl
theorem zi_94_7 : z_ins 94 7 = some (.getfield 44, 3) := by decide +kernel
theorem ze_94_7 : z_T g d 94 7 ls (.ref a :: st) h P = z_gR h.1 a 9 4 (fun x => z_T g d 94 10 ls (.ref x :: st) h P) := zt_getR zi_94_7 ((congrArg (fun o => z_fl o 44) zo_94).trans zf_LatinRectangles_44)
theorem zi_94_10 : z_ins 94 10 = some (.iload_n 1, 1) := by decide +kernel
theorem ze_94_10 : z_T g d 94 10 (v0 :: .int x :: ls) st h P = z_T g d 94 11 (v0 :: .int x :: ls) (.int x :: st) h P := zt_iloadn zi_94_10 rfl rfl
theorem zi_94_11 : z_ins 94 11 = some (.iload_n 2, 1) := by decide +kernel
theorem ze_94_11 : z_T g d 94 11 (v0 :: v1 :: .int x :: ls) st h P = z_T g d 94 12 (v0 :: v1 :: .int x :: ls) (.int x :: st) h P := zt_iloadn zi_94_11 rfl rfl
theorem zi_94_12 : z_ins 94 12 = some (.invokevirtual 189, 3) := by decide +kernel
theorem ze_94_12 : z_T g d 94 12 ls (.int x1 :: .int x0 :: .ref a :: st) h P = ((z_okS 8 st = true ∧ z_gO h.1 a 0 ∧ 0 < d) ∧ z_Ca g (d - 1) 3 [.ref a, .int x0, .int x1] h (fun r => z_k r (fun v h' => z_T g d 94 15 ls (z_push v st) h' P) P)) := zt_callV (as := [.int x0, .int x1]) zi_94_12 ((congrArg (fun o => z_lookup z_prs (o, 189)) zo_94).trans zp_LatinRectangles_189) ((congrArg (fun o => z_clk o 189) zo_94).trans zk_LatinRectangles_189) zh_94 zc_3 rfl rfl rfl
theorem zi_94_15 : z_ins 94 15 = some (.ireturn, 1) := by decide +kernel
theorem ze_94_15 : z_T g d 94 15 ls [.int x] h P = P (.inr (some (.int x)), h) := zt_ireturn zi_94_15 zr_94
-- LatinRectangles.transversals()I
theorem zo_95 : z_own 95 = "LatinRectangles" := by decide +kernel
theorem zm_95 : z_maxL 95 = 1 := by decide +kernel
theorem zh_95 : z_hds 95 = [] := by decide +kernel
theorem zr_95 : z_rt 95 = (some .int) := by decide +kernel
theorem zn_95 : z_Ca g d 95 [.ref a0] h P = z_T g d 95 0 [.ref a0] [] h P := z_Ca_ent zm_95 rfl rfl
theorem zi_95_0 : z_ins 95 0 = some (.aload_n 0, 1) := by decide +kernel
theorem ze_95_0 : z_T g d 95 0 (.ref a :: ls) st h P = z_T g d 95 1 (.ref a :: ls) (.ref a :: st) h P := zt_aloadn zi_95_0 rfl rfl
theorem zi_95_1 : z_ins 95 1 = some (.getfield 51, 3) := by decide +kernel
theorem ze_95_1 : z_T g d 95 1 ls (.ref a :: st) h P = z_gR h.1 a 9 5 (fun x => z_T g d 95 4 ls (.ref x :: st) h P) := zt_getR zi_95_1 ((congrArg (fun o => z_fl o 51) zo_95).trans zf_LatinRectangles_51)
theorem zi_95_4 : z_ins 95 4 = some (.iconst (-1), 1) := by decide +kernel
theorem ze_95_4 : z_T g d 95 4 ls st h P = z_T g d 95 5 ls (.int (-1) :: st) h P := zt_iconst zi_95_4 rfl
theorem zi_95_5 : z_ins 95 5 = some (.iconst (-1), 1) := by decide +kernel
theorem ze_95_5 : z_T g d 95 5 ls st h P = z_T g d 95 6 ls (.int (-1) :: st) h P := zt_iconst zi_95_5 rfl
theorem zi_95_6 : z_ins 95 6 = some (.invokevirtual 192, 3) := by decide +kernel
theorem ze_95_6 : z_T g d 95 6 ls (.int x1 :: .int x0 :: .ref a :: st) h P = ((z_okS 8 st = true ∧ z_gO h.1 a 8 ∧ 0 < d) ∧ z_Ca g (d - 1) 71 [.ref a, .int x0, .int x1] h (fun r => z_k r (fun v h' => z_T g d 95 9 ls (z_push v st) h' P) P)) := zt_callV (as := [.int x0, .int x1]) zi_95_6 ((congrArg (fun o => z_lookup z_prs (o, 192)) zo_95).trans zp_LatinRectangles_192) ((congrArg (fun o => z_clk o 192) zo_95).trans zk_LatinRectangles_192) zh_95 zc_71 rfl rfl rfl
theorem zi_95_9 : z_ins 95 9 = some (.ireturn, 1) := by decide +kernel
theorem ze_95_9 : z_T g d 95 9 ls [.int x] h P = P (.inr (some (.int x)), h) := zt_ireturn zi_95_9 zr_95
-- LatinRectangles.transversalsThrough(II)I
theorem zo_96 : z_own 96 = "LatinRectangles" := by decide +kernel
theorem zm_96 : z_maxL 96 = 3 := by decide +kernel
theorem zh_96 : z_hds 96 = [] := by decide +kernel
theorem zr_96 : z_rt 96 = (some .int) := by decide +kernel
theorem zn_96 : z_Ca g d 96 [.ref a0, .int x1, .int x2] h P = z_T g d 96 0 [.ref a0, .int x1, .int x2] [] h P := z_Ca_ent zm_96 rfl rfl
theorem zi_96_0 : z_ins 96 0 = some (.aload_n 0, 1) := by decide +kernel
theorem ze_96_0 : z_T g d 96 0 (.ref a :: ls) st h P = z_T g d 96 1 (.ref a :: ls) (.ref a :: st) h P := zt_aloadn zi_96_0 rfl rfl
theorem zi_96_1 : z_ins 96 1 = some (.iload_n 1, 1) := by decide +kernel
theorem ze_96_1 : z_T g d 96 1 (v0 :: .int x :: ls) st h P = z_T g d 96 2 (v0 :: .int x :: ls) (.int x :: st) h P := zt_iloadn zi_96_1 rfl rfl
theorem zi_96_2 : z_ins 96 2 = some (.iload_n 2, 1) := by decide +kernel
theorem ze_96_2 : z_T g d 96 2 (v0 :: v1 :: .int x :: ls) st h P = z_T g d 96 3 (v0 :: v1 :: .int x :: ls) (.int x :: st) h P := zt_iloadn zi_96_2 rfl rfl
theorem zi_96_3 : z_ins 96 3 = some (.invokevirtual 144, 3) := by decide +kernel
theorem ze_96_3 : z_T g d 96 3 ls (.int x1 :: .int x0 :: .ref a :: st) h P = ((z_okS 8 st = true ∧ z_gO h.1 a 9 ∧ 0 < d) ∧ z_Ca g (d - 1) 113 [.ref a, .int x0, .int x1] h (fun r => z_k r (fun v h' => z_T g d 96 6 ls (z_push v st) h' P) P)) := zt_callV (as := [.int x0, .int x1]) zi_96_3 ((congrArg (fun o => z_lookup z_prs (o, 144)) zo_96).trans zp_LatinRectangles_144) ((congrArg (fun o => z_clk o 144) zo_96).trans zk_LatinRectangles_144) zh_96 zc_113 rfl rfl rfl
theorem zi_96_6 : z_ins 96 6 = some (.aload_n 0, 1) := by decide +kernel
theorem ze_96_6 : z_T g d 96 6 (.ref a :: ls) st h P = z_T g d 96 7 (.ref a :: ls) (.ref a :: st) h P := zt_aloadn zi_96_6 rfl rfl
theorem zi_96_7 : z_ins 96 7 = some (.getfield 51, 3) := by decide +kernel
theorem ze_96_7 : z_T g d 96 7 ls (.ref a :: st) h P = z_gR h.1 a 9 5 (fun x => z_T g d 96 10 ls (.ref x :: st) h P) := zt_getR zi_96_7 ((congrArg (fun o => z_fl o 51) zo_96).trans zf_LatinRectangles_51)
theorem zi_96_10 : z_ins 96 10 = some (.iload_n 1, 1) := by decide +kernel
theorem ze_96_10 : z_T g d 96 10 (v0 :: .int x :: ls) st h P = z_T g d 96 11 (v0 :: .int x :: ls) (.int x :: st) h P := zt_iloadn zi_96_10 rfl rfl
theorem zi_96_11 : z_ins 96 11 = some (.iload_n 2, 1) := by decide +kernel
theorem ze_96_11 : z_T g d 96 11 (v0 :: v1 :: .int x :: ls) st h P = z_T g d 96 12 (v0 :: v1 :: .int x :: ls) (.int x :: st) h P := zt_iloadn zi_96_11 rfl rfl
theorem zi_96_12 : z_ins 96 12 = some (.invokevirtual 192, 3) := by decide +kernel
theorem ze_96_12 : z_T g d 96 12 ls (.int x1 :: .int x0 :: .ref a :: st) h P = ((z_okS 8 st = true ∧ z_gO h.1 a 8 ∧ 0 < d) ∧ z_Ca g (d - 1) 71 [.ref a, .int x0, .int x1] h (fun r => z_k r (fun v h' => z_T g d 96 15 ls (z_push v st) h' P) P)) := zt_callV (as := [.int x0, .int x1]) zi_96_12 ((congrArg (fun o => z_lookup z_prs (o, 192)) zo_96).trans zp_LatinRectangles_192) ((congrArg (fun o => z_clk o 192) zo_96).trans zk_LatinRectangles_192) zh_96 zc_71 rfl rfl rfl
theorem zi_96_15 : z_ins 96 15 = some (.ireturn, 1) := by decide +kernel
theorem ze_96_15 : z_T g d 96 15 ls [.int x] h P = P (.inr (some (.int x)), h) := zt_ireturn zi_96_15 zr_96
-- LatinRectangles.firstTransversal(I)I
theorem zo_97 : z_own 97 = "LatinRectangles" := by decide +kernel
theorem zm_97 : z_maxL 97 = 2 := by decide +kernel
theorem zh_97 : z_hds 97 = [] := by decide +kernel
theorem zr_97 : z_rt 97 = (some .int) := by decide +kernel
theorem zn_97 : z_Ca g d 97 [.ref a0, .int x1] h P = z_T g d 97 0 [.ref a0, .int x1] [] h P := z_Ca_ent zm_97 rfl rfl
theorem zi_97_0 : z_ins 97 0 = some (.aload_n 0, 1) := by decide +kernel
theorem ze_97_0 : z_T g d 97 0 (.ref a :: ls) st h P = z_T g d 97 1 (.ref a :: ls) (.ref a :: st) h P := zt_aloadn zi_97_0 rfl rfl
theorem zi_97_1 : z_ins 97 1 = some (.iload_n 1, 1) := by decide +kernel
theorem ze_97_1 : z_T g d 97 1 (v0 :: .int x :: ls) st h P = z_T g d 97 2 (v0 :: .int x :: ls) (.int x :: st) h P := zt_iloadn zi_97_1 rfl rfl
theorem zi_97_2 : z_ins 97 2 = some (.invokevirtual 194, 3) := by decide +kernel
theorem ze_97_2 : z_T g d 97 2 ls (.int x0 :: .ref a :: st) h P = ((z_okS 8 st = true ∧ z_gO h.1 a 9 ∧ 0 < d) ∧ z_Ca g (d - 1) 112 [.ref a, .int x0] h (fun r => z_k r (fun v h' => z_T g d 97 5 ls (z_push v st) h' P) P)) := zt_callV (as := [.int x0]) zi_97_2 ((congrArg (fun o => z_lookup z_prs (o, 194)) zo_97).trans zp_LatinRectangles_194) ((congrArg (fun o => z_clk o 194) zo_97).trans zk_LatinRectangles_194) zh_97 zc_112 rfl rfl rfl
theorem zi_97_5 : z_ins 97 5 = some (.aload_n 0, 1) := by decide +kernel
theorem ze_97_5 : z_T g d 97 5 (.ref a :: ls) st h P = z_T g d 97 6 (.ref a :: ls) (.ref a :: st) h P := zt_aloadn zi_97_5 rfl rfl
theorem zi_97_6 : z_ins 97 6 = some (.getfield 51, 3) := by decide +kernel
theorem ze_97_6 : z_T g d 97 6 ls (.ref a :: st) h P = z_gR h.1 a 9 5 (fun x => z_T g d 97 9 ls (.ref x :: st) h P) := zt_getR zi_97_6 ((congrArg (fun o => z_fl o 51) zo_97).trans zf_LatinRectangles_51)
theorem zi_97_9 : z_ins 97 9 = some (.iload_n 1, 1) := by decide +kernel
theorem ze_97_9 : z_T g d 97 9 (v0 :: .int x :: ls) st h P = z_T g d 97 10 (v0 :: .int x :: ls) (.int x :: st) h P := zt_iloadn zi_97_9 rfl rfl
theorem zi_97_10 : z_ins 97 10 = some (.invokevirtual 197, 3) := by decide +kernel
theorem ze_97_10 : z_T g d 97 10 ls (.int x0 :: .ref a :: st) h P = ((z_okS 8 st = true ∧ z_gO h.1 a 8 ∧ 0 < d) ∧ z_Ca g (d - 1) 72 [.ref a, .int x0] h (fun r => z_k r (fun v h' => z_T g d 97 13 ls (z_push v st) h' P) P)) := zt_callV (as := [.int x0]) zi_97_10 ((congrArg (fun o => z_lookup z_prs (o, 197)) zo_97).trans zp_LatinRectangles_197) ((congrArg (fun o => z_clk o 197) zo_97).trans zk_LatinRectangles_197) zh_97 zc_72 rfl rfl rfl
theorem zi_97_13 : z_ins 97 13 = some (.ireturn, 1) := by decide +kernel
theorem ze_97_13 : z_T g d 97 13 ls [.int x] h P = P (.inr (some (.int x)), h) := zt_ireturn zi_97_13 zr_97
-- LatinRectangles.longestTransversal()I
theorem zo_98 : z_own 98 = "LatinRectangles" := by decide +kernel
theorem zm_98 : z_maxL 98 = 1 := by decide +kernel
theorem zh_98 : z_hds 98 = [] := by decide +kernel
theorem zr_98 : z_rt 98 = (some .int) := by decide +kernel
theorem zn_98 : z_Ca g d 98 [.ref a0] h P = z_T g d 98 0 [.ref a0] [] h P := z_Ca_ent zm_98 rfl rfl
theorem zi_98_0 : z_ins 98 0 = some (.aload_n 0, 1) := by decide +kernel
theorem ze_98_0 : z_T g d 98 0 (.ref a :: ls) st h P = z_T g d 98 1 (.ref a :: ls) (.ref a :: st) h P := zt_aloadn zi_98_0 rfl rfl
theorem zi_98_1 : z_ins 98 1 = some (.getfield 51, 3) := by decide +kernel
theorem ze_98_1 : z_T g d 98 1 ls (.ref a :: st) h P = z_gR h.1 a 9 5 (fun x => z_T g d 98 4 ls (.ref x :: st) h P) := zt_getR zi_98_1 ((congrArg (fun o => z_fl o 51) zo_98).trans zf_LatinRectangles_51)
theorem zi_98_4 : z_ins 98 4 = some (.invokevirtual 200, 3) := by decide +kernel
theorem ze_98_4 : z_T g d 98 4 ls (.ref a :: st) h P = ((z_okS 8 st = true ∧ z_gO h.1 a 8 ∧ 0 < d) ∧ z_Ca g (d - 1) 73 [.ref a] h (fun r => z_k r (fun v h' => z_T g d 98 7 ls (z_push v st) h' P) P)) := zt_callV (as := []) zi_98_4 ((congrArg (fun o => z_lookup z_prs (o, 200)) zo_98).trans zp_LatinRectangles_200) ((congrArg (fun o => z_clk o 200) zo_98).trans zk_LatinRectangles_200) zh_98 zc_73 rfl rfl rfl
theorem zi_98_7 : z_ins 98 7 = some (.ireturn, 1) := by decide +kernel
theorem ze_98_7 : z_T g d 98 7 ls [.int x] h P = P (.inr (some (.int x)), h) := zt_ireturn zi_98_7 zr_98
-- LatinRectangles.cycle(III)I
theorem zo_99 : z_own 99 = "LatinRectangles" := by decide +kernel
theorem zm_99 : z_maxL 99 = 4 := by decide +kernel
theorem zh_99 : z_hds 99 = [] := by decide +kernel
theorem zr_99 : z_rt 99 = (some .int) := by decide +kernel
theorem zn_99 : z_Ca g d 99 [.ref a0, .int x1, .int x2, .int x3] h P = z_T g d 99 0 [.ref a0, .int x1, .int x2, .int x3] [] h P := z_Ca_ent zm_99 rfl rfl
theorem zi_99_0 : z_ins 99 0 = some (.aload_n 0, 1) := by decide +kernel
theorem ze_99_0 : z_T g d 99 0 (.ref a :: ls) st h P = z_T g d 99 1 (.ref a :: ls) (.ref a :: st) h P := zt_aloadn zi_99_0 rfl rfl
theorem zi_99_1 : z_ins 99 1 = some (.iload_n 1, 1) := by decide +kernel
theorem ze_99_1 : z_T g d 99 1 (v0 :: .int x :: ls) st h P = z_T g d 99 2 (v0 :: .int x :: ls) (.int x :: st) h P := zt_iloadn zi_99_1 rfl rfl
theorem zi_99_2 : z_ins 99 2 = some (.iload_n 2, 1) := by decide +kernel
theorem ze_99_2 : z_T g d 99 2 (v0 :: v1 :: .int x :: ls) st h P = z_T g d 99 3 (v0 :: v1 :: .int x :: ls) (.int x :: st) h P := zt_iloadn zi_99_2 rfl rfl
theorem zi_99_3 : z_ins 99 3 = some (.iload_n 3, 1) := by decide +kernel
theorem ze_99_3 : z_T g d 99 3 (v0 :: v1 :: v2 :: .int x :: ls) st h P = z_T g d 99 4 (v0 :: v1 :: v2 :: .int x :: ls) (.int x :: st) h P := zt_iloadn zi_99_3 rfl rfl
theorem zi_99_4 : z_ins 99 4 = some (.invokevirtual 203, 3) := by decide +kernel
theorem ze_99_4 : z_T g d 99 4 ls (.int x2 :: .int x1 :: .int x0 :: .ref a :: st) h P = ((z_okS 8 st = true ∧ z_gO h.1 a 9 ∧ 0 < d) ∧ z_Ca g (d - 1) 114 [.ref a, .int x0, .int x1, .int x2] h (fun r => z_k r (fun v h' => z_T g d 99 7 ls (z_push v st) h' P) P)) := zt_callV (as := [.int x0, .int x1, .int x2]) zi_99_4 ((congrArg (fun o => z_lookup z_prs (o, 203)) zo_99).trans zp_LatinRectangles_203) ((congrArg (fun o => z_clk o 203) zo_99).trans zk_LatinRectangles_203) zh_99 zc_114 rfl rfl rfl
theorem zi_99_7 : z_ins 99 7 = some (.aload_n 0, 1) := by decide +kernel
theorem ze_99_7 : z_T g d 99 7 (.ref a :: ls) st h P = z_T g d 99 8 (.ref a :: ls) (.ref a :: st) h P := zt_aloadn zi_99_7 rfl rfl
theorem zi_99_8 : z_ins 99 8 = some (.getfield 58, 3) := by decide +kernel
theorem ze_99_8 : z_T g d 99 8 ls (.ref a :: st) h P = z_gR h.1 a 9 6 (fun x => z_T g d 99 11 ls (.ref x :: st) h P) := zt_getR zi_99_8 ((congrArg (fun o => z_fl o 58) zo_99).trans zf_LatinRectangles_58)
theorem zi_99_11 : z_ins 99 11 = some (.iload_n 1, 1) := by decide +kernel
theorem ze_99_11 : z_T g d 99 11 (v0 :: .int x :: ls) st h P = z_T g d 99 12 (v0 :: .int x :: ls) (.int x :: st) h P := zt_iloadn zi_99_11 rfl rfl
theorem zi_99_12 : z_ins 99 12 = some (.iload_n 2, 1) := by decide +kernel
theorem ze_99_12 : z_T g d 99 12 (v0 :: v1 :: .int x :: ls) st h P = z_T g d 99 13 (v0 :: v1 :: .int x :: ls) (.int x :: st) h P := zt_iloadn zi_99_12 rfl rfl
theorem zi_99_13 : z_ins 99 13 = some (.iload_n 3, 1) := by decide +kernel
theorem ze_99_13 : z_T g d 99 13 (v0 :: v1 :: v2 :: .int x :: ls) st h P = z_T g d 99 14 (v0 :: v1 :: v2 :: .int x :: ls) (.int x :: st) h P := zt_iloadn zi_99_13 rfl rfl
theorem zi_99_14 : z_ins 99 14 = some (.invokevirtual 207, 3) := by decide +kernel
theorem ze_99_14 : z_T g d 99 14 ls (.int x2 :: .int x1 :: .int x0 :: .ref a :: st) h P = ((z_okS 8 st = true ∧ z_gO h.1 a 1 ∧ 0 < d) ∧ z_Ca g (d - 1) 9 [.ref a, .int x0, .int x1, .int x2] h (fun r => z_k r (fun v h' => z_T g d 99 17 ls (z_push v st) h' P) P)) := zt_callV (as := [.int x0, .int x1, .int x2]) zi_99_14 ((congrArg (fun o => z_lookup z_prs (o, 207)) zo_99).trans zp_LatinRectangles_207) ((congrArg (fun o => z_clk o 207) zo_99).trans zk_LatinRectangles_207) zh_99 zc_9 rfl rfl rfl
theorem zi_99_17 : z_ins 99 17 = some (.invokestatic 174, 3) := by decide +kernel
theorem ze_99_17 : z_T g d 99 17 ls (.int x0 :: st) h P = ((z_okS 8 st = true ∧ 0 < d) ∧ z_Ca g (d - 1) 201 [.int x0] h (fun r => z_k r (fun v h' => z_T g d 99 20 ls (z_push v st) h' P) P)) := zt_callS0 (as := [.int x0]) zi_99_17 ((congrArg (fun o => z_lookup z_prs (o, 174)) zo_99).trans zp_LatinRectangles_174) ((congrArg (fun o => z_clk o 174) zo_99).trans zk_LatinRectangles_174) zh_99 rfl rfl rfl
theorem zi_99_20 : z_ins 99 20 = some (.ireturn, 1) := by decide +kernel
theorem ze_99_20 : z_T g d 99 20 ls [.int x] h P = P (.inr (some (.int x)), h) := zt_ireturn zi_99_20 zr_99
-- LatinRectangles.cycleBySize(II)I
theorem zo_100 : z_own 100 = "LatinRectangles" := by decide +kernel
theorem zm_100 : z_maxL 100 = 3 := by decide +kernel
theorem zh_100 : z_hds 100 = [] := by decide +kernel
theorem zr_100 : z_rt 100 = (some .int) := by decide +kernel
theorem zn_100 : z_Ca g d 100 [.ref a0, .int x1, .int x2] h P = z_T g d 100 0 [.ref a0, .int x1, .int x2] [] h P := z_Ca_ent zm_100 rfl rfl
theorem zi_100_0 : z_ins 100 0 = some (.iload_n 2, 1) := by decide +kernel
theorem ze_100_0 : z_T g d 100 0 (v0 :: v1 :: .int x :: ls) st h P = z_T g d 100 1 (v0 :: v1 :: .int x :: ls) (.int x :: st) h P := zt_iloadn zi_100_0 rfl rfl
theorem zi_100_1 : z_ins 100 1 = some (.iconst 3, 1) := by decide +kernel
theorem ze_100_1 : z_T g d 100 1 ls st h P = z_T g d 100 2 ls (.int (nI 3) :: st) h P := zt_iconst zi_100_1 rfl
theorem zi_100_2 : z_ins 100 2 = some (.invokestatic 118, 3) := by decide +kernel
theorem ze_100_2 : z_T g d 100 2 ls (.int x1 :: .int x0 :: st) h P = ((z_okS 8 st = true ∧ 0 < d) ∧ z_Ca g (d - 1) 117 [.int x0, .int x1] h (fun r => z_k r (fun v h' => z_T g d 100 5 ls (z_push v st) h' P) P)) := zt_callS0 (as := [.int x0, .int x1]) zi_100_2 ((congrArg (fun o => z_lookup z_prs (o, 118)) zo_100).trans zp_LatinRectangles_118) ((congrArg (fun o => z_clk o 118) zo_100).trans zk_LatinRectangles_118) zh_100 rfl rfl rfl
theorem zi_100_5 : z_ins 100 5 = some (.aload_n 0, 1) := by decide +kernel
theorem ze_100_5 : z_T g d 100 5 (.ref a :: ls) st h P = z_T g d 100 6 (.ref a :: ls) (.ref a :: st) h P := zt_aloadn zi_100_5 rfl rfl
theorem zi_100_6 : z_ins 100 6 = some (.getfield 58, 3) := by decide +kernel
theorem ze_100_6 : z_T g d 100 6 ls (.ref a :: st) h P = z_gR h.1 a 9 6 (fun x => z_T g d 100 9 ls (.ref x :: st) h P) := zt_getR zi_100_6 ((congrArg (fun o => z_fl o 58) zo_100).trans zf_LatinRectangles_58)
theorem zi_100_9 : z_ins 100 9 = some (.iload_n 1, 1) := by decide +kernel
theorem ze_100_9 : z_T g d 100 9 (v0 :: .int x :: ls) st h P = z_T g d 100 10 (v0 :: .int x :: ls) (.int x :: st) h P := zt_iloadn zi_100_9 rfl rfl
theorem zi_100_10 : z_ins 100 10 = some (.iload_n 2, 1) := by decide +kernel
theorem ze_100_10 : z_T g d 100 10 (v0 :: v1 :: .int x :: ls) st h P = z_T g d 100 11 (v0 :: v1 :: .int x :: ls) (.int x :: st) h P := zt_iloadn zi_100_10 rfl rfl
theorem zi_100_11 : z_ins 100 11 = some (.invokevirtual 211, 3) := by decide +kernel
theorem ze_100_11 : z_T g d 100 11 ls (.int x1 :: .int x0 :: .ref a :: st) h P = ((z_okS 8 st = true ∧ z_gO h.1 a 1 ∧ 0 < d) ∧ z_Ca g (d - 1) 11 [.ref a, .int x0, .int x1] h (fun r => z_k r (fun v h' => z_T g d 100 14 ls (z_push v st) h' P) P)) := zt_callV (as := [.int x0, .int x1]) zi_100_11 ((congrArg (fun o => z_lookup z_prs (o, 211)) zo_100).trans zp_LatinRectangles_211) ((congrArg (fun o => z_clk o 211) zo_100).trans zk_LatinRectangles_211) zh_100 zc_11 rfl rfl rfl
theorem zi_100_14 : z_ins 100 14 = some (.ireturn, 1) := by decide +kernel
theorem ze_100_14 : z_T g d 100 14 ls [.int x] h P = P (.inr (some (.int x)), h) := zt_ireturn zi_100_14 zr_100
-- LatinRectangles.intercalates()I
theorem zo_101 : z_own 101 = "LatinRectangles" := by decide +kernel
theorem zm_101 : z_maxL 101 = 1 := by decide +kernel
theorem zh_101 : z_hds 101 = [] := by decide +kernel
theorem zr_101 : z_rt 101 = (some .int) := by decide +kernel
theorem zn_101 : z_Ca g d 101 [.ref a0] h P = z_T g d 101 0 [.ref a0] [] h P := z_Ca_ent zm_101 rfl rfl
theorem zi_101_0 : z_ins 101 0 = some (.aload_n 0, 1) := by decide +kernel
theorem ze_101_0 : z_T g d 101 0 (.ref a :: ls) st h P = z_T g d 101 1 (.ref a :: ls) (.ref a :: st) h P := zt_aloadn zi_101_0 rfl rfl
theorem zi_101_1 : z_ins 101 1 = some (.getfield 58, 3) := by decide +kernel
theorem ze_101_1 : z_T g d 101 1 ls (.ref a :: st) h P = z_gR h.1 a 9 6 (fun x => z_T g d 101 4 ls (.ref x :: st) h P) := zt_getR zi_101_1 ((congrArg (fun o => z_fl o 58) zo_101).trans zf_LatinRectangles_58)
theorem zi_101_4 : z_ins 101 4 = some (.invokevirtual 214, 3) := by decide +kernel
theorem ze_101_4 : z_T g d 101 4 ls (.ref a :: st) h P = ((z_okS 8 st = true ∧ z_gO h.1 a 1 ∧ 0 < d) ∧ z_Ca g (d - 1) 17 [.ref a] h (fun r => z_k r (fun v h' => z_T g d 101 7 ls (z_push v st) h' P) P)) := zt_callV (as := []) zi_101_4 ((congrArg (fun o => z_lookup z_prs (o, 214)) zo_101).trans zp_LatinRectangles_214) ((congrArg (fun o => z_clk o 214) zo_101).trans zk_LatinRectangles_214) zh_101 zc_17 rfl rfl rfl
theorem zi_101_7 : z_ins 101 7 = some (.ireturn, 1) := by decide +kernel
theorem ze_101_7 : z_T g d 101 7 ls [.int x] h P = P (.inr (some (.int x)), h) := zt_ireturn zi_101_7 zr_101
-- LatinRectangles.tradeSize(I)I
theorem zo_102 : z_own 102 = "LatinRectangles" := by decide +kernel
theorem zm_102 : z_maxL 102 = 2 := by decide +kernel
theorem zh_102 : z_hds 102 = [] := by decide +kernel
theorem zr_102 : z_rt 102 = (some .int) := by decide +kernel
theorem zn_102 : z_Ca g d 102 [.ref a0, .int x1] h P = z_T g d 102 0 [.ref a0, .int x1] [] h P := z_Ca_ent zm_102 rfl rfl
theorem zi_102_0 : z_ins 102 0 = some (.aload_n 0, 1) := by decide +kernel
theorem ze_102_0 : z_T g d 102 0 (.ref a :: ls) st h P = z_T g d 102 1 (.ref a :: ls) (.ref a :: st) h P := zt_aloadn zi_102_0 rfl rfl
theorem zi_102_1 : z_ins 102 1 = some (.iload_n 1, 1) := by decide +kernel
theorem ze_102_1 : z_T g d 102 1 (v0 :: .int x :: ls) st h P = z_T g d 102 2 (v0 :: .int x :: ls) (.int x :: st) h P := zt_iloadn zi_102_1 rfl rfl
theorem zi_102_2 : z_ins 102 2 = some (.invokevirtual 217, 3) := by decide +kernel
theorem ze_102_2 : z_T g d 102 2 ls (.int x0 :: .ref a :: st) h P = ((z_okS 8 st = true ∧ z_gO h.1 a 9 ∧ 0 < d) ∧ z_Ca g (d - 1) 116 [.ref a, .int x0] h (fun r => z_k r (fun v h' => z_T g d 102 5 ls (z_push v st) h' P) P)) := zt_callV (as := [.int x0]) zi_102_2 ((congrArg (fun o => z_lookup z_prs (o, 217)) zo_102).trans zp_LatinRectangles_217) ((congrArg (fun o => z_clk o 217) zo_102).trans zk_LatinRectangles_217) zh_102 zc_116 rfl rfl rfl
theorem zi_102_5 : z_ins 102 5 = some (.aload_n 0, 1) := by decide +kernel
theorem ze_102_5 : z_T g d 102 5 (.ref a :: ls) st h P = z_T g d 102 6 (.ref a :: ls) (.ref a :: st) h P := zt_aloadn zi_102_5 rfl rfl
theorem zi_102_6 : z_ins 102 6 = some (.getfield 72, 3) := by decide +kernel
theorem ze_102_6 : z_T g d 102 6 ls (.ref a :: st) h P = z_gR h.1 a 9 8 (fun x => z_T g d 102 9 ls (.ref x :: st) h P) := zt_getR zi_102_6 ((congrArg (fun o => z_fl o 72) zo_102).trans zf_LatinRectangles_72)
theorem zi_102_9 : z_ins 102 9 = some (.iload_n 1, 1) := by decide +kernel
theorem ze_102_9 : z_T g d 102 9 (v0 :: .int x :: ls) st h P = z_T g d 102 10 (v0 :: .int x :: ls) (.int x :: st) h P := zt_iloadn zi_102_9 rfl rfl
theorem zi_102_10 : z_ins 102 10 = some (.aload_n 0, 1) := by decide +kernel
theorem ze_102_10 : z_T g d 102 10 (.ref a :: ls) st h P = z_T g d 102 11 (.ref a :: ls) (.ref a :: st) h P := zt_aloadn zi_102_10 rfl rfl
theorem zi_102_11 : z_ins 102 11 = some (.getfield 12, 3) := by decide +kernel
theorem ze_102_11 : z_T g d 102 11 ls (.ref a :: st) h P = z_gR h.1 a 9 0 (fun x => z_T g d 102 14 ls (.ref x :: st) h P) := zt_getR zi_102_11 ((congrArg (fun o => z_fl o 12) zo_102).trans zf_LatinRectangles_12)
theorem zi_102_14 : z_ins 102 14 = some (.invokevirtual 220, 3) := by decide +kernel
theorem ze_102_14 : z_T g d 102 14 ls (.ref a1 :: .int x0 :: .ref a :: st) h P = ((z_okS 8 st = true ∧ z_gO h.1 a 6 ∧ 0 < d) ∧ z_Ca g (d - 1) 60 [.ref a, .int x0, .ref a1] h (fun r => z_k r (fun v h' => z_T g d 102 17 ls (z_push v st) h' P) P)) := zt_callV (as := [.int x0, .ref a1]) zi_102_14 ((congrArg (fun o => z_lookup z_prs (o, 220)) zo_102).trans zp_LatinRectangles_220) ((congrArg (fun o => z_clk o 220) zo_102).trans zk_LatinRectangles_220) zh_102 zc_60 rfl rfl rfl
theorem zi_102_17 : z_ins 102 17 = some (.ireturn, 1) := by decide +kernel
theorem ze_102_17 : z_T g d 102 17 ls [.int x] h P = P (.inr (some (.int x)), h) := zt_ireturn zi_102_17 zr_102
-- LatinRectangles.isTrade(I)Z
theorem zo_103 : z_own 103 = "LatinRectangles" := by decide +kernel
theorem zm_103 : z_maxL 103 = 2 := by decide +kernel
theorem zh_103 : z_hds 103 = [] := by decide +kernel
theorem zr_103 : z_rt 103 = (some .boolean) := by decide +kernel
theorem zn_103 : z_Ca g d 103 [.ref a0, .int x1] h P = z_T g d 103 0 [.ref a0, .int x1] [] h P := z_Ca_ent zm_103 rfl rfl
theorem zi_103_0 : z_ins 103 0 = some (.aload_n 0, 1) := by decide +kernel
theorem ze_103_0 : z_T g d 103 0 (.ref a :: ls) st h P = z_T g d 103 1 (.ref a :: ls) (.ref a :: st) h P := zt_aloadn zi_103_0 rfl rfl
theorem zi_103_1 : z_ins 103 1 = some (.iload_n 1, 1) := by decide +kernel
theorem ze_103_1 : z_T g d 103 1 (v0 :: .int x :: ls) st h P = z_T g d 103 2 (v0 :: .int x :: ls) (.int x :: st) h P := zt_iloadn zi_103_1 rfl rfl
theorem zi_103_2 : z_ins 103 2 = some (.invokevirtual 217, 3) := by decide +kernel
theorem ze_103_2 : z_T g d 103 2 ls (.int x0 :: .ref a :: st) h P = ((z_okS 8 st = true ∧ z_gO h.1 a 9 ∧ 0 < d) ∧ z_Ca g (d - 1) 116 [.ref a, .int x0] h (fun r => z_k r (fun v h' => z_T g d 103 5 ls (z_push v st) h' P) P)) := zt_callV (as := [.int x0]) zi_103_2 ((congrArg (fun o => z_lookup z_prs (o, 217)) zo_103).trans zp_LatinRectangles_217) ((congrArg (fun o => z_clk o 217) zo_103).trans zk_LatinRectangles_217) zh_103 zc_116 rfl rfl rfl
theorem zi_103_5 : z_ins 103 5 = some (.aload_n 0, 1) := by decide +kernel
theorem ze_103_5 : z_T g d 103 5 (.ref a :: ls) st h P = z_T g d 103 6 (.ref a :: ls) (.ref a :: st) h P := zt_aloadn zi_103_5 rfl rfl
theorem zi_103_6 : z_ins 103 6 = some (.getfield 72, 3) := by decide +kernel
theorem ze_103_6 : z_T g d 103 6 ls (.ref a :: st) h P = z_gR h.1 a 9 8 (fun x => z_T g d 103 9 ls (.ref x :: st) h P) := zt_getR zi_103_6 ((congrArg (fun o => z_fl o 72) zo_103).trans zf_LatinRectangles_72)
theorem zi_103_9 : z_ins 103 9 = some (.iload_n 1, 1) := by decide +kernel
theorem ze_103_9 : z_T g d 103 9 (v0 :: .int x :: ls) st h P = z_T g d 103 10 (v0 :: .int x :: ls) (.int x :: st) h P := zt_iloadn zi_103_9 rfl rfl
theorem zi_103_10 : z_ins 103 10 = some (.aload_n 0, 1) := by decide +kernel
theorem ze_103_10 : z_T g d 103 10 (.ref a :: ls) st h P = z_T g d 103 11 (.ref a :: ls) (.ref a :: st) h P := zt_aloadn zi_103_10 rfl rfl
theorem zi_103_11 : z_ins 103 11 = some (.getfield 12, 3) := by decide +kernel
theorem ze_103_11 : z_T g d 103 11 ls (.ref a :: st) h P = z_gR h.1 a 9 0 (fun x => z_T g d 103 14 ls (.ref x :: st) h P) := zt_getR zi_103_11 ((congrArg (fun o => z_fl o 12) zo_103).trans zf_LatinRectangles_12)
theorem zi_103_14 : z_ins 103 14 = some (.invokevirtual 224, 3) := by decide +kernel
theorem ze_103_14 : z_T g d 103 14 ls (.ref a1 :: .int x0 :: .ref a :: st) h P = ((z_okS 8 st = true ∧ z_gO h.1 a 6 ∧ 0 < d) ∧ z_Ca g (d - 1) 61 [.ref a, .int x0, .ref a1] h (fun r => z_k r (fun v h' => z_T g d 103 17 ls (z_push v st) h' P) P)) := zt_callV (as := [.int x0, .ref a1]) zi_103_14 ((congrArg (fun o => z_lookup z_prs (o, 224)) zo_103).trans zp_LatinRectangles_224) ((congrArg (fun o => z_clk o 224) zo_103).trans zk_LatinRectangles_224) zh_103 zc_61 rfl rfl rfl
theorem zi_103_17 : z_ins 103 17 = some (.ireturn, 1) := by decide +kernel
theorem ze_103_17 : z_T g d 103 17 ls [.int x] h P = ((x = nI 0 ∨ x = nI 1) ∧ P (.inr (some (.int x)), h)) := zt_zreturn zi_103_17 zr_103
-- LatinRectangles.fill(III)I
theorem zo_104 : z_own 104 = "LatinRectangles" := by decide +kernel
theorem zm_104 : z_maxL 104 = 4 := by decide +kernel
theorem zh_104 : z_hds 104 = [] := by decide +kernel
theorem zr_104 : z_rt 104 = (some .int) := by decide +kernel
theorem zn_104 : z_Ca g d 104 [.ref a0, .int x1, .int x2, .int x3] h P = z_T g d 104 0 [.ref a0, .int x1, .int x2, .int x3] [] h P := z_Ca_ent zm_104 rfl rfl
theorem zi_104_0 : z_ins 104 0 = some (.aload_n 0, 1) := by decide +kernel
theorem ze_104_0 : z_T g d 104 0 (.ref a :: ls) st h P = z_T g d 104 1 (.ref a :: ls) (.ref a :: st) h P := zt_aloadn zi_104_0 rfl rfl
theorem zi_104_1 : z_ins 104 1 = some (.iload_n 1, 1) := by decide +kernel
theorem ze_104_1 : z_T g d 104 1 (v0 :: .int x :: ls) st h P = z_T g d 104 2 (v0 :: .int x :: ls) (.int x :: st) h P := zt_iloadn zi_104_1 rfl rfl
theorem zi_104_2 : z_ins 104 2 = some (.iload_n 2, 1) := by decide +kernel
theorem ze_104_2 : z_T g d 104 2 (v0 :: v1 :: .int x :: ls) st h P = z_T g d 104 3 (v0 :: v1 :: .int x :: ls) (.int x :: st) h P := zt_iloadn zi_104_2 rfl rfl
theorem zi_104_3 : z_ins 104 3 = some (.invokevirtual 144, 3) := by decide +kernel
theorem ze_104_3 : z_T g d 104 3 ls (.int x1 :: .int x0 :: .ref a :: st) h P = ((z_okS 8 st = true ∧ z_gO h.1 a 9 ∧ 0 < d) ∧ z_Ca g (d - 1) 113 [.ref a, .int x0, .int x1] h (fun r => z_k r (fun v h' => z_T g d 104 6 ls (z_push v st) h' P) P)) := zt_callV (as := [.int x0, .int x1]) zi_104_3 ((congrArg (fun o => z_lookup z_prs (o, 144)) zo_104).trans zp_LatinRectangles_144) ((congrArg (fun o => z_clk o 144) zo_104).trans zk_LatinRectangles_144) zh_104 zc_113 rfl rfl rfl
theorem zi_104_6 : z_ins 104 6 = some (.iload_n 3, 1) := by decide +kernel
theorem ze_104_6 : z_T g d 104 6 (v0 :: v1 :: v2 :: .int x :: ls) st h P = z_T g d 104 7 (v0 :: v1 :: v2 :: .int x :: ls) (.int x :: st) h P := zt_iloadn zi_104_6 rfl rfl
theorem zi_104_7 : z_ins 104 7 = some (.ifCond .lt 14, 3) := by decide +kernel
theorem ze_104_7 : z_T g d 104 7 ls (.int x :: st) h P = (if x < nI 0 then z_T g d 104 21 ls st h P else z_T g d 104 10 ls st h P) := zt_iflt zi_104_7 (by decide)
theorem zi_104_10 : z_ins 104 10 = some (.iload_n 3, 1) := by decide +kernel
theorem ze_104_10 : z_T g d 104 10 (v0 :: v1 :: v2 :: .int x :: ls) st h P = z_T g d 104 11 (v0 :: v1 :: v2 :: .int x :: ls) (.int x :: st) h P := zt_iloadn zi_104_10 rfl rfl
theorem zi_104_11 : z_ins 104 11 = some (.aload_n 0, 1) := by decide +kernel
theorem ze_104_11 : z_T g d 104 11 (.ref a :: ls) st h P = z_T g d 104 12 (.ref a :: ls) (.ref a :: st) h P := zt_aloadn zi_104_11 rfl rfl
theorem zi_104_12 : z_ins 104 12 = some (.getfield 12, 3) := by decide +kernel
theorem ze_104_12 : z_T g d 104 12 ls (.ref a :: st) h P = z_gR h.1 a 9 0 (fun x => z_T g d 104 15 ls (.ref x :: st) h P) := zt_getR zi_104_12 ((congrArg (fun o => z_fl o 12) zo_104).trans zf_LatinRectangles_12)
theorem zi_104_15 : z_ins 104 15 = some (.getfield 125, 3) := by decide +kernel
theorem ze_104_15 : z_T g d 104 15 ls (.ref a :: st) h P = z_gI h.1 a 3 6 (fun x => z_T g d 104 18 ls (.int x :: st) h P) := zt_getI zi_104_15 ((congrArg (fun o => z_fl o 125) zo_104).trans zf_LatinRectangles_125)
theorem zi_104_18 : z_ins 104 18 = some (.if_icmp .lt 13, 3) := by decide +kernel
theorem ze_104_18 : z_T g d 104 18 ls (.int y :: .int x :: st) h P = (if x < y then z_T g d 104 31 ls st h P else z_T g d 104 21 ls st h P) := zt_icmplt zi_104_18 (by decide)
theorem zi_104_21 : z_ins 104 21 = some (.new 91, 3) := by decide +kernel
theorem ze_104_21 : z_T g d 104 21 ls [] h P = P (.inl "java/lang/IllegalArgumentException", (h.1, none, h.2.2.1 + 1, h.2.2.2 + 6)) := zt_throwN zi_104_21 (by decide +kernel) (by decide +kernel) zh_104
theorem zi_104_31 : z_ins 104 31 = some (.aload_n 0, 1) := by decide +kernel
theorem ze_104_31 : z_T g d 104 31 (.ref a :: ls) st h P = z_T g d 104 32 (.ref a :: ls) (.ref a :: st) h P := zt_aloadn zi_104_31 rfl rfl
theorem zi_104_32 : z_ins 104 32 = some (.getfield 12, 3) := by decide +kernel
theorem ze_104_32 : z_T g d 104 32 ls (.ref a :: st) h P = z_gR h.1 a 9 0 (fun x => z_T g d 104 35 ls (.ref x :: st) h P) := zt_getR zi_104_32 ((congrArg (fun o => z_fl o 12) zo_104).trans zf_LatinRectangles_12)
theorem zi_104_35 : z_ins 104 35 = some (.iload_n 1, 1) := by decide +kernel
theorem ze_104_35 : z_T g d 104 35 (v0 :: .int x :: ls) st h P = z_T g d 104 36 (v0 :: .int x :: ls) (.int x :: st) h P := zt_iloadn zi_104_35 rfl rfl
theorem zi_104_36 : z_ins 104 36 = some (.iload_n 2, 1) := by decide +kernel
theorem ze_104_36 : z_T g d 104 36 (v0 :: v1 :: .int x :: ls) st h P = z_T g d 104 37 (v0 :: v1 :: .int x :: ls) (.int x :: st) h P := zt_iloadn zi_104_36 rfl rfl
theorem zi_104_37 : z_ins 104 37 = some (.invokevirtual 154, 3) := by decide +kernel
theorem ze_104_37 : z_T g d 104 37 ls (.int x1 :: .int x0 :: .ref a :: st) h P = ((z_okS 8 st = true ∧ z_gO h.1 a 3 ∧ 0 < d) ∧ z_Ca g (d - 1) 38 [.ref a, .int x0, .int x1] h (fun r => z_k r (fun v h' => z_T g d 104 40 ls (z_push v st) h' P) P)) := zt_callV (as := [.int x0, .int x1]) zi_104_37 ((congrArg (fun o => z_lookup z_prs (o, 154)) zo_104).trans zp_LatinRectangles_154) ((congrArg (fun o => z_clk o 154) zo_104).trans zk_LatinRectangles_154) zh_104 zc_38 rfl rfl rfl
theorem zi_104_40 : z_ins 104 40 = some (.iload_n 3, 1) := by decide +kernel
theorem ze_104_40 : z_T g d 104 40 (v0 :: v1 :: v2 :: .int x :: ls) st h P = z_T g d 104 41 (v0 :: v1 :: v2 :: .int x :: ls) (.int x :: st) h P := zt_iloadn zi_104_40 rfl rfl
theorem zi_104_41 : z_ins 104 41 = some (.ishr, 1) := by decide +kernel
theorem ze_104_41 : z_T g d 104 41 ls (.int y :: .int x :: st) h P = z_T g d 104 42 ls (.int (x >>> (y &&& 31)) :: st) h P := zt_bin (f := fun x y => x >>> (y &&& 31)) zi_104_41 rfl (fun _ _ _ => rfl)
theorem zi_104_42 : z_ins 104 42 = some (.iconst 1, 1) := by decide +kernel
theorem ze_104_42 : z_T g d 104 42 ls st h P = z_T g d 104 43 ls (.int (nI 1) :: st) h P := zt_iconst zi_104_42 rfl
theorem zi_104_43 : z_ins 104 43 = some (.iand, 1) := by decide +kernel
theorem ze_104_43 : z_T g d 104 43 ls (.int y :: .int x :: st) h P = z_T g d 104 44 ls (.int (x &&& y) :: st) h P := zt_bin (f := fun x y => x &&& y) zi_104_43 rfl (fun _ _ _ => rfl)
theorem zi_104_44 : z_ins 104 44 = some (.ifCond .ne 13, 3) := by decide +kernel
theorem ze_104_44 : z_T g d 104 44 ls (.int x :: st) h P = (if x = nI 0 then z_T g d 104 47 ls st h P else z_T g d 104 57 ls st h P) := zt_ifne zi_104_44 (by decide)
theorem zi_104_47 : z_ins 104 47 = some (.new 230, 3) := by decide +kernel
theorem ze_104_47 : z_T g d 104 47 ls [] h P = P (.inl "java/lang/IllegalStateException", (h.1, none, h.2.2.1 + 1, h.2.2.2 + 6)) := zt_throwN zi_104_47 (by decide +kernel) (by decide +kernel) zh_104
theorem zi_104_57 : z_ins 104 57 = some (.aload_n 0, 1) := by decide +kernel
theorem ze_104_57 : z_T g d 104 57 (.ref a :: ls) st h P = z_T g d 104 58 (.ref a :: ls) (.ref a :: st) h P := zt_aloadn zi_104_57 rfl rfl
theorem zi_104_58 : z_ins 104 58 = some (.getfield 65, 3) := by decide +kernel
theorem ze_104_58 : z_T g d 104 58 ls (.ref a :: st) h P = z_gR h.1 a 9 7 (fun x => z_T g d 104 61 ls (.ref x :: st) h P) := zt_getR zi_104_58 ((congrArg (fun o => z_fl o 65) zo_104).trans zf_LatinRectangles_65)
theorem zi_104_61 : z_ins 104 61 = some (.aload_n 0, 1) := by decide +kernel
theorem ze_104_61 : z_T g d 104 61 (.ref a :: ls) st h P = z_T g d 104 62 (.ref a :: ls) (.ref a :: st) h P := zt_aloadn zi_104_61 rfl rfl
theorem zi_104_62 : z_ins 104 62 = some (.getfield 12, 3) := by decide +kernel
theorem ze_104_62 : z_T g d 104 62 ls (.ref a :: st) h P = z_gR h.1 a 9 0 (fun x => z_T g d 104 65 ls (.ref x :: st) h P) := zt_getR zi_104_62 ((congrArg (fun o => z_fl o 12) zo_104).trans zf_LatinRectangles_12)
theorem zi_104_65 : z_ins 104 65 = some (.invokevirtual 235, 3) := by decide +kernel
theorem ze_104_65 : z_T g d 104 65 ls (.ref a0 :: .ref a :: st) h P = ((z_okS 8 st = true ∧ z_gO h.1 a 4 ∧ 0 < d) ∧ z_Ca g (d - 1) 45 [.ref a, .ref a0] h (fun r => z_k r (fun v h' => z_T g d 104 68 ls (z_push v st) h' P) P)) := zt_callV (as := [.ref a0]) zi_104_65 ((congrArg (fun o => z_lookup z_prs (o, 235)) zo_104).trans zp_LatinRectangles_235) ((congrArg (fun o => z_clk o 235) zo_104).trans zk_LatinRectangles_235) zh_104 zc_45 rfl rfl rfl
theorem zi_104_68 : z_ins 104 68 = some (.aload_n 0, 1) := by decide +kernel
theorem ze_104_68 : z_T g d 104 68 (.ref a :: ls) st h P = z_T g d 104 69 (.ref a :: ls) (.ref a :: st) h P := zt_aloadn zi_104_68 rfl rfl
theorem zi_104_69 : z_ins 104 69 = some (.getfield 12, 3) := by decide +kernel
theorem ze_104_69 : z_T g d 104 69 ls (.ref a :: st) h P = z_gR h.1 a 9 0 (fun x => z_T g d 104 72 ls (.ref x :: st) h P) := zt_getR zi_104_69 ((congrArg (fun o => z_fl o 12) zo_104).trans zf_LatinRectangles_12)
theorem zi_104_72 : z_ins 104 72 = some (.iload_n 1, 1) := by decide +kernel
theorem ze_104_72 : z_T g d 104 72 (v0 :: .int x :: ls) st h P = z_T g d 104 73 (v0 :: .int x :: ls) (.int x :: st) h P := zt_iloadn zi_104_72 rfl rfl
theorem zi_104_73 : z_ins 104 73 = some (.iload_n 2, 1) := by decide +kernel
theorem ze_104_73 : z_T g d 104 73 (v0 :: v1 :: .int x :: ls) st h P = z_T g d 104 74 (v0 :: v1 :: .int x :: ls) (.int x :: st) h P := zt_iloadn zi_104_73 rfl rfl
theorem zi_104_74 : z_ins 104 74 = some (.iload_n 3, 1) := by decide +kernel
theorem ze_104_74 : z_T g d 104 74 (v0 :: v1 :: v2 :: .int x :: ls) st h P = z_T g d 104 75 (v0 :: v1 :: v2 :: .int x :: ls) (.int x :: st) h P := zt_iloadn zi_104_74 rfl rfl
theorem zi_104_75 : z_ins 104 75 = some (.invokevirtual 238, 3) := by decide +kernel
theorem ze_104_75 : z_T g d 104 75 ls (.int x2 :: .int x1 :: .int x0 :: .ref a :: st) h P = ((z_okS 8 st = true ∧ z_gO h.1 a 3 ∧ 0 < d) ∧ z_Ca g (d - 1) 33 [.ref a, .int x0, .int x1, .int x2] h (fun r => z_k r (fun v h' => z_T g d 104 78 ls (z_push v st) h' P) P)) := zt_callV (as := [.int x0, .int x1, .int x2]) zi_104_75 ((congrArg (fun o => z_lookup z_prs (o, 238)) zo_104).trans zp_LatinRectangles_238) ((congrArg (fun o => z_clk o 238) zo_104).trans zk_LatinRectangles_238) zh_104 zc_33 rfl rfl rfl
theorem zi_104_78 : z_ins 104 78 = some (.aload_n 0, 1) := by decide +kernel
theorem ze_104_78 : z_T g d 104 78 (.ref a :: ls) st h P = z_T g d 104 79 (.ref a :: ls) (.ref a :: st) h P := zt_aloadn zi_104_78 rfl rfl
theorem zi_104_79 : z_ins 104 79 = some (.getfield 12, 3) := by decide +kernel
theorem ze_104_79 : z_T g d 104 79 ls (.ref a :: st) h P = z_gR h.1 a 9 0 (fun x => z_T g d 104 82 ls (.ref x :: st) h P) := zt_getR zi_104_79 ((congrArg (fun o => z_fl o 12) zo_104).trans zf_LatinRectangles_12)
theorem zi_104_82 : z_ins 104 82 = some (.getfield 122, 3) := by decide +kernel
theorem ze_104_82 : z_T g d 104 82 ls (.ref a :: st) h P = z_gI h.1 a 3 5 (fun x => z_T g d 104 85 ls (.int x :: st) h P) := zt_getI zi_104_82 ((congrArg (fun o => z_fl o 122) zo_104).trans zf_LatinRectangles_122)
theorem zi_104_85 : z_ins 104 85 = some (.aload_n 0, 1) := by decide +kernel
theorem ze_104_85 : z_T g d 104 85 (.ref a :: ls) st h P = z_T g d 104 86 (.ref a :: ls) (.ref a :: st) h P := zt_aloadn zi_104_85 rfl rfl
theorem zi_104_86 : z_ins 104 86 = some (.getfield 12, 3) := by decide +kernel
theorem ze_104_86 : z_T g d 104 86 ls (.ref a :: st) h P = z_gR h.1 a 9 0 (fun x => z_T g d 104 89 ls (.ref x :: st) h P) := zt_getR zi_104_86 ((congrArg (fun o => z_fl o 12) zo_104).trans zf_LatinRectangles_12)
theorem zi_104_89 : z_ins 104 89 = some (.getfield 125, 3) := by decide +kernel
theorem ze_104_89 : z_T g d 104 89 ls (.ref a :: st) h P = z_gI h.1 a 3 6 (fun x => z_T g d 104 92 ls (.int x :: st) h P) := zt_getI zi_104_89 ((congrArg (fun o => z_fl o 125) zo_104).trans zf_LatinRectangles_125)
theorem zi_104_92 : z_ins 104 92 = some (.imul, 1) := by decide +kernel
theorem ze_104_92 : z_T g d 104 92 ls (.int y :: .int x :: st) h P = z_T g d 104 93 ls (.int (x * y) :: st) h P := zt_bin (f := fun x y => x * y) zi_104_92 rfl (fun _ _ _ => rfl)
theorem zi_104_93 : z_ins 104 93 = some (.aload_n 0, 1) := by decide +kernel
theorem ze_104_93 : z_T g d 104 93 (.ref a :: ls) st h P = z_T g d 104 94 (.ref a :: ls) (.ref a :: st) h P := zt_aloadn zi_104_93 rfl rfl
theorem zi_104_94 : z_ins 104 94 = some (.getfield 12, 3) := by decide +kernel
theorem ze_104_94 : z_T g d 104 94 ls (.ref a :: st) h P = z_gR h.1 a 9 0 (fun x => z_T g d 104 97 ls (.ref x :: st) h P) := zt_getR zi_104_94 ((congrArg (fun o => z_fl o 12) zo_104).trans zf_LatinRectangles_12)
theorem zi_104_97 : z_ins 104 97 = some (.getfield 128, 3) := by decide +kernel
theorem ze_104_97 : z_T g d 104 97 ls (.ref a :: st) h P = z_gI h.1 a 3 7 (fun x => z_T g d 104 100 ls (.int x :: st) h P) := zt_getI zi_104_97 ((congrArg (fun o => z_fl o 128) zo_104).trans zf_LatinRectangles_128)
theorem zi_104_100 : z_ins 104 100 = some (.isub, 1) := by decide +kernel
theorem ze_104_100 : z_T g d 104 100 ls (.int y :: .int x :: st) h P = z_T g d 104 101 ls (.int (x - y) :: st) h P := zt_bin (f := fun x y => x - y) zi_104_100 rfl (fun _ _ _ => rfl)
theorem zi_104_101 : z_ins 104 101 = some (.ireturn, 1) := by decide +kernel
theorem ze_104_101 : z_T g d 104 101 ls [.int x] h P = P (.inr (some (.int x)), h) := zt_ireturn zi_104_101 zr_104
-- LatinRectangles.empty(II)I
theorem zo_105 : z_own 105 = "LatinRectangles" := by decide +kernel
theorem zm_105 : z_maxL 105 = 5 := by decide +kernel
theorem zh_105 : z_hds 105 = [] := by decide +kernel
theorem zr_105 : z_rt 105 = (some .int) := by decide +kernel
theorem zn_105 : z_Ca g d 105 [.ref a0, .int x1, .int x2] h P = z_T g d 105 0 [.ref a0, .int x1, .int x2, z_un, z_un] [] h P := z_Ca_ent zm_105 rfl rfl
theorem zi_105_0 : z_ins 105 0 = some (.aload_n 0, 1) := by decide +kernel
theorem ze_105_0 : z_T g d 105 0 (.ref a :: ls) st h P = z_T g d 105 1 (.ref a :: ls) (.ref a :: st) h P := zt_aloadn zi_105_0 rfl rfl
theorem zi_105_1 : z_ins 105 1 = some (.iload_n 1, 1) := by decide +kernel
theorem ze_105_1 : z_T g d 105 1 (v0 :: .int x :: ls) st h P = z_T g d 105 2 (v0 :: .int x :: ls) (.int x :: st) h P := zt_iloadn zi_105_1 rfl rfl
theorem zi_105_2 : z_ins 105 2 = some (.iload_n 2, 1) := by decide +kernel
theorem ze_105_2 : z_T g d 105 2 (v0 :: v1 :: .int x :: ls) st h P = z_T g d 105 3 (v0 :: v1 :: .int x :: ls) (.int x :: st) h P := zt_iloadn zi_105_2 rfl rfl
theorem zi_105_3 : z_ins 105 3 = some (.invokevirtual 144, 3) := by decide +kernel
theorem ze_105_3 : z_T g d 105 3 ls (.int x1 :: .int x0 :: .ref a :: st) h P = ((z_okS 8 st = true ∧ z_gO h.1 a 9 ∧ 0 < d) ∧ z_Ca g (d - 1) 113 [.ref a, .int x0, .int x1] h (fun r => z_k r (fun v h' => z_T g d 105 6 ls (z_push v st) h' P) P)) := zt_callV (as := [.int x0, .int x1]) zi_105_3 ((congrArg (fun o => z_lookup z_prs (o, 144)) zo_105).trans zp_LatinRectangles_144) ((congrArg (fun o => z_clk o 144) zo_105).trans zk_LatinRectangles_144) zh_105 zc_113 rfl rfl rfl
theorem zi_105_6 : z_ins 105 6 = some (.iload_n 1, 1) := by decide +kernel
theorem ze_105_6 : z_T g d 105 6 (v0 :: .int x :: ls) st h P = z_T g d 105 7 (v0 :: .int x :: ls) (.int x :: st) h P := zt_iloadn zi_105_6 rfl rfl
theorem zi_105_7 : z_ins 105 7 = some (.iconst 5, 1) := by decide +kernel
theorem ze_105_7 : z_T g d 105 7 ls st h P = z_T g d 105 8 ls (.int (nI 5) :: st) h P := zt_iconst zi_105_7 rfl
theorem zi_105_8 : z_ins 105 8 = some (.imul, 1) := by decide +kernel
theorem ze_105_8 : z_T g d 105 8 ls (.int y :: .int x :: st) h P = z_T g d 105 9 ls (.int (x * y) :: st) h P := zt_bin (f := fun x y => x * y) zi_105_8 rfl (fun _ _ _ => rfl)
theorem zi_105_9 : z_ins 105 9 = some (.iload_n 2, 1) := by decide +kernel
theorem ze_105_9 : z_T g d 105 9 (v0 :: v1 :: .int x :: ls) st h P = z_T g d 105 10 (v0 :: v1 :: .int x :: ls) (.int x :: st) h P := zt_iloadn zi_105_9 rfl rfl
theorem zi_105_10 : z_ins 105 10 = some (.iadd, 1) := by decide +kernel
theorem ze_105_10 : z_T g d 105 10 ls (.int y :: .int x :: st) h P = z_T g d 105 11 ls (.int (x + y) :: st) h P := zt_bin (f := fun x y => x + y) zi_105_10 rfl (fun _ _ _ => rfl)
theorem zi_105_11 : z_ins 105 11 = some (.istore_n 3, 1) := by decide +kernel
theorem ze_105_11 : z_T g d 105 11 (v0 :: v1 :: v2 :: v3 :: ls) (.int x :: st) h P = z_T g d 105 12 (v0 :: v1 :: v2 :: .int x :: ls) st h P := zt_istoren zi_105_11 rfl (Nat.le_add_left 4 _)
theorem zi_105_12 : z_ins 105 12 = some (.aload_n 0, 1) := by decide +kernel
theorem ze_105_12 : z_T g d 105 12 (.ref a :: ls) st h P = z_T g d 105 13 (.ref a :: ls) (.ref a :: st) h P := zt_aloadn zi_105_12 rfl rfl
theorem zi_105_13 : z_ins 105 13 = some (.getfield 12, 3) := by decide +kernel
theorem ze_105_13 : z_T g d 105 13 ls (.ref a :: st) h P = z_gR h.1 a 9 0 (fun x => z_T g d 105 16 ls (.ref x :: st) h P) := zt_getR zi_105_13 ((congrArg (fun o => z_fl o 12) zo_105).trans zf_LatinRectangles_12)
theorem zi_105_16 : z_ins 105 16 = some (.getfield 147, 3) := by decide +kernel
theorem ze_105_16 : z_T g d 105 16 ls (.ref a :: st) h P = z_gR h.1 a 3 0 (fun x => z_T g d 105 19 ls (.ref x :: st) h P) := zt_getR zi_105_16 ((congrArg (fun o => z_fl o 147) zo_105).trans zf_LatinRectangles_147)
theorem zi_105_19 : z_ins 105 19 = some (.iload_n 3, 1) := by decide +kernel
theorem ze_105_19 : z_T g d 105 19 (v0 :: v1 :: v2 :: .int x :: ls) st h P = z_T g d 105 20 (v0 :: v1 :: v2 :: .int x :: ls) (.int x :: st) h P := zt_iloadn zi_105_19 rfl rfl
theorem zi_105_20 : z_ins 105 20 = some (.iaload, 1) := by decide +kernel
theorem ze_105_20 : z_T g d 105 20 ls (.int x :: .ref a :: st) h P = z_aL h.1 a z_tI x (fun v => z_T g d 105 21 ls (.int v :: st) h P) := zt_iaload zi_105_20
theorem zi_105_21 : z_ins 105 21 = some (.istore 4, 2) := by decide +kernel
theorem ze_105_21 : z_T g d 105 21 (v0 :: v1 :: v2 :: v3 :: v4 :: ls) (.int x :: st) h P = z_T g d 105 23 (v0 :: v1 :: v2 :: v3 :: .int x :: ls) st h P := zt_istore zi_105_21 (Nat.le_add_left 5 _)
theorem zi_105_23 : z_ins 105 23 = some (.iload 4, 2) := by decide +kernel
theorem ze_105_23 : z_T g d 105 23 (v0 :: v1 :: v2 :: v3 :: .int x :: ls) st h P = z_T g d 105 25 (v0 :: v1 :: v2 :: v3 :: .int x :: ls) (.int x :: st) h P := zt_iload zi_105_23 rfl
theorem zi_105_25 : z_ins 105 25 = some (.iconst (-1), 1) := by decide +kernel
theorem ze_105_25 : z_T g d 105 25 ls st h P = z_T g d 105 26 ls (.int (-1) :: st) h P := zt_iconst zi_105_25 rfl
theorem zi_105_26 : z_ins 105 26 = some (.if_icmp .eq 15, 3) := by decide +kernel
theorem ze_105_26 : z_T g d 105 26 ls (.int y :: .int x :: st) h P = (if x = y then z_T g d 105 41 ls st h P else z_T g d 105 29 ls st h P) := zt_icmpeq zi_105_26 (by decide)
theorem zi_105_29 : z_ins 105 29 = some (.aload_n 0, 1) := by decide +kernel
theorem ze_105_29 : z_T g d 105 29 (.ref a :: ls) st h P = z_T g d 105 30 (.ref a :: ls) (.ref a :: st) h P := zt_aloadn zi_105_29 rfl rfl
theorem zi_105_30 : z_ins 105 30 = some (.getfield 12, 3) := by decide +kernel
theorem ze_105_30 : z_T g d 105 30 ls (.ref a :: st) h P = z_gR h.1 a 9 0 (fun x => z_T g d 105 33 ls (.ref x :: st) h P) := zt_getR zi_105_30 ((congrArg (fun o => z_fl o 12) zo_105).trans zf_LatinRectangles_12)
theorem zi_105_33 : z_ins 105 33 = some (.getfield 150, 3) := by decide +kernel
theorem ze_105_33 : z_T g d 105 33 ls (.ref a :: st) h P = z_gR h.1 a 3 1 (fun x => z_T g d 105 36 ls (.ref x :: st) h P) := zt_getR zi_105_33 ((congrArg (fun o => z_fl o 150) zo_105).trans zf_LatinRectangles_150)
theorem zi_105_36 : z_ins 105 36 = some (.iload_n 3, 1) := by decide +kernel
theorem ze_105_36 : z_T g d 105 36 (v0 :: v1 :: v2 :: .int x :: ls) st h P = z_T g d 105 37 (v0 :: v1 :: v2 :: .int x :: ls) (.int x :: st) h P := zt_iloadn zi_105_36 rfl rfl
theorem zi_105_37 : z_ins 105 37 = some (.baload, 1) := by decide +kernel
theorem ze_105_37 : z_T g d 105 37 ls (.int x :: .ref a :: st) h P = z_aL h.1 a z_tB x (fun v => z_T g d 105 38 ls (.int v :: st) h P) := zt_baload zi_105_37
theorem zi_105_38 : z_ins 105 38 = some (.ifCond .eq 13, 3) := by decide +kernel
theorem ze_105_38 : z_T g d 105 38 ls (.int x :: st) h P = (if x = nI 0 then z_T g d 105 51 ls st h P else z_T g d 105 41 ls st h P) := zt_ifeq zi_105_38 (by decide)
theorem zi_105_41 : z_ins 105 41 = some (.new 230, 3) := by decide +kernel
theorem ze_105_41 : z_T g d 105 41 ls [] h P = P (.inl "java/lang/IllegalStateException", (h.1, none, h.2.2.1 + 1, h.2.2.2 + 6)) := zt_throwN zi_105_41 (by decide +kernel) (by decide +kernel) zh_105
theorem zi_105_51 : z_ins 105 51 = some (.aload_n 0, 1) := by decide +kernel
theorem ze_105_51 : z_T g d 105 51 (.ref a :: ls) st h P = z_T g d 105 52 (.ref a :: ls) (.ref a :: st) h P := zt_aloadn zi_105_51 rfl rfl
theorem zi_105_52 : z_ins 105 52 = some (.getfield 65, 3) := by decide +kernel
theorem ze_105_52 : z_T g d 105 52 ls (.ref a :: st) h P = z_gR h.1 a 9 7 (fun x => z_T g d 105 55 ls (.ref x :: st) h P) := zt_getR zi_105_52 ((congrArg (fun o => z_fl o 65) zo_105).trans zf_LatinRectangles_65)
theorem zi_105_55 : z_ins 105 55 = some (.aload_n 0, 1) := by decide +kernel
theorem ze_105_55 : z_T g d 105 55 (.ref a :: ls) st h P = z_T g d 105 56 (.ref a :: ls) (.ref a :: st) h P := zt_aloadn zi_105_55 rfl rfl
theorem zi_105_56 : z_ins 105 56 = some (.getfield 12, 3) := by decide +kernel
theorem ze_105_56 : z_T g d 105 56 ls (.ref a :: st) h P = z_gR h.1 a 9 0 (fun x => z_T g d 105 59 ls (.ref x :: st) h P) := zt_getR zi_105_56 ((congrArg (fun o => z_fl o 12) zo_105).trans zf_LatinRectangles_12)
theorem zi_105_59 : z_ins 105 59 = some (.invokevirtual 235, 3) := by decide +kernel
theorem ze_105_59 : z_T g d 105 59 ls (.ref a0 :: .ref a :: st) h P = ((z_okS 8 st = true ∧ z_gO h.1 a 4 ∧ 0 < d) ∧ z_Ca g (d - 1) 45 [.ref a, .ref a0] h (fun r => z_k r (fun v h' => z_T g d 105 62 ls (z_push v st) h' P) P)) := zt_callV (as := [.ref a0]) zi_105_59 ((congrArg (fun o => z_lookup z_prs (o, 235)) zo_105).trans zp_LatinRectangles_235) ((congrArg (fun o => z_clk o 235) zo_105).trans zk_LatinRectangles_235) zh_105 zc_45 rfl rfl rfl
theorem zi_105_62 : z_ins 105 62 = some (.aload_n 0, 1) := by decide +kernel
theorem ze_105_62 : z_T g d 105 62 (.ref a :: ls) st h P = z_T g d 105 63 (.ref a :: ls) (.ref a :: st) h P := zt_aloadn zi_105_62 rfl rfl
theorem zi_105_63 : z_ins 105 63 = some (.getfield 12, 3) := by decide +kernel
theorem ze_105_63 : z_T g d 105 63 ls (.ref a :: st) h P = z_gR h.1 a 9 0 (fun x => z_T g d 105 66 ls (.ref x :: st) h P) := zt_getR zi_105_63 ((congrArg (fun o => z_fl o 12) zo_105).trans zf_LatinRectangles_12)
theorem zi_105_66 : z_ins 105 66 = some (.iload_n 1, 1) := by decide +kernel
theorem ze_105_66 : z_T g d 105 66 (v0 :: .int x :: ls) st h P = z_T g d 105 67 (v0 :: .int x :: ls) (.int x :: st) h P := zt_iloadn zi_105_66 rfl rfl
theorem zi_105_67 : z_ins 105 67 = some (.iload_n 2, 1) := by decide +kernel
theorem ze_105_67 : z_T g d 105 67 (v0 :: v1 :: .int x :: ls) st h P = z_T g d 105 68 (v0 :: v1 :: .int x :: ls) (.int x :: st) h P := zt_iloadn zi_105_67 rfl rfl
theorem zi_105_68 : z_ins 105 68 = some (.invokevirtual 243, 3) := by decide +kernel
theorem ze_105_68 : z_T g d 105 68 ls (.int x1 :: .int x0 :: .ref a :: st) h P = ((z_okS 8 st = true ∧ z_gO h.1 a 3 ∧ 0 < d) ∧ z_Ca g (d - 1) 34 [.ref a, .int x0, .int x1] h (fun r => z_k r (fun v h' => z_T g d 105 71 ls (z_push v st) h' P) P)) := zt_callV (as := [.int x0, .int x1]) zi_105_68 ((congrArg (fun o => z_lookup z_prs (o, 243)) zo_105).trans zp_LatinRectangles_243) ((congrArg (fun o => z_clk o 243) zo_105).trans zk_LatinRectangles_243) zh_105 zc_34 rfl rfl rfl
theorem zi_105_71 : z_ins 105 71 = some (.iload 4, 2) := by decide +kernel
theorem ze_105_71 : z_T g d 105 71 (v0 :: v1 :: v2 :: v3 :: .int x :: ls) st h P = z_T g d 105 73 (v0 :: v1 :: v2 :: v3 :: .int x :: ls) (.int x :: st) h P := zt_iload zi_105_71 rfl
theorem zi_105_73 : z_ins 105 73 = some (.ireturn, 1) := by decide +kernel
theorem ze_105_73 : z_T g d 105 73 ls [.int x] h P = P (.inr (some (.int x)), h) := zt_ireturn zi_105_73 zr_105
-- LatinRectangles.propagate()I
theorem zo_106 : z_own 106 = "LatinRectangles" := by decide +kernel
theorem zm_106 : z_maxL 106 = 6 := by decide +kernel
theorem zh_106 : z_hds 106 = [] := by decide +kernel
theorem zr_106 : z_rt 106 = (some .int) := by decide +kernel
theorem zn_106 : z_Ca g d 106 [.ref a0] h P = z_T g d 106 0 [.ref a0, z_un, z_un, z_un, z_un, z_un] [] h P := z_Ca_ent zm_106 rfl rfl
theorem zi_106_0 : z_ins 106 0 = some (.aload_n 0, 1) := by decide +kernel
theorem ze_106_0 : z_T g d 106 0 (.ref a :: ls) st h P = z_T g d 106 1 (.ref a :: ls) (.ref a :: st) h P := zt_aloadn zi_106_0 rfl rfl
theorem zi_106_1 : z_ins 106 1 = some (.getfield 65, 3) := by decide +kernel
theorem ze_106_1 : z_T g d 106 1 ls (.ref a :: st) h P = z_gR h.1 a 9 7 (fun x => z_T g d 106 4 ls (.ref x :: st) h P) := zt_getR zi_106_1 ((congrArg (fun o => z_fl o 65) zo_106).trans zf_LatinRectangles_65)
theorem zi_106_4 : z_ins 106 4 = some (.aload_n 0, 1) := by decide +kernel
theorem ze_106_4 : z_T g d 106 4 (.ref a :: ls) st h P = z_T g d 106 5 (.ref a :: ls) (.ref a :: st) h P := zt_aloadn zi_106_4 rfl rfl
theorem zi_106_5 : z_ins 106 5 = some (.getfield 12, 3) := by decide +kernel
theorem ze_106_5 : z_T g d 106 5 ls (.ref a :: st) h P = z_gR h.1 a 9 0 (fun x => z_T g d 106 8 ls (.ref x :: st) h P) := zt_getR zi_106_5 ((congrArg (fun o => z_fl o 12) zo_106).trans zf_LatinRectangles_12)
theorem zi_106_8 : z_ins 106 8 = some (.invokevirtual 235, 3) := by decide +kernel
theorem ze_106_8 : z_T g d 106 8 ls (.ref a0 :: .ref a :: st) h P = ((z_okS 8 st = true ∧ z_gO h.1 a 4 ∧ 0 < d) ∧ z_Ca g (d - 1) 45 [.ref a, .ref a0] h (fun r => z_k r (fun v h' => z_T g d 106 11 ls (z_push v st) h' P) P)) := zt_callV (as := [.ref a0]) zi_106_8 ((congrArg (fun o => z_lookup z_prs (o, 235)) zo_106).trans zp_LatinRectangles_235) ((congrArg (fun o => z_clk o 235) zo_106).trans zk_LatinRectangles_235) zh_106 zc_45 rfl rfl rfl
theorem zi_106_11 : z_ins 106 11 = some (.aload_n 0, 1) := by decide +kernel
theorem ze_106_11 : z_T g d 106 11 (.ref a :: ls) st h P = z_T g d 106 12 (.ref a :: ls) (.ref a :: st) h P := zt_aloadn zi_106_11 rfl rfl
theorem zi_106_12 : z_ins 106 12 = some (.getfield 12, 3) := by decide +kernel
theorem ze_106_12 : z_T g d 106 12 ls (.ref a :: st) h P = z_gR h.1 a 9 0 (fun x => z_T g d 106 15 ls (.ref x :: st) h P) := zt_getR zi_106_12 ((congrArg (fun o => z_fl o 12) zo_106).trans zf_LatinRectangles_12)
theorem zi_106_15 : z_ins 106 15 = some (.getfield 128, 3) := by decide +kernel
theorem ze_106_15 : z_T g d 106 15 ls (.ref a :: st) h P = z_gI h.1 a 3 7 (fun x => z_T g d 106 18 ls (.int x :: st) h P) := zt_getI zi_106_15 ((congrArg (fun o => z_fl o 128) zo_106).trans zf_LatinRectangles_128)
theorem zi_106_18 : z_ins 106 18 = some (.istore_n 1, 1) := by decide +kernel
theorem ze_106_18 : z_T g d 106 18 (v0 :: v1 :: ls) (.int x :: st) h P = z_T g d 106 19 (v0 :: .int x :: ls) st h P := zt_istoren zi_106_18 rfl (Nat.le_add_left 2 _)
theorem zi_106_19 : z_ins 106 19 = some (.iconst 0, 1) := by decide +kernel
theorem ze_106_19 : z_T g d 106 19 ls st h P = z_T g d 106 20 ls (.int (nI 0) :: st) h P := zt_iconst zi_106_19 rfl
theorem zi_106_20 : z_ins 106 20 = some (.istore_n 2, 1) := by decide +kernel
theorem ze_106_20 : z_T g d 106 20 (v0 :: v1 :: v2 :: ls) (.int x :: st) h P = z_T g d 106 21 (v0 :: v1 :: .int x :: ls) st h P := zt_istoren zi_106_20 rfl (Nat.le_add_left 3 _)
theorem zi_106_21 : z_ins 106 21 = some (.iload_n 2, 1) := by decide +kernel
theorem ze_106_21 : z_T g d 106 21 (v0 :: v1 :: .int x :: ls) st h P = z_T g d 106 22 (v0 :: v1 :: .int x :: ls) (.int x :: st) h P := zt_iloadn zi_106_21 rfl rfl
theorem zi_106_22 : z_ins 106 22 = some (.bipush 25, 2) := by decide +kernel
theorem ze_106_22 : z_T g d 106 22 ls st h P = z_T g d 106 24 ls (.int (nI 25) :: st) h P := zt_bipush zi_106_22 rfl
theorem zi_106_24 : z_ins 106 24 = some (.if_icmp .ge 58, 3) := by decide +kernel
theorem ze_106_24 : z_T g d 106 24 ls (.int y :: .int x :: st) h P = (if x < y then z_T g d 106 27 ls st h P else z_T g d 106 82 ls st h P) := zt_icmpge zi_106_24 (by decide)
theorem zi_106_27 : z_ins 106 27 = some (.aload_n 0, 1) := by decide +kernel
theorem ze_106_27 : z_T g d 106 27 (.ref a :: ls) st h P = z_T g d 106 28 (.ref a :: ls) (.ref a :: st) h P := zt_aloadn zi_106_27 rfl rfl
theorem zi_106_28 : z_ins 106 28 = some (.getfield 37, 3) := by decide +kernel
theorem ze_106_28 : z_T g d 106 28 ls (.ref a :: st) h P = z_gR h.1 a 9 3 (fun x => z_T g d 106 31 ls (.ref x :: st) h P) := zt_getR zi_106_28 ((congrArg (fun o => z_fl o 37) zo_106).trans zf_LatinRectangles_37)
theorem zi_106_31 : z_ins 106 31 = some (.iconst 0, 1) := by decide +kernel
theorem ze_106_31 : z_T g d 106 31 ls st h P = z_T g d 106 32 ls (.int (nI 0) :: st) h P := zt_iconst zi_106_31 rfl
theorem zi_106_32 : z_ins 106 32 = some (.invokevirtual 161, 3) := by decide +kernel
theorem ze_106_32 : z_T g d 106 32 ls (.int x0 :: .ref a :: st) h P = ((z_okS 8 st = true ∧ z_gO h.1 a 2 ∧ 0 < d) ∧ z_Ca g (d - 1) 21 [.ref a, .int x0] h (fun r => z_k r (fun v h' => z_T g d 106 35 ls (z_push v st) h' P) P)) := zt_callV (as := [.int x0]) zi_106_32 ((congrArg (fun o => z_lookup z_prs (o, 161)) zo_106).trans zp_LatinRectangles_161) ((congrArg (fun o => z_clk o 161) zo_106).trans zk_LatinRectangles_161) zh_106 zc_21 rfl rfl rfl
theorem zi_106_35 : z_ins 106 35 = some (.istore_n 3, 1) := by decide +kernel
theorem ze_106_35 : z_T g d 106 35 (v0 :: v1 :: v2 :: v3 :: ls) (.int x :: st) h P = z_T g d 106 36 (v0 :: v1 :: v2 :: .int x :: ls) st h P := zt_istoren zi_106_35 rfl (Nat.le_add_left 4 _)
theorem zi_106_36 : z_ins 106 36 = some (.iload_n 3, 1) := by decide +kernel
theorem ze_106_36 : z_T g d 106 36 (v0 :: v1 :: v2 :: .int x :: ls) st h P = z_T g d 106 37 (v0 :: v1 :: v2 :: .int x :: ls) (.int x :: st) h P := zt_iloadn zi_106_36 rfl rfl
theorem zi_106_37 : z_ins 106 37 = some (.iconst (-1), 1) := by decide +kernel
theorem ze_106_37 : z_T g d 106 37 ls st h P = z_T g d 106 38 ls (.int (-1) :: st) h P := zt_iconst zi_106_37 rfl
theorem zi_106_38 : z_ins 106 38 = some (.if_icmp .ne 6, 3) := by decide +kernel
theorem ze_106_38 : z_T g d 106 38 ls (.int y :: .int x :: st) h P = (if x = y then z_T g d 106 41 ls st h P else z_T g d 106 44 ls st h P) := zt_icmpne zi_106_38 (by decide)
theorem zi_106_41 : z_ins 106 41 = some (.goto 41, 3) := by decide +kernel
theorem ze_106_41 : z_T g d 106 41 ls st h P = z_T g d 106 82 ls st h P := zt_goto zi_106_41 (by decide)
theorem zi_106_44 : z_ins 106 44 = some (.iload_n 3, 1) := by decide +kernel
theorem ze_106_44 : z_T g d 106 44 (v0 :: v1 :: v2 :: .int x :: ls) st h P = z_T g d 106 45 (v0 :: v1 :: v2 :: .int x :: ls) (.int x :: st) h P := zt_iloadn zi_106_44 rfl rfl
theorem zi_106_45 : z_ins 106 45 = some (.iconst 5, 1) := by decide +kernel
theorem ze_106_45 : z_T g d 106 45 ls st h P = z_T g d 106 46 ls (.int (nI 5) :: st) h P := zt_iconst zi_106_45 rfl
theorem zi_106_46 : z_ins 106 46 = some (.idiv, 1) := by decide +kernel
theorem ze_106_46 : z_T g d 106 46 ls (.int y :: .int x :: st) h P = (¬ y = nI 0 ∧ z_T g d 106 47 ls (.int (x / y) :: st) h P) := zt_idiv zi_106_46
theorem zi_106_47 : z_ins 106 47 = some (.istore 4, 2) := by decide +kernel
theorem ze_106_47 : z_T g d 106 47 (v0 :: v1 :: v2 :: v3 :: v4 :: ls) (.int x :: st) h P = z_T g d 106 49 (v0 :: v1 :: v2 :: v3 :: .int x :: ls) st h P := zt_istore zi_106_47 (Nat.le_add_left 5 _)
theorem zi_106_49 : z_ins 106 49 = some (.iload_n 3, 1) := by decide +kernel
theorem ze_106_49 : z_T g d 106 49 (v0 :: v1 :: v2 :: .int x :: ls) st h P = z_T g d 106 50 (v0 :: v1 :: v2 :: .int x :: ls) (.int x :: st) h P := zt_iloadn zi_106_49 rfl rfl
theorem zi_106_50 : z_ins 106 50 = some (.iconst 5, 1) := by decide +kernel
theorem ze_106_50 : z_T g d 106 50 ls st h P = z_T g d 106 51 ls (.int (nI 5) :: st) h P := zt_iconst zi_106_50 rfl
theorem zi_106_51 : z_ins 106 51 = some (.irem, 1) := by decide +kernel
theorem ze_106_51 : z_T g d 106 51 ls (.int y :: .int x :: st) h P = (¬ y = nI 0 ∧ z_T g d 106 52 ls (.int (x - x / y * y) :: st) h P) := zt_irem zi_106_51
theorem zi_106_52 : z_ins 106 52 = some (.istore 5, 2) := by decide +kernel
theorem ze_106_52 : z_T g d 106 52 (v0 :: v1 :: v2 :: v3 :: v4 :: v5 :: ls) (.int x :: st) h P = z_T g d 106 54 (v0 :: v1 :: v2 :: v3 :: v4 :: .int x :: ls) st h P := zt_istore zi_106_52 (Nat.le_add_left 6 _)
theorem zi_106_54 : z_ins 106 54 = some (.aload_n 0, 1) := by decide +kernel
theorem ze_106_54 : z_T g d 106 54 (.ref a :: ls) st h P = z_T g d 106 55 (.ref a :: ls) (.ref a :: st) h P := zt_aloadn zi_106_54 rfl rfl
theorem zi_106_55 : z_ins 106 55 = some (.getfield 12, 3) := by decide +kernel
theorem ze_106_55 : z_T g d 106 55 ls (.ref a :: st) h P = z_gR h.1 a 9 0 (fun x => z_T g d 106 58 ls (.ref x :: st) h P) := zt_getR zi_106_55 ((congrArg (fun o => z_fl o 12) zo_106).trans zf_LatinRectangles_12)
theorem zi_106_58 : z_ins 106 58 = some (.iload 4, 2) := by decide +kernel
theorem ze_106_58 : z_T g d 106 58 (v0 :: v1 :: v2 :: v3 :: .int x :: ls) st h P = z_T g d 106 60 (v0 :: v1 :: v2 :: v3 :: .int x :: ls) (.int x :: st) h P := zt_iload zi_106_58 rfl
theorem zi_106_60 : z_ins 106 60 = some (.iload 5, 2) := by decide +kernel
theorem ze_106_60 : z_T g d 106 60 (v0 :: v1 :: v2 :: v3 :: v4 :: .int x :: ls) st h P = z_T g d 106 62 (v0 :: v1 :: v2 :: v3 :: v4 :: .int x :: ls) (.int x :: st) h P := zt_iload zi_106_60 rfl
theorem zi_106_62 : z_ins 106 62 = some (.aload_n 0, 1) := by decide +kernel
theorem ze_106_62 : z_T g d 106 62 (.ref a :: ls) st h P = z_T g d 106 63 (.ref a :: ls) (.ref a :: st) h P := zt_aloadn zi_106_62 rfl rfl
theorem zi_106_63 : z_ins 106 63 = some (.getfield 37, 3) := by decide +kernel
theorem ze_106_63 : z_T g d 106 63 ls (.ref a :: st) h P = z_gR h.1 a 9 3 (fun x => z_T g d 106 66 ls (.ref x :: st) h P) := zt_getR zi_106_63 ((congrArg (fun o => z_fl o 37) zo_106).trans zf_LatinRectangles_37)
theorem zi_106_66 : z_ins 106 66 = some (.iload 4, 2) := by decide +kernel
theorem ze_106_66 : z_T g d 106 66 (v0 :: v1 :: v2 :: v3 :: .int x :: ls) st h P = z_T g d 106 68 (v0 :: v1 :: v2 :: v3 :: .int x :: ls) (.int x :: st) h P := zt_iload zi_106_66 rfl
theorem zi_106_68 : z_ins 106 68 = some (.iload 5, 2) := by decide +kernel
theorem ze_106_68 : z_T g d 106 68 (v0 :: v1 :: v2 :: v3 :: v4 :: .int x :: ls) st h P = z_T g d 106 70 (v0 :: v1 :: v2 :: v3 :: v4 :: .int x :: ls) (.int x :: st) h P := zt_iload zi_106_68 rfl
theorem zi_106_70 : z_ins 106 70 = some (.invokevirtual 165, 3) := by decide +kernel
theorem ze_106_70 : z_T g d 106 70 ls (.int x1 :: .int x0 :: .ref a :: st) h P = ((z_okS 8 st = true ∧ z_gO h.1 a 2 ∧ 0 < d) ∧ z_Ca g (d - 1) 23 [.ref a, .int x0, .int x1] h (fun r => z_k r (fun v h' => z_T g d 106 73 ls (z_push v st) h' P) P)) := zt_callV (as := [.int x0, .int x1]) zi_106_70 ((congrArg (fun o => z_lookup z_prs (o, 165)) zo_106).trans zp_LatinRectangles_165) ((congrArg (fun o => z_clk o 165) zo_106).trans zk_LatinRectangles_165) zh_106 zc_23 rfl rfl rfl
theorem zi_106_73 : z_ins 106 73 = some (.invokevirtual 238, 3) := by decide +kernel
theorem ze_106_73 : z_T g d 106 73 ls (.int x2 :: .int x1 :: .int x0 :: .ref a :: st) h P = ((z_okS 8 st = true ∧ z_gO h.1 a 3 ∧ 0 < d) ∧ z_Ca g (d - 1) 33 [.ref a, .int x0, .int x1, .int x2] h (fun r => z_k r (fun v h' => z_T g d 106 76 ls (z_push v st) h' P) P)) := zt_callV (as := [.int x0, .int x1, .int x2]) zi_106_73 ((congrArg (fun o => z_lookup z_prs (o, 238)) zo_106).trans zp_LatinRectangles_238) ((congrArg (fun o => z_clk o 238) zo_106).trans zk_LatinRectangles_238) zh_106 zc_33 rfl rfl rfl
theorem zi_106_76 : z_ins 106 76 = some (.iinc 2 1, 3) := by decide +kernel
theorem ze_106_76 : z_T g d 106 76 (v0 :: v1 :: .int x :: ls) st h P = z_T g d 106 79 (v0 :: v1 :: .int (x + (nI 1)) :: ls) st h P := zt_iinc zi_106_76 rfl rfl
theorem zi_106_79 : z_ins 106 79 = some (.goto (-58), 3) := by decide +kernel
theorem ze_106_79 : z_T g d 106 79 ls st h P = z_T g d 106 21 ls st h P := zt_goto zi_106_79 (by decide)
theorem zi_106_82 : z_ins 106 82 = some (.aload_n 0, 1) := by decide +kernel
theorem ze_106_82 : z_T g d 106 82 (.ref a :: ls) st h P = z_T g d 106 83 (.ref a :: ls) (.ref a :: st) h P := zt_aloadn zi_106_82 rfl rfl
theorem zi_106_83 : z_ins 106 83 = some (.getfield 12, 3) := by decide +kernel
theorem ze_106_83 : z_T g d 106 83 ls (.ref a :: st) h P = z_gR h.1 a 9 0 (fun x => z_T g d 106 86 ls (.ref x :: st) h P) := zt_getR zi_106_83 ((congrArg (fun o => z_fl o 12) zo_106).trans zf_LatinRectangles_12)
theorem zi_106_86 : z_ins 106 86 = some (.getfield 128, 3) := by decide +kernel
theorem ze_106_86 : z_T g d 106 86 ls (.ref a :: st) h P = z_gI h.1 a 3 7 (fun x => z_T g d 106 89 ls (.int x :: st) h P) := zt_getI zi_106_86 ((congrArg (fun o => z_fl o 128) zo_106).trans zf_LatinRectangles_128)
theorem zi_106_89 : z_ins 106 89 = some (.iload_n 1, 1) := by decide +kernel
theorem ze_106_89 : z_T g d 106 89 (v0 :: .int x :: ls) st h P = z_T g d 106 90 (v0 :: .int x :: ls) (.int x :: st) h P := zt_iloadn zi_106_89 rfl rfl
theorem zi_106_90 : z_ins 106 90 = some (.isub, 1) := by decide +kernel
theorem ze_106_90 : z_T g d 106 90 ls (.int y :: .int x :: st) h P = z_T g d 106 91 ls (.int (x - y) :: st) h P := zt_bin (f := fun x y => x - y) zi_106_90 rfl (fun _ _ _ => rfl)
theorem zi_106_91 : z_ins 106 91 = some (.ireturn, 1) := by decide +kernel
theorem ze_106_91 : z_T g d 106 91 ls [.int x] h P = P (.inr (some (.int x)), h) := zt_ireturn zi_106_91 zr_106
-- LatinRectangles.fillRow(I)I
theorem zo_107 : z_own 107 = "LatinRectangles" := by decide +kernel
theorem zm_107 : z_maxL 107 = 4 := by decide +kernel
theorem zh_107 : z_hds 107 = [] := by decide +kernel
theorem zr_107 : z_rt 107 = (some .int) := by decide +kernel
theorem zn_107 : z_Ca g d 107 [.ref a0, .int x1] h P = z_T g d 107 0 [.ref a0, .int x1, z_un, z_un] [] h P := z_Ca_ent zm_107 rfl rfl
theorem zi_107_0 : z_ins 107 0 = some (.aload_n 0, 1) := by decide +kernel
theorem ze_107_0 : z_T g d 107 0 (.ref a :: ls) st h P = z_T g d 107 1 (.ref a :: ls) (.ref a :: st) h P := zt_aloadn zi_107_0 rfl rfl
theorem zi_107_1 : z_ins 107 1 = some (.iload_n 1, 1) := by decide +kernel
theorem ze_107_1 : z_T g d 107 1 (v0 :: .int x :: ls) st h P = z_T g d 107 2 (v0 :: .int x :: ls) (.int x :: st) h P := zt_iloadn zi_107_1 rfl rfl
theorem zi_107_2 : z_ins 107 2 = some (.invokevirtual 194, 3) := by decide +kernel
theorem ze_107_2 : z_T g d 107 2 ls (.int x0 :: .ref a :: st) h P = ((z_okS 8 st = true ∧ z_gO h.1 a 9 ∧ 0 < d) ∧ z_Ca g (d - 1) 112 [.ref a, .int x0] h (fun r => z_k r (fun v h' => z_T g d 107 5 ls (z_push v st) h' P) P)) := zt_callV (as := [.int x0]) zi_107_2 ((congrArg (fun o => z_lookup z_prs (o, 194)) zo_107).trans zp_LatinRectangles_194) ((congrArg (fun o => z_clk o 194) zo_107).trans zk_LatinRectangles_194) zh_107 zc_112 rfl rfl rfl
theorem zi_107_5 : z_ins 107 5 = some (.aload_n 0, 1) := by decide +kernel
theorem ze_107_5 : z_T g d 107 5 (.ref a :: ls) st h P = z_T g d 107 6 (.ref a :: ls) (.ref a :: st) h P := zt_aloadn zi_107_5 rfl rfl
theorem zi_107_6 : z_ins 107 6 = some (.getfield 12, 3) := by decide +kernel
theorem ze_107_6 : z_T g d 107 6 ls (.ref a :: st) h P = z_gR h.1 a 9 0 (fun x => z_T g d 107 9 ls (.ref x :: st) h P) := zt_getR zi_107_6 ((congrArg (fun o => z_fl o 12) zo_107).trans zf_LatinRectangles_12)
theorem zi_107_9 : z_ins 107 9 = some (.iload_n 1, 1) := by decide +kernel
theorem ze_107_9 : z_T g d 107 9 (v0 :: .int x :: ls) st h P = z_T g d 107 10 (v0 :: .int x :: ls) (.int x :: st) h P := zt_iloadn zi_107_9 rfl rfl
theorem zi_107_10 : z_ins 107 10 = some (.iconst 0, 1) := by decide +kernel
theorem ze_107_10 : z_T g d 107 10 ls st h P = z_T g d 107 11 ls (.int (nI 0) :: st) h P := zt_iconst zi_107_10 rfl
theorem zi_107_11 : z_ins 107 11 = some (.iconst 0, 1) := by decide +kernel
theorem ze_107_11 : z_T g d 107 11 ls st h P = z_T g d 107 12 ls (.int (nI 0) :: st) h P := zt_iconst zi_107_11 rfl
theorem zi_107_12 : z_ins 107 12 = some (.aload_n 0, 1) := by decide +kernel
theorem ze_107_12 : z_T g d 107 12 (.ref a :: ls) st h P = z_T g d 107 13 (.ref a :: ls) (.ref a :: st) h P := zt_aloadn zi_107_12 rfl rfl
theorem zi_107_13 : z_ins 107 13 = some (.getfield 76, 3) := by decide +kernel
theorem ze_107_13 : z_T g d 107 13 ls (.ref a :: st) h P = z_gR h.1 a 9 9 (fun x => z_T g d 107 16 ls (.ref x :: st) h P) := zt_getR zi_107_13 ((congrArg (fun o => z_fl o 76) zo_107).trans zf_LatinRectangles_76)
theorem zi_107_16 : z_ins 107 16 = some (.invokestatic 246, 3) := by decide +kernel
theorem ze_107_16 : z_T g d 107 16 ls (.ref a4 :: .int x3 :: .int x2 :: .int x1 :: .ref a0 :: st) h P = ((z_okS 8 st = true ∧ 0 < d) ∧ z_Ca g (d - 1) 119 [.ref a0, .int x1, .int x2, .int x3, .ref a4] h (fun r => z_k r (fun v h' => z_T g d 107 19 ls (z_push v st) h' P) P)) := zt_callS0 (as := [.ref a0, .int x1, .int x2, .int x3, .ref a4]) zi_107_16 ((congrArg (fun o => z_lookup z_prs (o, 246)) zo_107).trans zp_LatinRectangles_246) ((congrArg (fun o => z_clk o 246) zo_107).trans zk_LatinRectangles_246) zh_107 rfl rfl rfl
theorem zi_107_19 : z_ins 107 19 = some (.ifCond .ne 13, 3) := by decide +kernel
theorem ze_107_19 : z_T g d 107 19 ls (.int x :: st) h P = (if x = nI 0 then z_T g d 107 22 ls st h P else z_T g d 107 32 ls st h P) := zt_ifne zi_107_19 (by decide)
theorem zi_107_22 : z_ins 107 22 = some (.new 230, 3) := by decide +kernel
theorem ze_107_22 : z_T g d 107 22 ls [] h P = P (.inl "java/lang/IllegalStateException", (h.1, none, h.2.2.1 + 1, h.2.2.2 + 6)) := zt_throwN zi_107_22 (by decide +kernel) (by decide +kernel) zh_107
theorem zi_107_32 : z_ins 107 32 = some (.aload_n 0, 1) := by decide +kernel
theorem ze_107_32 : z_T g d 107 32 (.ref a :: ls) st h P = z_T g d 107 33 (.ref a :: ls) (.ref a :: st) h P := zt_aloadn zi_107_32 rfl rfl
theorem zi_107_33 : z_ins 107 33 = some (.getfield 65, 3) := by decide +kernel
theorem ze_107_33 : z_T g d 107 33 ls (.ref a :: st) h P = z_gR h.1 a 9 7 (fun x => z_T g d 107 36 ls (.ref x :: st) h P) := zt_getR zi_107_33 ((congrArg (fun o => z_fl o 65) zo_107).trans zf_LatinRectangles_65)
theorem zi_107_36 : z_ins 107 36 = some (.aload_n 0, 1) := by decide +kernel
theorem ze_107_36 : z_T g d 107 36 (.ref a :: ls) st h P = z_T g d 107 37 (.ref a :: ls) (.ref a :: st) h P := zt_aloadn zi_107_36 rfl rfl
theorem zi_107_37 : z_ins 107 37 = some (.getfield 12, 3) := by decide +kernel
theorem ze_107_37 : z_T g d 107 37 ls (.ref a :: st) h P = z_gR h.1 a 9 0 (fun x => z_T g d 107 40 ls (.ref x :: st) h P) := zt_getR zi_107_37 ((congrArg (fun o => z_fl o 12) zo_107).trans zf_LatinRectangles_12)
theorem zi_107_40 : z_ins 107 40 = some (.invokevirtual 235, 3) := by decide +kernel
theorem ze_107_40 : z_T g d 107 40 ls (.ref a0 :: .ref a :: st) h P = ((z_okS 8 st = true ∧ z_gO h.1 a 4 ∧ 0 < d) ∧ z_Ca g (d - 1) 45 [.ref a, .ref a0] h (fun r => z_k r (fun v h' => z_T g d 107 43 ls (z_push v st) h' P) P)) := zt_callV (as := [.ref a0]) zi_107_40 ((congrArg (fun o => z_lookup z_prs (o, 235)) zo_107).trans zp_LatinRectangles_235) ((congrArg (fun o => z_clk o 235) zo_107).trans zk_LatinRectangles_235) zh_107 zc_45 rfl rfl rfl
theorem zi_107_43 : z_ins 107 43 = some (.aload_n 0, 1) := by decide +kernel
theorem ze_107_43 : z_T g d 107 43 (.ref a :: ls) st h P = z_T g d 107 44 (.ref a :: ls) (.ref a :: st) h P := zt_aloadn zi_107_43 rfl rfl
theorem zi_107_44 : z_ins 107 44 = some (.getfield 12, 3) := by decide +kernel
theorem ze_107_44 : z_T g d 107 44 ls (.ref a :: st) h P = z_gR h.1 a 9 0 (fun x => z_T g d 107 47 ls (.ref x :: st) h P) := zt_getR zi_107_44 ((congrArg (fun o => z_fl o 12) zo_107).trans zf_LatinRectangles_12)
theorem zi_107_47 : z_ins 107 47 = some (.getfield 128, 3) := by decide +kernel
theorem ze_107_47 : z_T g d 107 47 ls (.ref a :: st) h P = z_gI h.1 a 3 7 (fun x => z_T g d 107 50 ls (.int x :: st) h P) := zt_getI zi_107_47 ((congrArg (fun o => z_fl o 128) zo_107).trans zf_LatinRectangles_128)
theorem zi_107_50 : z_ins 107 50 = some (.istore_n 2, 1) := by decide +kernel
theorem ze_107_50 : z_T g d 107 50 (v0 :: v1 :: v2 :: ls) (.int x :: st) h P = z_T g d 107 51 (v0 :: v1 :: .int x :: ls) st h P := zt_istoren zi_107_50 rfl (Nat.le_add_left 3 _)
theorem zi_107_51 : z_ins 107 51 = some (.iconst 0, 1) := by decide +kernel
theorem ze_107_51 : z_T g d 107 51 ls st h P = z_T g d 107 52 ls (.int (nI 0) :: st) h P := zt_iconst zi_107_51 rfl
theorem zi_107_52 : z_ins 107 52 = some (.istore_n 3, 1) := by decide +kernel
theorem ze_107_52 : z_T g d 107 52 (v0 :: v1 :: v2 :: v3 :: ls) (.int x :: st) h P = z_T g d 107 53 (v0 :: v1 :: v2 :: .int x :: ls) st h P := zt_istoren zi_107_52 rfl (Nat.le_add_left 4 _)
theorem zi_107_53 : z_ins 107 53 = some (.iload_n 3, 1) := by decide +kernel
theorem ze_107_53 : z_T g d 107 53 (v0 :: v1 :: v2 :: .int x :: ls) st h P = z_T g d 107 54 (v0 :: v1 :: v2 :: .int x :: ls) (.int x :: st) h P := zt_iloadn zi_107_53 rfl rfl
theorem zi_107_54 : z_ins 107 54 = some (.aload_n 0, 1) := by decide +kernel
theorem ze_107_54 : z_T g d 107 54 (.ref a :: ls) st h P = z_T g d 107 55 (.ref a :: ls) (.ref a :: st) h P := zt_aloadn zi_107_54 rfl rfl
theorem zi_107_55 : z_ins 107 55 = some (.getfield 12, 3) := by decide +kernel
theorem ze_107_55 : z_T g d 107 55 ls (.ref a :: st) h P = z_gR h.1 a 9 0 (fun x => z_T g d 107 58 ls (.ref x :: st) h P) := zt_getR zi_107_55 ((congrArg (fun o => z_fl o 12) zo_107).trans zf_LatinRectangles_12)
theorem zi_107_58 : z_ins 107 58 = some (.getfield 125, 3) := by decide +kernel
theorem ze_107_58 : z_T g d 107 58 ls (.ref a :: st) h P = z_gI h.1 a 3 6 (fun x => z_T g d 107 61 ls (.int x :: st) h P) := zt_getI zi_107_58 ((congrArg (fun o => z_fl o 125) zo_107).trans zf_LatinRectangles_125)
theorem zi_107_61 : z_ins 107 61 = some (.if_icmp .ge 41, 3) := by decide +kernel
theorem ze_107_61 : z_T g d 107 61 ls (.int y :: .int x :: st) h P = (if x < y then z_T g d 107 64 ls st h P else z_T g d 107 102 ls st h P) := zt_icmpge zi_107_61 (by decide)
theorem zi_107_64 : z_ins 107 64 = some (.aload_n 0, 1) := by decide +kernel
theorem ze_107_64 : z_T g d 107 64 (.ref a :: ls) st h P = z_T g d 107 65 (.ref a :: ls) (.ref a :: st) h P := zt_aloadn zi_107_64 rfl rfl
theorem zi_107_65 : z_ins 107 65 = some (.getfield 12, 3) := by decide +kernel
theorem ze_107_65 : z_T g d 107 65 ls (.ref a :: st) h P = z_gR h.1 a 9 0 (fun x => z_T g d 107 68 ls (.ref x :: st) h P) := zt_getR zi_107_65 ((congrArg (fun o => z_fl o 12) zo_107).trans zf_LatinRectangles_12)
theorem zi_107_68 : z_ins 107 68 = some (.getfield 147, 3) := by decide +kernel
theorem ze_107_68 : z_T g d 107 68 ls (.ref a :: st) h P = z_gR h.1 a 3 0 (fun x => z_T g d 107 71 ls (.ref x :: st) h P) := zt_getR zi_107_68 ((congrArg (fun o => z_fl o 147) zo_107).trans zf_LatinRectangles_147)
theorem zi_107_71 : z_ins 107 71 = some (.iload_n 1, 1) := by decide +kernel
theorem ze_107_71 : z_T g d 107 71 (v0 :: .int x :: ls) st h P = z_T g d 107 72 (v0 :: .int x :: ls) (.int x :: st) h P := zt_iloadn zi_107_71 rfl rfl
theorem zi_107_72 : z_ins 107 72 = some (.iconst 5, 1) := by decide +kernel
theorem ze_107_72 : z_T g d 107 72 ls st h P = z_T g d 107 73 ls (.int (nI 5) :: st) h P := zt_iconst zi_107_72 rfl
theorem zi_107_73 : z_ins 107 73 = some (.imul, 1) := by decide +kernel
theorem ze_107_73 : z_T g d 107 73 ls (.int y :: .int x :: st) h P = z_T g d 107 74 ls (.int (x * y) :: st) h P := zt_bin (f := fun x y => x * y) zi_107_73 rfl (fun _ _ _ => rfl)
theorem zi_107_74 : z_ins 107 74 = some (.iload_n 3, 1) := by decide +kernel
theorem ze_107_74 : z_T g d 107 74 (v0 :: v1 :: v2 :: .int x :: ls) st h P = z_T g d 107 75 (v0 :: v1 :: v2 :: .int x :: ls) (.int x :: st) h P := zt_iloadn zi_107_74 rfl rfl
theorem zi_107_75 : z_ins 107 75 = some (.iadd, 1) := by decide +kernel
theorem ze_107_75 : z_T g d 107 75 ls (.int y :: .int x :: st) h P = z_T g d 107 76 ls (.int (x + y) :: st) h P := zt_bin (f := fun x y => x + y) zi_107_75 rfl (fun _ _ _ => rfl)
theorem zi_107_76 : z_ins 107 76 = some (.iaload, 1) := by decide +kernel
theorem ze_107_76 : z_T g d 107 76 ls (.int x :: .ref a :: st) h P = z_aL h.1 a z_tI x (fun v => z_T g d 107 77 ls (.int v :: st) h P) := zt_iaload zi_107_76
theorem zi_107_77 : z_ins 107 77 = some (.iconst (-1), 1) := by decide +kernel
theorem ze_107_77 : z_T g d 107 77 ls st h P = z_T g d 107 78 ls (.int (-1) :: st) h P := zt_iconst zi_107_77 rfl
theorem zi_107_78 : z_ins 107 78 = some (.if_icmp .ne 18, 3) := by decide +kernel
theorem ze_107_78 : z_T g d 107 78 ls (.int y :: .int x :: st) h P = (if x = y then z_T g d 107 81 ls st h P else z_T g d 107 96 ls st h P) := zt_icmpne zi_107_78 (by decide)
theorem zi_107_81 : z_ins 107 81 = some (.aload_n 0, 1) := by decide +kernel
theorem ze_107_81 : z_T g d 107 81 (.ref a :: ls) st h P = z_T g d 107 82 (.ref a :: ls) (.ref a :: st) h P := zt_aloadn zi_107_81 rfl rfl
theorem zi_107_82 : z_ins 107 82 = some (.getfield 12, 3) := by decide +kernel
theorem ze_107_82 : z_T g d 107 82 ls (.ref a :: st) h P = z_gR h.1 a 9 0 (fun x => z_T g d 107 85 ls (.ref x :: st) h P) := zt_getR zi_107_82 ((congrArg (fun o => z_fl o 12) zo_107).trans zf_LatinRectangles_12)
theorem zi_107_85 : z_ins 107 85 = some (.iload_n 1, 1) := by decide +kernel
theorem ze_107_85 : z_T g d 107 85 (v0 :: .int x :: ls) st h P = z_T g d 107 86 (v0 :: .int x :: ls) (.int x :: st) h P := zt_iloadn zi_107_85 rfl rfl
theorem zi_107_86 : z_ins 107 86 = some (.iload_n 3, 1) := by decide +kernel
theorem ze_107_86 : z_T g d 107 86 (v0 :: v1 :: v2 :: .int x :: ls) st h P = z_T g d 107 87 (v0 :: v1 :: v2 :: .int x :: ls) (.int x :: st) h P := zt_iloadn zi_107_86 rfl rfl
theorem zi_107_87 : z_ins 107 87 = some (.aload_n 0, 1) := by decide +kernel
theorem ze_107_87 : z_T g d 107 87 (.ref a :: ls) st h P = z_T g d 107 88 (.ref a :: ls) (.ref a :: st) h P := zt_aloadn zi_107_87 rfl rfl
theorem zi_107_88 : z_ins 107 88 = some (.getfield 76, 3) := by decide +kernel
theorem ze_107_88 : z_T g d 107 88 ls (.ref a :: st) h P = z_gR h.1 a 9 9 (fun x => z_T g d 107 91 ls (.ref x :: st) h P) := zt_getR zi_107_88 ((congrArg (fun o => z_fl o 76) zo_107).trans zf_LatinRectangles_76)
theorem zi_107_91 : z_ins 107 91 = some (.iload_n 3, 1) := by decide +kernel
theorem ze_107_91 : z_T g d 107 91 (v0 :: v1 :: v2 :: .int x :: ls) st h P = z_T g d 107 92 (v0 :: v1 :: v2 :: .int x :: ls) (.int x :: st) h P := zt_iloadn zi_107_91 rfl rfl
theorem zi_107_92 : z_ins 107 92 = some (.iaload, 1) := by decide +kernel
theorem ze_107_92 : z_T g d 107 92 ls (.int x :: .ref a :: st) h P = z_aL h.1 a z_tI x (fun v => z_T g d 107 93 ls (.int v :: st) h P) := zt_iaload zi_107_92
theorem zi_107_93 : z_ins 107 93 = some (.invokevirtual 238, 3) := by decide +kernel
theorem ze_107_93 : z_T g d 107 93 ls (.int x2 :: .int x1 :: .int x0 :: .ref a :: st) h P = ((z_okS 8 st = true ∧ z_gO h.1 a 3 ∧ 0 < d) ∧ z_Ca g (d - 1) 33 [.ref a, .int x0, .int x1, .int x2] h (fun r => z_k r (fun v h' => z_T g d 107 96 ls (z_push v st) h' P) P)) := zt_callV (as := [.int x0, .int x1, .int x2]) zi_107_93 ((congrArg (fun o => z_lookup z_prs (o, 238)) zo_107).trans zp_LatinRectangles_238) ((congrArg (fun o => z_clk o 238) zo_107).trans zk_LatinRectangles_238) zh_107 zc_33 rfl rfl rfl
theorem zi_107_96 : z_ins 107 96 = some (.iinc 3 1, 3) := by decide +kernel
theorem ze_107_96 : z_T g d 107 96 (v0 :: v1 :: v2 :: .int x :: ls) st h P = z_T g d 107 99 (v0 :: v1 :: v2 :: .int (x + (nI 1)) :: ls) st h P := zt_iinc zi_107_96 rfl rfl
theorem zi_107_99 : z_ins 107 99 = some (.goto (-46), 3) := by decide +kernel
theorem ze_107_99 : z_T g d 107 99 ls st h P = z_T g d 107 53 ls st h P := zt_goto zi_107_99 (by decide)
theorem zi_107_102 : z_ins 107 102 = some (.aload_n 0, 1) := by decide +kernel
theorem ze_107_102 : z_T g d 107 102 (.ref a :: ls) st h P = z_T g d 107 103 (.ref a :: ls) (.ref a :: st) h P := zt_aloadn zi_107_102 rfl rfl
theorem zi_107_103 : z_ins 107 103 = some (.getfield 12, 3) := by decide +kernel
theorem ze_107_103 : z_T g d 107 103 ls (.ref a :: st) h P = z_gR h.1 a 9 0 (fun x => z_T g d 107 106 ls (.ref x :: st) h P) := zt_getR zi_107_103 ((congrArg (fun o => z_fl o 12) zo_107).trans zf_LatinRectangles_12)
theorem zi_107_106 : z_ins 107 106 = some (.getfield 128, 3) := by decide +kernel
theorem ze_107_106 : z_T g d 107 106 ls (.ref a :: st) h P = z_gI h.1 a 3 7 (fun x => z_T g d 107 109 ls (.int x :: st) h P) := zt_getI zi_107_106 ((congrArg (fun o => z_fl o 128) zo_107).trans zf_LatinRectangles_128)
theorem zi_107_109 : z_ins 107 109 = some (.iload_n 2, 1) := by decide +kernel
theorem ze_107_109 : z_T g d 107 109 (v0 :: v1 :: .int x :: ls) st h P = z_T g d 107 110 (v0 :: v1 :: .int x :: ls) (.int x :: st) h P := zt_iloadn zi_107_109 rfl rfl
theorem zi_107_110 : z_ins 107 110 = some (.isub, 1) := by decide +kernel
theorem ze_107_110 : z_T g d 107 110 ls (.int y :: .int x :: st) h P = z_T g d 107 111 ls (.int (x - y) :: st) h P := zt_bin (f := fun x y => x - y) zi_107_110 rfl (fun _ _ _ => rfl)
theorem zi_107_111 : z_ins 107 111 = some (.ireturn, 1) := by decide +kernel
theorem ze_107_111 : z_T g d 107 111 ls [.int x] h P = P (.inr (some (.int x)), h) := zt_ireturn zi_107_111 zr_107
-- LatinRectangles.switchCycle(III)I
theorem zo_108 : z_own 108 = "LatinRectangles" := by decide +kernel
theorem zm_108 : z_maxL 108 = 5 := by decide +kernel
theorem zh_108 : z_hds 108 = [] := by decide +kernel
theorem zr_108 : z_rt 108 = (some .int) := by decide +kernel
theorem zn_108 : z_Ca g d 108 [.ref a0, .int x1, .int x2, .int x3] h P = z_T g d 108 0 [.ref a0, .int x1, .int x2, .int x3, z_un] [] h P := z_Ca_ent zm_108 rfl rfl
theorem zi_108_0 : z_ins 108 0 = some (.aload_n 0, 1) := by decide +kernel
theorem ze_108_0 : z_T g d 108 0 (.ref a :: ls) st h P = z_T g d 108 1 (.ref a :: ls) (.ref a :: st) h P := zt_aloadn zi_108_0 rfl rfl
theorem zi_108_1 : z_ins 108 1 = some (.iload_n 1, 1) := by decide +kernel
theorem ze_108_1 : z_T g d 108 1 (v0 :: .int x :: ls) st h P = z_T g d 108 2 (v0 :: .int x :: ls) (.int x :: st) h P := zt_iloadn zi_108_1 rfl rfl
theorem zi_108_2 : z_ins 108 2 = some (.iload_n 2, 1) := by decide +kernel
theorem ze_108_2 : z_T g d 108 2 (v0 :: v1 :: .int x :: ls) st h P = z_T g d 108 3 (v0 :: v1 :: .int x :: ls) (.int x :: st) h P := zt_iloadn zi_108_2 rfl rfl
theorem zi_108_3 : z_ins 108 3 = some (.iload_n 3, 1) := by decide +kernel
theorem ze_108_3 : z_T g d 108 3 (v0 :: v1 :: v2 :: .int x :: ls) st h P = z_T g d 108 4 (v0 :: v1 :: v2 :: .int x :: ls) (.int x :: st) h P := zt_iloadn zi_108_3 rfl rfl
theorem zi_108_4 : z_ins 108 4 = some (.invokevirtual 203, 3) := by decide +kernel
theorem ze_108_4 : z_T g d 108 4 ls (.int x2 :: .int x1 :: .int x0 :: .ref a :: st) h P = ((z_okS 8 st = true ∧ z_gO h.1 a 9 ∧ 0 < d) ∧ z_Ca g (d - 1) 114 [.ref a, .int x0, .int x1, .int x2] h (fun r => z_k r (fun v h' => z_T g d 108 7 ls (z_push v st) h' P) P)) := zt_callV (as := [.int x0, .int x1, .int x2]) zi_108_4 ((congrArg (fun o => z_lookup z_prs (o, 203)) zo_108).trans zp_LatinRectangles_203) ((congrArg (fun o => z_clk o 203) zo_108).trans zk_LatinRectangles_203) zh_108 zc_114 rfl rfl rfl
theorem zi_108_7 : z_ins 108 7 = some (.aload_n 0, 1) := by decide +kernel
theorem ze_108_7 : z_T g d 108 7 (.ref a :: ls) st h P = z_T g d 108 8 (.ref a :: ls) (.ref a :: st) h P := zt_aloadn zi_108_7 rfl rfl
theorem zi_108_8 : z_ins 108 8 = some (.getfield 58, 3) := by decide +kernel
theorem ze_108_8 : z_T g d 108 8 ls (.ref a :: st) h P = z_gR h.1 a 9 6 (fun x => z_T g d 108 11 ls (.ref x :: st) h P) := zt_getR zi_108_8 ((congrArg (fun o => z_fl o 58) zo_108).trans zf_LatinRectangles_58)
theorem zi_108_11 : z_ins 108 11 = some (.iload_n 1, 1) := by decide +kernel
theorem ze_108_11 : z_T g d 108 11 (v0 :: .int x :: ls) st h P = z_T g d 108 12 (v0 :: .int x :: ls) (.int x :: st) h P := zt_iloadn zi_108_11 rfl rfl
theorem zi_108_12 : z_ins 108 12 = some (.iload_n 2, 1) := by decide +kernel
theorem ze_108_12 : z_T g d 108 12 (v0 :: v1 :: .int x :: ls) st h P = z_T g d 108 13 (v0 :: v1 :: .int x :: ls) (.int x :: st) h P := zt_iloadn zi_108_12 rfl rfl
theorem zi_108_13 : z_ins 108 13 = some (.iload_n 3, 1) := by decide +kernel
theorem ze_108_13 : z_T g d 108 13 (v0 :: v1 :: v2 :: .int x :: ls) st h P = z_T g d 108 14 (v0 :: v1 :: v2 :: .int x :: ls) (.int x :: st) h P := zt_iloadn zi_108_13 rfl rfl
theorem zi_108_14 : z_ins 108 14 = some (.invokevirtual 207, 3) := by decide +kernel
theorem ze_108_14 : z_T g d 108 14 ls (.int x2 :: .int x1 :: .int x0 :: .ref a :: st) h P = ((z_okS 8 st = true ∧ z_gO h.1 a 1 ∧ 0 < d) ∧ z_Ca g (d - 1) 9 [.ref a, .int x0, .int x1, .int x2] h (fun r => z_k r (fun v h' => z_T g d 108 17 ls (z_push v st) h' P) P)) := zt_callV (as := [.int x0, .int x1, .int x2]) zi_108_14 ((congrArg (fun o => z_lookup z_prs (o, 207)) zo_108).trans zp_LatinRectangles_207) ((congrArg (fun o => z_clk o 207) zo_108).trans zk_LatinRectangles_207) zh_108 zc_9 rfl rfl rfl
theorem zi_108_17 : z_ins 108 17 = some (.istore 4, 2) := by decide +kernel
theorem ze_108_17 : z_T g d 108 17 (v0 :: v1 :: v2 :: v3 :: v4 :: ls) (.int x :: st) h P = z_T g d 108 19 (v0 :: v1 :: v2 :: v3 :: .int x :: ls) st h P := zt_istore zi_108_17 (Nat.le_add_left 5 _)
theorem zi_108_19 : z_ins 108 19 = some (.aload_n 0, 1) := by decide +kernel
theorem ze_108_19 : z_T g d 108 19 (.ref a :: ls) st h P = z_T g d 108 20 (.ref a :: ls) (.ref a :: st) h P := zt_aloadn zi_108_19 rfl rfl
theorem zi_108_20 : z_ins 108 20 = some (.getfield 58, 3) := by decide +kernel
theorem ze_108_20 : z_T g d 108 20 ls (.ref a :: st) h P = z_gR h.1 a 9 6 (fun x => z_T g d 108 23 ls (.ref x :: st) h P) := zt_getR zi_108_20 ((congrArg (fun o => z_fl o 58) zo_108).trans zf_LatinRectangles_58)
theorem zi_108_23 : z_ins 108 23 = some (.iload_n 1, 1) := by decide +kernel
theorem ze_108_23 : z_T g d 108 23 (v0 :: .int x :: ls) st h P = z_T g d 108 24 (v0 :: .int x :: ls) (.int x :: st) h P := zt_iloadn zi_108_23 rfl rfl
theorem zi_108_24 : z_ins 108 24 = some (.iload_n 2, 1) := by decide +kernel
theorem ze_108_24 : z_T g d 108 24 (v0 :: v1 :: .int x :: ls) st h P = z_T g d 108 25 (v0 :: v1 :: .int x :: ls) (.int x :: st) h P := zt_iloadn zi_108_24 rfl rfl
theorem zi_108_25 : z_ins 108 25 = some (.iload 4, 2) := by decide +kernel
theorem ze_108_25 : z_T g d 108 25 (v0 :: v1 :: v2 :: v3 :: .int x :: ls) st h P = z_T g d 108 27 (v0 :: v1 :: v2 :: v3 :: .int x :: ls) (.int x :: st) h P := zt_iload zi_108_25 rfl
theorem zi_108_27 : z_ins 108 27 = some (.invokevirtual 252, 3) := by decide +kernel
theorem ze_108_27 : z_T g d 108 27 ls (.int x2 :: .int x1 :: .int x0 :: .ref a :: st) h P = ((z_okS 8 st = true ∧ z_gO h.1 a 1 ∧ 0 < d) ∧ z_Ca g (d - 1) 15 [.ref a, .int x0, .int x1, .int x2] h (fun r => z_k r (fun v h' => z_T g d 108 30 ls (z_push v st) h' P) P)) := zt_callV (as := [.int x0, .int x1, .int x2]) zi_108_27 ((congrArg (fun o => z_lookup z_prs (o, 252)) zo_108).trans zp_LatinRectangles_252) ((congrArg (fun o => z_clk o 252) zo_108).trans zk_LatinRectangles_252) zh_108 zc_15 rfl rfl rfl
theorem zi_108_30 : z_ins 108 30 = some (.ifCond .ne 14, 3) := by decide +kernel
theorem ze_108_30 : z_T g d 108 30 ls (.int x :: st) h P = (if x = nI 0 then z_T g d 108 33 ls st h P else z_T g d 108 44 ls st h P) := zt_ifne zi_108_30 (by decide)
theorem zi_108_33 : z_ins 108 33 = some (.new 230, 3) := by decide +kernel
theorem ze_108_33 : z_T g d 108 33 ls [] h P = P (.inl "java/lang/IllegalStateException", (h.1, none, h.2.2.1 + 1, h.2.2.2 + 6)) := zt_throwN zi_108_33 (by decide +kernel) (by decide +kernel) zh_108
theorem zi_108_44 : z_ins 108 44 = some (.aload_n 0, 1) := by decide +kernel
theorem ze_108_44 : z_T g d 108 44 (.ref a :: ls) st h P = z_T g d 108 45 (.ref a :: ls) (.ref a :: st) h P := zt_aloadn zi_108_44 rfl rfl
theorem zi_108_45 : z_ins 108 45 = some (.getfield 65, 3) := by decide +kernel
theorem ze_108_45 : z_T g d 108 45 ls (.ref a :: st) h P = z_gR h.1 a 9 7 (fun x => z_T g d 108 48 ls (.ref x :: st) h P) := zt_getR zi_108_45 ((congrArg (fun o => z_fl o 65) zo_108).trans zf_LatinRectangles_65)
theorem zi_108_48 : z_ins 108 48 = some (.aload_n 0, 1) := by decide +kernel
theorem ze_108_48 : z_T g d 108 48 (.ref a :: ls) st h P = z_T g d 108 49 (.ref a :: ls) (.ref a :: st) h P := zt_aloadn zi_108_48 rfl rfl
theorem zi_108_49 : z_ins 108 49 = some (.getfield 12, 3) := by decide +kernel
theorem ze_108_49 : z_T g d 108 49 ls (.ref a :: st) h P = z_gR h.1 a 9 0 (fun x => z_T g d 108 52 ls (.ref x :: st) h P) := zt_getR zi_108_49 ((congrArg (fun o => z_fl o 12) zo_108).trans zf_LatinRectangles_12)
theorem zi_108_52 : z_ins 108 52 = some (.invokevirtual 235, 3) := by decide +kernel
theorem ze_108_52 : z_T g d 108 52 ls (.ref a0 :: .ref a :: st) h P = ((z_okS 8 st = true ∧ z_gO h.1 a 4 ∧ 0 < d) ∧ z_Ca g (d - 1) 45 [.ref a, .ref a0] h (fun r => z_k r (fun v h' => z_T g d 108 55 ls (z_push v st) h' P) P)) := zt_callV (as := [.ref a0]) zi_108_52 ((congrArg (fun o => z_lookup z_prs (o, 235)) zo_108).trans zp_LatinRectangles_235) ((congrArg (fun o => z_clk o 235) zo_108).trans zk_LatinRectangles_235) zh_108 zc_45 rfl rfl rfl
theorem zi_108_55 : z_ins 108 55 = some (.aload_n 0, 1) := by decide +kernel
theorem ze_108_55 : z_T g d 108 55 (.ref a :: ls) st h P = z_T g d 108 56 (.ref a :: ls) (.ref a :: st) h P := zt_aloadn zi_108_55 rfl rfl
theorem zi_108_56 : z_ins 108 56 = some (.getfield 58, 3) := by decide +kernel
theorem ze_108_56 : z_T g d 108 56 ls (.ref a :: st) h P = z_gR h.1 a 9 6 (fun x => z_T g d 108 59 ls (.ref x :: st) h P) := zt_getR zi_108_56 ((congrArg (fun o => z_fl o 58) zo_108).trans zf_LatinRectangles_58)
theorem zi_108_59 : z_ins 108 59 = some (.iload_n 1, 1) := by decide +kernel
theorem ze_108_59 : z_T g d 108 59 (v0 :: .int x :: ls) st h P = z_T g d 108 60 (v0 :: .int x :: ls) (.int x :: st) h P := zt_iloadn zi_108_59 rfl rfl
theorem zi_108_60 : z_ins 108 60 = some (.iload_n 2, 1) := by decide +kernel
theorem ze_108_60 : z_T g d 108 60 (v0 :: v1 :: .int x :: ls) st h P = z_T g d 108 61 (v0 :: v1 :: .int x :: ls) (.int x :: st) h P := zt_iloadn zi_108_60 rfl rfl
theorem zi_108_61 : z_ins 108 61 = some (.iload 4, 2) := by decide +kernel
theorem ze_108_61 : z_T g d 108 61 (v0 :: v1 :: v2 :: v3 :: .int x :: ls) st h P = z_T g d 108 63 (v0 :: v1 :: v2 :: v3 :: .int x :: ls) (.int x :: st) h P := zt_iload zi_108_61 rfl
theorem zi_108_63 : z_ins 108 63 = some (.invokevirtual 258, 3) := by decide +kernel
theorem ze_108_63 : z_T g d 108 63 ls (.int x2 :: .int x1 :: .int x0 :: .ref a :: st) h P = ((z_okS 8 st = true ∧ z_gO h.1 a 1 ∧ 0 < d) ∧ z_Ca g (d - 1) 16 [.ref a, .int x0, .int x1, .int x2] h (fun r => z_k r (fun v h' => z_T g d 108 66 ls (z_push v st) h' P) P)) := zt_callV (as := [.int x0, .int x1, .int x2]) zi_108_63 ((congrArg (fun o => z_lookup z_prs (o, 258)) zo_108).trans zp_LatinRectangles_258) ((congrArg (fun o => z_clk o 258) zo_108).trans zk_LatinRectangles_258) zh_108 zc_16 rfl rfl rfl
theorem zi_108_66 : z_ins 108 66 = some (.iload 4, 2) := by decide +kernel
theorem ze_108_66 : z_T g d 108 66 (v0 :: v1 :: v2 :: v3 :: .int x :: ls) st h P = z_T g d 108 68 (v0 :: v1 :: v2 :: v3 :: .int x :: ls) (.int x :: st) h P := zt_iload zi_108_66 rfl
theorem zi_108_68 : z_ins 108 68 = some (.invokestatic 174, 3) := by decide +kernel
theorem ze_108_68 : z_T g d 108 68 ls (.int x0 :: st) h P = ((z_okS 8 st = true ∧ 0 < d) ∧ z_Ca g (d - 1) 201 [.int x0] h (fun r => z_k r (fun v h' => z_T g d 108 71 ls (z_push v st) h' P) P)) := zt_callS0 (as := [.int x0]) zi_108_68 ((congrArg (fun o => z_lookup z_prs (o, 174)) zo_108).trans zp_LatinRectangles_174) ((congrArg (fun o => z_clk o 174) zo_108).trans zk_LatinRectangles_174) zh_108 rfl rfl rfl
theorem zi_108_71 : z_ins 108 71 = some (.ireturn, 1) := by decide +kernel
theorem ze_108_71 : z_T g d 108 71 ls [.int x] h P = P (.inr (some (.int x)), h) := zt_ireturn zi_108_71 zr_108
-- LatinRectangles.undo()I
theorem zo_109 : z_own 109 = "LatinRectangles" := by decide +kernel
theorem zm_109 : z_maxL 109 = 1 := by decide +kernel
theorem zh_109 : z_hds 109 = [] := by decide +kernel
theorem zr_109 : z_rt 109 = (some .int) := by decide +kernel
theorem zn_109 : z_Ca g d 109 [.ref a0] h P = z_T g d 109 0 [.ref a0] [] h P := z_Ca_ent zm_109 rfl rfl
theorem zi_109_0 : z_ins 109 0 = some (.aload_n 0, 1) := by decide +kernel
theorem ze_109_0 : z_T g d 109 0 (.ref a :: ls) st h P = z_T g d 109 1 (.ref a :: ls) (.ref a :: st) h P := zt_aloadn zi_109_0 rfl rfl
theorem zi_109_1 : z_ins 109 1 = some (.getfield 65, 3) := by decide +kernel
theorem ze_109_1 : z_T g d 109 1 ls (.ref a :: st) h P = z_gR h.1 a 9 7 (fun x => z_T g d 109 4 ls (.ref x :: st) h P) := zt_getR zi_109_1 ((congrArg (fun o => z_fl o 65) zo_109).trans zf_LatinRectangles_65)
theorem zi_109_4 : z_ins 109 4 = some (.aload_n 0, 1) := by decide +kernel
theorem ze_109_4 : z_T g d 109 4 (.ref a :: ls) st h P = z_T g d 109 5 (.ref a :: ls) (.ref a :: st) h P := zt_aloadn zi_109_4 rfl rfl
theorem zi_109_5 : z_ins 109 5 = some (.getfield 12, 3) := by decide +kernel
theorem ze_109_5 : z_T g d 109 5 ls (.ref a :: st) h P = z_gR h.1 a 9 0 (fun x => z_T g d 109 8 ls (.ref x :: st) h P) := zt_getR zi_109_5 ((congrArg (fun o => z_fl o 12) zo_109).trans zf_LatinRectangles_12)
theorem zi_109_8 : z_ins 109 8 = some (.invokevirtual 261, 3) := by decide +kernel
theorem ze_109_8 : z_T g d 109 8 ls (.ref a0 :: .ref a :: st) h P = ((z_okS 8 st = true ∧ z_gO h.1 a 4 ∧ 0 < d) ∧ z_Ca g (d - 1) 46 [.ref a, .ref a0] h (fun r => z_k r (fun v h' => z_T g d 109 11 ls (z_push v st) h' P) P)) := zt_callV (as := [.ref a0]) zi_109_8 ((congrArg (fun o => z_lookup z_prs (o, 261)) zo_109).trans zp_LatinRectangles_261) ((congrArg (fun o => z_clk o 261) zo_109).trans zk_LatinRectangles_261) zh_109 zc_46 rfl rfl rfl
theorem zi_109_11 : z_ins 109 11 = some (.ireturn, 1) := by decide +kernel
theorem ze_109_11 : z_T g d 109 11 ls [.int x] h P = P (.inr (some (.int x)), h) := zt_ireturn zi_109_11 zr_109
-- LatinRectangles.saveSnapshot(I)Z
theorem zo_110 : z_own 110 = "LatinRectangles" := by decide +kernel
theorem zm_110 : z_maxL 110 = 2 := by decide +kernel
theorem zh_110 : z_hds 110 = [] := by decide +kernel
theorem zr_110 : z_rt 110 = (some .boolean) := by decide +kernel
theorem zn_110 : z_Ca g d 110 [.ref a0, .int x1] h P = z_T g d 110 0 [.ref a0, .int x1] [] h P := z_Ca_ent zm_110 rfl rfl
theorem zi_110_0 : z_ins 110 0 = some (.aload_n 0, 1) := by decide +kernel
theorem ze_110_0 : z_T g d 110 0 (.ref a :: ls) st h P = z_T g d 110 1 (.ref a :: ls) (.ref a :: st) h P := zt_aloadn zi_110_0 rfl rfl
theorem zi_110_1 : z_ins 110 1 = some (.iload_n 1, 1) := by decide +kernel
theorem ze_110_1 : z_T g d 110 1 (v0 :: .int x :: ls) st h P = z_T g d 110 2 (v0 :: .int x :: ls) (.int x :: st) h P := zt_iloadn zi_110_1 rfl rfl
theorem zi_110_2 : z_ins 110 2 = some (.invokevirtual 265, 3) := by decide +kernel
theorem ze_110_2 : z_T g d 110 2 ls (.int x0 :: .ref a :: st) h P = ((z_okS 8 st = true ∧ z_gO h.1 a 9 ∧ 0 < d) ∧ z_Ca g (d - 1) 115 [.ref a, .int x0] h (fun r => z_k r (fun v h' => z_T g d 110 5 ls (z_push v st) h' P) P)) := zt_callV (as := [.int x0]) zi_110_2 ((congrArg (fun o => z_lookup z_prs (o, 265)) zo_110).trans zp_LatinRectangles_265) ((congrArg (fun o => z_clk o 265) zo_110).trans zk_LatinRectangles_265) zh_110 zc_115 rfl rfl rfl
theorem zi_110_5 : z_ins 110 5 = some (.aload_n 0, 1) := by decide +kernel
theorem ze_110_5 : z_T g d 110 5 (.ref a :: ls) st h P = z_T g d 110 6 (.ref a :: ls) (.ref a :: st) h P := zt_aloadn zi_110_5 rfl rfl
theorem zi_110_6 : z_ins 110 6 = some (.getfield 72, 3) := by decide +kernel
theorem ze_110_6 : z_T g d 110 6 ls (.ref a :: st) h P = z_gR h.1 a 9 8 (fun x => z_T g d 110 9 ls (.ref x :: st) h P) := zt_getR zi_110_6 ((congrArg (fun o => z_fl o 72) zo_110).trans zf_LatinRectangles_72)
theorem zi_110_9 : z_ins 110 9 = some (.iload_n 1, 1) := by decide +kernel
theorem ze_110_9 : z_T g d 110 9 (v0 :: .int x :: ls) st h P = z_T g d 110 10 (v0 :: .int x :: ls) (.int x :: st) h P := zt_iloadn zi_110_9 rfl rfl
theorem zi_110_10 : z_ins 110 10 = some (.aload_n 0, 1) := by decide +kernel
theorem ze_110_10 : z_T g d 110 10 (.ref a :: ls) st h P = z_T g d 110 11 (.ref a :: ls) (.ref a :: st) h P := zt_aloadn zi_110_10 rfl rfl
theorem zi_110_11 : z_ins 110 11 = some (.getfield 12, 3) := by decide +kernel
theorem ze_110_11 : z_T g d 110 11 ls (.ref a :: st) h P = z_gR h.1 a 9 0 (fun x => z_T g d 110 14 ls (.ref x :: st) h P) := zt_getR zi_110_11 ((congrArg (fun o => z_fl o 12) zo_110).trans zf_LatinRectangles_12)
theorem zi_110_14 : z_ins 110 14 = some (.invokevirtual 268, 3) := by decide +kernel
theorem ze_110_14 : z_T g d 110 14 ls (.ref a1 :: .int x0 :: .ref a :: st) h P = ((z_okS 8 st = true ∧ z_gO h.1 a 6 ∧ 0 < d) ∧ z_Ca g (d - 1) 59 [.ref a, .int x0, .ref a1] h (fun r => z_k r (fun v h' => z_T g d 110 17 ls (z_push v st) h' P) P)) := zt_callV (as := [.int x0, .ref a1]) zi_110_14 ((congrArg (fun o => z_lookup z_prs (o, 268)) zo_110).trans zp_LatinRectangles_268) ((congrArg (fun o => z_clk o 268) zo_110).trans zk_LatinRectangles_268) zh_110 zc_59 rfl rfl rfl
theorem zi_110_17 : z_ins 110 17 = some (.ireturn, 1) := by decide +kernel
theorem ze_110_17 : z_T g d 110 17 ls [.int x] h P = ((x = nI 0 ∨ x = nI 1) ∧ P (.inr (some (.int x)), h)) := zt_zreturn zi_110_17 zr_110
-- LatinRectangles.restoreSnapshot(I)I
theorem zo_111 : z_own 111 = "LatinRectangles" := by decide +kernel
theorem zm_111 : z_maxL 111 = 2 := by decide +kernel
theorem zh_111 : z_hds 111 = [] := by decide +kernel
theorem zr_111 : z_rt 111 = (some .int) := by decide +kernel
theorem zn_111 : z_Ca g d 111 [.ref a0, .int x1] h P = z_T g d 111 0 [.ref a0, .int x1] [] h P := z_Ca_ent zm_111 rfl rfl
theorem zi_111_0 : z_ins 111 0 = some (.aload_n 0, 1) := by decide +kernel
theorem ze_111_0 : z_T g d 111 0 (.ref a :: ls) st h P = z_T g d 111 1 (.ref a :: ls) (.ref a :: st) h P := zt_aloadn zi_111_0 rfl rfl
theorem zi_111_1 : z_ins 111 1 = some (.iload_n 1, 1) := by decide +kernel
theorem ze_111_1 : z_T g d 111 1 (v0 :: .int x :: ls) st h P = z_T g d 111 2 (v0 :: .int x :: ls) (.int x :: st) h P := zt_iloadn zi_111_1 rfl rfl
theorem zi_111_2 : z_ins 111 2 = some (.invokevirtual 217, 3) := by decide +kernel
theorem ze_111_2 : z_T g d 111 2 ls (.int x0 :: .ref a :: st) h P = ((z_okS 8 st = true ∧ z_gO h.1 a 9 ∧ 0 < d) ∧ z_Ca g (d - 1) 116 [.ref a, .int x0] h (fun r => z_k r (fun v h' => z_T g d 111 5 ls (z_push v st) h' P) P)) := zt_callV (as := [.int x0]) zi_111_2 ((congrArg (fun o => z_lookup z_prs (o, 217)) zo_111).trans zp_LatinRectangles_217) ((congrArg (fun o => z_clk o 217) zo_111).trans zk_LatinRectangles_217) zh_111 zc_116 rfl rfl rfl
theorem zi_111_5 : z_ins 111 5 = some (.aload_n 0, 1) := by decide +kernel
theorem ze_111_5 : z_T g d 111 5 (.ref a :: ls) st h P = z_T g d 111 6 (.ref a :: ls) (.ref a :: st) h P := zt_aloadn zi_111_5 rfl rfl
theorem zi_111_6 : z_ins 111 6 = some (.getfield 12, 3) := by decide +kernel
theorem ze_111_6 : z_T g d 111 6 ls (.ref a :: st) h P = z_gR h.1 a 9 0 (fun x => z_T g d 111 9 ls (.ref x :: st) h P) := zt_getR zi_111_6 ((congrArg (fun o => z_fl o 12) zo_111).trans zf_LatinRectangles_12)
theorem zi_111_9 : z_ins 111 9 = some (.aload_n 0, 1) := by decide +kernel
theorem ze_111_9 : z_T g d 111 9 (.ref a :: ls) st h P = z_T g d 111 10 (.ref a :: ls) (.ref a :: st) h P := zt_aloadn zi_111_9 rfl rfl
theorem zi_111_10 : z_ins 111 10 = some (.getfield 72, 3) := by decide +kernel
theorem ze_111_10 : z_T g d 111 10 ls (.ref a :: st) h P = z_gR h.1 a 9 8 (fun x => z_T g d 111 13 ls (.ref x :: st) h P) := zt_getR zi_111_10 ((congrArg (fun o => z_fl o 72) zo_111).trans zf_LatinRectangles_72)
theorem zi_111_13 : z_ins 111 13 = some (.getfield 271, 3) := by decide +kernel
theorem ze_111_13 : z_T g d 111 13 ls (.ref a :: st) h P = z_gR h.1 a 6 0 (fun x => z_T g d 111 16 ls (.ref x :: st) h P) := zt_getR zi_111_13 ((congrArg (fun o => z_fl o 271) zo_111).trans zf_LatinRectangles_271)
theorem zi_111_16 : z_ins 111 16 = some (.iload_n 1, 1) := by decide +kernel
theorem ze_111_16 : z_T g d 111 16 (v0 :: .int x :: ls) st h P = z_T g d 111 17 (v0 :: .int x :: ls) (.int x :: st) h P := zt_iloadn zi_111_16 rfl rfl
theorem zi_111_17 : z_ins 111 17 = some (.aaload, 1) := by decide +kernel
theorem ze_111_17 : z_T g d 111 17 ls (.int x :: .ref a :: st) h P = z_qL h.1 a x (fun v => z_T g d 111 18 ls (.ref v :: st) h P) := zt_aaload zi_111_17
theorem zi_111_18 : z_ins 111 18 = some (.invokevirtual 275, 3) := by decide +kernel
theorem ze_111_18 : z_T g d 111 18 ls (.ref a0 :: .ref a :: st) h P = ((z_okS 8 st = true ∧ z_gO h.1 a 3 ∧ 0 < d) ∧ z_Ca g (d - 1) 31 [.ref a, .ref a0] h (fun r => z_k r (fun v h' => z_T g d 111 21 ls (z_push v st) h' P) P)) := zt_callV (as := [.ref a0]) zi_111_18 ((congrArg (fun o => z_lookup z_prs (o, 275)) zo_111).trans zp_LatinRectangles_275) ((congrArg (fun o => z_clk o 275) zo_111).trans zk_LatinRectangles_275) zh_111 zc_31 rfl rfl rfl
theorem zi_111_21 : z_ins 111 21 = some (.aload_n 0, 1) := by decide +kernel
theorem ze_111_21 : z_T g d 111 21 (.ref a :: ls) st h P = z_T g d 111 22 (.ref a :: ls) (.ref a :: st) h P := zt_aloadn zi_111_21 rfl rfl
theorem zi_111_22 : z_ins 111 22 = some (.getfield 65, 3) := by decide +kernel
theorem ze_111_22 : z_T g d 111 22 ls (.ref a :: st) h P = z_gR h.1 a 9 7 (fun x => z_T g d 111 25 ls (.ref x :: st) h P) := zt_getR zi_111_22 ((congrArg (fun o => z_fl o 65) zo_111).trans zf_LatinRectangles_65)
theorem zi_111_25 : z_ins 111 25 = some (.invokevirtual 114, 3) := by decide +kernel
theorem ze_111_25 : z_T g d 111 25 ls (.ref a :: st) h P = ((z_okS 8 st = true ∧ z_gO h.1 a 4 ∧ 0 < d) ∧ z_Ca g (d - 1) 44 [.ref a] h (fun r => z_k r (fun v h' => z_T g d 111 28 ls (z_push v st) h' P) P)) := zt_callV (as := []) zi_111_25 ((congrArg (fun o => z_lookup z_prs (o, 114)) zo_111).trans zp_LatinRectangles_114) ((congrArg (fun o => z_clk o 114) zo_111).trans zk_LatinRectangles_114) zh_111 zc_44 rfl rfl rfl
theorem zi_111_28 : z_ins 111 28 = some (.aload_n 0, 1) := by decide +kernel
theorem ze_111_28 : z_T g d 111 28 (.ref a :: ls) st h P = z_T g d 111 29 (.ref a :: ls) (.ref a :: st) h P := zt_aloadn zi_111_28 rfl rfl
theorem zi_111_29 : z_ins 111 29 = some (.getfield 12, 3) := by decide +kernel
theorem ze_111_29 : z_T g d 111 29 ls (.ref a :: st) h P = z_gR h.1 a 9 0 (fun x => z_T g d 111 32 ls (.ref x :: st) h P) := zt_getR zi_111_29 ((congrArg (fun o => z_fl o 12) zo_111).trans zf_LatinRectangles_12)
theorem zi_111_32 : z_ins 111 32 = some (.getfield 128, 3) := by decide +kernel
theorem ze_111_32 : z_T g d 111 32 ls (.ref a :: st) h P = z_gI h.1 a 3 7 (fun x => z_T g d 111 35 ls (.int x :: st) h P) := zt_getI zi_111_32 ((congrArg (fun o => z_fl o 128) zo_111).trans zf_LatinRectangles_128)
theorem zi_111_35 : z_ins 111 35 = some (.ireturn, 1) := by decide +kernel
theorem ze_111_35 : z_T g d 111 35 ls [.int x] h P = P (.inr (some (.int x)), h) := zt_ireturn zi_111_35 zr_111
-- LatinRectangles.checkRow(I)V
theorem zo_112 : z_own 112 = "LatinRectangles" := by decide +kernel
theorem zm_112 : z_maxL 112 = 2 := by decide +kernel
theorem zh_112 : z_hds 112 = [] := by decide +kernel
theorem zr_112 : z_rt 112 = none := by decide +kernel
theorem zn_112 : z_Ca g d 112 [.ref a0, .int x1] h P = z_T g d 112 0 [.ref a0, .int x1] [] h P := z_Ca_ent zm_112 rfl rfl
theorem zi_112_0 : z_ins 112 0 = some (.iload_n 1, 1) := by decide +kernel
theorem ze_112_0 : z_T g d 112 0 (v0 :: .int x :: ls) st h P = z_T g d 112 1 (v0 :: .int x :: ls) (.int x :: st) h P := zt_iloadn zi_112_0 rfl rfl
theorem zi_112_1 : z_ins 112 1 = some (.ifCond .lt 14, 3) := by decide +kernel
theorem ze_112_1 : z_T g d 112 1 ls (.int x :: st) h P = (if x < nI 0 then z_T g d 112 15 ls st h P else z_T g d 112 4 ls st h P) := zt_iflt zi_112_1 (by decide)
theorem zi_112_4 : z_ins 112 4 = some (.iload_n 1, 1) := by decide +kernel
theorem ze_112_4 : z_T g d 112 4 (v0 :: .int x :: ls) st h P = z_T g d 112 5 (v0 :: .int x :: ls) (.int x :: st) h P := zt_iloadn zi_112_4 rfl rfl
theorem zi_112_5 : z_ins 112 5 = some (.aload_n 0, 1) := by decide +kernel
theorem ze_112_5 : z_T g d 112 5 (.ref a :: ls) st h P = z_T g d 112 6 (.ref a :: ls) (.ref a :: st) h P := zt_aloadn zi_112_5 rfl rfl
theorem zi_112_6 : z_ins 112 6 = some (.getfield 12, 3) := by decide +kernel
theorem ze_112_6 : z_T g d 112 6 ls (.ref a :: st) h P = z_gR h.1 a 9 0 (fun x => z_T g d 112 9 ls (.ref x :: st) h P) := zt_getR zi_112_6 ((congrArg (fun o => z_fl o 12) zo_112).trans zf_LatinRectangles_12)
theorem zi_112_9 : z_ins 112 9 = some (.getfield 122, 3) := by decide +kernel
theorem ze_112_9 : z_T g d 112 9 ls (.ref a :: st) h P = z_gI h.1 a 3 5 (fun x => z_T g d 112 12 ls (.int x :: st) h P) := zt_getI zi_112_9 ((congrArg (fun o => z_fl o 122) zo_112).trans zf_LatinRectangles_122)
theorem zi_112_12 : z_ins 112 12 = some (.if_icmp .lt 14, 3) := by decide +kernel
theorem ze_112_12 : z_T g d 112 12 ls (.int y :: .int x :: st) h P = (if x < y then z_T g d 112 26 ls st h P else z_T g d 112 15 ls st h P) := zt_icmplt zi_112_12 (by decide)
theorem zi_112_15 : z_ins 112 15 = some (.new 279, 3) := by decide +kernel
theorem ze_112_15 : z_T g d 112 15 ls [] h P = P (.inl "java/lang/IndexOutOfBoundsException", (h.1, none, h.2.2.1 + 1, h.2.2.2 + 6)) := zt_throwN zi_112_15 (by decide +kernel) (by decide +kernel) zh_112
theorem zi_112_26 : z_ins 112 26 = some (.return_, 1) := by decide +kernel
theorem ze_112_26 : z_T g d 112 26 ls [] h P = P (.inr none, h) := zt_return zi_112_26 zr_112
-- LatinRectangles.checkCell(II)V
theorem zo_113 : z_own 113 = "LatinRectangles" := by decide +kernel
theorem zm_113 : z_maxL 113 = 3 := by decide +kernel
theorem zh_113 : z_hds 113 = [] := by decide +kernel
theorem zr_113 : z_rt 113 = none := by decide +kernel
theorem zn_113 : z_Ca g d 113 [.ref a0, .int x1, .int x2] h P = z_T g d 113 0 [.ref a0, .int x1, .int x2] [] h P := z_Ca_ent zm_113 rfl rfl
theorem zi_113_0 : z_ins 113 0 = some (.aload_n 0, 1) := by decide +kernel
theorem ze_113_0 : z_T g d 113 0 (.ref a :: ls) st h P = z_T g d 113 1 (.ref a :: ls) (.ref a :: st) h P := zt_aloadn zi_113_0 rfl rfl
theorem zi_113_1 : z_ins 113 1 = some (.iload_n 1, 1) := by decide +kernel
theorem ze_113_1 : z_T g d 113 1 (v0 :: .int x :: ls) st h P = z_T g d 113 2 (v0 :: .int x :: ls) (.int x :: st) h P := zt_iloadn zi_113_1 rfl rfl
theorem zi_113_2 : z_ins 113 2 = some (.invokevirtual 194, 3) := by decide +kernel
theorem ze_113_2 : z_T g d 113 2 ls (.int x0 :: .ref a :: st) h P = ((z_okS 8 st = true ∧ z_gO h.1 a 9 ∧ 0 < d) ∧ z_Ca g (d - 1) 112 [.ref a, .int x0] h (fun r => z_k r (fun v h' => z_T g d 113 5 ls (z_push v st) h' P) P)) := zt_callV (as := [.int x0]) zi_113_2 ((congrArg (fun o => z_lookup z_prs (o, 194)) zo_113).trans zp_LatinRectangles_194) ((congrArg (fun o => z_clk o 194) zo_113).trans zk_LatinRectangles_194) zh_113 zc_112 rfl rfl rfl
theorem zi_113_5 : z_ins 113 5 = some (.iload_n 2, 1) := by decide +kernel
theorem ze_113_5 : z_T g d 113 5 (v0 :: v1 :: .int x :: ls) st h P = z_T g d 113 6 (v0 :: v1 :: .int x :: ls) (.int x :: st) h P := zt_iloadn zi_113_5 rfl rfl
theorem zi_113_6 : z_ins 113 6 = some (.ifCond .lt 14, 3) := by decide +kernel
theorem ze_113_6 : z_T g d 113 6 ls (.int x :: st) h P = (if x < nI 0 then z_T g d 113 20 ls st h P else z_T g d 113 9 ls st h P) := zt_iflt zi_113_6 (by decide)
theorem zi_113_9 : z_ins 113 9 = some (.iload_n 2, 1) := by decide +kernel
theorem ze_113_9 : z_T g d 113 9 (v0 :: v1 :: .int x :: ls) st h P = z_T g d 113 10 (v0 :: v1 :: .int x :: ls) (.int x :: st) h P := zt_iloadn zi_113_9 rfl rfl
theorem zi_113_10 : z_ins 113 10 = some (.aload_n 0, 1) := by decide +kernel
theorem ze_113_10 : z_T g d 113 10 (.ref a :: ls) st h P = z_T g d 113 11 (.ref a :: ls) (.ref a :: st) h P := zt_aloadn zi_113_10 rfl rfl
theorem zi_113_11 : z_ins 113 11 = some (.getfield 12, 3) := by decide +kernel
theorem ze_113_11 : z_T g d 113 11 ls (.ref a :: st) h P = z_gR h.1 a 9 0 (fun x => z_T g d 113 14 ls (.ref x :: st) h P) := zt_getR zi_113_11 ((congrArg (fun o => z_fl o 12) zo_113).trans zf_LatinRectangles_12)
theorem zi_113_14 : z_ins 113 14 = some (.getfield 125, 3) := by decide +kernel
theorem ze_113_14 : z_T g d 113 14 ls (.ref a :: st) h P = z_gI h.1 a 3 6 (fun x => z_T g d 113 17 ls (.int x :: st) h P) := zt_getI zi_113_14 ((congrArg (fun o => z_fl o 125) zo_113).trans zf_LatinRectangles_125)
theorem zi_113_17 : z_ins 113 17 = some (.if_icmp .lt 14, 3) := by decide +kernel
theorem ze_113_17 : z_T g d 113 17 ls (.int y :: .int x :: st) h P = (if x < y then z_T g d 113 31 ls st h P else z_T g d 113 20 ls st h P) := zt_icmplt zi_113_17 (by decide)
theorem zi_113_20 : z_ins 113 20 = some (.new 279, 3) := by decide +kernel
theorem ze_113_20 : z_T g d 113 20 ls [] h P = P (.inl "java/lang/IndexOutOfBoundsException", (h.1, none, h.2.2.1 + 1, h.2.2.2 + 6)) := zt_throwN zi_113_20 (by decide +kernel) (by decide +kernel) zh_113
theorem zi_113_31 : z_ins 113 31 = some (.return_, 1) := by decide +kernel
theorem ze_113_31 : z_T g d 113 31 ls [] h P = P (.inr none, h) := zt_return zi_113_31 zr_113
-- LatinRectangles.checkCycle(III)V
theorem zo_114 : z_own 114 = "LatinRectangles" := by decide +kernel
theorem zm_114 : z_maxL 114 = 4 := by decide +kernel
theorem zh_114 : z_hds 114 = [] := by decide +kernel
theorem zr_114 : z_rt 114 = none := by decide +kernel
theorem zn_114 : z_Ca g d 114 [.ref a0, .int x1, .int x2, .int x3] h P = z_T g d 114 0 [.ref a0, .int x1, .int x2, .int x3] [] h P := z_Ca_ent zm_114 rfl rfl
theorem zi_114_0 : z_ins 114 0 = some (.aload_n 0, 1) := by decide +kernel
theorem ze_114_0 : z_T g d 114 0 (.ref a :: ls) st h P = z_T g d 114 1 (.ref a :: ls) (.ref a :: st) h P := zt_aloadn zi_114_0 rfl rfl
theorem zi_114_1 : z_ins 114 1 = some (.iload_n 1, 1) := by decide +kernel
theorem ze_114_1 : z_T g d 114 1 (v0 :: .int x :: ls) st h P = z_T g d 114 2 (v0 :: .int x :: ls) (.int x :: st) h P := zt_iloadn zi_114_1 rfl rfl
theorem zi_114_2 : z_ins 114 2 = some (.invokevirtual 194, 3) := by decide +kernel
theorem ze_114_2 : z_T g d 114 2 ls (.int x0 :: .ref a :: st) h P = ((z_okS 8 st = true ∧ z_gO h.1 a 9 ∧ 0 < d) ∧ z_Ca g (d - 1) 112 [.ref a, .int x0] h (fun r => z_k r (fun v h' => z_T g d 114 5 ls (z_push v st) h' P) P)) := zt_callV (as := [.int x0]) zi_114_2 ((congrArg (fun o => z_lookup z_prs (o, 194)) zo_114).trans zp_LatinRectangles_194) ((congrArg (fun o => z_clk o 194) zo_114).trans zk_LatinRectangles_194) zh_114 zc_112 rfl rfl rfl
theorem zi_114_5 : z_ins 114 5 = some (.aload_n 0, 1) := by decide +kernel
theorem ze_114_5 : z_T g d 114 5 (.ref a :: ls) st h P = z_T g d 114 6 (.ref a :: ls) (.ref a :: st) h P := zt_aloadn zi_114_5 rfl rfl
theorem zi_114_6 : z_ins 114 6 = some (.iload_n 2, 1) := by decide +kernel
theorem ze_114_6 : z_T g d 114 6 (v0 :: v1 :: .int x :: ls) st h P = z_T g d 114 7 (v0 :: v1 :: .int x :: ls) (.int x :: st) h P := zt_iloadn zi_114_6 rfl rfl
theorem zi_114_7 : z_ins 114 7 = some (.iload_n 3, 1) := by decide +kernel
theorem ze_114_7 : z_T g d 114 7 (v0 :: v1 :: v2 :: .int x :: ls) st h P = z_T g d 114 8 (v0 :: v1 :: v2 :: .int x :: ls) (.int x :: st) h P := zt_iloadn zi_114_7 rfl rfl
theorem zi_114_8 : z_ins 114 8 = some (.invokevirtual 144, 3) := by decide +kernel
theorem ze_114_8 : z_T g d 114 8 ls (.int x1 :: .int x0 :: .ref a :: st) h P = ((z_okS 8 st = true ∧ z_gO h.1 a 9 ∧ 0 < d) ∧ z_Ca g (d - 1) 113 [.ref a, .int x0, .int x1] h (fun r => z_k r (fun v h' => z_T g d 114 11 ls (z_push v st) h' P) P)) := zt_callV (as := [.int x0, .int x1]) zi_114_8 ((congrArg (fun o => z_lookup z_prs (o, 144)) zo_114).trans zp_LatinRectangles_144) ((congrArg (fun o => z_clk o 144) zo_114).trans zk_LatinRectangles_144) zh_114 zc_113 rfl rfl rfl
theorem zi_114_11 : z_ins 114 11 = some (.iload_n 1, 1) := by decide +kernel
theorem ze_114_11 : z_T g d 114 11 (v0 :: .int x :: ls) st h P = z_T g d 114 12 (v0 :: .int x :: ls) (.int x :: st) h P := zt_iloadn zi_114_11 rfl rfl
theorem zi_114_12 : z_ins 114 12 = some (.iload_n 2, 1) := by decide +kernel
theorem ze_114_12 : z_T g d 114 12 (v0 :: v1 :: .int x :: ls) st h P = z_T g d 114 13 (v0 :: v1 :: .int x :: ls) (.int x :: st) h P := zt_iloadn zi_114_12 rfl rfl
theorem zi_114_13 : z_ins 114 13 = some (.if_icmp .ne 14, 3) := by decide +kernel
theorem ze_114_13 : z_T g d 114 13 ls (.int y :: .int x :: st) h P = (if x = y then z_T g d 114 16 ls st h P else z_T g d 114 27 ls st h P) := zt_icmpne zi_114_13 (by decide)
theorem zi_114_16 : z_ins 114 16 = some (.new 91, 3) := by decide +kernel
theorem ze_114_16 : z_T g d 114 16 ls [] h P = P (.inl "java/lang/IllegalArgumentException", (h.1, none, h.2.2.1 + 1, h.2.2.2 + 6)) := zt_throwN zi_114_16 (by decide +kernel) (by decide +kernel) zh_114
theorem zi_114_27 : z_ins 114 27 = some (.aload_n 0, 1) := by decide +kernel
theorem ze_114_27 : z_T g d 114 27 (.ref a :: ls) st h P = z_T g d 114 28 (.ref a :: ls) (.ref a :: st) h P := zt_aloadn zi_114_27 rfl rfl
theorem zi_114_28 : z_ins 114 28 = some (.getfield 12, 3) := by decide +kernel
theorem ze_114_28 : z_T g d 114 28 ls (.ref a :: st) h P = z_gR h.1 a 9 0 (fun x => z_T g d 114 31 ls (.ref x :: st) h P) := zt_getR zi_114_28 ((congrArg (fun o => z_fl o 12) zo_114).trans zf_LatinRectangles_12)
theorem zi_114_31 : z_ins 114 31 = some (.iload_n 1, 1) := by decide +kernel
theorem ze_114_31 : z_T g d 114 31 (v0 :: .int x :: ls) st h P = z_T g d 114 32 (v0 :: .int x :: ls) (.int x :: st) h P := zt_iloadn zi_114_31 rfl rfl
theorem zi_114_32 : z_ins 114 32 = some (.invokevirtual 288, 3) := by decide +kernel
theorem ze_114_32 : z_T g d 114 32 ls (.int x0 :: .ref a :: st) h P = ((z_okS 8 st = true ∧ z_gO h.1 a 3 ∧ 0 < d) ∧ z_Ca g (d - 1) 39 [.ref a, .int x0] h (fun r => z_k r (fun v h' => z_T g d 114 35 ls (z_push v st) h' P) P)) := zt_callV (as := [.int x0]) zi_114_32 ((congrArg (fun o => z_lookup z_prs (o, 288)) zo_114).trans zp_LatinRectangles_288) ((congrArg (fun o => z_clk o 288) zo_114).trans zk_LatinRectangles_288) zh_114 zc_39 rfl rfl rfl
theorem zi_114_35 : z_ins 114 35 = some (.ifCond .eq 14, 3) := by decide +kernel
theorem ze_114_35 : z_T g d 114 35 ls (.int x :: st) h P = (if x = nI 0 then z_T g d 114 49 ls st h P else z_T g d 114 38 ls st h P) := zt_ifeq zi_114_35 (by decide)
theorem zi_114_38 : z_ins 114 38 = some (.aload_n 0, 1) := by decide +kernel
theorem ze_114_38 : z_T g d 114 38 (.ref a :: ls) st h P = z_T g d 114 39 (.ref a :: ls) (.ref a :: st) h P := zt_aloadn zi_114_38 rfl rfl
theorem zi_114_39 : z_ins 114 39 = some (.getfield 12, 3) := by decide +kernel
theorem ze_114_39 : z_T g d 114 39 ls (.ref a :: st) h P = z_gR h.1 a 9 0 (fun x => z_T g d 114 42 ls (.ref x :: st) h P) := zt_getR zi_114_39 ((congrArg (fun o => z_fl o 12) zo_114).trans zf_LatinRectangles_12)
theorem zi_114_42 : z_ins 114 42 = some (.iload_n 2, 1) := by decide +kernel
theorem ze_114_42 : z_T g d 114 42 (v0 :: v1 :: .int x :: ls) st h P = z_T g d 114 43 (v0 :: v1 :: .int x :: ls) (.int x :: st) h P := zt_iloadn zi_114_42 rfl rfl
theorem zi_114_43 : z_ins 114 43 = some (.invokevirtual 288, 3) := by decide +kernel
theorem ze_114_43 : z_T g d 114 43 ls (.int x0 :: .ref a :: st) h P = ((z_okS 8 st = true ∧ z_gO h.1 a 3 ∧ 0 < d) ∧ z_Ca g (d - 1) 39 [.ref a, .int x0] h (fun r => z_k r (fun v h' => z_T g d 114 46 ls (z_push v st) h' P) P)) := zt_callV (as := [.int x0]) zi_114_43 ((congrArg (fun o => z_lookup z_prs (o, 288)) zo_114).trans zp_LatinRectangles_288) ((congrArg (fun o => z_clk o 288) zo_114).trans zk_LatinRectangles_288) zh_114 zc_39 rfl rfl rfl
theorem zi_114_46 : z_ins 114 46 = some (.ifCond .ne 14, 3) := by decide +kernel
theorem ze_114_46 : z_T g d 114 46 ls (.int x :: st) h P = (if x = nI 0 then z_T g d 114 49 ls st h P else z_T g d 114 60 ls st h P) := zt_ifne zi_114_46 (by decide)
theorem zi_114_49 : z_ins 114 49 = some (.new 230, 3) := by decide +kernel
theorem ze_114_49 : z_T g d 114 49 ls [] h P = P (.inl "java/lang/IllegalStateException", (h.1, none, h.2.2.1 + 1, h.2.2.2 + 6)) := zt_throwN zi_114_49 (by decide +kernel) (by decide +kernel) zh_114
theorem zi_114_60 : z_ins 114 60 = some (.return_, 1) := by decide +kernel
theorem ze_114_60 : z_T g d 114 60 ls [] h P = P (.inr none, h) := zt_return zi_114_60 zr_114
-- LatinRectangles.checkSlot(I)V
theorem zo_115 : z_own 115 = "LatinRectangles" := by decide +kernel
theorem zm_115 : z_maxL 115 = 2 := by decide +kernel
theorem zh_115 : z_hds 115 = [] := by decide +kernel
theorem zr_115 : z_rt 115 = none := by decide +kernel
theorem zn_115 : z_Ca g d 115 [.ref a0, .int x1] h P = z_T g d 115 0 [.ref a0, .int x1] [] h P := z_Ca_ent zm_115 rfl rfl
theorem zi_115_0 : z_ins 115 0 = some (.iload_n 1, 1) := by decide +kernel
theorem ze_115_0 : z_T g d 115 0 (v0 :: .int x :: ls) st h P = z_T g d 115 1 (v0 :: .int x :: ls) (.int x :: st) h P := zt_iloadn zi_115_0 rfl rfl
theorem zi_115_1 : z_ins 115 1 = some (.ifCond .lt 8, 3) := by decide +kernel
theorem ze_115_1 : z_T g d 115 1 ls (.int x :: st) h P = (if x < nI 0 then z_T g d 115 9 ls st h P else z_T g d 115 4 ls st h P) := zt_iflt zi_115_1 (by decide)
theorem zi_115_4 : z_ins 115 4 = some (.iload_n 1, 1) := by decide +kernel
theorem ze_115_4 : z_T g d 115 4 (v0 :: .int x :: ls) st h P = z_T g d 115 5 (v0 :: .int x :: ls) (.int x :: st) h P := zt_iloadn zi_115_4 rfl rfl
theorem zi_115_5 : z_ins 115 5 = some (.iconst 2, 1) := by decide +kernel
theorem ze_115_5 : z_T g d 115 5 ls st h P = z_T g d 115 6 ls (.int (nI 2) :: st) h P := zt_iconst zi_115_5 rfl
theorem zi_115_6 : z_ins 115 6 = some (.if_icmp .lt 14, 3) := by decide +kernel
theorem ze_115_6 : z_T g d 115 6 ls (.int y :: .int x :: st) h P = (if x < y then z_T g d 115 20 ls st h P else z_T g d 115 9 ls st h P) := zt_icmplt zi_115_6 (by decide)
theorem zi_115_9 : z_ins 115 9 = some (.new 279, 3) := by decide +kernel
theorem ze_115_9 : z_T g d 115 9 ls [] h P = P (.inl "java/lang/IndexOutOfBoundsException", (h.1, none, h.2.2.1 + 1, h.2.2.2 + 6)) := zt_throwN zi_115_9 (by decide +kernel) (by decide +kernel) zh_115
theorem zi_115_20 : z_ins 115 20 = some (.return_, 1) := by decide +kernel
theorem ze_115_20 : z_T g d 115 20 ls [] h P = P (.inr none, h) := zt_return zi_115_20 zr_115
-- LatinRectangles.checkSavedSlot(I)V
theorem zo_116 : z_own 116 = "LatinRectangles" := by decide +kernel
theorem zm_116 : z_maxL 116 = 2 := by decide +kernel
theorem zh_116 : z_hds 116 = [] := by decide +kernel
theorem zr_116 : z_rt 116 = none := by decide +kernel
theorem zn_116 : z_Ca g d 116 [.ref a0, .int x1] h P = z_T g d 116 0 [.ref a0, .int x1] [] h P := z_Ca_ent zm_116 rfl rfl
theorem zi_116_0 : z_ins 116 0 = some (.aload_n 0, 1) := by decide +kernel
theorem ze_116_0 : z_T g d 116 0 (.ref a :: ls) st h P = z_T g d 116 1 (.ref a :: ls) (.ref a :: st) h P := zt_aloadn zi_116_0 rfl rfl
theorem zi_116_1 : z_ins 116 1 = some (.iload_n 1, 1) := by decide +kernel
theorem ze_116_1 : z_T g d 116 1 (v0 :: .int x :: ls) st h P = z_T g d 116 2 (v0 :: .int x :: ls) (.int x :: st) h P := zt_iloadn zi_116_1 rfl rfl
theorem zi_116_2 : z_ins 116 2 = some (.invokevirtual 265, 3) := by decide +kernel
theorem ze_116_2 : z_T g d 116 2 ls (.int x0 :: .ref a :: st) h P = ((z_okS 8 st = true ∧ z_gO h.1 a 9 ∧ 0 < d) ∧ z_Ca g (d - 1) 115 [.ref a, .int x0] h (fun r => z_k r (fun v h' => z_T g d 116 5 ls (z_push v st) h' P) P)) := zt_callV (as := [.int x0]) zi_116_2 ((congrArg (fun o => z_lookup z_prs (o, 265)) zo_116).trans zp_LatinRectangles_265) ((congrArg (fun o => z_clk o 265) zo_116).trans zk_LatinRectangles_265) zh_116 zc_115 rfl rfl rfl
theorem zi_116_5 : z_ins 116 5 = some (.aload_n 0, 1) := by decide +kernel
theorem ze_116_5 : z_T g d 116 5 (.ref a :: ls) st h P = z_T g d 116 6 (.ref a :: ls) (.ref a :: st) h P := zt_aloadn zi_116_5 rfl rfl
theorem zi_116_6 : z_ins 116 6 = some (.getfield 72, 3) := by decide +kernel
theorem ze_116_6 : z_T g d 116 6 ls (.ref a :: st) h P = z_gR h.1 a 9 8 (fun x => z_T g d 116 9 ls (.ref x :: st) h P) := zt_getR zi_116_6 ((congrArg (fun o => z_fl o 72) zo_116).trans zf_LatinRectangles_72)
theorem zi_116_9 : z_ins 116 9 = some (.getfield 295, 3) := by decide +kernel
theorem ze_116_9 : z_T g d 116 9 ls (.ref a :: st) h P = z_gR h.1 a 6 1 (fun x => z_T g d 116 12 ls (.ref x :: st) h P) := zt_getR zi_116_9 ((congrArg (fun o => z_fl o 295) zo_116).trans zf_LatinRectangles_295)
theorem zi_116_12 : z_ins 116 12 = some (.iload_n 1, 1) := by decide +kernel
theorem ze_116_12 : z_T g d 116 12 (v0 :: .int x :: ls) st h P = z_T g d 116 13 (v0 :: .int x :: ls) (.int x :: st) h P := zt_iloadn zi_116_12 rfl rfl
theorem zi_116_13 : z_ins 116 13 = some (.baload, 1) := by decide +kernel
theorem ze_116_13 : z_T g d 116 13 ls (.int x :: .ref a :: st) h P = z_aL h.1 a z_tB x (fun v => z_T g d 116 14 ls (.int v :: st) h P) := zt_baload zi_116_13
theorem zi_116_14 : z_ins 116 14 = some (.ifCond .ne 14, 3) := by decide +kernel
theorem ze_116_14 : z_T g d 116 14 ls (.int x :: st) h P = (if x = nI 0 then z_T g d 116 17 ls st h P else z_T g d 116 28 ls st h P) := zt_ifne zi_116_14 (by decide)
theorem zi_116_17 : z_ins 116 17 = some (.new 230, 3) := by decide +kernel
theorem ze_116_17 : z_T g d 116 17 ls [] h P = P (.inl "java/lang/IllegalStateException", (h.1, none, h.2.2.1 + 1, h.2.2.2 + 6)) := zt_throwN zi_116_17 (by decide +kernel) (by decide +kernel) zh_116
theorem zi_116_28 : z_ins 116 28 = some (.return_, 1) := by decide +kernel
theorem ze_116_28 : z_T g d 116 28 ls [] h P = P (.inr none, h) := zt_return zi_116_28 zr_116
-- LatinRectangles.checkProperty(II)V
theorem zo_117 : z_own 117 = "LatinRectangles" := by decide +kernel
theorem zm_117 : z_maxL 117 = 2 := by decide +kernel
theorem zh_117 : z_hds 117 = [] := by decide +kernel
theorem zr_117 : z_rt 117 = none := by decide +kernel
theorem zn_117 : z_Ca g d 117 [.int x0, .int x1] h P = z_T g d 117 0 [.int x0, .int x1] [] h P := z_Ca_ent zm_117 rfl rfl
theorem zi_117_0 : z_ins 117 0 = some (.iload_n 0, 1) := by decide +kernel
theorem ze_117_0 : z_T g d 117 0 (.int x :: ls) st h P = z_T g d 117 1 (.int x :: ls) (.int x :: st) h P := zt_iloadn zi_117_0 rfl rfl
theorem zi_117_1 : z_ins 117 1 = some (.ifCond .lt 8, 3) := by decide +kernel
theorem ze_117_1 : z_T g d 117 1 ls (.int x :: st) h P = (if x < nI 0 then z_T g d 117 9 ls st h P else z_T g d 117 4 ls st h P) := zt_iflt zi_117_1 (by decide)
theorem zi_117_4 : z_ins 117 4 = some (.iload_n 0, 1) := by decide +kernel
theorem ze_117_4 : z_T g d 117 4 (.int x :: ls) st h P = z_T g d 117 5 (.int x :: ls) (.int x :: st) h P := zt_iloadn zi_117_4 rfl rfl
theorem zi_117_5 : z_ins 117 5 = some (.iload_n 1, 1) := by decide +kernel
theorem ze_117_5 : z_T g d 117 5 (v0 :: .int x :: ls) st h P = z_T g d 117 6 (v0 :: .int x :: ls) (.int x :: st) h P := zt_iloadn zi_117_5 rfl rfl
theorem zi_117_6 : z_ins 117 6 = some (.if_icmp .le 14, 3) := by decide +kernel
theorem ze_117_6 : z_T g d 117 6 ls (.int y :: .int x :: st) h P = (if y < x then z_T g d 117 9 ls st h P else z_T g d 117 20 ls st h P) := zt_icmple zi_117_6 (by decide)
theorem zi_117_9 : z_ins 117 9 = some (.new 91, 3) := by decide +kernel
theorem ze_117_9 : z_T g d 117 9 ls [] h P = P (.inl "java/lang/IllegalArgumentException", (h.1, none, h.2.2.1 + 1, h.2.2.2 + 6)) := zt_throwN zi_117_9 (by decide +kernel) (by decide +kernel) zh_117
theorem zi_117_20 : z_ins 117 20 = some (.return_, 1) := by decide +kernel
theorem ze_117_20 : z_T g d 117 20 ls [] h P = P (.inr none, h) := zt_return zi_117_20 zr_117
-- LatinRectangles.emptyByPlace(I)I
theorem zo_118 : z_own 118 = "LatinRectangles" := by decide +kernel
theorem zm_118 : z_maxL 118 = 7 := by decide +kernel
theorem zh_118 : z_hds 118 = [] := by decide +kernel
theorem zr_118 : z_rt 118 = (some .int) := by decide +kernel
theorem zn_118 : z_Ca g d 118 [.ref a0, .int x1] h P = z_T g d 118 0 [.ref a0, .int x1, z_un, z_un, z_un, z_un, z_un] [] h P := z_Ca_ent zm_118 rfl rfl
theorem zi_118_0 : z_ins 118 0 = some (.iload_n 1, 1) := by decide +kernel
theorem ze_118_0 : z_T g d 118 0 (v0 :: .int x :: ls) st h P = z_T g d 118 1 (v0 :: .int x :: ls) (.int x :: st) h P := zt_iloadn zi_118_0 rfl rfl
theorem zi_118_1 : z_ins 118 1 = some (.istore_n 2, 1) := by decide +kernel
theorem ze_118_1 : z_T g d 118 1 (v0 :: v1 :: v2 :: ls) (.int x :: st) h P = z_T g d 118 2 (v0 :: v1 :: .int x :: ls) st h P := zt_istoren zi_118_1 rfl (Nat.le_add_left 3 _)
theorem zi_118_2 : z_ins 118 2 = some (.iconst 0, 1) := by decide +kernel
theorem ze_118_2 : z_T g d 118 2 ls st h P = z_T g d 118 3 ls (.int (nI 0) :: st) h P := zt_iconst zi_118_2 rfl
theorem zi_118_3 : z_ins 118 3 = some (.istore_n 3, 1) := by decide +kernel
theorem ze_118_3 : z_T g d 118 3 (v0 :: v1 :: v2 :: v3 :: ls) (.int x :: st) h P = z_T g d 118 4 (v0 :: v1 :: v2 :: .int x :: ls) st h P := zt_istoren zi_118_3 rfl (Nat.le_add_left 4 _)
theorem zi_118_4 : z_ins 118 4 = some (.iload_n 3, 1) := by decide +kernel
theorem ze_118_4 : z_T g d 118 4 (v0 :: v1 :: v2 :: .int x :: ls) st h P = z_T g d 118 5 (v0 :: v1 :: v2 :: .int x :: ls) (.int x :: st) h P := zt_iloadn zi_118_4 rfl rfl
theorem zi_118_5 : z_ins 118 5 = some (.aload_n 0, 1) := by decide +kernel
theorem ze_118_5 : z_T g d 118 5 (.ref a :: ls) st h P = z_T g d 118 6 (.ref a :: ls) (.ref a :: st) h P := zt_aloadn zi_118_5 rfl rfl
theorem zi_118_6 : z_ins 118 6 = some (.getfield 12, 3) := by decide +kernel
theorem ze_118_6 : z_T g d 118 6 ls (.ref a :: st) h P = z_gR h.1 a 9 0 (fun x => z_T g d 118 9 ls (.ref x :: st) h P) := zt_getR zi_118_6 ((congrArg (fun o => z_fl o 12) zo_118).trans zf_LatinRectangles_12)
theorem zi_118_9 : z_ins 118 9 = some (.getfield 125, 3) := by decide +kernel
theorem ze_118_9 : z_T g d 118 9 ls (.ref a :: st) h P = z_gI h.1 a 3 6 (fun x => z_T g d 118 12 ls (.int x :: st) h P) := zt_getI zi_118_9 ((congrArg (fun o => z_fl o 125) zo_118).trans zf_LatinRectangles_125)
theorem zi_118_12 : z_ins 118 12 = some (.if_icmp .gt 106, 3) := by decide +kernel
theorem ze_118_12 : z_T g d 118 12 ls (.int y :: .int x :: st) h P = (if y < x then z_T g d 118 118 ls st h P else z_T g d 118 15 ls st h P) := zt_icmpgt zi_118_12 (by decide)
theorem zi_118_15 : z_ins 118 15 = some (.iload_n 2, 1) := by decide +kernel
theorem ze_118_15 : z_T g d 118 15 (v0 :: v1 :: .int x :: ls) st h P = z_T g d 118 16 (v0 :: v1 :: .int x :: ls) (.int x :: st) h P := zt_iloadn zi_118_15 rfl rfl
theorem zi_118_16 : z_ins 118 16 = some (.ifCond .lt 102, 3) := by decide +kernel
theorem ze_118_16 : z_T g d 118 16 ls (.int x :: st) h P = (if x < nI 0 then z_T g d 118 118 ls st h P else z_T g d 118 19 ls st h P) := zt_iflt zi_118_16 (by decide)
theorem zi_118_19 : z_ins 118 19 = some (.iconst 0, 1) := by decide +kernel
theorem ze_118_19 : z_T g d 118 19 ls st h P = z_T g d 118 20 ls (.int (nI 0) :: st) h P := zt_iconst zi_118_19 rfl
theorem zi_118_20 : z_ins 118 20 = some (.istore 4, 2) := by decide +kernel
theorem ze_118_20 : z_T g d 118 20 (v0 :: v1 :: v2 :: v3 :: v4 :: ls) (.int x :: st) h P = z_T g d 118 22 (v0 :: v1 :: v2 :: v3 :: .int x :: ls) st h P := zt_istore zi_118_20 (Nat.le_add_left 5 _)
theorem zi_118_22 : z_ins 118 22 = some (.iload 4, 2) := by decide +kernel
theorem ze_118_22 : z_T g d 118 22 (v0 :: v1 :: v2 :: v3 :: .int x :: ls) st h P = z_T g d 118 24 (v0 :: v1 :: v2 :: v3 :: .int x :: ls) (.int x :: st) h P := zt_iload zi_118_22 rfl
theorem zi_118_24 : z_ins 118 24 = some (.aload_n 0, 1) := by decide +kernel
theorem ze_118_24 : z_T g d 118 24 (.ref a :: ls) st h P = z_T g d 118 25 (.ref a :: ls) (.ref a :: st) h P := zt_aloadn zi_118_24 rfl rfl
theorem zi_118_25 : z_ins 118 25 = some (.getfield 12, 3) := by decide +kernel
theorem ze_118_25 : z_T g d 118 25 ls (.ref a :: st) h P = z_gR h.1 a 9 0 (fun x => z_T g d 118 28 ls (.ref x :: st) h P) := zt_getR zi_118_25 ((congrArg (fun o => z_fl o 12) zo_118).trans zf_LatinRectangles_12)
theorem zi_118_28 : z_ins 118 28 = some (.getfield 122, 3) := by decide +kernel
theorem ze_118_28 : z_T g d 118 28 ls (.ref a :: st) h P = z_gI h.1 a 3 5 (fun x => z_T g d 118 31 ls (.int x :: st) h P) := zt_getI zi_118_28 ((congrArg (fun o => z_fl o 122) zo_118).trans zf_LatinRectangles_122)
theorem zi_118_31 : z_ins 118 31 = some (.if_icmp .ge 81, 3) := by decide +kernel
theorem ze_118_31 : z_T g d 118 31 ls (.int y :: .int x :: st) h P = (if x < y then z_T g d 118 34 ls st h P else z_T g d 118 112 ls st h P) := zt_icmpge zi_118_31 (by decide)
theorem zi_118_34 : z_ins 118 34 = some (.iconst 0, 1) := by decide +kernel
theorem ze_118_34 : z_T g d 118 34 ls st h P = z_T g d 118 35 ls (.int (nI 0) :: st) h P := zt_iconst zi_118_34 rfl
theorem zi_118_35 : z_ins 118 35 = some (.istore 5, 2) := by decide +kernel
theorem ze_118_35 : z_T g d 118 35 (v0 :: v1 :: v2 :: v3 :: v4 :: v5 :: ls) (.int x :: st) h P = z_T g d 118 37 (v0 :: v1 :: v2 :: v3 :: v4 :: .int x :: ls) st h P := zt_istore zi_118_35 (Nat.le_add_left 6 _)
theorem zi_118_37 : z_ins 118 37 = some (.iload 5, 2) := by decide +kernel
theorem ze_118_37 : z_T g d 118 37 (v0 :: v1 :: v2 :: v3 :: v4 :: .int x :: ls) st h P = z_T g d 118 39 (v0 :: v1 :: v2 :: v3 :: v4 :: .int x :: ls) (.int x :: st) h P := zt_iload zi_118_37 rfl
theorem zi_118_39 : z_ins 118 39 = some (.aload_n 0, 1) := by decide +kernel
theorem ze_118_39 : z_T g d 118 39 (.ref a :: ls) st h P = z_T g d 118 40 (.ref a :: ls) (.ref a :: st) h P := zt_aloadn zi_118_39 rfl rfl
theorem zi_118_40 : z_ins 118 40 = some (.getfield 12, 3) := by decide +kernel
theorem ze_118_40 : z_T g d 118 40 ls (.ref a :: st) h P = z_gR h.1 a 9 0 (fun x => z_T g d 118 43 ls (.ref x :: st) h P) := zt_getR zi_118_40 ((congrArg (fun o => z_fl o 12) zo_118).trans zf_LatinRectangles_12)
theorem zi_118_43 : z_ins 118 43 = some (.getfield 125, 3) := by decide +kernel
theorem ze_118_43 : z_T g d 118 43 ls (.ref a :: st) h P = z_gI h.1 a 3 6 (fun x => z_T g d 118 46 ls (.int x :: st) h P) := zt_getI zi_118_43 ((congrArg (fun o => z_fl o 125) zo_118).trans zf_LatinRectangles_125)
theorem zi_118_46 : z_ins 118 46 = some (.if_icmp .ge 60, 3) := by decide +kernel
theorem ze_118_46 : z_T g d 118 46 ls (.int y :: .int x :: st) h P = (if x < y then z_T g d 118 49 ls st h P else z_T g d 118 106 ls st h P) := zt_icmpge zi_118_46 (by decide)
theorem zi_118_49 : z_ins 118 49 = some (.iload 4, 2) := by decide +kernel
theorem ze_118_49 : z_T g d 118 49 (v0 :: v1 :: v2 :: v3 :: .int x :: ls) st h P = z_T g d 118 51 (v0 :: v1 :: v2 :: v3 :: .int x :: ls) (.int x :: st) h P := zt_iload zi_118_49 rfl
theorem zi_118_51 : z_ins 118 51 = some (.iconst 5, 1) := by decide +kernel
theorem ze_118_51 : z_T g d 118 51 ls st h P = z_T g d 118 52 ls (.int (nI 5) :: st) h P := zt_iconst zi_118_51 rfl
theorem zi_118_52 : z_ins 118 52 = some (.imul, 1) := by decide +kernel
theorem ze_118_52 : z_T g d 118 52 ls (.int y :: .int x :: st) h P = z_T g d 118 53 ls (.int (x * y) :: st) h P := zt_bin (f := fun x y => x * y) zi_118_52 rfl (fun _ _ _ => rfl)
theorem zi_118_53 : z_ins 118 53 = some (.iload 5, 2) := by decide +kernel
theorem ze_118_53 : z_T g d 118 53 (v0 :: v1 :: v2 :: v3 :: v4 :: .int x :: ls) st h P = z_T g d 118 55 (v0 :: v1 :: v2 :: v3 :: v4 :: .int x :: ls) (.int x :: st) h P := zt_iload zi_118_53 rfl
theorem zi_118_55 : z_ins 118 55 = some (.iadd, 1) := by decide +kernel
theorem ze_118_55 : z_T g d 118 55 ls (.int y :: .int x :: st) h P = z_T g d 118 56 ls (.int (x + y) :: st) h P := zt_bin (f := fun x y => x + y) zi_118_55 rfl (fun _ _ _ => rfl)
theorem zi_118_56 : z_ins 118 56 = some (.istore 6, 2) := by decide +kernel
theorem ze_118_56 : z_T g d 118 56 (v0 :: v1 :: v2 :: v3 :: v4 :: v5 :: v6 :: ls) (.int x :: st) h P = z_T g d 118 58 (v0 :: v1 :: v2 :: v3 :: v4 :: v5 :: .int x :: ls) st h P := zt_istore zi_118_56 (Nat.le_add_left 7 _)
theorem zi_118_58 : z_ins 118 58 = some (.aload_n 0, 1) := by decide +kernel
theorem ze_118_58 : z_T g d 118 58 (.ref a :: ls) st h P = z_T g d 118 59 (.ref a :: ls) (.ref a :: st) h P := zt_aloadn zi_118_58 rfl rfl
theorem zi_118_59 : z_ins 118 59 = some (.getfield 12, 3) := by decide +kernel
theorem ze_118_59 : z_T g d 118 59 ls (.ref a :: st) h P = z_gR h.1 a 9 0 (fun x => z_T g d 118 62 ls (.ref x :: st) h P) := zt_getR zi_118_59 ((congrArg (fun o => z_fl o 12) zo_118).trans zf_LatinRectangles_12)
theorem zi_118_62 : z_ins 118 62 = some (.getfield 147, 3) := by decide +kernel
theorem ze_118_62 : z_T g d 118 62 ls (.ref a :: st) h P = z_gR h.1 a 3 0 (fun x => z_T g d 118 65 ls (.ref x :: st) h P) := zt_getR zi_118_62 ((congrArg (fun o => z_fl o 147) zo_118).trans zf_LatinRectangles_147)
theorem zi_118_65 : z_ins 118 65 = some (.iload 6, 2) := by decide +kernel
theorem ze_118_65 : z_T g d 118 65 (v0 :: v1 :: v2 :: v3 :: v4 :: v5 :: .int x :: ls) st h P = z_T g d 118 67 (v0 :: v1 :: v2 :: v3 :: v4 :: v5 :: .int x :: ls) (.int x :: st) h P := zt_iload zi_118_65 rfl
theorem zi_118_67 : z_ins 118 67 = some (.iaload, 1) := by decide +kernel
theorem ze_118_67 : z_T g d 118 67 ls (.int x :: .ref a :: st) h P = z_aL h.1 a z_tI x (fun v => z_T g d 118 68 ls (.int v :: st) h P) := zt_iaload zi_118_67
theorem zi_118_68 : z_ins 118 68 = some (.iconst (-1), 1) := by decide +kernel
theorem ze_118_68 : z_T g d 118 68 ls st h P = z_T g d 118 69 ls (.int (-1) :: st) h P := zt_iconst zi_118_68 rfl
theorem zi_118_69 : z_ins 118 69 = some (.if_icmp .ne 31, 3) := by decide +kernel
theorem ze_118_69 : z_T g d 118 69 ls (.int y :: .int x :: st) h P = (if x = y then z_T g d 118 72 ls st h P else z_T g d 118 100 ls st h P) := zt_icmpne zi_118_69 (by decide)
theorem zi_118_72 : z_ins 118 72 = some (.aload_n 0, 1) := by decide +kernel
theorem ze_118_72 : z_T g d 118 72 (.ref a :: ls) st h P = z_T g d 118 73 (.ref a :: ls) (.ref a :: st) h P := zt_aloadn zi_118_72 rfl rfl
theorem zi_118_73 : z_ins 118 73 = some (.getfield 12, 3) := by decide +kernel
theorem ze_118_73 : z_T g d 118 73 ls (.ref a :: st) h P = z_gR h.1 a 9 0 (fun x => z_T g d 118 76 ls (.ref x :: st) h P) := zt_getR zi_118_73 ((congrArg (fun o => z_fl o 12) zo_118).trans zf_LatinRectangles_12)
theorem zi_118_76 : z_ins 118 76 = some (.iload 4, 2) := by decide +kernel
theorem ze_118_76 : z_T g d 118 76 (v0 :: v1 :: v2 :: v3 :: .int x :: ls) st h P = z_T g d 118 78 (v0 :: v1 :: v2 :: v3 :: .int x :: ls) (.int x :: st) h P := zt_iload zi_118_76 rfl
theorem zi_118_78 : z_ins 118 78 = some (.iload 5, 2) := by decide +kernel
theorem ze_118_78 : z_T g d 118 78 (v0 :: v1 :: v2 :: v3 :: v4 :: .int x :: ls) st h P = z_T g d 118 80 (v0 :: v1 :: v2 :: v3 :: v4 :: .int x :: ls) (.int x :: st) h P := zt_iload zi_118_78 rfl
theorem zi_118_80 : z_ins 118 80 = some (.invokevirtual 154, 3) := by decide +kernel
theorem ze_118_80 : z_T g d 118 80 ls (.int x1 :: .int x0 :: .ref a :: st) h P = ((z_okS 8 st = true ∧ z_gO h.1 a 3 ∧ 0 < d) ∧ z_Ca g (d - 1) 38 [.ref a, .int x0, .int x1] h (fun r => z_k r (fun v h' => z_T g d 118 83 ls (z_push v st) h' P) P)) := zt_callV (as := [.int x0, .int x1]) zi_118_80 ((congrArg (fun o => z_lookup z_prs (o, 154)) zo_118).trans zp_LatinRectangles_154) ((congrArg (fun o => z_clk o 154) zo_118).trans zk_LatinRectangles_154) zh_118 zc_38 rfl rfl rfl
theorem zi_118_83 : z_ins 118 83 = some (.invokestatic 174, 3) := by decide +kernel
theorem ze_118_83 : z_T g d 118 83 ls (.int x0 :: st) h P = ((z_okS 8 st = true ∧ 0 < d) ∧ z_Ca g (d - 1) 201 [.int x0] h (fun r => z_k r (fun v h' => z_T g d 118 86 ls (z_push v st) h' P) P)) := zt_callS0 (as := [.int x0]) zi_118_83 ((congrArg (fun o => z_lookup z_prs (o, 174)) zo_118).trans zp_LatinRectangles_174) ((congrArg (fun o => z_clk o 174) zo_118).trans zk_LatinRectangles_174) zh_118 rfl rfl rfl
theorem zi_118_86 : z_ins 118 86 = some (.iload_n 3, 1) := by decide +kernel
theorem ze_118_86 : z_T g d 118 86 (v0 :: v1 :: v2 :: .int x :: ls) st h P = z_T g d 118 87 (v0 :: v1 :: v2 :: .int x :: ls) (.int x :: st) h P := zt_iloadn zi_118_86 rfl rfl
theorem zi_118_87 : z_ins 118 87 = some (.if_icmp .ne 13, 3) := by decide +kernel
theorem ze_118_87 : z_T g d 118 87 ls (.int y :: .int x :: st) h P = (if x = y then z_T g d 118 90 ls st h P else z_T g d 118 100 ls st h P) := zt_icmpne zi_118_87 (by decide)
theorem zi_118_90 : z_ins 118 90 = some (.iload_n 2, 1) := by decide +kernel
theorem ze_118_90 : z_T g d 118 90 (v0 :: v1 :: .int x :: ls) st h P = z_T g d 118 91 (v0 :: v1 :: .int x :: ls) (.int x :: st) h P := zt_iloadn zi_118_90 rfl rfl
theorem zi_118_91 : z_ins 118 91 = some (.ifCond .ne 6, 3) := by decide +kernel
theorem ze_118_91 : z_T g d 118 91 ls (.int x :: st) h P = (if x = nI 0 then z_T g d 118 94 ls st h P else z_T g d 118 97 ls st h P) := zt_ifne zi_118_91 (by decide)
theorem zi_118_94 : z_ins 118 94 = some (.iload 6, 2) := by decide +kernel
theorem ze_118_94 : z_T g d 118 94 (v0 :: v1 :: v2 :: v3 :: v4 :: v5 :: .int x :: ls) st h P = z_T g d 118 96 (v0 :: v1 :: v2 :: v3 :: v4 :: v5 :: .int x :: ls) (.int x :: st) h P := zt_iload zi_118_94 rfl
theorem zi_118_96 : z_ins 118 96 = some (.ireturn, 1) := by decide +kernel
theorem ze_118_96 : z_T g d 118 96 ls [.int x] h P = P (.inr (some (.int x)), h) := zt_ireturn zi_118_96 zr_118
theorem zi_118_97 : z_ins 118 97 = some (.iinc 2 (-1), 3) := by decide +kernel
theorem ze_118_97 : z_T g d 118 97 (v0 :: v1 :: .int x :: ls) st h P = z_T g d 118 100 (v0 :: v1 :: .int (x + (-1)) :: ls) st h P := zt_iinc zi_118_97 rfl rfl
theorem zi_118_100 : z_ins 118 100 = some (.iinc 5 1, 3) := by decide +kernel
theorem ze_118_100 : z_T g d 118 100 (v0 :: v1 :: v2 :: v3 :: v4 :: .int x :: ls) st h P = z_T g d 118 103 (v0 :: v1 :: v2 :: v3 :: v4 :: .int (x + (nI 1)) :: ls) st h P := zt_iinc zi_118_100 rfl rfl
theorem zi_118_103 : z_ins 118 103 = some (.goto (-66), 3) := by decide +kernel
theorem ze_118_103 : z_T g d 118 103 ls st h P = z_T g d 118 37 ls st h P := zt_goto zi_118_103 (by decide)
theorem zi_118_106 : z_ins 118 106 = some (.iinc 4 1, 3) := by decide +kernel
theorem ze_118_106 : z_T g d 118 106 (v0 :: v1 :: v2 :: v3 :: .int x :: ls) st h P = z_T g d 118 109 (v0 :: v1 :: v2 :: v3 :: .int (x + (nI 1)) :: ls) st h P := zt_iinc zi_118_106 rfl rfl
theorem zi_118_109 : z_ins 118 109 = some (.goto (-87), 3) := by decide +kernel
theorem ze_118_109 : z_T g d 118 109 ls st h P = z_T g d 118 22 ls st h P := zt_goto zi_118_109 (by decide)
theorem zi_118_112 : z_ins 118 112 = some (.iinc 3 1, 3) := by decide +kernel
theorem ze_118_112 : z_T g d 118 112 (v0 :: v1 :: v2 :: .int x :: ls) st h P = z_T g d 118 115 (v0 :: v1 :: v2 :: .int (x + (nI 1)) :: ls) st h P := zt_iinc zi_118_112 rfl rfl
theorem zi_118_115 : z_ins 118 115 = some (.goto (-111), 3) := by decide +kernel
theorem ze_118_115 : z_T g d 118 115 ls st h P = z_T g d 118 4 ls st h P := zt_goto zi_118_115 (by decide)
theorem zi_118_118 : z_ins 118 118 = some (.iconst (-1), 1) := by decide +kernel
theorem ze_118_118 : z_T g d 118 118 ls st h P = z_T g d 118 119 ls (.int (-1) :: st) h P := zt_iconst zi_118_118 rfl
theorem zi_118_119 : z_ins 118 119 = some (.ireturn, 1) := by decide +kernel
theorem ze_118_119 : z_T g d 118 119 ls [.int x] h P = P (.inr (some (.int x)), h) := zt_ireturn zi_118_119 zr_118
-- LatinRectangles.planRow(LLatinRectangles$Grid;III[I)Z
theorem zo_119 : z_own 119 = "LatinRectangles" := by decide +kernel
theorem zm_119 : z_maxL 119 = 7 := by decide +kernel
theorem zh_119 : z_hds 119 = [] := by decide +kernel
theorem zr_119 : z_rt 119 = (some .boolean) := by decide +kernel
theorem zn_119 : z_Ca g d 119 [.ref a0, .int x1, .int x2, .int x3, .ref a4] h P = z_T g d 119 0 [.ref a0, .int x1, .int x2, .int x3, .ref a4, z_un, z_un] [] h P := z_Ca_ent zm_119 rfl rfl
theorem zi_119_0 : z_ins 119 0 = some (.iload_n 2, 1) := by decide +kernel
theorem ze_119_0 : z_T g d 119 0 (v0 :: v1 :: .int x :: ls) st h P = z_T g d 119 1 (v0 :: v1 :: .int x :: ls) (.int x :: st) h P := zt_iloadn zi_119_0 rfl rfl
theorem zi_119_1 : z_ins 119 1 = some (.aload_n 0, 1) := by decide +kernel
theorem ze_119_1 : z_T g d 119 1 (.ref a :: ls) st h P = z_T g d 119 2 (.ref a :: ls) (.ref a :: st) h P := zt_aloadn zi_119_1 rfl rfl
theorem zi_119_2 : z_ins 119 2 = some (.getfield 125, 3) := by decide +kernel
theorem ze_119_2 : z_T g d 119 2 ls (.ref a :: st) h P = z_gI h.1 a 3 6 (fun x => z_T g d 119 5 ls (.int x :: st) h P) := zt_getI zi_119_2 ((congrArg (fun o => z_fl o 125) zo_119).trans zf_LatinRectangles_125)
theorem zi_119_5 : z_ins 119 5 = some (.if_icmp .lt 5, 3) := by decide +kernel
theorem ze_119_5 : z_T g d 119 5 ls (.int y :: .int x :: st) h P = (if x < y then z_T g d 119 10 ls st h P else z_T g d 119 8 ls st h P) := zt_icmplt zi_119_5 (by decide)
theorem zi_119_8 : z_ins 119 8 = some (.iconst 1, 1) := by decide +kernel
theorem ze_119_8 : z_T g d 119 8 ls st h P = z_T g d 119 9 ls (.int (nI 1) :: st) h P := zt_iconst zi_119_8 rfl
theorem zi_119_9 : z_ins 119 9 = some (.ireturn, 1) := by decide +kernel
theorem ze_119_9 : z_T g d 119 9 ls [.int x] h P = ((x = nI 0 ∨ x = nI 1) ∧ P (.inr (some (.int x)), h)) := zt_zreturn zi_119_9 zr_119
theorem zi_119_10 : z_ins 119 10 = some (.aload_n 0, 1) := by decide +kernel
theorem ze_119_10 : z_T g d 119 10 (.ref a :: ls) st h P = z_T g d 119 11 (.ref a :: ls) (.ref a :: st) h P := zt_aloadn zi_119_10 rfl rfl
theorem zi_119_11 : z_ins 119 11 = some (.getfield 147, 3) := by decide +kernel
theorem ze_119_11 : z_T g d 119 11 ls (.ref a :: st) h P = z_gR h.1 a 3 0 (fun x => z_T g d 119 14 ls (.ref x :: st) h P) := zt_getR zi_119_11 ((congrArg (fun o => z_fl o 147) zo_119).trans zf_LatinRectangles_147)
theorem zi_119_14 : z_ins 119 14 = some (.iload_n 1, 1) := by decide +kernel
theorem ze_119_14 : z_T g d 119 14 (v0 :: .int x :: ls) st h P = z_T g d 119 15 (v0 :: .int x :: ls) (.int x :: st) h P := zt_iloadn zi_119_14 rfl rfl
theorem zi_119_15 : z_ins 119 15 = some (.iconst 5, 1) := by decide +kernel
theorem ze_119_15 : z_T g d 119 15 ls st h P = z_T g d 119 16 ls (.int (nI 5) :: st) h P := zt_iconst zi_119_15 rfl
theorem zi_119_16 : z_ins 119 16 = some (.imul, 1) := by decide +kernel
theorem ze_119_16 : z_T g d 119 16 ls (.int y :: .int x :: st) h P = z_T g d 119 17 ls (.int (x * y) :: st) h P := zt_bin (f := fun x y => x * y) zi_119_16 rfl (fun _ _ _ => rfl)
theorem zi_119_17 : z_ins 119 17 = some (.iload_n 2, 1) := by decide +kernel
theorem ze_119_17 : z_T g d 119 17 (v0 :: v1 :: .int x :: ls) st h P = z_T g d 119 18 (v0 :: v1 :: .int x :: ls) (.int x :: st) h P := zt_iloadn zi_119_17 rfl rfl
theorem zi_119_18 : z_ins 119 18 = some (.iadd, 1) := by decide +kernel
theorem ze_119_18 : z_T g d 119 18 ls (.int y :: .int x :: st) h P = z_T g d 119 19 ls (.int (x + y) :: st) h P := zt_bin (f := fun x y => x + y) zi_119_18 rfl (fun _ _ _ => rfl)
theorem zi_119_19 : z_ins 119 19 = some (.iaload, 1) := by decide +kernel
theorem ze_119_19 : z_T g d 119 19 ls (.int x :: .ref a :: st) h P = z_aL h.1 a z_tI x (fun v => z_T g d 119 20 ls (.int v :: st) h P) := zt_iaload zi_119_19
theorem zi_119_20 : z_ins 119 20 = some (.iconst (-1), 1) := by decide +kernel
theorem ze_119_20 : z_T g d 119 20 ls st h P = z_T g d 119 21 ls (.int (-1) :: st) h P := zt_iconst zi_119_20 rfl
theorem zi_119_21 : z_ins 119 21 = some (.if_icmp .eq 15, 3) := by decide +kernel
theorem ze_119_21 : z_T g d 119 21 ls (.int y :: .int x :: st) h P = (if x = y then z_T g d 119 36 ls st h P else z_T g d 119 24 ls st h P) := zt_icmpeq zi_119_21 (by decide)
theorem zi_119_24 : z_ins 119 24 = some (.aload_n 0, 1) := by decide +kernel
theorem ze_119_24 : z_T g d 119 24 (.ref a :: ls) st h P = z_T g d 119 25 (.ref a :: ls) (.ref a :: st) h P := zt_aloadn zi_119_24 rfl rfl
theorem zi_119_25 : z_ins 119 25 = some (.iload_n 1, 1) := by decide +kernel
theorem ze_119_25 : z_T g d 119 25 (v0 :: .int x :: ls) st h P = z_T g d 119 26 (v0 :: .int x :: ls) (.int x :: st) h P := zt_iloadn zi_119_25 rfl rfl
theorem zi_119_26 : z_ins 119 26 = some (.iload_n 2, 1) := by decide +kernel
theorem ze_119_26 : z_T g d 119 26 (v0 :: v1 :: .int x :: ls) st h P = z_T g d 119 27 (v0 :: v1 :: .int x :: ls) (.int x :: st) h P := zt_iloadn zi_119_26 rfl rfl
theorem zi_119_27 : z_ins 119 27 = some (.iconst 1, 1) := by decide +kernel
theorem ze_119_27 : z_T g d 119 27 ls st h P = z_T g d 119 28 ls (.int (nI 1) :: st) h P := zt_iconst zi_119_27 rfl
theorem zi_119_28 : z_ins 119 28 = some (.iadd, 1) := by decide +kernel
theorem ze_119_28 : z_T g d 119 28 ls (.int y :: .int x :: st) h P = z_T g d 119 29 ls (.int (x + y) :: st) h P := zt_bin (f := fun x y => x + y) zi_119_28 rfl (fun _ _ _ => rfl)
theorem zi_119_29 : z_ins 119 29 = some (.iload_n 3, 1) := by decide +kernel
theorem ze_119_29 : z_T g d 119 29 (v0 :: v1 :: v2 :: .int x :: ls) st h P = z_T g d 119 30 (v0 :: v1 :: v2 :: .int x :: ls) (.int x :: st) h P := zt_iloadn zi_119_29 rfl rfl
theorem zi_119_30 : z_ins 119 30 = some (.aload 4, 2) := by decide +kernel
theorem ze_119_30 : z_T g d 119 30 (v0 :: v1 :: v2 :: v3 :: .ref a :: ls) st h P = z_T g d 119 32 (v0 :: v1 :: v2 :: v3 :: .ref a :: ls) (.ref a :: st) h P := zt_aload zi_119_30 rfl
theorem zi_119_32 : z_ins 119 32 = some (.invokestatic 246, 3) := by decide +kernel
theorem ze_119_32 : z_T g d 119 32 ls (.ref a4 :: .int x3 :: .int x2 :: .int x1 :: .ref a0 :: st) h P = ((z_okS 8 st = true ∧ 0 < d) ∧ z_Ca g (d - 1) 119 [.ref a0, .int x1, .int x2, .int x3, .ref a4] h (fun r => z_k r (fun v h' => z_T g d 119 35 ls (z_push v st) h' P) P)) := zt_callS0 (as := [.ref a0, .int x1, .int x2, .int x3, .ref a4]) zi_119_32 ((congrArg (fun o => z_lookup z_prs (o, 246)) zo_119).trans zp_LatinRectangles_246) ((congrArg (fun o => z_clk o 246) zo_119).trans zk_LatinRectangles_246) zh_119 rfl rfl rfl
theorem zi_119_35 : z_ins 119 35 = some (.ireturn, 1) := by decide +kernel
theorem ze_119_35 : z_T g d 119 35 ls [.int x] h P = ((x = nI 0 ∨ x = nI 1) ∧ P (.inr (some (.int x)), h)) := zt_zreturn zi_119_35 zr_119
theorem zi_119_36 : z_ins 119 36 = some (.aload_n 0, 1) := by decide +kernel
theorem ze_119_36 : z_T g d 119 36 (.ref a :: ls) st h P = z_T g d 119 37 (.ref a :: ls) (.ref a :: st) h P := zt_aloadn zi_119_36 rfl rfl
theorem zi_119_37 : z_ins 119 37 = some (.iload_n 1, 1) := by decide +kernel
theorem ze_119_37 : z_T g d 119 37 (v0 :: .int x :: ls) st h P = z_T g d 119 38 (v0 :: .int x :: ls) (.int x :: st) h P := zt_iloadn zi_119_37 rfl rfl
theorem zi_119_38 : z_ins 119 38 = some (.iload_n 2, 1) := by decide +kernel
theorem ze_119_38 : z_T g d 119 38 (v0 :: v1 :: .int x :: ls) st h P = z_T g d 119 39 (v0 :: v1 :: .int x :: ls) (.int x :: st) h P := zt_iloadn zi_119_38 rfl rfl
theorem zi_119_39 : z_ins 119 39 = some (.invokevirtual 154, 3) := by decide +kernel
theorem ze_119_39 : z_T g d 119 39 ls (.int x1 :: .int x0 :: .ref a :: st) h P = ((z_okS 8 st = true ∧ z_gO h.1 a 3 ∧ 0 < d) ∧ z_Ca g (d - 1) 38 [.ref a, .int x0, .int x1] h (fun r => z_k r (fun v h' => z_T g d 119 42 ls (z_push v st) h' P) P)) := zt_callV (as := [.int x0, .int x1]) zi_119_39 ((congrArg (fun o => z_lookup z_prs (o, 154)) zo_119).trans zp_LatinRectangles_154) ((congrArg (fun o => z_clk o 154) zo_119).trans zk_LatinRectangles_154) zh_119 zc_38 rfl rfl rfl
theorem zi_119_42 : z_ins 119 42 = some (.iload_n 3, 1) := by decide +kernel
theorem ze_119_42 : z_T g d 119 42 (v0 :: v1 :: v2 :: .int x :: ls) st h P = z_T g d 119 43 (v0 :: v1 :: v2 :: .int x :: ls) (.int x :: st) h P := zt_iloadn zi_119_42 rfl rfl
theorem zi_119_43 : z_ins 119 43 = some (.iconst (-1), 1) := by decide +kernel
theorem ze_119_43 : z_T g d 119 43 ls st h P = z_T g d 119 44 ls (.int (-1) :: st) h P := zt_iconst zi_119_43 rfl
theorem zi_119_44 : z_ins 119 44 = some (.ixor, 1) := by decide +kernel
theorem ze_119_44 : z_T g d 119 44 ls (.int y :: .int x :: st) h P = z_T g d 119 45 ls (.int (x ^^^ y) :: st) h P := zt_bin (f := fun x y => x ^^^ y) zi_119_44 rfl (fun _ _ _ => rfl)
theorem zi_119_45 : z_ins 119 45 = some (.iand, 1) := by decide +kernel
theorem ze_119_45 : z_T g d 119 45 ls (.int y :: .int x :: st) h P = z_T g d 119 46 ls (.int (x &&& y) :: st) h P := zt_bin (f := fun x y => x &&& y) zi_119_45 rfl (fun _ _ _ => rfl)
theorem zi_119_46 : z_ins 119 46 = some (.istore 5, 2) := by decide +kernel
theorem ze_119_46 : z_T g d 119 46 (v0 :: v1 :: v2 :: v3 :: v4 :: v5 :: ls) (.int x :: st) h P = z_T g d 119 48 (v0 :: v1 :: v2 :: v3 :: v4 :: .int x :: ls) st h P := zt_istore zi_119_46 (Nat.le_add_left 6 _)
theorem zi_119_48 : z_ins 119 48 = some (.iconst 0, 1) := by decide +kernel
theorem ze_119_48 : z_T g d 119 48 ls st h P = z_T g d 119 49 ls (.int (nI 0) :: st) h P := zt_iconst zi_119_48 rfl
theorem zi_119_49 : z_ins 119 49 = some (.istore 6, 2) := by decide +kernel
theorem ze_119_49 : z_T g d 119 49 (v0 :: v1 :: v2 :: v3 :: v4 :: v5 :: v6 :: ls) (.int x :: st) h P = z_T g d 119 51 (v0 :: v1 :: v2 :: v3 :: v4 :: v5 :: .int x :: ls) st h P := zt_istore zi_119_49 (Nat.le_add_left 7 _)
theorem zi_119_51 : z_ins 119 51 = some (.iload 6, 2) := by decide +kernel
theorem ze_119_51 : z_T g d 119 51 (v0 :: v1 :: v2 :: v3 :: v4 :: v5 :: .int x :: ls) st h P = z_T g d 119 53 (v0 :: v1 :: v2 :: v3 :: v4 :: v5 :: .int x :: ls) (.int x :: st) h P := zt_iload zi_119_51 rfl
theorem zi_119_53 : z_ins 119 53 = some (.aload_n 0, 1) := by decide +kernel
theorem ze_119_53 : z_T g d 119 53 (.ref a :: ls) st h P = z_T g d 119 54 (.ref a :: ls) (.ref a :: st) h P := zt_aloadn zi_119_53 rfl rfl
theorem zi_119_54 : z_ins 119 54 = some (.getfield 125, 3) := by decide +kernel
theorem ze_119_54 : z_T g d 119 54 ls (.ref a :: st) h P = z_gI h.1 a 3 6 (fun x => z_T g d 119 57 ls (.int x :: st) h P) := zt_getI zi_119_54 ((congrArg (fun o => z_fl o 125) zo_119).trans zf_LatinRectangles_125)
theorem zi_119_57 : z_ins 119 57 = some (.if_icmp .ge 46, 3) := by decide +kernel
theorem ze_119_57 : z_T g d 119 57 ls (.int y :: .int x :: st) h P = (if x < y then z_T g d 119 60 ls st h P else z_T g d 119 103 ls st h P) := zt_icmpge zi_119_57 (by decide)
theorem zi_119_60 : z_ins 119 60 = some (.iload 5, 2) := by decide +kernel
theorem ze_119_60 : z_T g d 119 60 (v0 :: v1 :: v2 :: v3 :: v4 :: .int x :: ls) st h P = z_T g d 119 62 (v0 :: v1 :: v2 :: v3 :: v4 :: .int x :: ls) (.int x :: st) h P := zt_iload zi_119_60 rfl
theorem zi_119_62 : z_ins 119 62 = some (.iload 6, 2) := by decide +kernel
theorem ze_119_62 : z_T g d 119 62 (v0 :: v1 :: v2 :: v3 :: v4 :: v5 :: .int x :: ls) st h P = z_T g d 119 64 (v0 :: v1 :: v2 :: v3 :: v4 :: v5 :: .int x :: ls) (.int x :: st) h P := zt_iload zi_119_62 rfl
theorem zi_119_64 : z_ins 119 64 = some (.ishr, 1) := by decide +kernel
theorem ze_119_64 : z_T g d 119 64 ls (.int y :: .int x :: st) h P = z_T g d 119 65 ls (.int (x >>> (y &&& 31)) :: st) h P := zt_bin (f := fun x y => x >>> (y &&& 31)) zi_119_64 rfl (fun _ _ _ => rfl)
theorem zi_119_65 : z_ins 119 65 = some (.iconst 1, 1) := by decide +kernel
theorem ze_119_65 : z_T g d 119 65 ls st h P = z_T g d 119 66 ls (.int (nI 1) :: st) h P := zt_iconst zi_119_65 rfl
theorem zi_119_66 : z_ins 119 66 = some (.iand, 1) := by decide +kernel
theorem ze_119_66 : z_T g d 119 66 ls (.int y :: .int x :: st) h P = z_T g d 119 67 ls (.int (x &&& y) :: st) h P := zt_bin (f := fun x y => x &&& y) zi_119_66 rfl (fun _ _ _ => rfl)
theorem zi_119_67 : z_ins 119 67 = some (.ifCond .eq 30, 3) := by decide +kernel
theorem ze_119_67 : z_T g d 119 67 ls (.int x :: st) h P = (if x = nI 0 then z_T g d 119 97 ls st h P else z_T g d 119 70 ls st h P) := zt_ifeq zi_119_67 (by decide)
theorem zi_119_70 : z_ins 119 70 = some (.aload 4, 2) := by decide +kernel
theorem ze_119_70 : z_T g d 119 70 (v0 :: v1 :: v2 :: v3 :: .ref a :: ls) st h P = z_T g d 119 72 (v0 :: v1 :: v2 :: v3 :: .ref a :: ls) (.ref a :: st) h P := zt_aload zi_119_70 rfl
theorem zi_119_72 : z_ins 119 72 = some (.iload_n 2, 1) := by decide +kernel
theorem ze_119_72 : z_T g d 119 72 (v0 :: v1 :: .int x :: ls) st h P = z_T g d 119 73 (v0 :: v1 :: .int x :: ls) (.int x :: st) h P := zt_iloadn zi_119_72 rfl rfl
theorem zi_119_73 : z_ins 119 73 = some (.iload 6, 2) := by decide +kernel
theorem ze_119_73 : z_T g d 119 73 (v0 :: v1 :: v2 :: v3 :: v4 :: v5 :: .int x :: ls) st h P = z_T g d 119 75 (v0 :: v1 :: v2 :: v3 :: v4 :: v5 :: .int x :: ls) (.int x :: st) h P := zt_iload zi_119_73 rfl
theorem zi_119_75 : z_ins 119 75 = some (.iastore, 1) := by decide +kernel
theorem ze_119_75 : z_T g d 119 75 ls (.int y :: .int x :: .ref a :: st) h P = z_aS h.1 a z_tI x y (fun f => z_T g d 119 76 ls st (f, h.2) P) := zt_iastore zi_119_75
theorem zi_119_76 : z_ins 119 76 = some (.aload_n 0, 1) := by decide +kernel
theorem ze_119_76 : z_T g d 119 76 (.ref a :: ls) st h P = z_T g d 119 77 (.ref a :: ls) (.ref a :: st) h P := zt_aloadn zi_119_76 rfl rfl
theorem zi_119_77 : z_ins 119 77 = some (.iload_n 1, 1) := by decide +kernel
theorem ze_119_77 : z_T g d 119 77 (v0 :: .int x :: ls) st h P = z_T g d 119 78 (v0 :: .int x :: ls) (.int x :: st) h P := zt_iloadn zi_119_77 rfl rfl
theorem zi_119_78 : z_ins 119 78 = some (.iload_n 2, 1) := by decide +kernel
theorem ze_119_78 : z_T g d 119 78 (v0 :: v1 :: .int x :: ls) st h P = z_T g d 119 79 (v0 :: v1 :: .int x :: ls) (.int x :: st) h P := zt_iloadn zi_119_78 rfl rfl
theorem zi_119_79 : z_ins 119 79 = some (.iconst 1, 1) := by decide +kernel
theorem ze_119_79 : z_T g d 119 79 ls st h P = z_T g d 119 80 ls (.int (nI 1) :: st) h P := zt_iconst zi_119_79 rfl
theorem zi_119_80 : z_ins 119 80 = some (.iadd, 1) := by decide +kernel
theorem ze_119_80 : z_T g d 119 80 ls (.int y :: .int x :: st) h P = z_T g d 119 81 ls (.int (x + y) :: st) h P := zt_bin (f := fun x y => x + y) zi_119_80 rfl (fun _ _ _ => rfl)
theorem zi_119_81 : z_ins 119 81 = some (.iload_n 3, 1) := by decide +kernel
theorem ze_119_81 : z_T g d 119 81 (v0 :: v1 :: v2 :: .int x :: ls) st h P = z_T g d 119 82 (v0 :: v1 :: v2 :: .int x :: ls) (.int x :: st) h P := zt_iloadn zi_119_81 rfl rfl
theorem zi_119_82 : z_ins 119 82 = some (.iconst 1, 1) := by decide +kernel
theorem ze_119_82 : z_T g d 119 82 ls st h P = z_T g d 119 83 ls (.int (nI 1) :: st) h P := zt_iconst zi_119_82 rfl
theorem zi_119_83 : z_ins 119 83 = some (.iload 6, 2) := by decide +kernel
theorem ze_119_83 : z_T g d 119 83 (v0 :: v1 :: v2 :: v3 :: v4 :: v5 :: .int x :: ls) st h P = z_T g d 119 85 (v0 :: v1 :: v2 :: v3 :: v4 :: v5 :: .int x :: ls) (.int x :: st) h P := zt_iload zi_119_83 rfl
theorem zi_119_85 : z_ins 119 85 = some (.ishl, 1) := by decide +kernel
theorem ze_119_85 : z_T g d 119 85 ls (.int y :: .int x :: st) h P = z_T g d 119 86 ls (.int (x <<< (y &&& 31)) :: st) h P := zt_bin (f := fun x y => x <<< (y &&& 31)) zi_119_85 rfl (fun _ _ _ => rfl)
theorem zi_119_86 : z_ins 119 86 = some (.ior, 1) := by decide +kernel
theorem ze_119_86 : z_T g d 119 86 ls (.int y :: .int x :: st) h P = z_T g d 119 87 ls (.int (x ||| y) :: st) h P := zt_bin (f := fun x y => x ||| y) zi_119_86 rfl (fun _ _ _ => rfl)
theorem zi_119_87 : z_ins 119 87 = some (.aload 4, 2) := by decide +kernel
theorem ze_119_87 : z_T g d 119 87 (v0 :: v1 :: v2 :: v3 :: .ref a :: ls) st h P = z_T g d 119 89 (v0 :: v1 :: v2 :: v3 :: .ref a :: ls) (.ref a :: st) h P := zt_aload zi_119_87 rfl
theorem zi_119_89 : z_ins 119 89 = some (.invokestatic 246, 3) := by decide +kernel
theorem ze_119_89 : z_T g d 119 89 ls (.ref a4 :: .int x3 :: .int x2 :: .int x1 :: .ref a0 :: st) h P = ((z_okS 8 st = true ∧ 0 < d) ∧ z_Ca g (d - 1) 119 [.ref a0, .int x1, .int x2, .int x3, .ref a4] h (fun r => z_k r (fun v h' => z_T g d 119 92 ls (z_push v st) h' P) P)) := zt_callS0 (as := [.ref a0, .int x1, .int x2, .int x3, .ref a4]) zi_119_89 ((congrArg (fun o => z_lookup z_prs (o, 246)) zo_119).trans zp_LatinRectangles_246) ((congrArg (fun o => z_clk o 246) zo_119).trans zk_LatinRectangles_246) zh_119 rfl rfl rfl
theorem zi_119_92 : z_ins 119 92 = some (.ifCond .eq 5, 3) := by decide +kernel
theorem ze_119_92 : z_T g d 119 92 ls (.int x :: st) h P = (if x = nI 0 then z_T g d 119 97 ls st h P else z_T g d 119 95 ls st h P) := zt_ifeq zi_119_92 (by decide)
theorem zi_119_95 : z_ins 119 95 = some (.iconst 1, 1) := by decide +kernel
theorem ze_119_95 : z_T g d 119 95 ls st h P = z_T g d 119 96 ls (.int (nI 1) :: st) h P := zt_iconst zi_119_95 rfl
theorem zi_119_96 : z_ins 119 96 = some (.ireturn, 1) := by decide +kernel
theorem ze_119_96 : z_T g d 119 96 ls [.int x] h P = ((x = nI 0 ∨ x = nI 1) ∧ P (.inr (some (.int x)), h)) := zt_zreturn zi_119_96 zr_119
theorem zi_119_97 : z_ins 119 97 = some (.iinc 6 1, 3) := by decide +kernel
theorem ze_119_97 : z_T g d 119 97 (v0 :: v1 :: v2 :: v3 :: v4 :: v5 :: .int x :: ls) st h P = z_T g d 119 100 (v0 :: v1 :: v2 :: v3 :: v4 :: v5 :: .int (x + (nI 1)) :: ls) st h P := zt_iinc zi_119_97 rfl rfl
theorem zi_119_100 : z_ins 119 100 = some (.goto (-49), 3) := by decide +kernel
theorem ze_119_100 : z_T g d 119 100 ls st h P = z_T g d 119 51 ls st h P := zt_goto zi_119_100 (by decide)
theorem zi_119_103 : z_ins 119 103 = some (.iconst 0, 1) := by decide +kernel
theorem ze_119_103 : z_T g d 119 103 ls st h P = z_T g d 119 104 ls (.int (nI 0) :: st) h P := zt_iconst zi_119_103 rfl
theorem zi_119_104 : z_ins 119 104 = some (.ireturn, 1) := by decide +kernel
theorem ze_119_104 : z_T g d 119 104 ls [.int x] h P = ((x = nI 0 ∨ x = nI 1) ∧ P (.inr (some (.int x)), h)) := zt_zreturn zi_119_104 zr_119
end
