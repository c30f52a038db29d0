section
variable {g : z_G} {d : Nat} {h : z_H} {P : z_Res → Prop} {ls st : List Value} {v0 v1 v2 v3 v4 v5 v6 v7 v8 v9 v10 v11 vw : Value} {x y x0 x1 x2 x3 x4 x5 x6 : Int32} {a b a0 a1 a2 a3 a4 a5 k0 k1 k2 : Nat}
-- LatinRectangles.<init>()V
theorem zm_67 : z_maxL 67 = 1 := by decide +kernel
theorem zh_67 : z_hds 67 = [] := by decide +kernel
theorem zj_67 : z_jdk 67 = false := by decide +kernel
theorem zr_67 : z_rt 67 = none := by decide +kernel
theorem zn_67 : z_Ca g d 67 [.ref a0] h P = z_T g d 67 0 [.ref a0] [] h P := z_Ca_ent zm_67 rfl rfl
theorem zi_67_0 : z_ins 67 0 = some (.aload_n 0, 1) := by decide +kernel
theorem ze_67_0 : z_T g d 67 0 (.ref a :: ls) st h P = z_T g d 67 1 (.ref a :: ls) (.ref a :: st) h P := zt_aloadn zi_67_0 rfl rfl
theorem zi_67_1 : z_ins 67 1 = some (.invokespecial 3, 3) := by decide +kernel
theorem ze_67_1 : z_T g d 67 1 ls (.ref a :: st) h P = (z_okS 8 st = true ∧ z_T g d 67 4 ls st h P) := zt_objInit zi_67_1 ((congrArg (fun o => z_lookup z_ois (o, 3)) zo_67).trans zq_ois_LatinRectangles_3)
theorem zi_67_4 : z_ins 67 4 = some (.aload_n 0, 1) := by decide +kernel
theorem ze_67_4 : z_T g d 67 4 (.ref a :: ls) st h P = z_T g d 67 5 (.ref a :: ls) (.ref a :: st) h P := zt_aloadn zi_67_4 rfl rfl
theorem zi_67_5 : z_ins 67 5 = some (.new 9, 3) := by decide +kernel
theorem ze_67_5 : z_T g d 67 5 ls st h P = z_nO h 3 10 [.null, .null, .null, .null, .null, .int 0, .int 0, .int 0, .int 0, .int 0] (fun q h' => z_T g d 67 8 ls (.ref q :: st) h' P) := zt_new zi_67_5 (by decide +kernel)
theorem zi_67_8 : z_ins 67 8 = some (.dup, 1) := by decide +kernel
theorem ze_67_8 : z_T g d 67 8 ls (.ref a :: st) h P = z_T g d 67 9 ls (.ref a :: .ref a :: st) h P := zt_dup rfl zi_67_8
theorem ze_67_8_i : z_T g d 67 8 ls (.int x :: st) h P = z_T g d 67 9 ls (.int x :: .int x :: st) h P := zt_dup rfl zi_67_8
theorem zi_67_9 : z_ins 67 9 = some (.invokespecial 11, 3) := by decide +kernel
theorem ze_67_9 : z_T g d 67 9 ls (.ref a :: st) h P = ((z_okS 8 st = true ∧ 0 < d) ∧ z_Ca g (d - 1) 23 [.ref a] h (fun r => z_k r (fun v h' => z_T g d 67 12 ls (z_push v st) h' P) P)) := zt_cS (as := [.ref a]) (kk := 2) zi_67_9 rfl (zt_call zj_67 zh_67) (z_opI ((congrArg (fun o => z_lookup z_ois (o, 11)) zo_67).trans zq_ois_LatinRectangles_11)) ((congrArg (fun o => z_clk o 11) zo_67).trans zk_LatinRectangles_11) rfl rfl rfl rfl rfl
theorem zi_67_12 : z_ins 67 12 = some (.putfield 12, 3) := by decide +kernel
theorem ze_67_12 : z_T g d 67 12 ls (.ref b :: .ref a :: st) h P = z_pF h.1 a 9 0 (.ref b) (fun f => z_T g d 67 15 ls st (f, h.2) P) := zt_put zi_67_12 ((congrArg (fun o => z_fl o 12) zo_67).trans zf_LatinRectangles_12) (by decide +kernel) rfl rfl
theorem zi_67_15 : z_ins 67 15 = some (.aload_n 0, 1) := by decide +kernel
theorem ze_67_15 : z_T g d 67 15 (.ref a :: ls) st h P = z_T g d 67 16 (.ref a :: ls) (.ref a :: st) h P := zt_aloadn zi_67_15 rfl rfl
theorem zi_67_16 : z_ins 67 16 = some (.new 16, 3) := by decide +kernel
theorem ze_67_16 : z_T g d 67 16 ls st h P = z_nO h 7 7 [.null, .int 0, .int 0, .int 0, .int 0, .int 0, .int 0] (fun q h' => z_T g d 67 19 ls (.ref q :: st) h' P) := zt_new zi_67_16 (by decide +kernel)
theorem zi_67_19 : z_ins 67 19 = some (.dup, 1) := by decide +kernel
theorem ze_67_19 : z_T g d 67 19 ls (.ref a :: st) h P = z_T g d 67 20 ls (.ref a :: .ref a :: st) h P := zt_dup rfl zi_67_19
theorem ze_67_19_i : z_T g d 67 19 ls (.int x :: st) h P = z_T g d 67 20 ls (.int x :: .int x :: st) h P := zt_dup rfl zi_67_19
theorem zi_67_20 : z_ins 67 20 = some (.invokespecial 18, 3) := by decide +kernel
theorem ze_67_20 : z_T g d 67 20 ls (.ref a :: st) h P = ((z_okS 8 st = true ∧ 0 < d) ∧ z_Ca g (d - 1) 53 [.ref a] h (fun r => z_k r (fun v h' => z_T g d 67 23 ls (z_push v st) h' P) P)) := zt_cS (as := [.ref a]) (kk := 2) zi_67_20 rfl (zt_call zj_67 zh_67) (z_opI ((congrArg (fun o => z_lookup z_ois (o, 18)) zo_67).trans zq_ois_LatinRectangles_18)) ((congrArg (fun o => z_clk o 18) zo_67).trans zk_LatinRectangles_18) rfl rfl rfl rfl rfl
theorem zi_67_23 : z_ins 67 23 = some (.putfield 19, 3) := by decide +kernel
theorem ze_67_23 : z_T g d 67 23 ls (.ref b :: .ref a :: st) h P = z_pF h.1 a 9 1 (.ref b) (fun f => z_T g d 67 26 ls st (f, h.2) P) := zt_put zi_67_23 ((congrArg (fun o => z_fl o 19) zo_67).trans zf_LatinRectangles_19) (by decide +kernel) rfl rfl
theorem zi_67_26 : z_ins 67 26 = some (.aload_n 0, 1) := by decide +kernel
theorem ze_67_26 : z_T g d 67 26 (.ref a :: ls) st h P = z_T g d 67 27 (.ref a :: ls) (.ref a :: st) h P := zt_aloadn zi_67_26 rfl rfl
theorem zi_67_27 : z_ins 67 27 = some (.new 23, 3) := by decide +kernel
theorem ze_67_27 : z_T g d 67 27 ls st h P = z_nO h 5 4 [.null, .null, .int 0, .int 0] (fun q h' => z_T g d 67 30 ls (.ref q :: st) h' P) := zt_new zi_67_27 (by decide +kernel)
theorem zi_67_30 : z_ins 67 30 = some (.dup, 1) := by decide +kernel
theorem ze_67_30 : z_T g d 67 30 ls (.ref a :: st) h P = z_T g d 67 31 ls (.ref a :: .ref a :: st) h P := zt_dup rfl zi_67_30
theorem ze_67_30_i : z_T g d 67 30 ls (.int x :: st) h P = z_T g d 67 31 ls (.int x :: .int x :: st) h P := zt_dup rfl zi_67_30
theorem zi_67_31 : z_ins 67 31 = some (.aload_n 0, 1) := by decide +kernel
theorem ze_67_31 : z_T g d 67 31 (.ref a :: ls) st h P = z_T g d 67 32 (.ref a :: ls) (.ref a :: st) h P := zt_aloadn zi_67_31 rfl rfl
theorem zi_67_32 : z_ins 67 32 = some (.getfield 19, 3) := by decide +kernel
theorem ze_67_32 : z_T g d 67 32 ls (.ref a :: st) h P = z_gR h.1 a 9 1 (fun x => z_T g d 67 35 ls (x :: st) h P) := zt_getR zi_67_32 ((congrArg (fun o => z_fl o 19) zo_67).trans zf_LatinRectangles_19)
theorem zi_67_35 : z_ins 67 35 = some (.invokespecial 25, 3) := by decide +kernel
theorem ze_67_35 : z_T g d 67 35 ls (.ref a0 :: .ref a :: st) h P = ((z_okS 8 st = true ∧ 0 < d) ∧ z_Ca g (d - 1) 41 [.ref a, .ref a0] h (fun r => z_k r (fun v h' => z_T g d 67 38 ls (z_push v st) h' P) P)) := zt_cS (as := [.ref a, .ref a0]) (kk := 2) zi_67_35 rfl (zt_call zj_67 zh_67) (z_opI ((congrArg (fun o => z_lookup z_ois (o, 25)) zo_67).trans zq_ois_LatinRectangles_25)) ((congrArg (fun o => z_clk o 25) zo_67).trans zk_LatinRectangles_25) rfl rfl rfl rfl rfl
theorem zi_67_38 : z_ins 67 38 = some (.putfield 28, 3) := by decide +kernel
theorem ze_67_38 : z_T g d 67 38 ls (.ref b :: .ref a :: st) h P = z_pF h.1 a 9 2 (.ref b) (fun f => z_T g d 67 41 ls st (f, h.2) P) := zt_put zi_67_38 ((congrArg (fun o => z_fl o 28) zo_67).trans zf_LatinRectangles_28) (by decide +kernel) rfl rfl
theorem zi_67_41 : z_ins 67 41 = some (.aload_n 0, 1) := by decide +kernel
theorem ze_67_41 : z_T g d 67 41 (.ref a :: ls) st h P = z_T g d 67 42 (.ref a :: ls) (.ref a :: st) h P := zt_aloadn zi_67_41 rfl rfl
theorem zi_67_42 : z_ins 67 42 = some (.new 32, 3) := by decide +kernel
theorem ze_67_42 : z_T g d 67 42 ls st h P = z_nO h 2 1 [.null] (fun q h' => z_T g d 67 45 ls (.ref q :: st) h' P) := zt_new zi_67_42 (by decide +kernel)
theorem zi_67_45 : z_ins 67 45 = some (.dup, 1) := by decide +kernel
theorem ze_67_45 : z_T g d 67 45 ls (.ref a :: st) h P = z_T g d 67 46 ls (.ref a :: .ref a :: st) h P := zt_dup rfl zi_67_45
theorem ze_67_45_i : z_T g d 67 45 ls (.int x :: st) h P = z_T g d 67 46 ls (.int x :: .int x :: st) h P := zt_dup rfl zi_67_45
theorem zi_67_46 : z_ins 67 46 = some (.aload_n 0, 1) := by decide +kernel
theorem ze_67_46 : z_T g d 67 46 (.ref a :: ls) st h P = z_T g d 67 47 (.ref a :: ls) (.ref a :: st) h P := zt_aloadn zi_67_46 rfl rfl
theorem zi_67_47 : z_ins 67 47 = some (.getfield 12, 3) := by decide +kernel
theorem ze_67_47 : z_T g d 67 47 ls (.ref a :: st) h P = z_gR h.1 a 9 0 (fun x => z_T g d 67 50 ls (x :: st) h P) := zt_getR zi_67_47 ((congrArg (fun o => z_fl o 12) zo_67).trans zf_LatinRectangles_12)
theorem zi_67_50 : z_ins 67 50 = some (.invokespecial 34, 3) := by decide +kernel
theorem ze_67_50 : z_T g d 67 50 ls (.ref a0 :: .ref a :: st) h P = ((z_okS 8 st = true ∧ 0 < d) ∧ z_Ca g (d - 1) 15 [.ref a, .ref a0] h (fun r => z_k r (fun v h' => z_T g d 67 53 ls (z_push v st) h' P) P)) := zt_cS (as := [.ref a, .ref a0]) (kk := 2) zi_67_50 rfl (zt_call zj_67 zh_67) (z_opI ((congrArg (fun o => z_lookup z_ois (o, 34)) zo_67).trans zq_ois_LatinRectangles_34)) ((congrArg (fun o => z_clk o 34) zo_67).trans zk_LatinRectangles_34) rfl rfl rfl rfl rfl
theorem zi_67_53 : z_ins 67 53 = some (.putfield 37, 3) := by decide +kernel
theorem ze_67_53 : z_T g d 67 53 ls (.ref b :: .ref a :: st) h P = z_pF h.1 a 9 3 (.ref b) (fun f => z_T g d 67 56 ls st (f, h.2) P) := zt_put zi_67_53 ((congrArg (fun o => z_fl o 37) zo_67).trans zf_LatinRectangles_37) (by decide +kernel) rfl rfl
theorem zi_67_56 : z_ins 67 56 = some (.aload_n 0, 1) := by decide +kernel
theorem ze_67_56 : z_T g d 67 56 (.ref a :: ls) st h P = z_T g d 67 57 (.ref a :: ls) (.ref a :: st) h P := zt_aloadn zi_67_56 rfl rfl
theorem zi_67_57 : z_ins 67 57 = some (.new 41, 3) := by decide +kernel
theorem ze_67_57 : z_T g d 67 57 ls st h P = z_nO h 0 4 [.null, .null, .null, .int 0] (fun q h' => z_T g d 67 60 ls (.ref q :: st) h' P) := zt_new zi_67_57 (by decide +kernel)
theorem zi_67_60 : z_ins 67 60 = some (.dup, 1) := by decide +kernel
theorem ze_67_60 : z_T g d 67 60 ls (.ref a :: st) h P = z_T g d 67 61 ls (.ref a :: .ref a :: st) h P := zt_dup rfl zi_67_60
theorem ze_67_60_i : z_T g d 67 60 ls (.int x :: st) h P = z_T g d 67 61 ls (.int x :: .int x :: st) h P := zt_dup rfl zi_67_60
theorem zi_67_61 : z_ins 67 61 = some (.aload_n 0, 1) := by decide +kernel
theorem ze_67_61 : z_T g d 67 61 (.ref a :: ls) st h P = z_T g d 67 62 (.ref a :: ls) (.ref a :: st) h P := zt_aloadn zi_67_61 rfl rfl
theorem zi_67_62 : z_ins 67 62 = some (.getfield 12, 3) := by decide +kernel
theorem ze_67_62 : z_T g d 67 62 ls (.ref a :: st) h P = z_gR h.1 a 9 0 (fun x => z_T g d 67 65 ls (x :: st) h P) := zt_getR zi_67_62 ((congrArg (fun o => z_fl o 12) zo_67).trans zf_LatinRectangles_12)
theorem zi_67_65 : z_ins 67 65 = some (.invokespecial 43, 3) := by decide +kernel
theorem ze_67_65 : z_T g d 67 65 ls (.ref a0 :: .ref a :: st) h P = ((z_okS 8 st = true ∧ 0 < d) ∧ z_Ca g (d - 1) 0 [.ref a, .ref a0] h (fun r => z_k r (fun v h' => z_T g d 67 68 ls (z_push v st) h' P) P)) := zt_cS (as := [.ref a, .ref a0]) (kk := 2) zi_67_65 rfl (zt_call zj_67 zh_67) (z_opI ((congrArg (fun o => z_lookup z_ois (o, 43)) zo_67).trans zq_ois_LatinRectangles_43)) ((congrArg (fun o => z_clk o 43) zo_67).trans zk_LatinRectangles_43) rfl rfl rfl rfl rfl
theorem zi_67_68 : z_ins 67 68 = some (.putfield 44, 3) := by decide +kernel
theorem ze_67_68 : z_T g d 67 68 ls (.ref b :: .ref a :: st) h P = z_pF h.1 a 9 4 (.ref b) (fun f => z_T g d 67 71 ls st (f, h.2) P) := zt_put zi_67_68 ((congrArg (fun o => z_fl o 44) zo_67).trans zf_LatinRectangles_44) (by decide +kernel) rfl rfl
theorem zi_67_71 : z_ins 67 71 = some (.aload_n 0, 1) := by decide +kernel
theorem ze_67_71 : z_T g d 67 71 (.ref a :: ls) st h P = z_T g d 67 72 (.ref a :: ls) (.ref a :: st) h P := zt_aloadn zi_67_71 rfl rfl
theorem zi_67_72 : z_ins 67 72 = some (.new 48, 3) := by decide +kernel
theorem ze_67_72 : z_T g d 67 72 ls st h P = z_nO h 8 4 [.null, .null, .int 0, .int 0] (fun q h' => z_T g d 67 75 ls (.ref q :: st) h' P) := zt_new zi_67_72 (by decide +kernel)
theorem zi_67_75 : z_ins 67 75 = some (.dup, 1) := by decide +kernel
theorem ze_67_75 : z_T g d 67 75 ls (.ref a :: st) h P = z_T g d 67 76 ls (.ref a :: .ref a :: st) h P := zt_dup rfl zi_67_75
theorem ze_67_75_i : z_T g d 67 75 ls (.int x :: st) h P = z_T g d 67 76 ls (.int x :: .int x :: st) h P := zt_dup rfl zi_67_75
theorem zi_67_76 : z_ins 67 76 = some (.aload_n 0, 1) := by decide +kernel
theorem ze_67_76 : z_T g d 67 76 (.ref a :: ls) st h P = z_T g d 67 77 (.ref a :: ls) (.ref a :: st) h P := zt_aloadn zi_67_76 rfl rfl
theorem zi_67_77 : z_ins 67 77 = some (.getfield 12, 3) := by decide +kernel
theorem ze_67_77 : z_T g d 67 77 ls (.ref a :: st) h P = z_gR h.1 a 9 0 (fun x => z_T g d 67 80 ls (x :: st) h P) := zt_getR zi_67_77 ((congrArg (fun o => z_fl o 12) zo_67).trans zf_LatinRectangles_12)
theorem zi_67_80 : z_ins 67 80 = some (.invokespecial 50, 3) := by decide +kernel
theorem ze_67_80 : z_T g d 67 80 ls (.ref a0 :: .ref a :: st) h P = ((z_okS 8 st = true ∧ 0 < d) ∧ z_Ca g (d - 1) 60 [.ref a, .ref a0] h (fun r => z_k r (fun v h' => z_T g d 67 83 ls (z_push v st) h' P) P)) := zt_cS (as := [.ref a, .ref a0]) (kk := 2) zi_67_80 rfl (zt_call zj_67 zh_67) (z_opI ((congrArg (fun o => z_lookup z_ois (o, 50)) zo_67).trans zq_ois_LatinRectangles_50)) ((congrArg (fun o => z_clk o 50) zo_67).trans zk_LatinRectangles_50) rfl rfl rfl rfl rfl
theorem zi_67_83 : z_ins 67 83 = some (.putfield 51, 3) := by decide +kernel
theorem ze_67_83 : z_T g d 67 83 ls (.ref b :: .ref a :: st) h P = z_pF h.1 a 9 5 (.ref b) (fun f => z_T g d 67 86 ls st (f, h.2) P) := zt_put zi_67_83 ((congrArg (fun o => z_fl o 51) zo_67).trans zf_LatinRectangles_51) (by decide +kernel) rfl rfl
theorem zi_67_86 : z_ins 67 86 = some (.aload_n 0, 1) := by decide +kernel
theorem ze_67_86 : z_T g d 67 86 (.ref a :: ls) st h P = z_T g d 67 87 (.ref a :: ls) (.ref a :: st) h P := zt_aloadn zi_67_86 rfl rfl
theorem zi_67_87 : z_ins 67 87 = some (.new 55, 3) := by decide +kernel
theorem ze_67_87 : z_T g d 67 87 ls st h P = z_nO h 1 3 [.null, .null, .int 0] (fun q h' => z_T g d 67 90 ls (.ref q :: st) h' P) := zt_new zi_67_87 (by decide +kernel)
theorem zi_67_90 : z_ins 67 90 = some (.dup, 1) := by decide +kernel
theorem ze_67_90 : z_T g d 67 90 ls (.ref a :: st) h P = z_T g d 67 91 ls (.ref a :: .ref a :: st) h P := zt_dup rfl zi_67_90
theorem ze_67_90_i : z_T g d 67 90 ls (.int x :: st) h P = z_T g d 67 91 ls (.int x :: .int x :: st) h P := zt_dup rfl zi_67_90
theorem zi_67_91 : z_ins 67 91 = some (.aload_n 0, 1) := by decide +kernel
theorem ze_67_91 : z_T g d 67 91 (.ref a :: ls) st h P = z_T g d 67 92 (.ref a :: ls) (.ref a :: st) h P := zt_aloadn zi_67_91 rfl rfl
theorem zi_67_92 : z_ins 67 92 = some (.getfield 12, 3) := by decide +kernel
theorem ze_67_92 : z_T g d 67 92 ls (.ref a :: st) h P = z_gR h.1 a 9 0 (fun x => z_T g d 67 95 ls (x :: st) h P) := zt_getR zi_67_92 ((congrArg (fun o => z_fl o 12) zo_67).trans zf_LatinRectangles_12)
theorem zi_67_95 : z_ins 67 95 = some (.invokespecial 57, 3) := by decide +kernel
theorem ze_67_95 : z_T g d 67 95 ls (.ref a0 :: .ref a :: st) h P = ((z_okS 8 st = true ∧ 0 < d) ∧ z_Ca g (d - 1) 8 [.ref a, .ref a0] h (fun r => z_k r (fun v h' => z_T g d 67 98 ls (z_push v st) h' P) P)) := zt_cS (as := [.ref a, .ref a0]) (kk := 2) zi_67_95 rfl (zt_call zj_67 zh_67) (z_opI ((congrArg (fun o => z_lookup z_ois (o, 57)) zo_67).trans zq_ois_LatinRectangles_57)) ((congrArg (fun o => z_clk o 57) zo_67).trans zk_LatinRectangles_57) rfl rfl rfl rfl rfl
theorem zi_67_98 : z_ins 67 98 = some (.putfield 58, 3) := by decide +kernel
theorem ze_67_98 : z_T g d 67 98 ls (.ref b :: .ref a :: st) h P = z_pF h.1 a 9 6 (.ref b) (fun f => z_T g d 67 101 ls st (f, h.2) P) := zt_put zi_67_98 ((congrArg (fun o => z_fl o 58) zo_67).trans zf_LatinRectangles_58) (by decide +kernel) rfl rfl
theorem zi_67_101 : z_ins 67 101 = some (.aload_n 0, 1) := by decide +kernel
theorem ze_67_101 : z_T g d 67 101 (.ref a :: ls) st h P = z_T g d 67 102 (.ref a :: ls) (.ref a :: st) h P := zt_aloadn zi_67_101 rfl rfl
theorem zi_67_102 : z_ins 67 102 = some (.new 62, 3) := by decide +kernel
theorem ze_67_102 : z_T g d 67 102 ls st h P = z_nO h 4 3 [.null, .int 0, .int 0] (fun q h' => z_T g d 67 105 ls (.ref q :: st) h' P) := zt_new zi_67_102 (by decide +kernel)
theorem zi_67_105 : z_ins 67 105 = some (.dup, 1) := by decide +kernel
theorem ze_67_105 : z_T g d 67 105 ls (.ref a :: st) h P = z_T g d 67 106 ls (.ref a :: .ref a :: st) h P := zt_dup rfl zi_67_105
theorem ze_67_105_i : z_T g d 67 105 ls (.int x :: st) h P = z_T g d 67 106 ls (.int x :: .int x :: st) h P := zt_dup rfl zi_67_105
theorem zi_67_106 : z_ins 67 106 = some (.invokespecial 64, 3) := by decide +kernel
theorem ze_67_106 : z_T g d 67 106 ls (.ref a :: st) h P = ((z_okS 8 st = true ∧ 0 < d) ∧ z_Ca g (d - 1) 38 [.ref a] h (fun r => z_k r (fun v h' => z_T g d 67 109 ls (z_push v st) h' P) P)) := zt_cS (as := [.ref a]) (kk := 2) zi_67_106 rfl (zt_call zj_67 zh_67) (z_opI ((congrArg (fun o => z_lookup z_ois (o, 64)) zo_67).trans zq_ois_LatinRectangles_64)) ((congrArg (fun o => z_clk o 64) zo_67).trans zk_LatinRectangles_64) rfl rfl rfl rfl rfl
theorem zi_67_109 : z_ins 67 109 = some (.putfield 65, 3) := by decide +kernel
theorem ze_67_109 : z_T g d 67 109 ls (.ref b :: .ref a :: st) h P = z_pF h.1 a 9 7 (.ref b) (fun f => z_T g d 67 112 ls st (f, h.2) P) := zt_put zi_67_109 ((congrArg (fun o => z_fl o 65) zo_67).trans zf_LatinRectangles_65) (by decide +kernel) rfl rfl
theorem zi_67_112 : z_ins 67 112 = some (.aload_n 0, 1) := by decide +kernel
theorem ze_67_112 : z_T g d 67 112 (.ref a :: ls) st h P = z_T g d 67 113 (.ref a :: ls) (.ref a :: st) h P := zt_aloadn zi_67_112 rfl rfl
theorem zi_67_113 : z_ins 67 113 = some (.new 69, 3) := by decide +kernel
theorem ze_67_113 : z_T g d 67 113 ls st h P = z_nO h 6 2 [.null, .null] (fun q h' => z_T g d 67 116 ls (.ref q :: st) h' P) := zt_new zi_67_113 (by decide +kernel)
theorem zi_67_116 : z_ins 67 116 = some (.dup, 1) := by decide +kernel
theorem ze_67_116 : z_T g d 67 116 ls (.ref a :: st) h P = z_T g d 67 117 ls (.ref a :: .ref a :: st) h P := zt_dup rfl zi_67_116
theorem ze_67_116_i : z_T g d 67 116 ls (.int x :: st) h P = z_T g d 67 117 ls (.int x :: .int x :: st) h P := zt_dup rfl zi_67_116
theorem zi_67_117 : z_ins 67 117 = some (.invokespecial 71, 3) := by decide +kernel
theorem ze_67_117 : z_T g d 67 117 ls (.ref a :: st) h P = ((z_okS 8 st = true ∧ 0 < d) ∧ z_Ca g (d - 1) 51 [.ref a] h (fun r => z_k r (fun v h' => z_T g d 67 120 ls (z_push v st) h' P) P)) := zt_cS (as := [.ref a]) (kk := 2) zi_67_117 rfl (zt_call zj_67 zh_67) (z_opI ((congrArg (fun o => z_lookup z_ois (o, 71)) zo_67).trans zq_ois_LatinRectangles_71)) ((congrArg (fun o => z_clk o 71) zo_67).trans zk_LatinRectangles_71) rfl rfl rfl rfl rfl
theorem zi_67_120 : z_ins 67 120 = some (.putfield 72, 3) := by decide +kernel
theorem ze_67_120 : z_T g d 67 120 ls (.ref b :: .ref a :: st) h P = z_pF h.1 a 9 8 (.ref b) (fun f => z_T g d 67 123 ls st (f, h.2) P) := zt_put zi_67_120 ((congrArg (fun o => z_fl o 72) zo_67).trans zf_LatinRectangles_72) (by decide +kernel) rfl rfl
theorem zi_67_123 : z_ins 67 123 = some (.aload_n 0, 1) := by decide +kernel
theorem ze_67_123 : z_T g d 67 123 (.ref a :: ls) st h P = z_T g d 67 124 (.ref a :: ls) (.ref a :: st) h P := zt_aloadn zi_67_123 rfl rfl
theorem zi_67_124 : z_ins 67 124 = some (.iconst 5, 1) := by decide +kernel
theorem ze_67_124 : z_T g d 67 124 ls st h P = z_T g d 67 125 ls (.int (nI 5) :: st) h P := zt_iconst zi_67_124 rfl
theorem zi_67_125 : z_ins 67 125 = some (.newarray .int, 2) := by decide +kernel
theorem ze_67_125 : z_T g d 67 125 ls (.int x :: st) h P = z_nA h .int x (fun q h' => z_T g d 67 127 ls (.ref q :: st) h' P) := zt_newarray zi_67_125
theorem zi_67_127 : z_ins 67 127 = some (.putfield 76, 3) := by decide +kernel
theorem ze_67_127 : z_T g d 67 127 ls (.ref b :: .ref a :: st) h P = z_pF h.1 a 9 9 (.ref b) (fun f => z_T g d 67 130 ls st (f, h.2) P) := zt_put zi_67_127 ((congrArg (fun o => z_fl o 76) zo_67).trans zf_LatinRectangles_76) (by decide +kernel) rfl rfl
theorem zi_67_130 : z_ins 67 130 = some (.aload_n 0, 1) := by decide +kernel
theorem ze_67_130 : z_T g d 67 130 (.ref a :: ls) st h P = z_T g d 67 131 (.ref a :: ls) (.ref a :: st) h P := zt_aloadn zi_67_130 rfl rfl
theorem zi_67_131 : z_ins 67 131 = some (.iconst (-1), 1) := by decide +kernel
theorem ze_67_131 : z_T g d 67 131 ls st h P = z_T g d 67 132 ls (.int (-1) :: st) h P := zt_iconst zi_67_131 rfl
theorem zi_67_132 : z_ins 67 132 = some (.putfield 80, 3) := by decide +kernel
theorem ze_67_132 : z_T g d 67 132 ls (.int x :: .ref a :: st) h P = z_pF h.1 a 9 10 (.int x) (fun f => z_T g d 67 135 ls st (f, h.2) P) := zt_put zi_67_132 ((congrArg (fun o => z_fl o 80) zo_67).trans zf_LatinRectangles_80) (by decide +kernel) rfl rfl
theorem zi_67_135 : z_ins 67 135 = some (.return_, 1) := by decide +kernel
theorem ze_67_135 : z_T g d 67 135 ls [] h P = P (.inr none, h) := zt_return zi_67_135 zr_67
-- LatinRectangles.append(IIIII)I
theorem zm_68 : z_maxL 68 = 6 := by decide +kernel
theorem zh_68 : z_hds 68 = [] := by decide +kernel
theorem zj_68 : z_jdk 68 = false := by decide +kernel
theorem zr_68 : z_rt 68 = (some .int) := by decide +kernel
theorem zn_68 : z_Ca g d 68 [.ref a0, .int x1, .int x2, .int x3, .int x4, .int x5] h P = z_T g d 68 0 [.ref a0, .int x1, .int x2, .int x3, .int x4, .int x5] [] h P := z_Ca_ent zm_68 rfl rfl
theorem zi_68_0 : z_ins 68 0 = some (.aload_n 0, 1) := by decide +kernel
theorem ze_68_0 : z_T g d 68 0 (.ref a :: ls) st h P = z_T g d 68 1 (.ref a :: ls) (.ref a :: st) h P := zt_aloadn zi_68_0 rfl rfl
theorem zi_68_1 : z_ins 68 1 = some (.getfield 19, 3) := by decide +kernel
theorem ze_68_1 : z_T g d 68 1 ls (.ref a :: st) h P = z_gR h.1 a 9 1 (fun x => z_T g d 68 4 ls (x :: st) h P) := zt_getR zi_68_1 ((congrArg (fun o => z_fl o 19) zo_68).trans zf_LatinRectangles_19)
theorem zi_68_4 : z_ins 68 4 = some (.getfield 84, 3) := by decide +kernel
theorem ze_68_4 : z_T g d 68 4 ls (.ref a :: st) h P = z_gI h.1 a 7 1 (fun x => z_T g d 68 7 ls (.int x :: st) h P) := zt_getI zi_68_4 ((congrArg (fun o => z_fl o 84) zo_68).trans zf_LatinRectangles_84)
theorem zi_68_7 : z_ins 68 7 = some (.bipush 20, 2) := by decide +kernel
theorem ze_68_7 : z_T g d 68 7 ls st h P = z_T g d 68 9 ls (.int (nI 20) :: st) h P := zt_bipush zi_68_7 rfl
theorem zi_68_9 : z_ins 68 9 = some (.iadd, 1) := by decide +kernel
theorem ze_68_9 : z_T g d 68 9 ls (.int y :: .int x :: st) h P = z_T g d 68 10 ls (.int (x + y) :: st) h P := zt_bin (f := fun x y => x + y) zi_68_9 rfl (fun _ _ _ => rfl)
theorem zi_68_10 : z_ins 68 10 = some (.sipush 500, 3) := by decide +kernel
theorem ze_68_10 : z_T g d 68 10 ls st h P = z_T g d 68 13 ls (.int (nI 500) :: st) h P := zt_sipush zi_68_10 rfl
theorem zi_68_13 : z_ins 68 13 = some (.if_icmp .le 5, 3) := by decide +kernel
theorem ze_68_13 : z_T g d 68 13 ls (.int y :: .int x :: st) h P = (if y < x then z_T g d 68 16 ls st h P else z_T g d 68 18 ls st h P) := zt_icmple zi_68_13 (by decide)
theorem zi_68_16 : z_ins 68 16 = some (.iconst (-1), 1) := by decide +kernel
theorem ze_68_16 : z_T g d 68 16 ls st h P = z_T g d 68 17 ls (.int (-1) :: st) h P := zt_iconst zi_68_16 rfl
theorem zi_68_17 : z_ins 68 17 = some (.ireturn, 1) := by decide +kernel
theorem ze_68_17 : z_T g d 68 17 ls [.int x] h P = P (.inr (some (.int x)), h) := zt_ireturn zi_68_17 zr_68
theorem zi_68_18 : z_ins 68 18 = some (.aload_n 0, 1) := by decide +kernel
theorem ze_68_18 : z_T g d 68 18 (.ref a :: ls) st h P = z_T g d 68 19 (.ref a :: ls) (.ref a :: st) h P := zt_aloadn zi_68_18 rfl rfl
theorem zi_68_19 : z_ins 68 19 = some (.getfield 19, 3) := by decide +kernel
theorem ze_68_19 : z_T g d 68 19 ls (.ref a :: st) h P = z_gR h.1 a 9 1 (fun x => z_T g d 68 22 ls (x :: st) h P) := zt_getR zi_68_19 ((congrArg (fun o => z_fl o 19) zo_68).trans zf_LatinRectangles_19)
theorem zi_68_22 : z_ins 68 22 = some (.iload_n 1, 1) := by decide +kernel
theorem ze_68_22 : z_T g d 68 22 (v0 :: .int x :: ls) st h P = z_T g d 68 23 (v0 :: .int x :: ls) (.int x :: st) h P := zt_iloadn zi_68_22 rfl rfl
theorem zi_68_23 : z_ins 68 23 = some (.invokevirtual 87, 3) := by decide +kernel
theorem ze_68_23 : z_T g d 68 23 ls (.int x0 :: .ref a :: st) h P = ((z_okS 8 st = true ∧ z_gO h.1 a 7 ∧ 0 < d) ∧ z_Ca g (d - 1) 54 [.ref a, .int x0] h (fun r => z_k r (fun v h' => z_T g d 68 26 ls (z_push v st) h' P) P)) := zt_cV (as := [.int x0]) (kk := 0) zi_68_23 rfl (zt_call zj_68 zh_68) (z_opV ((congrArg (fun o => z_lookup z_cns (o, 87)) zo_68).trans zq_cns_LatinRectangles_87) ((congrArg (fun o => z_lookup z_prs (o, 87)) zo_68).trans zq_prs_LatinRectangles_87)) ((congrArg (fun o => z_clk o 87) zo_68).trans zk_LatinRectangles_87) rfl rfl rfl rfl (z_rcv0 zc_54)
theorem zi_68_26 : z_ins 68 26 = some (.aload_n 0, 1) := by decide +kernel
theorem ze_68_26 : z_T g d 68 26 (.ref a :: ls) st h P = z_T g d 68 27 (.ref a :: ls) (.ref a :: st) h P := zt_aloadn zi_68_26 rfl rfl
theorem zi_68_27 : z_ins 68 27 = some (.getfield 19, 3) := by decide +kernel
theorem ze_68_27 : z_T g d 68 27 ls (.ref a :: st) h P = z_gR h.1 a 9 1 (fun x => z_T g d 68 30 ls (x :: st) h P) := zt_getR zi_68_27 ((congrArg (fun o => z_fl o 19) zo_68).trans zf_LatinRectangles_19)
theorem zi_68_30 : z_ins 68 30 = some (.iload_n 2, 1) := by decide +kernel
theorem ze_68_30 : z_T g d 68 30 (v0 :: v1 :: .int x :: ls) st h P = z_T g d 68 31 (v0 :: v1 :: .int x :: ls) (.int x :: st) h P := zt_iloadn zi_68_30 rfl rfl
theorem zi_68_31 : z_ins 68 31 = some (.invokevirtual 87, 3) := by decide +kernel
theorem ze_68_31 : z_T g d 68 31 ls (.int x0 :: .ref a :: st) h P = ((z_okS 8 st = true ∧ z_gO h.1 a 7 ∧ 0 < d) ∧ z_Ca g (d - 1) 54 [.ref a, .int x0] h (fun r => z_k r (fun v h' => z_T g d 68 34 ls (z_push v st) h' P) P)) := zt_cV (as := [.int x0]) (kk := 0) zi_68_31 rfl (zt_call zj_68 zh_68) (z_opV ((congrArg (fun o => z_lookup z_cns (o, 87)) zo_68).trans zq_cns_LatinRectangles_87) ((congrArg (fun o => z_lookup z_prs (o, 87)) zo_68).trans zq_prs_LatinRectangles_87)) ((congrArg (fun o => z_clk o 87) zo_68).trans zk_LatinRectangles_87) rfl rfl rfl rfl (z_rcv0 zc_54)
theorem zi_68_34 : z_ins 68 34 = some (.aload_n 0, 1) := by decide +kernel
theorem ze_68_34 : z_T g d 68 34 (.ref a :: ls) st h P = z_T g d 68 35 (.ref a :: ls) (.ref a :: st) h P := zt_aloadn zi_68_34 rfl rfl
theorem zi_68_35 : z_ins 68 35 = some (.getfield 19, 3) := by decide +kernel
theorem ze_68_35 : z_T g d 68 35 ls (.ref a :: st) h P = z_gR h.1 a 9 1 (fun x => z_T g d 68 38 ls (x :: st) h P) := zt_getR zi_68_35 ((congrArg (fun o => z_fl o 19) zo_68).trans zf_LatinRectangles_19)
theorem zi_68_38 : z_ins 68 38 = some (.iload_n 3, 1) := by decide +kernel
theorem ze_68_38 : z_T g d 68 38 (v0 :: v1 :: v2 :: .int x :: ls) st h P = z_T g d 68 39 (v0 :: v1 :: v2 :: .int x :: ls) (.int x :: st) h P := zt_iloadn zi_68_38 rfl rfl
theorem zi_68_39 : z_ins 68 39 = some (.invokevirtual 87, 3) := by decide +kernel
theorem ze_68_39 : z_T g d 68 39 ls (.int x0 :: .ref a :: st) h P = ((z_okS 8 st = true ∧ z_gO h.1 a 7 ∧ 0 < d) ∧ z_Ca g (d - 1) 54 [.ref a, .int x0] h (fun r => z_k r (fun v h' => z_T g d 68 42 ls (z_push v st) h' P) P)) := zt_cV (as := [.int x0]) (kk := 0) zi_68_39 rfl (zt_call zj_68 zh_68) (z_opV ((congrArg (fun o => z_lookup z_cns (o, 87)) zo_68).trans zq_cns_LatinRectangles_87) ((congrArg (fun o => z_lookup z_prs (o, 87)) zo_68).trans zq_prs_LatinRectangles_87)) ((congrArg (fun o => z_clk o 87) zo_68).trans zk_LatinRectangles_87) rfl rfl rfl rfl (z_rcv0 zc_54)
theorem zi_68_42 : z_ins 68 42 = some (.aload_n 0, 1) := by decide +kernel
theorem ze_68_42 : z_T g d 68 42 (.ref a :: ls) st h P = z_T g d 68 43 (.ref a :: ls) (.ref a :: st) h P := zt_aloadn zi_68_42 rfl rfl
theorem zi_68_43 : z_ins 68 43 = some (.getfield 19, 3) := by decide +kernel
theorem ze_68_43 : z_T g d 68 43 ls (.ref a :: st) h P = z_gR h.1 a 9 1 (fun x => z_T g d 68 46 ls (x :: st) h P) := zt_getR zi_68_43 ((congrArg (fun o => z_fl o 19) zo_68).trans zf_LatinRectangles_19)
theorem zi_68_46 : z_ins 68 46 = some (.iload 4, 2) := by decide +kernel
theorem ze_68_46 : z_T g d 68 46 (v0 :: v1 :: v2 :: v3 :: .int x :: ls) st h P = z_T g d 68 48 (v0 :: v1 :: v2 :: v3 :: .int x :: ls) (.int x :: st) h P := zt_iload zi_68_46 rfl
theorem zi_68_48 : z_ins 68 48 = some (.invokevirtual 87, 3) := by decide +kernel
theorem ze_68_48 : z_T g d 68 48 ls (.int x0 :: .ref a :: st) h P = ((z_okS 8 st = true ∧ z_gO h.1 a 7 ∧ 0 < d) ∧ z_Ca g (d - 1) 54 [.ref a, .int x0] h (fun r => z_k r (fun v h' => z_T g d 68 51 ls (z_push v st) h' P) P)) := zt_cV (as := [.int x0]) (kk := 0) zi_68_48 rfl (zt_call zj_68 zh_68) (z_opV ((congrArg (fun o => z_lookup z_cns (o, 87)) zo_68).trans zq_cns_LatinRectangles_87) ((congrArg (fun o => z_lookup z_prs (o, 87)) zo_68).trans zq_prs_LatinRectangles_87)) ((congrArg (fun o => z_clk o 87) zo_68).trans zk_LatinRectangles_87) rfl rfl rfl rfl (z_rcv0 zc_54)
theorem zi_68_51 : z_ins 68 51 = some (.aload_n 0, 1) := by decide +kernel
theorem ze_68_51 : z_T g d 68 51 (.ref a :: ls) st h P = z_T g d 68 52 (.ref a :: ls) (.ref a :: st) h P := zt_aloadn zi_68_51 rfl rfl
theorem zi_68_52 : z_ins 68 52 = some (.getfield 19, 3) := by decide +kernel
theorem ze_68_52 : z_T g d 68 52 ls (.ref a :: st) h P = z_gR h.1 a 9 1 (fun x => z_T g d 68 55 ls (x :: st) h P) := zt_getR zi_68_52 ((congrArg (fun o => z_fl o 19) zo_68).trans zf_LatinRectangles_19)
theorem zi_68_55 : z_ins 68 55 = some (.iload 5, 2) := by decide +kernel
theorem ze_68_55 : z_T g d 68 55 (v0 :: v1 :: v2 :: v3 :: v4 :: .int x :: ls) st h P = z_T g d 68 57 (v0 :: v1 :: v2 :: v3 :: v4 :: .int x :: ls) (.int x :: st) h P := zt_iload zi_68_55 rfl
theorem zi_68_57 : z_ins 68 57 = some (.invokevirtual 87, 3) := by decide +kernel
theorem ze_68_57 : z_T g d 68 57 ls (.int x0 :: .ref a :: st) h P = ((z_okS 8 st = true ∧ z_gO h.1 a 7 ∧ 0 < d) ∧ z_Ca g (d - 1) 54 [.ref a, .int x0] h (fun r => z_k r (fun v h' => z_T g d 68 60 ls (z_push v st) h' P) P)) := zt_cV (as := [.int x0]) (kk := 0) zi_68_57 rfl (zt_call zj_68 zh_68) (z_opV ((congrArg (fun o => z_lookup z_cns (o, 87)) zo_68).trans zq_cns_LatinRectangles_87) ((congrArg (fun o => z_lookup z_prs (o, 87)) zo_68).trans zq_prs_LatinRectangles_87)) ((congrArg (fun o => z_clk o 87) zo_68).trans zk_LatinRectangles_87) rfl rfl rfl rfl (z_rcv0 zc_54)
theorem zi_68_60 : z_ins 68 60 = some (.aload_n 0, 1) := by decide +kernel
theorem ze_68_60 : z_T g d 68 60 (.ref a :: ls) st h P = z_T g d 68 61 (.ref a :: ls) (.ref a :: st) h P := zt_aloadn zi_68_60 rfl rfl
theorem zi_68_61 : z_ins 68 61 = some (.getfield 19, 3) := by decide +kernel
theorem ze_68_61 : z_T g d 68 61 ls (.ref a :: st) h P = z_gR h.1 a 9 1 (fun x => z_T g d 68 64 ls (x :: st) h P) := zt_getR zi_68_61 ((congrArg (fun o => z_fl o 19) zo_68).trans zf_LatinRectangles_19)
theorem zi_68_64 : z_ins 68 64 = some (.getfield 84, 3) := by decide +kernel
theorem ze_68_64 : z_T g d 68 64 ls (.ref a :: st) h P = z_gI h.1 a 7 1 (fun x => z_T g d 68 67 ls (.int x :: st) h P) := zt_getI zi_68_64 ((congrArg (fun o => z_fl o 84) zo_68).trans zf_LatinRectangles_84)
theorem zi_68_67 : z_ins 68 67 = some (.ireturn, 1) := by decide +kernel
theorem ze_68_67 : z_T g d 68 67 ls [.int x] h P = P (.inr (some (.int x)), h) := zt_ireturn zi_68_67 zr_68
-- LatinRectangles.parse(I)I
theorem zm_69 : z_maxL 69 = 3 := by decide +kernel
theorem zh_69 : z_hds 69 = [] := by decide +kernel
theorem zj_69 : z_jdk 69 = false := by decide +kernel
theorem zr_69 : z_rt 69 = (some .int) := by decide +kernel
theorem zn_69 : z_Ca g d 69 [.ref a0, .int x1] h P = z_T g d 69 0 [.ref a0, .int x1, z_un] [] h P := z_Ca_ent zm_69 rfl rfl
theorem zi_69_0 : z_ins 69 0 = some (.iload_n 1, 1) := by decide +kernel
theorem ze_69_0 : z_T g d 69 0 (v0 :: .int x :: ls) st h P = z_T g d 69 1 (v0 :: .int x :: ls) (.int x :: st) h P := zt_iloadn zi_69_0 rfl rfl
theorem zi_69_1 : z_ins 69 1 = some (.ifCond .lt 14, 3) := by decide +kernel
theorem ze_69_1 : z_T g d 69 1 ls (.int x :: st) h P = (if x < nI 0 then z_T g d 69 15 ls st h P else z_T g d 69 4 ls st h P) := zt_iflt zi_69_1 (by decide)
theorem zi_69_4 : z_ins 69 4 = some (.iload_n 1, 1) := by decide +kernel
theorem ze_69_4 : z_T g d 69 4 (v0 :: .int x :: ls) st h P = z_T g d 69 5 (v0 :: .int x :: ls) (.int x :: st) h P := zt_iloadn zi_69_4 rfl rfl
theorem zi_69_5 : z_ins 69 5 = some (.aload_n 0, 1) := by decide +kernel
theorem ze_69_5 : z_T g d 69 5 (.ref a :: ls) st h P = z_T g d 69 6 (.ref a :: ls) (.ref a :: st) h P := zt_aloadn zi_69_5 rfl rfl
theorem zi_69_6 : z_ins 69 6 = some (.getfield 19, 3) := by decide +kernel
theorem ze_69_6 : z_T g d 69 6 ls (.ref a :: st) h P = z_gR h.1 a 9 1 (fun x => z_T g d 69 9 ls (x :: st) h P) := zt_getR zi_69_6 ((congrArg (fun o => z_fl o 19) zo_69).trans zf_LatinRectangles_19)
theorem zi_69_9 : z_ins 69 9 = some (.getfield 84, 3) := by decide +kernel
theorem ze_69_9 : z_T g d 69 9 ls (.ref a :: st) h P = z_gI h.1 a 7 1 (fun x => z_T g d 69 12 ls (.int x :: st) h P) := zt_getI zi_69_9 ((congrArg (fun o => z_fl o 84) zo_69).trans zf_LatinRectangles_84)
theorem zi_69_12 : z_ins 69 12 = some (.if_icmp .le 13, 3) := by decide +kernel
theorem ze_69_12 : z_T g d 69 12 ls (.int y :: .int x :: st) h P = (if y < x then z_T g d 69 15 ls st h P else z_T g d 69 25 ls st h P) := zt_icmple zi_69_12 (by decide)
theorem zi_69_15 : z_ins 69 15 = some (.new 91, 3) := by decide +kernel
theorem ze_69_15 : z_T g d 69 15 ls [] h P = P (.inl "java/lang/IllegalArgumentException", (h.1, h.2.1.map (· + 1), h.2.2.1 + 1, h.2.2.2 + 6)) := zt_throwN zi_69_15 (by decide +kernel) (by decide +kernel) zh_69
theorem zi_69_25 : z_ins 69 25 = some (.aload_n 0, 1) := by decide +kernel
theorem ze_69_25 : z_T g d 69 25 (.ref a :: ls) st h P = z_T g d 69 26 (.ref a :: ls) (.ref a :: st) h P := zt_aloadn zi_69_25 rfl rfl
theorem zi_69_26 : z_ins 69 26 = some (.getfield 28, 3) := by decide +kernel
theorem ze_69_26 : z_T g d 69 26 ls (.ref a :: st) h P = z_gR h.1 a 9 2 (fun x => z_T g d 69 29 ls (x :: st) h P) := zt_getR zi_69_26 ((congrArg (fun o => z_fl o 28) zo_69).trans zf_LatinRectangles_28)
theorem zi_69_29 : z_ins 69 29 = some (.iload_n 1, 1) := by decide +kernel
theorem ze_69_29 : z_T g d 69 29 (v0 :: .int x :: ls) st h P = z_T g d 69 30 (v0 :: .int x :: ls) (.int x :: st) h P := zt_iloadn zi_69_29 rfl rfl
theorem zi_69_30 : z_ins 69 30 = some (.invokevirtual 98, 3) := by decide +kernel
theorem ze_69_30 : z_T g d 69 30 ls (.int x0 :: .ref a :: st) h P = ((z_okS 8 st = true ∧ z_gO h.1 a 5 ∧ 0 < d) ∧ z_Ca g (d - 1) 42 [.ref a, .int x0] h (fun r => z_k r (fun v h' => z_T g d 69 33 ls (z_push v st) h' P) P)) := zt_cV (as := [.int x0]) (kk := 0) zi_69_30 rfl (zt_call zj_69 zh_69) (z_opV ((congrArg (fun o => z_lookup z_cns (o, 98)) zo_69).trans zq_cns_LatinRectangles_98) ((congrArg (fun o => z_lookup z_prs (o, 98)) zo_69).trans zq_prs_LatinRectangles_98)) ((congrArg (fun o => z_clk o 98) zo_69).trans zk_LatinRectangles_98) rfl rfl rfl rfl (z_rcv0 zc_42)
theorem zi_69_33 : z_ins 69 33 = some (.istore_n 2, 1) := by decide +kernel
theorem ze_69_33 : z_T g d 69 33 (v0 :: v1 :: v2 :: ls) (.int x :: st) h P = z_T g d 69 34 (v0 :: v1 :: .int x :: ls) st h P := zt_istoren zi_69_33 rfl (Nat.le_add_left 3 _)
theorem zi_69_34 : z_ins 69 34 = some (.aload_n 0, 1) := by decide +kernel
theorem ze_69_34 : z_T g d 69 34 (.ref a :: ls) st h P = z_T g d 69 35 (.ref a :: ls) (.ref a :: st) h P := zt_aloadn zi_69_34 rfl rfl
theorem zi_69_35 : z_ins 69 35 = some (.getfield 19, 3) := by decide +kernel
theorem ze_69_35 : z_T g d 69 35 ls (.ref a :: st) h P = z_gR h.1 a 9 1 (fun x => z_T g d 69 38 ls (x :: st) h P) := zt_getR zi_69_35 ((congrArg (fun o => z_fl o 19) zo_69).trans zf_LatinRectangles_19)
theorem zi_69_38 : z_ins 69 38 = some (.iconst 0, 1) := by decide +kernel
theorem ze_69_38 : z_T g d 69 38 ls st h P = z_T g d 69 39 ls (.int (nI 0) :: st) h P := zt_iconst zi_69_38 rfl
theorem zi_69_39 : z_ins 69 39 = some (.putfield 84, 3) := by decide +kernel
theorem ze_69_39 : z_T g d 69 39 ls (.int x :: .ref a :: st) h P = z_pF h.1 a 7 1 (.int x) (fun f => z_T g d 69 42 ls st (f, h.2) P) := zt_put zi_69_39 ((congrArg (fun o => z_fl o 84) zo_69).trans zf_LatinRectangles_84) (by decide +kernel) rfl rfl
theorem zi_69_42 : z_ins 69 42 = some (.iload_n 2, 1) := by decide +kernel
theorem ze_69_42 : z_T g d 69 42 (v0 :: v1 :: .int x :: ls) st h P = z_T g d 69 43 (v0 :: v1 :: .int x :: ls) (.int x :: st) h P := zt_iloadn zi_69_42 rfl rfl
theorem zi_69_43 : z_ins 69 43 = some (.ifCond .ne 22, 3) := by decide +kernel
theorem ze_69_43 : z_T g d 69 43 ls (.int x :: st) h P = (if x = nI 0 then z_T g d 69 46 ls st h P else z_T g d 69 65 ls st h P) := zt_ifne zi_69_43 (by decide)
theorem zi_69_46 : z_ins 69 46 = some (.aload_n 0, 1) := by decide +kernel
theorem ze_69_46 : z_T g d 69 46 (.ref a :: ls) st h P = z_T g d 69 47 (.ref a :: ls) (.ref a :: st) h P := zt_aloadn zi_69_46 rfl rfl
theorem zi_69_47 : z_ins 69 47 = some (.aload_n 0, 1) := by decide +kernel
theorem ze_69_47 : z_T g d 69 47 (.ref a :: ls) st h P = z_T g d 69 48 (.ref a :: ls) (.ref a :: st) h P := zt_aloadn zi_69_47 rfl rfl
theorem zi_69_48 : z_ins 69 48 = some (.getfield 28, 3) := by decide +kernel
theorem ze_69_48 : z_T g d 69 48 ls (.ref a :: st) h P = z_gR h.1 a 9 2 (fun x => z_T g d 69 51 ls (x :: st) h P) := zt_getR zi_69_48 ((congrArg (fun o => z_fl o 28) zo_69).trans zf_LatinRectangles_28)
theorem zi_69_51 : z_ins 69 51 = some (.getfield 102, 3) := by decide +kernel
theorem ze_69_51 : z_T g d 69 51 ls (.ref a :: st) h P = z_gI h.1 a 5 3 (fun x => z_T g d 69 54 ls (.int x :: st) h P) := zt_getI zi_69_51 ((congrArg (fun o => z_fl o 102) zo_69).trans zf_LatinRectangles_102)
theorem zi_69_54 : z_ins 69 54 = some (.putfield 80, 3) := by decide +kernel
theorem ze_69_54 : z_T g d 69 54 ls (.int x :: .ref a :: st) h P = z_pF h.1 a 9 10 (.int x) (fun f => z_T g d 69 57 ls st (f, h.2) P) := zt_put zi_69_54 ((congrArg (fun o => z_fl o 80) zo_69).trans zf_LatinRectangles_80) (by decide +kernel) rfl rfl
theorem zi_69_57 : z_ins 69 57 = some (.aload_n 0, 1) := by decide +kernel
theorem ze_69_57 : z_T g d 69 57 (.ref a :: ls) st h P = z_T g d 69 58 (.ref a :: ls) (.ref a :: st) h P := zt_aloadn zi_69_57 rfl rfl
theorem zi_69_58 : z_ins 69 58 = some (.getfield 28, 3) := by decide +kernel
theorem ze_69_58 : z_T g d 69 58 ls (.ref a :: st) h P = z_gR h.1 a 9 2 (fun x => z_T g d 69 61 ls (x :: st) h P) := zt_getR zi_69_58 ((congrArg (fun o => z_fl o 28) zo_69).trans zf_LatinRectangles_28)
theorem zi_69_61 : z_ins 69 61 = some (.getfield 105, 3) := by decide +kernel
theorem ze_69_61 : z_T g d 69 61 ls (.ref a :: st) h P = z_gI h.1 a 5 2 (fun x => z_T g d 69 64 ls (.int x :: st) h P) := zt_getI zi_69_61 ((congrArg (fun o => z_fl o 105) zo_69).trans zf_LatinRectangles_105)
theorem zi_69_64 : z_ins 69 64 = some (.ireturn, 1) := by decide +kernel
theorem ze_69_64 : z_T g d 69 64 ls [.int x] h P = P (.inr (some (.int x)), h) := zt_ireturn zi_69_64 zr_69
theorem zi_69_65 : z_ins 69 65 = some (.aload_n 0, 1) := by decide +kernel
theorem ze_69_65 : z_T g d 69 65 (.ref a :: ls) st h P = z_T g d 69 66 (.ref a :: ls) (.ref a :: st) h P := zt_aloadn zi_69_65 rfl rfl
theorem zi_69_66 : z_ins 69 66 = some (.iconst (-1), 1) := by decide +kernel
theorem ze_69_66 : z_T g d 69 66 ls st h P = z_T g d 69 67 ls (.int (-1) :: st) h P := zt_iconst zi_69_66 rfl
theorem zi_69_67 : z_ins 69 67 = some (.putfield 80, 3) := by decide +kernel
theorem ze_69_67 : z_T g d 69 67 ls (.int x :: .ref a :: st) h P = z_pF h.1 a 9 10 (.int x) (fun f => z_T g d 69 70 ls st (f, h.2) P) := zt_put zi_69_67 ((congrArg (fun o => z_fl o 80) zo_69).trans zf_LatinRectangles_80) (by decide +kernel) rfl rfl
theorem zi_69_70 : z_ins 69 70 = some (.aload_n 0, 1) := by decide +kernel
theorem ze_69_70 : z_T g d 69 70 (.ref a :: ls) st h P = z_T g d 69 71 (.ref a :: ls) (.ref a :: st) h P := zt_aloadn zi_69_70 rfl rfl
theorem zi_69_71 : z_ins 69 71 = some (.getfield 12, 3) := by decide +kernel
theorem ze_69_71 : z_T g d 69 71 ls (.ref a :: st) h P = z_gR h.1 a 9 0 (fun x => z_T g d 69 74 ls (x :: st) h P) := zt_getR zi_69_71 ((congrArg (fun o => z_fl o 12) zo_69).trans zf_LatinRectangles_12)
theorem zi_69_74 : z_ins 69 74 = some (.aload_n 0, 1) := by decide +kernel
theorem ze_69_74 : z_T g d 69 74 (.ref a :: ls) st h P = z_T g d 69 75 (.ref a :: ls) (.ref a :: st) h P := zt_aloadn zi_69_74 rfl rfl
theorem zi_69_75 : z_ins 69 75 = some (.getfield 28, 3) := by decide +kernel
theorem ze_69_75 : z_T g d 69 75 ls (.ref a :: st) h P = z_gR h.1 a 9 2 (fun x => z_T g d 69 78 ls (x :: st) h P) := zt_getR zi_69_75 ((congrArg (fun o => z_fl o 28) zo_69).trans zf_LatinRectangles_28)
theorem zi_69_78 : z_ins 69 78 = some (.getfield 108, 3) := by decide +kernel
theorem ze_69_78 : z_T g d 69 78 ls (.ref a :: st) h P = z_gR h.1 a 5 1 (fun x => z_T g d 69 81 ls (x :: st) h P) := zt_getR zi_69_78 ((congrArg (fun o => z_fl o 108) zo_69).trans zf_LatinRectangles_108)
theorem zi_69_81 : z_ins 69 81 = some (.invokevirtual 111, 3) := by decide +kernel
theorem ze_69_81 : z_T g d 69 81 ls (.ref a0 :: .ref a :: st) h P = ((z_okS 8 st = true ∧ z_gO h.1 a 3 ∧ 0 < d) ∧ z_Ca g (d - 1) 26 [.ref a, .ref a0] h (fun r => z_k r (fun v h' => z_T g d 69 84 ls (z_push v st) h' P) P)) := zt_cV (as := [.ref a0]) (kk := 0) zi_69_81 rfl (zt_call zj_69 zh_69) (z_opV ((congrArg (fun o => z_lookup z_cns (o, 111)) zo_69).trans zq_cns_LatinRectangles_111) ((congrArg (fun o => z_lookup z_prs (o, 111)) zo_69).trans zq_prs_LatinRectangles_111)) ((congrArg (fun o => z_clk o 111) zo_69).trans zk_LatinRectangles_111) rfl rfl rfl rfl (z_rcv0 zc_26)
theorem zi_69_84 : z_ins 69 84 = some (.aload_n 0, 1) := by decide +kernel
theorem ze_69_84 : z_T g d 69 84 (.ref a :: ls) st h P = z_T g d 69 85 (.ref a :: ls) (.ref a :: st) h P := zt_aloadn zi_69_84 rfl rfl
theorem zi_69_85 : z_ins 69 85 = some (.getfield 65, 3) := by decide +kernel
theorem ze_69_85 : z_T g d 69 85 ls (.ref a :: st) h P = z_gR h.1 a 9 7 (fun x => z_T g d 69 88 ls (x :: st) h P) := zt_getR zi_69_85 ((congrArg (fun o => z_fl o 65) zo_69).trans zf_LatinRectangles_65)
theorem zi_69_88 : z_ins 69 88 = some (.invokevirtual 114, 3) := by decide +kernel
theorem ze_69_88 : z_T g d 69 88 ls (.ref a :: st) h P = ((z_okS 8 st = true ∧ z_gO h.1 a 4 ∧ 0 < d) ∧ z_Ca g (d - 1) 39 [.ref a] h (fun r => z_k r (fun v h' => z_T g d 69 91 ls (z_push v st) h' P) P)) := zt_cV (as := []) (kk := 0) zi_69_88 rfl (zt_call zj_69 zh_69) (z_opV ((congrArg (fun o => z_lookup z_cns (o, 114)) zo_69).trans zq_cns_LatinRectangles_114) ((congrArg (fun o => z_lookup z_prs (o, 114)) zo_69).trans zq_prs_LatinRectangles_114)) ((congrArg (fun o => z_clk o 114) zo_69).trans zk_LatinRectangles_114) rfl rfl rfl rfl (z_rcv0 zc_39)
theorem zi_69_91 : z_ins 69 91 = some (.aload_n 0, 1) := by decide +kernel
theorem ze_69_91 : z_T g d 69 91 (.ref a :: ls) st h P = z_T g d 69 92 (.ref a :: ls) (.ref a :: st) h P := zt_aloadn zi_69_91 rfl rfl
theorem zi_69_92 : z_ins 69 92 = some (.getfield 72, 3) := by decide +kernel
theorem ze_69_92 : z_T g d 69 92 ls (.ref a :: st) h P = z_gR h.1 a 9 8 (fun x => z_T g d 69 95 ls (x :: st) h P) := zt_getR zi_69_92 ((congrArg (fun o => z_fl o 72) zo_69).trans zf_LatinRectangles_72)
theorem zi_69_95 : z_ins 69 95 = some (.invokevirtual 117, 3) := by decide +kernel
theorem ze_69_95 : z_T g d 69 95 ls (.ref a :: st) h P = ((z_okS 8 st = true ∧ z_gO h.1 a 6 ∧ 0 < d) ∧ z_Ca g (d - 1) 52 [.ref a] h (fun r => z_k r (fun v h' => z_T g d 69 98 ls (z_push v st) h' P) P)) := zt_cV (as := []) (kk := 0) zi_69_95 rfl (zt_call zj_69 zh_69) (z_opV ((congrArg (fun o => z_lookup z_cns (o, 117)) zo_69).trans zq_cns_LatinRectangles_117) ((congrArg (fun o => z_lookup z_prs (o, 117)) zo_69).trans zq_prs_LatinRectangles_117)) ((congrArg (fun o => z_clk o 117) zo_69).trans zk_LatinRectangles_117) rfl rfl rfl rfl (z_rcv0 zc_52)
theorem zi_69_98 : z_ins 69 98 = some (.iconst 0, 1) := by decide +kernel
theorem ze_69_98 : z_T g d 69 98 ls st h P = z_T g d 69 99 ls (.int (nI 0) :: st) h P := zt_iconst zi_69_98 rfl
theorem zi_69_99 : z_ins 69 99 = some (.ireturn, 1) := by decide +kernel
theorem ze_69_99 : z_T g d 69 99 ls [.int x] h P = P (.inr (some (.int x)), h) := zt_ireturn zi_69_99 zr_69
-- LatinRectangles.size(I)I
theorem zm_70 : z_maxL 70 = 2 := by decide +kernel
theorem zh_70 : z_hds 70 = [] := by decide +kernel
theorem zj_70 : z_jdk 70 = false := by decide +kernel
theorem zr_70 : z_rt 70 = (some .int) := by decide +kernel
theorem zn_70 : z_Ca g d 70 [.ref a0, .int x1] h P = z_T g d 70 0 [.ref a0, .int x1] [] h P := z_Ca_ent zm_70 rfl rfl
theorem zi_70_0 : z_ins 70 0 = some (.iload_n 1, 1) := by decide +kernel
theorem ze_70_0 : z_T g d 70 0 (v0 :: .int x :: ls) st h P = z_T g d 70 1 (v0 :: .int x :: ls) (.int x :: st) h P := zt_iloadn zi_70_0 rfl rfl
theorem zi_70_1 : z_ins 70 1 = some (.bipush 6, 2) := by decide +kernel
theorem ze_70_1 : z_T g d 70 1 ls st h P = z_T g d 70 3 ls (.int (nI 6) :: st) h P := zt_bipush zi_70_1 rfl
theorem zi_70_3 : z_ins 70 3 = some (.invokestatic 118, 3) := by decide +kernel
theorem ze_70_3 : z_T g d 70 3 ls (.int x1 :: .int x0 :: st) h P = ((z_okS 8 st = true ∧ 0 < d) ∧ z_Ca g (d - 1) 92 [.int x0, .int x1] h (fun r => z_k r (fun v h' => z_T g d 70 6 ls (z_push v st) h' P) P)) := zt_cS (as := [.int x0, .int x1]) (kk := 1) zi_70_3 rfl (zt_call zj_70 zh_70) (z_opT ((congrArg (fun o => z_lookup z_cps (o, 118)) zo_70).trans zq_cps_LatinRectangles_118) ((congrArg (fun o => z_lookup z_prs (o, 118)) zo_70).trans zq_prs_LatinRectangles_118)) ((congrArg (fun o => z_clk o 118) zo_70).trans zk_LatinRectangles_118) rfl rfl rfl rfl rfl
theorem zi_70_6 : z_ins 70 6 = some (.iload_n 1, 1) := by decide +kernel
theorem ze_70_6 : z_T g d 70 6 (v0 :: .int x :: ls) st h P = z_T g d 70 7 (v0 :: .int x :: ls) (.int x :: st) h P := zt_iloadn zi_70_6 rfl rfl
theorem zi_70_7 : z_ins 70 7 = some (.tableswitch 85 0 5 #[37, 45, 53, 61, 69, 77], 37) := by decide +kernel
theorem ze_70_7_0 : z_T g d 70 7 ls (.int (nI 0) :: st) h P = z_T g d 70 44 ls st h P := zt_swIn zi_70_7 (by decide) (by decide) rfl (by decide)
theorem ze_70_7_1 : z_T g d 70 7 ls (.int (nI 1) :: st) h P = z_T g d 70 52 ls st h P := zt_swIn zi_70_7 (by decide) (by decide) rfl (by decide)
theorem ze_70_7_2 : z_T g d 70 7 ls (.int (nI 2) :: st) h P = z_T g d 70 60 ls st h P := zt_swIn zi_70_7 (by decide) (by decide) rfl (by decide)
theorem ze_70_7_3 : z_T g d 70 7 ls (.int (nI 3) :: st) h P = z_T g d 70 68 ls st h P := zt_swIn zi_70_7 (by decide) (by decide) rfl (by decide)
theorem ze_70_7_4 : z_T g d 70 7 ls (.int (nI 4) :: st) h P = z_T g d 70 76 ls st h P := zt_swIn zi_70_7 (by decide) (by decide) rfl (by decide)
theorem ze_70_7_5 : z_T g d 70 7 ls (.int (nI 5) :: st) h P = z_T g d 70 84 ls st h P := zt_swIn zi_70_7 (by decide) (by decide) rfl (by decide)
theorem ze_70_7_6 : z_T g d 70 7 ls (.int (nI 6) :: st) h P = z_T g d 70 92 ls st h P := zt_swOut zi_70_7 (by decide) (by decide)
theorem ze_70_7_7 : z_T g d 70 7 ls (.int (nI 7) :: st) h P = z_T g d 70 92 ls st h P := zt_swOut zi_70_7 (by decide) (by decide)
theorem zi_70_44 : z_ins 70 44 = some (.aload_n 0, 1) := by decide +kernel
theorem ze_70_44 : z_T g d 70 44 (.ref a :: ls) st h P = z_T g d 70 45 (.ref a :: ls) (.ref a :: st) h P := zt_aloadn zi_70_44 rfl rfl
theorem zi_70_45 : z_ins 70 45 = some (.getfield 12, 3) := by decide +kernel
theorem ze_70_45 : z_T g d 70 45 ls (.ref a :: st) h P = z_gR h.1 a 9 0 (fun x => z_T g d 70 48 ls (x :: st) h P) := zt_getR zi_70_45 ((congrArg (fun o => z_fl o 12) zo_70).trans zf_LatinRectangles_12)
theorem zi_70_48 : z_ins 70 48 = some (.getfield 122, 3) := by decide +kernel
theorem ze_70_48 : z_T g d 70 48 ls (.ref a :: st) h P = z_gI h.1 a 3 5 (fun x => z_T g d 70 51 ls (.int x :: st) h P) := zt_getI zi_70_48 ((congrArg (fun o => z_fl o 122) zo_70).trans zf_LatinRectangles_122)
theorem zi_70_51 : z_ins 70 51 = some (.ireturn, 1) := by decide +kernel
theorem ze_70_51 : z_T g d 70 51 ls [.int x] h P = P (.inr (some (.int x)), h) := zt_ireturn zi_70_51 zr_70
theorem zi_70_52 : z_ins 70 52 = some (.aload_n 0, 1) := by decide +kernel
theorem ze_70_52 : z_T g d 70 52 (.ref a :: ls) st h P = z_T g d 70 53 (.ref a :: ls) (.ref a :: st) h P := zt_aloadn zi_70_52 rfl rfl
theorem zi_70_53 : z_ins 70 53 = some (.getfield 12, 3) := by decide +kernel
theorem ze_70_53 : z_T g d 70 53 ls (.ref a :: st) h P = z_gR h.1 a 9 0 (fun x => z_T g d 70 56 ls (x :: st) h P) := zt_getR zi_70_53 ((congrArg (fun o => z_fl o 12) zo_70).trans zf_LatinRectangles_12)
theorem zi_70_56 : z_ins 70 56 = some (.getfield 125, 3) := by decide +kernel
theorem ze_70_56 : z_T g d 70 56 ls (.ref a :: st) h P = z_gI h.1 a 3 6 (fun x => z_T g d 70 59 ls (.int x :: st) h P) := zt_getI zi_70_56 ((congrArg (fun o => z_fl o 125) zo_70).trans zf_LatinRectangles_125)
theorem zi_70_59 : z_ins 70 59 = some (.ireturn, 1) := by decide +kernel
theorem ze_70_59 : z_T g d 70 59 ls [.int x] h P = P (.inr (some (.int x)), h) := zt_ireturn zi_70_59 zr_70
theorem zi_70_60 : z_ins 70 60 = some (.aload_n 0, 1) := by decide +kernel
theorem ze_70_60 : z_T g d 70 60 (.ref a :: ls) st h P = z_T g d 70 61 (.ref a :: ls) (.ref a :: st) h P := zt_aloadn zi_70_60 rfl rfl
theorem zi_70_61 : z_ins 70 61 = some (.getfield 12, 3) := by decide +kernel
theorem ze_70_61 : z_T g d 70 61 ls (.ref a :: st) h P = z_gR h.1 a 9 0 (fun x => z_T g d 70 64 ls (x :: st) h P) := zt_getR zi_70_61 ((congrArg (fun o => z_fl o 12) zo_70).trans zf_LatinRectangles_12)
theorem zi_70_64 : z_ins 70 64 = some (.getfield 128, 3) := by decide +kernel
theorem ze_70_64 : z_T g d 70 64 ls (.ref a :: st) h P = z_gI h.1 a 3 7 (fun x => z_T g d 70 67 ls (.int x :: st) h P) := zt_getI zi_70_64 ((congrArg (fun o => z_fl o 128) zo_70).trans zf_LatinRectangles_128)
theorem zi_70_67 : z_ins 70 67 = some (.ireturn, 1) := by decide +kernel
theorem ze_70_67 : z_T g d 70 67 ls [.int x] h P = P (.inr (some (.int x)), h) := zt_ireturn zi_70_67 zr_70
theorem zi_70_68 : z_ins 70 68 = some (.aload_n 0, 1) := by decide +kernel
theorem ze_70_68 : z_T g d 70 68 (.ref a :: ls) st h P = z_T g d 70 69 (.ref a :: ls) (.ref a :: st) h P := zt_aloadn zi_70_68 rfl rfl
theorem zi_70_69 : z_ins 70 69 = some (.getfield 12, 3) := by decide +kernel
theorem ze_70_69 : z_T g d 70 69 ls (.ref a :: st) h P = z_gR h.1 a 9 0 (fun x => z_T g d 70 72 ls (x :: st) h P) := zt_getR zi_70_69 ((congrArg (fun o => z_fl o 12) zo_70).trans zf_LatinRectangles_12)
theorem zi_70_72 : z_ins 70 72 = some (.getfield 131, 3) := by decide +kernel
theorem ze_70_72 : z_T g d 70 72 ls (.ref a :: st) h P = z_gI h.1 a 3 8 (fun x => z_T g d 70 75 ls (.int x :: st) h P) := zt_getI zi_70_72 ((congrArg (fun o => z_fl o 131) zo_70).trans zf_LatinRectangles_131)
theorem zi_70_75 : z_ins 70 75 = some (.ireturn, 1) := by decide +kernel
theorem ze_70_75 : z_T g d 70 75 ls [.int x] h P = P (.inr (some (.int x)), h) := zt_ireturn zi_70_75 zr_70
theorem zi_70_76 : z_ins 70 76 = some (.aload_n 0, 1) := by decide +kernel
theorem ze_70_76 : z_T g d 70 76 (.ref a :: ls) st h P = z_T g d 70 77 (.ref a :: ls) (.ref a :: st) h P := zt_aloadn zi_70_76 rfl rfl
theorem zi_70_77 : z_ins 70 77 = some (.getfield 12, 3) := by decide +kernel
theorem ze_70_77 : z_T g d 70 77 ls (.ref a :: st) h P = z_gR h.1 a 9 0 (fun x => z_T g d 70 80 ls (x :: st) h P) := zt_getR zi_70_77 ((congrArg (fun o => z_fl o 12) zo_70).trans zf_LatinRectangles_12)
theorem zi_70_80 : z_ins 70 80 = some (.getfield 134, 3) := by decide +kernel
theorem ze_70_80 : z_T g d 70 80 ls (.ref a :: st) h P = z_gI h.1 a 3 9 (fun x => z_T g d 70 83 ls (.int x :: st) h P) := zt_getI zi_70_80 ((congrArg (fun o => z_fl o 134) zo_70).trans zf_LatinRectangles_134)
theorem zi_70_83 : z_ins 70 83 = some (.ireturn, 1) := by decide +kernel
theorem ze_70_83 : z_T g d 70 83 ls [.int x] h P = P (.inr (some (.int x)), h) := zt_ireturn zi_70_83 zr_70
theorem zi_70_84 : z_ins 70 84 = some (.aload_n 0, 1) := by decide +kernel
theorem ze_70_84 : z_T g d 70 84 (.ref a :: ls) st h P = z_T g d 70 85 (.ref a :: ls) (.ref a :: st) h P := zt_aloadn zi_70_84 rfl rfl
theorem zi_70_85 : z_ins 70 85 = some (.getfield 12, 3) := by decide +kernel
theorem ze_70_85 : z_T g d 70 85 ls (.ref a :: st) h P = z_gR h.1 a 9 0 (fun x => z_T g d 70 88 ls (x :: st) h P) := zt_getR zi_70_85 ((congrArg (fun o => z_fl o 12) zo_70).trans zf_LatinRectangles_12)
theorem zi_70_88 : z_ins 70 88 = some (.invokevirtual 137, 3) := by decide +kernel
theorem ze_70_88 : z_T g d 70 88 ls (.ref a :: st) h P = ((z_okS 8 st = true ∧ z_gO h.1 a 3 ∧ 0 < d) ∧ z_Ca g (d - 1) 37 [.ref a] h (fun r => z_k r (fun v h' => z_T g d 70 91 ls (z_push v st) h' P) P)) := zt_cV (as := []) (kk := 0) zi_70_88 rfl (zt_call zj_70 zh_70) (z_opV ((congrArg (fun o => z_lookup z_cns (o, 137)) zo_70).trans zq_cns_LatinRectangles_137) ((congrArg (fun o => z_lookup z_prs (o, 137)) zo_70).trans zq_prs_LatinRectangles_137)) ((congrArg (fun o => z_clk o 137) zo_70).trans zk_LatinRectangles_137) rfl rfl rfl rfl (z_rcv0 zc_37)
theorem zi_70_91 : z_ins 70 91 = some (.ireturn, 1) := by decide +kernel
theorem ze_70_91 : z_T g d 70 91 ls [.int x] h P = P (.inr (some (.int x)), h) := zt_ireturn zi_70_91 zr_70
theorem zi_70_92 : z_ins 70 92 = some (.aload_n 0, 1) := by decide +kernel
theorem ze_70_92 : z_T g d 70 92 (.ref a :: ls) st h P = z_T g d 70 93 (.ref a :: ls) (.ref a :: st) h P := zt_aloadn zi_70_92 rfl rfl
theorem zi_70_93 : z_ins 70 93 = some (.getfield 12, 3) := by decide +kernel
theorem ze_70_93 : z_T g d 70 93 ls (.ref a :: st) h P = z_gR h.1 a 9 0 (fun x => z_T g d 70 96 ls (x :: st) h P) := zt_getR zi_70_93 ((congrArg (fun o => z_fl o 12) zo_70).trans zf_LatinRectangles_12)
theorem zi_70_96 : z_ins 70 96 = some (.invokevirtual 141, 3) := by decide +kernel
theorem ze_70_96 : z_T g d 70 96 ls (.ref a :: st) h P = ((z_okS 8 st = true ∧ z_gO h.1 a 3 ∧ 0 < d) ∧ z_Ca g (d - 1) 36 [.ref a] h (fun r => z_k r (fun v h' => z_T g d 70 99 ls (z_push v st) h' P) P)) := zt_cV (as := []) (kk := 0) zi_70_96 rfl (zt_call zj_70 zh_70) (z_opV ((congrArg (fun o => z_lookup z_cns (o, 141)) zo_70).trans zq_cns_LatinRectangles_141) ((congrArg (fun o => z_lookup z_prs (o, 141)) zo_70).trans zq_prs_LatinRectangles_141)) ((congrArg (fun o => z_clk o 141) zo_70).trans zk_LatinRectangles_141) rfl rfl rfl rfl (z_rcv0 zc_36)
theorem zi_70_99 : z_ins 70 99 = some (.ireturn, 1) := by decide +kernel
theorem ze_70_99 : z_T g d 70 99 ls [.int x] h P = P (.inr (some (.int x)), h) := zt_ireturn zi_70_99 zr_70
-- LatinRectangles.symbol(II)I
theorem zm_71 : z_maxL 71 = 3 := by decide +kernel
theorem zh_71 : z_hds 71 = [] := by decide +kernel
theorem zj_71 : z_jdk 71 = false := by decide +kernel
theorem zr_71 : z_rt 71 = (some .int) := by decide +kernel
theorem zn_71 : z_Ca g d 71 [.ref a0, .int x1, .int x2] h P = z_T g d 71 0 [.ref a0, .int x1, .int x2] [] h P := z_Ca_ent zm_71 rfl rfl
theorem zi_71_0 : z_ins 71 0 = some (.aload_n 0, 1) := by decide +kernel
theorem ze_71_0 : z_T g d 71 0 (.ref a :: ls) st h P = z_T g d 71 1 (.ref a :: ls) (.ref a :: st) h P := zt_aloadn zi_71_0 rfl rfl
theorem zi_71_1 : z_ins 71 1 = some (.iload_n 1, 1) := by decide +kernel
theorem ze_71_1 : z_T g d 71 1 (v0 :: .int x :: ls) st h P = z_T g d 71 2 (v0 :: .int x :: ls) (.int x :: st) h P := zt_iloadn zi_71_1 rfl rfl
theorem zi_71_2 : z_ins 71 2 = some (.iload_n 2, 1) := by decide +kernel
theorem ze_71_2 : z_T g d 71 2 (v0 :: v1 :: .int x :: ls) st h P = z_T g d 71 3 (v0 :: v1 :: .int x :: ls) (.int x :: st) h P := zt_iloadn zi_71_2 rfl rfl
theorem zi_71_3 : z_ins 71 3 = some (.invokevirtual 144, 3) := by decide +kernel
theorem ze_71_3 : z_T g d 71 3 ls (.int x1 :: .int x0 :: .ref a :: st) h P = ((z_okS 8 st = true ∧ z_gO h.1 a 9 ∧ 0 < d) ∧ z_Ca g (d - 1) 90 [.ref a, .int x0, .int x1] h (fun r => z_k r (fun v h' => z_T g d 71 6 ls (z_push v st) h' P) P)) := zt_cV (as := [.int x0, .int x1]) (kk := 0) zi_71_3 rfl (zt_call zj_71 zh_71) (z_opV ((congrArg (fun o => z_lookup z_cns (o, 144)) zo_71).trans zq_cns_LatinRectangles_144) ((congrArg (fun o => z_lookup z_prs (o, 144)) zo_71).trans zq_prs_LatinRectangles_144)) ((congrArg (fun o => z_clk o 144) zo_71).trans zk_LatinRectangles_144) rfl rfl rfl rfl (z_rcv0 zc_90)
theorem zi_71_6 : z_ins 71 6 = some (.aload_n 0, 1) := by decide +kernel
theorem ze_71_6 : z_T g d 71 6 (.ref a :: ls) st h P = z_T g d 71 7 (.ref a :: ls) (.ref a :: st) h P := zt_aloadn zi_71_6 rfl rfl
theorem zi_71_7 : z_ins 71 7 = some (.getfield 12, 3) := by decide +kernel
theorem ze_71_7 : z_T g d 71 7 ls (.ref a :: st) h P = z_gR h.1 a 9 0 (fun x => z_T g d 71 10 ls (x :: st) h P) := zt_getR zi_71_7 ((congrArg (fun o => z_fl o 12) zo_71).trans zf_LatinRectangles_12)
theorem zi_71_10 : z_ins 71 10 = some (.getfield 147, 3) := by decide +kernel
theorem ze_71_10 : z_T g d 71 10 ls (.ref a :: st) h P = z_gR h.1 a 3 0 (fun x => z_T g d 71 13 ls (x :: st) h P) := zt_getR zi_71_10 ((congrArg (fun o => z_fl o 147) zo_71).trans zf_LatinRectangles_147)
theorem zi_71_13 : z_ins 71 13 = some (.iload_n 1, 1) := by decide +kernel
theorem ze_71_13 : z_T g d 71 13 (v0 :: .int x :: ls) st h P = z_T g d 71 14 (v0 :: .int x :: ls) (.int x :: st) h P := zt_iloadn zi_71_13 rfl rfl
theorem zi_71_14 : z_ins 71 14 = some (.iconst 5, 1) := by decide +kernel
theorem ze_71_14 : z_T g d 71 14 ls st h P = z_T g d 71 15 ls (.int (nI 5) :: st) h P := zt_iconst zi_71_14 rfl
theorem zi_71_15 : z_ins 71 15 = some (.imul, 1) := by decide +kernel
theorem ze_71_15 : z_T g d 71 15 ls (.int y :: .int x :: st) h P = z_T g d 71 16 ls (.int (x * y) :: st) h P := zt_bin (f := fun x y => x * y) zi_71_15 rfl (fun _ _ _ => rfl)
theorem zi_71_16 : z_ins 71 16 = some (.iload_n 2, 1) := by decide +kernel
theorem ze_71_16 : z_T g d 71 16 (v0 :: v1 :: .int x :: ls) st h P = z_T g d 71 17 (v0 :: v1 :: .int x :: ls) (.int x :: st) h P := zt_iloadn zi_71_16 rfl rfl
theorem zi_71_17 : z_ins 71 17 = some (.iadd, 1) := by decide +kernel
theorem ze_71_17 : z_T g d 71 17 ls (.int y :: .int x :: st) h P = z_T g d 71 18 ls (.int (x + y) :: st) h P := zt_bin (f := fun x y => x + y) zi_71_17 rfl (fun _ _ _ => rfl)
theorem zi_71_18 : z_ins 71 18 = some (.iaload, 1) := by decide +kernel
theorem ze_71_18 : z_T g d 71 18 ls (.int x :: .ref a :: st) h P = z_aL h.1 a z_tI x (fun v => z_T g d 71 19 ls (.int v :: st) h P) := zt_iaload zi_71_18
theorem zi_71_19 : z_ins 71 19 = some (.ireturn, 1) := by decide +kernel
theorem ze_71_19 : z_T g d 71 19 ls [.int x] h P = P (.inr (some (.int x)), h) := zt_ireturn zi_71_19 zr_71
-- LatinRectangles.isGiven(II)Z
theorem zm_72 : z_maxL 72 = 3 := by decide +kernel
theorem zh_72 : z_hds 72 = [] := by decide +kernel
theorem zj_72 : z_jdk 72 = false := by decide +kernel
theorem zr_72 : z_rt 72 = (some .boolean) := by decide +kernel
theorem zn_72 : z_Ca g d 72 [.ref a0, .int x1, .int x2] h P = z_T g d 72 0 [.ref a0, .int x1, .int x2] [] h P := z_Ca_ent zm_72 rfl rfl
theorem zi_72_0 : z_ins 72 0 = some (.aload_n 0, 1) := by decide +kernel
theorem ze_72_0 : z_T g d 72 0 (.ref a :: ls) st h P = z_T g d 72 1 (.ref a :: ls) (.ref a :: st) h P := zt_aloadn zi_72_0 rfl rfl
theorem zi_72_1 : z_ins 72 1 = some (.iload_n 1, 1) := by decide +kernel
theorem ze_72_1 : z_T g d 72 1 (v0 :: .int x :: ls) st h P = z_T g d 72 2 (v0 :: .int x :: ls) (.int x :: st) h P := zt_iloadn zi_72_1 rfl rfl
theorem zi_72_2 : z_ins 72 2 = some (.iload_n 2, 1) := by decide +kernel
theorem ze_72_2 : z_T g d 72 2 (v0 :: v1 :: .int x :: ls) st h P = z_T g d 72 3 (v0 :: v1 :: .int x :: ls) (.int x :: st) h P := zt_iloadn zi_72_2 rfl rfl
theorem zi_72_3 : z_ins 72 3 = some (.invokevirtual 144, 3) := by decide +kernel
theorem ze_72_3 : z_T g d 72 3 ls (.int x1 :: .int x0 :: .ref a :: st) h P = ((z_okS 8 st = true ∧ z_gO h.1 a 9 ∧ 0 < d) ∧ z_Ca g (d - 1) 90 [.ref a, .int x0, .int x1] h (fun r => z_k r (fun v h' => z_T g d 72 6 ls (z_push v st) h' P) P)) := zt_cV (as := [.int x0, .int x1]) (kk := 0) zi_72_3 rfl (zt_call zj_72 zh_72) (z_opV ((congrArg (fun o => z_lookup z_cns (o, 144)) zo_72).trans zq_cns_LatinRectangles_144) ((congrArg (fun o => z_lookup z_prs (o, 144)) zo_72).trans zq_prs_LatinRectangles_144)) ((congrArg (fun o => z_clk o 144) zo_72).trans zk_LatinRectangles_144) rfl rfl rfl rfl (z_rcv0 zc_90)
theorem zi_72_6 : z_ins 72 6 = some (.aload_n 0, 1) := by decide +kernel
theorem ze_72_6 : z_T g d 72 6 (.ref a :: ls) st h P = z_T g d 72 7 (.ref a :: ls) (.ref a :: st) h P := zt_aloadn zi_72_6 rfl rfl
theorem zi_72_7 : z_ins 72 7 = some (.getfield 12, 3) := by decide +kernel
theorem ze_72_7 : z_T g d 72 7 ls (.ref a :: st) h P = z_gR h.1 a 9 0 (fun x => z_T g d 72 10 ls (x :: st) h P) := zt_getR zi_72_7 ((congrArg (fun o => z_fl o 12) zo_72).trans zf_LatinRectangles_12)
theorem zi_72_10 : z_ins 72 10 = some (.getfield 150, 3) := by decide +kernel
theorem ze_72_10 : z_T g d 72 10 ls (.ref a :: st) h P = z_gR h.1 a 3 1 (fun x => z_T g d 72 13 ls (x :: st) h P) := zt_getR zi_72_10 ((congrArg (fun o => z_fl o 150) zo_72).trans zf_LatinRectangles_150)
theorem zi_72_13 : z_ins 72 13 = some (.iload_n 1, 1) := by decide +kernel
theorem ze_72_13 : z_T g d 72 13 (v0 :: .int x :: ls) st h P = z_T g d 72 14 (v0 :: .int x :: ls) (.int x :: st) h P := zt_iloadn zi_72_13 rfl rfl
theorem zi_72_14 : z_ins 72 14 = some (.iconst 5, 1) := by decide +kernel
theorem ze_72_14 : z_T g d 72 14 ls st h P = z_T g d 72 15 ls (.int (nI 5) :: st) h P := zt_iconst zi_72_14 rfl
theorem zi_72_15 : z_ins 72 15 = some (.imul, 1) := by decide +kernel
theorem ze_72_15 : z_T g d 72 15 ls (.int y :: .int x :: st) h P = z_T g d 72 16 ls (.int (x * y) :: st) h P := zt_bin (f := fun x y => x * y) zi_72_15 rfl (fun _ _ _ => rfl)
theorem zi_72_16 : z_ins 72 16 = some (.iload_n 2, 1) := by decide +kernel
theorem ze_72_16 : z_T g d 72 16 (v0 :: v1 :: .int x :: ls) st h P = z_T g d 72 17 (v0 :: v1 :: .int x :: ls) (.int x :: st) h P := zt_iloadn zi_72_16 rfl rfl
theorem zi_72_17 : z_ins 72 17 = some (.iadd, 1) := by decide +kernel
theorem ze_72_17 : z_T g d 72 17 ls (.int y :: .int x :: st) h P = z_T g d 72 18 ls (.int (x + y) :: st) h P := zt_bin (f := fun x y => x + y) zi_72_17 rfl (fun _ _ _ => rfl)
theorem zi_72_18 : z_ins 72 18 = some (.baload, 1) := by decide +kernel
theorem ze_72_18 : z_T g d 72 18 ls (.int x :: .ref a :: st) h P = z_aL h.1 a z_tB x (fun v => z_T g d 72 19 ls (.int v :: st) h P) := zt_baload zi_72_18
theorem zi_72_19 : z_ins 72 19 = some (.ireturn, 1) := by decide +kernel
theorem ze_72_19 : z_T g d 72 19 ls [.int x] h P = ((x = nI 0 ∨ x = nI 1) ∧ P (.inr (some (.int x)), h)) := zt_zreturn zi_72_19 zr_72
-- LatinRectangles.candidates(II)I
theorem zm_73 : z_maxL 73 = 3 := by decide +kernel
theorem zh_73 : z_hds 73 = [] := by decide +kernel
theorem zj_73 : z_jdk 73 = false := by decide +kernel
theorem zr_73 : z_rt 73 = (some .int) := by decide +kernel
theorem zn_73 : z_Ca g d 73 [.ref a0, .int x1, .int x2] h P = z_T g d 73 0 [.ref a0, .int x1, .int x2] [] h P := z_Ca_ent zm_73 rfl rfl
theorem zi_73_0 : z_ins 73 0 = some (.aload_n 0, 1) := by decide +kernel
theorem ze_73_0 : z_T g d 73 0 (.ref a :: ls) st h P = z_T g d 73 1 (.ref a :: ls) (.ref a :: st) h P := zt_aloadn zi_73_0 rfl rfl
theorem zi_73_1 : z_ins 73 1 = some (.iload_n 1, 1) := by decide +kernel
theorem ze_73_1 : z_T g d 73 1 (v0 :: .int x :: ls) st h P = z_T g d 73 2 (v0 :: .int x :: ls) (.int x :: st) h P := zt_iloadn zi_73_1 rfl rfl
theorem zi_73_2 : z_ins 73 2 = some (.iload_n 2, 1) := by decide +kernel
theorem ze_73_2 : z_T g d 73 2 (v0 :: v1 :: .int x :: ls) st h P = z_T g d 73 3 (v0 :: v1 :: .int x :: ls) (.int x :: st) h P := zt_iloadn zi_73_2 rfl rfl
theorem zi_73_3 : z_ins 73 3 = some (.invokevirtual 144, 3) := by decide +kernel
theorem ze_73_3 : z_T g d 73 3 ls (.int x1 :: .int x0 :: .ref a :: st) h P = ((z_okS 8 st = true ∧ z_gO h.1 a 9 ∧ 0 < d) ∧ z_Ca g (d - 1) 90 [.ref a, .int x0, .int x1] h (fun r => z_k r (fun v h' => z_T g d 73 6 ls (z_push v st) h' P) P)) := zt_cV (as := [.int x0, .int x1]) (kk := 0) zi_73_3 rfl (zt_call zj_73 zh_73) (z_opV ((congrArg (fun o => z_lookup z_cns (o, 144)) zo_73).trans zq_cns_LatinRectangles_144) ((congrArg (fun o => z_lookup z_prs (o, 144)) zo_73).trans zq_prs_LatinRectangles_144)) ((congrArg (fun o => z_clk o 144) zo_73).trans zk_LatinRectangles_144) rfl rfl rfl rfl (z_rcv0 zc_90)
theorem zi_73_6 : z_ins 73 6 = some (.aload_n 0, 1) := by decide +kernel
theorem ze_73_6 : z_T g d 73 6 (.ref a :: ls) st h P = z_T g d 73 7 (.ref a :: ls) (.ref a :: st) h P := zt_aloadn zi_73_6 rfl rfl
theorem zi_73_7 : z_ins 73 7 = some (.getfield 12, 3) := by decide +kernel
theorem ze_73_7 : z_T g d 73 7 ls (.ref a :: st) h P = z_gR h.1 a 9 0 (fun x => z_T g d 73 10 ls (x :: st) h P) := zt_getR zi_73_7 ((congrArg (fun o => z_fl o 12) zo_73).trans zf_LatinRectangles_12)
theorem zi_73_10 : z_ins 73 10 = some (.iload_n 1, 1) := by decide +kernel
theorem ze_73_10 : z_T g d 73 10 (v0 :: .int x :: ls) st h P = z_T g d 73 11 (v0 :: .int x :: ls) (.int x :: st) h P := zt_iloadn zi_73_10 rfl rfl
theorem zi_73_11 : z_ins 73 11 = some (.iload_n 2, 1) := by decide +kernel
theorem ze_73_11 : z_T g d 73 11 (v0 :: v1 :: .int x :: ls) st h P = z_T g d 73 12 (v0 :: v1 :: .int x :: ls) (.int x :: st) h P := zt_iloadn zi_73_11 rfl rfl
theorem zi_73_12 : z_ins 73 12 = some (.invokevirtual 154, 3) := by decide +kernel
theorem ze_73_12 : z_T g d 73 12 ls (.int x1 :: .int x0 :: .ref a :: st) h P = ((z_okS 8 st = true ∧ z_gO h.1 a 3 ∧ 0 < d) ∧ z_Ca g (d - 1) 34 [.ref a, .int x0, .int x1] h (fun r => z_k r (fun v h' => z_T g d 73 15 ls (z_push v st) h' P) P)) := zt_cV (as := [.int x0, .int x1]) (kk := 0) zi_73_12 rfl (zt_call zj_73 zh_73) (z_opV ((congrArg (fun o => z_lookup z_cns (o, 154)) zo_73).trans zq_cns_LatinRectangles_154) ((congrArg (fun o => z_lookup z_prs (o, 154)) zo_73).trans zq_prs_LatinRectangles_154)) ((congrArg (fun o => z_clk o 154) zo_73).trans zk_LatinRectangles_154) rfl rfl rfl rfl (z_rcv0 zc_34)
theorem zi_73_15 : z_ins 73 15 = some (.ireturn, 1) := by decide +kernel
theorem ze_73_15 : z_T g d 73 15 ls [.int x] h P = P (.inr (some (.int x)), h) := zt_ireturn zi_73_15 zr_73
-- LatinRectangles.forcedCells()I
theorem zm_74 : z_maxL 74 = 1 := by decide +kernel
theorem zh_74 : z_hds 74 = [] := by decide +kernel
theorem zj_74 : z_jdk 74 = false := by decide +kernel
theorem zr_74 : z_rt 74 = (some .int) := by decide +kernel
theorem zn_74 : z_Ca g d 74 [.ref a0] h P = z_T g d 74 0 [.ref a0] [] h P := z_Ca_ent zm_74 rfl rfl
theorem zi_74_0 : z_ins 74 0 = some (.aload_n 0, 1) := by decide +kernel
theorem ze_74_0 : z_T g d 74 0 (.ref a :: ls) st h P = z_T g d 74 1 (.ref a :: ls) (.ref a :: st) h P := zt_aloadn zi_74_0 rfl rfl
theorem zi_74_1 : z_ins 74 1 = some (.getfield 37, 3) := by decide +kernel
theorem ze_74_1 : z_T g d 74 1 ls (.ref a :: st) h P = z_gR h.1 a 9 3 (fun x => z_T g d 74 4 ls (x :: st) h P) := zt_getR zi_74_1 ((congrArg (fun o => z_fl o 37) zo_74).trans zf_LatinRectangles_37)
theorem zi_74_4 : z_ins 74 4 = some (.invokevirtual 158, 3) := by decide +kernel
theorem ze_74_4 : z_T g d 74 4 ls (.ref a :: st) h P = ((z_okS 8 st = true ∧ z_gO h.1 a 2 ∧ 0 < d) ∧ z_Ca g (d - 1) 16 [.ref a] h (fun r => z_k r (fun v h' => z_T g d 74 7 ls (z_push v st) h' P) P)) := zt_cV (as := []) (kk := 0) zi_74_4 rfl (zt_call zj_74 zh_74) (z_opV ((congrArg (fun o => z_lookup z_cns (o, 158)) zo_74).trans zq_cns_LatinRectangles_158) ((congrArg (fun o => z_lookup z_prs (o, 158)) zo_74).trans zq_prs_LatinRectangles_158)) ((congrArg (fun o => z_clk o 158) zo_74).trans zk_LatinRectangles_158) rfl rfl rfl rfl (z_rcv0 zc_16)
theorem zi_74_7 : z_ins 74 7 = some (.ireturn, 1) := by decide +kernel
theorem ze_74_7 : z_T g d 74 7 ls [.int x] h P = P (.inr (some (.int x)), h) := zt_ireturn zi_74_7 zr_74
-- LatinRectangles.forced(II)I
theorem zm_75 : z_maxL 75 = 6 := by decide +kernel
theorem zh_75 : z_hds 75 = [] := by decide +kernel
theorem zj_75 : z_jdk 75 = false := by decide +kernel
theorem zr_75 : z_rt 75 = (some .int) := by decide +kernel
theorem zn_75 : z_Ca g d 75 [.ref a0, .int x1, .int x2] h P = z_T g d 75 0 [.ref a0, .int x1, .int x2, z_un, z_un, z_un] [] h P := z_Ca_ent zm_75 rfl rfl
theorem zi_75_0 : z_ins 75 0 = some (.iload_n 2, 1) := by decide +kernel
theorem ze_75_0 : z_T g d 75 0 (v0 :: v1 :: .int x :: ls) st h P = z_T g d 75 1 (v0 :: v1 :: .int x :: ls) (.int x :: st) h P := zt_iloadn zi_75_0 rfl rfl
theorem zi_75_1 : z_ins 75 1 = some (.iconst 3, 1) := by decide +kernel
theorem ze_75_1 : z_T g d 75 1 ls st h P = z_T g d 75 2 ls (.int (nI 3) :: st) h P := zt_iconst zi_75_1 rfl
theorem zi_75_2 : z_ins 75 2 = some (.invokestatic 118, 3) := by decide +kernel
theorem ze_75_2 : z_T g d 75 2 ls (.int x1 :: .int x0 :: st) h P = ((z_okS 8 st = true ∧ 0 < d) ∧ z_Ca g (d - 1) 92 [.int x0, .int x1] h (fun r => z_k r (fun v h' => z_T g d 75 5 ls (z_push v st) h' P) P)) := zt_cS (as := [.int x0, .int x1]) (kk := 1) zi_75_2 rfl (zt_call zj_75 zh_75) (z_opT ((congrArg (fun o => z_lookup z_cps (o, 118)) zo_75).trans zq_cps_LatinRectangles_118) ((congrArg (fun o => z_lookup z_prs (o, 118)) zo_75).trans zq_prs_LatinRectangles_118)) ((congrArg (fun o => z_clk o 118) zo_75).trans zk_LatinRectangles_118) rfl rfl rfl rfl rfl
theorem zi_75_5 : z_ins 75 5 = some (.aload_n 0, 1) := by decide +kernel
theorem ze_75_5 : z_T g d 75 5 (.ref a :: ls) st h P = z_T g d 75 6 (.ref a :: ls) (.ref a :: st) h P := zt_aloadn zi_75_5 rfl rfl
theorem zi_75_6 : z_ins 75 6 = some (.getfield 37, 3) := by decide +kernel
theorem ze_75_6 : z_T g d 75 6 ls (.ref a :: st) h P = z_gR h.1 a 9 3 (fun x => z_T g d 75 9 ls (x :: st) h P) := zt_getR zi_75_6 ((congrArg (fun o => z_fl o 37) zo_75).trans zf_LatinRectangles_37)
theorem zi_75_9 : z_ins 75 9 = some (.iload_n 1, 1) := by decide +kernel
theorem ze_75_9 : z_T g d 75 9 (v0 :: .int x :: ls) st h P = z_T g d 75 10 (v0 :: .int x :: ls) (.int x :: st) h P := zt_iloadn zi_75_9 rfl rfl
theorem zi_75_10 : z_ins 75 10 = some (.invokevirtual 161, 3) := by decide +kernel
theorem ze_75_10 : z_T g d 75 10 ls (.int x0 :: .ref a :: st) h P = ((z_okS 8 st = true ∧ z_gO h.1 a 2 ∧ 0 < d) ∧ z_Ca g (d - 1) 17 [.ref a, .int x0] h (fun r => z_k r (fun v h' => z_T g d 75 13 ls (z_push v st) h' P) P)) := zt_cV (as := [.int x0]) (kk := 0) zi_75_10 rfl (zt_call zj_75 zh_75) (z_opV ((congrArg (fun o => z_lookup z_cns (o, 161)) zo_75).trans zq_cns_LatinRectangles_161) ((congrArg (fun o => z_lookup z_prs (o, 161)) zo_75).trans zq_prs_LatinRectangles_161)) ((congrArg (fun o => z_clk o 161) zo_75).trans zk_LatinRectangles_161) rfl rfl rfl rfl (z_rcv0 zc_17)
theorem zi_75_13 : z_ins 75 13 = some (.istore_n 3, 1) := by decide +kernel
theorem ze_75_13 : z_T g d 75 13 (v0 :: v1 :: v2 :: v3 :: ls) (.int x :: st) h P = z_T g d 75 14 (v0 :: v1 :: v2 :: .int x :: ls) st h P := zt_istoren zi_75_13 rfl (Nat.le_add_left 4 _)
theorem zi_75_14 : z_ins 75 14 = some (.iload_n 3, 1) := by decide +kernel
theorem ze_75_14 : z_T g d 75 14 (v0 :: v1 :: v2 :: .int x :: ls) st h P = z_T g d 75 15 (v0 :: v1 :: v2 :: .int x :: ls) (.int x :: st) h P := zt_iloadn zi_75_14 rfl rfl
theorem zi_75_15 : z_ins 75 15 = some (.iconst (-1), 1) := by decide +kernel
theorem ze_75_15 : z_T g d 75 15 ls st h P = z_T g d 75 16 ls (.int (-1) :: st) h P := zt_iconst zi_75_15 rfl
theorem zi_75_16 : z_ins 75 16 = some (.if_icmp .ne 5, 3) := by decide +kernel
theorem ze_75_16 : z_T g d 75 16 ls (.int y :: .int x :: st) h P = (if x = y then z_T g d 75 19 ls st h P else z_T g d 75 21 ls st h P) := zt_icmpne zi_75_16 (by decide)
theorem zi_75_19 : z_ins 75 19 = some (.iconst (-1), 1) := by decide +kernel
theorem ze_75_19 : z_T g d 75 19 ls st h P = z_T g d 75 20 ls (.int (-1) :: st) h P := zt_iconst zi_75_19 rfl
theorem zi_75_20 : z_ins 75 20 = some (.ireturn, 1) := by decide +kernel
theorem ze_75_20 : z_T g d 75 20 ls [.int x] h P = P (.inr (some (.int x)), h) := zt_ireturn zi_75_20 zr_75
theorem zi_75_21 : z_ins 75 21 = some (.iload_n 3, 1) := by decide +kernel
theorem ze_75_21 : z_T g d 75 21 (v0 :: v1 :: v2 :: .int x :: ls) st h P = z_T g d 75 22 (v0 :: v1 :: v2 :: .int x :: ls) (.int x :: st) h P := zt_iloadn zi_75_21 rfl rfl
theorem zi_75_22 : z_ins 75 22 = some (.iconst 5, 1) := by decide +kernel
theorem ze_75_22 : z_T g d 75 22 ls st h P = z_T g d 75 23 ls (.int (nI 5) :: st) h P := zt_iconst zi_75_22 rfl
theorem zi_75_23 : z_ins 75 23 = some (.idiv, 1) := by decide +kernel
theorem ze_75_23 : z_T g d 75 23 ls (.int y :: .int x :: st) h P = (¬ y = nI 0 ∧ z_T g d 75 24 ls (.int (x / y) :: st) h P) := zt_idiv zi_75_23
theorem zi_75_24 : z_ins 75 24 = some (.istore 4, 2) := by decide +kernel
theorem ze_75_24 : z_T g d 75 24 (v0 :: v1 :: v2 :: v3 :: v4 :: ls) (.int x :: st) h P = z_T g d 75 26 (v0 :: v1 :: v2 :: v3 :: .int x :: ls) st h P := zt_istore zi_75_24 (Nat.le_add_left 5 _)
theorem zi_75_26 : z_ins 75 26 = some (.iload_n 3, 1) := by decide +kernel
theorem ze_75_26 : z_T g d 75 26 (v0 :: v1 :: v2 :: .int x :: ls) st h P = z_T g d 75 27 (v0 :: v1 :: v2 :: .int x :: ls) (.int x :: st) h P := zt_iloadn zi_75_26 rfl rfl
theorem zi_75_27 : z_ins 75 27 = some (.iconst 5, 1) := by decide +kernel
theorem ze_75_27 : z_T g d 75 27 ls st h P = z_T g d 75 28 ls (.int (nI 5) :: st) h P := zt_iconst zi_75_27 rfl
theorem zi_75_28 : z_ins 75 28 = some (.irem, 1) := by decide +kernel
theorem ze_75_28 : z_T g d 75 28 ls (.int y :: .int x :: st) h P = (¬ y = nI 0 ∧ z_T g d 75 29 ls (.int (x - x / y * y) :: st) h P) := zt_irem zi_75_28
theorem zi_75_29 : z_ins 75 29 = some (.istore 5, 2) := by decide +kernel
theorem ze_75_29 : z_T g d 75 29 (v0 :: v1 :: v2 :: v3 :: v4 :: v5 :: ls) (.int x :: st) h P = z_T g d 75 31 (v0 :: v1 :: v2 :: v3 :: v4 :: .int x :: ls) st h P := zt_istore zi_75_29 (Nat.le_add_left 6 _)
theorem zi_75_31 : z_ins 75 31 = some (.iload_n 2, 1) := by decide +kernel
theorem ze_75_31 : z_T g d 75 31 (v0 :: v1 :: .int x :: ls) st h P = z_T g d 75 32 (v0 :: v1 :: .int x :: ls) (.int x :: st) h P := zt_iloadn zi_75_31 rfl rfl
theorem zi_75_32 : z_ins 75 32 = some (.tableswitch 46 0 2 #[28, 31, 34], 28) := by decide +kernel
theorem ze_75_32_0 : z_T g d 75 32 ls (.int (nI 0) :: st) h P = z_T g d 75 60 ls st h P := zt_swIn zi_75_32 (by decide) (by decide) rfl (by decide)
theorem ze_75_32_1 : z_T g d 75 32 ls (.int (nI 1) :: st) h P = z_T g d 75 63 ls st h P := zt_swIn zi_75_32 (by decide) (by decide) rfl (by decide)
theorem ze_75_32_2 : z_T g d 75 32 ls (.int (nI 2) :: st) h P = z_T g d 75 66 ls st h P := zt_swIn zi_75_32 (by decide) (by decide) rfl (by decide)
theorem ze_75_32_3 : z_T g d 75 32 ls (.int (nI 3) :: st) h P = z_T g d 75 78 ls st h P := zt_swOut zi_75_32 (by decide) (by decide)
theorem ze_75_32_4 : z_T g d 75 32 ls (.int (nI 4) :: st) h P = z_T g d 75 78 ls st h P := zt_swOut zi_75_32 (by decide) (by decide)
theorem ze_75_32_5 : z_T g d 75 32 ls (.int (nI 5) :: st) h P = z_T g d 75 78 ls st h P := zt_swOut zi_75_32 (by decide) (by decide)
theorem ze_75_32_6 : z_T g d 75 32 ls (.int (nI 6) :: st) h P = z_T g d 75 78 ls st h P := zt_swOut zi_75_32 (by decide) (by decide)
theorem ze_75_32_7 : z_T g d 75 32 ls (.int (nI 7) :: st) h P = z_T g d 75 78 ls st h P := zt_swOut zi_75_32 (by decide) (by decide)
theorem zi_75_60 : z_ins 75 60 = some (.iload 4, 2) := by decide +kernel
theorem ze_75_60 : z_T g d 75 60 (v0 :: v1 :: v2 :: v3 :: .int x :: ls) st h P = z_T g d 75 62 (v0 :: v1 :: v2 :: v3 :: .int x :: ls) (.int x :: st) h P := zt_iload zi_75_60 rfl
theorem zi_75_62 : z_ins 75 62 = some (.ireturn, 1) := by decide +kernel
theorem ze_75_62 : z_T g d 75 62 ls [.int x] h P = P (.inr (some (.int x)), h) := zt_ireturn zi_75_62 zr_75
theorem zi_75_63 : z_ins 75 63 = some (.iload 5, 2) := by decide +kernel
theorem ze_75_63 : z_T g d 75 63 (v0 :: v1 :: v2 :: v3 :: v4 :: .int x :: ls) st h P = z_T g d 75 65 (v0 :: v1 :: v2 :: v3 :: v4 :: .int x :: ls) (.int x :: st) h P := zt_iload zi_75_63 rfl
theorem zi_75_65 : z_ins 75 65 = some (.ireturn, 1) := by decide +kernel
theorem ze_75_65 : z_T g d 75 65 ls [.int x] h P = P (.inr (some (.int x)), h) := zt_ireturn zi_75_65 zr_75
theorem zi_75_66 : z_ins 75 66 = some (.aload_n 0, 1) := by decide +kernel
theorem ze_75_66 : z_T g d 75 66 (.ref a :: ls) st h P = z_T g d 75 67 (.ref a :: ls) (.ref a :: st) h P := zt_aloadn zi_75_66 rfl rfl
theorem zi_75_67 : z_ins 75 67 = some (.getfield 37, 3) := by decide +kernel
theorem ze_75_67 : z_T g d 75 67 ls (.ref a :: st) h P = z_gR h.1 a 9 3 (fun x => z_T g d 75 70 ls (x :: st) h P) := zt_getR zi_75_67 ((congrArg (fun o => z_fl o 37) zo_75).trans zf_LatinRectangles_37)
theorem zi_75_70 : z_ins 75 70 = some (.iload 4, 2) := by decide +kernel
theorem ze_75_70 : z_T g d 75 70 (v0 :: v1 :: v2 :: v3 :: .int x :: ls) st h P = z_T g d 75 72 (v0 :: v1 :: v2 :: v3 :: .int x :: ls) (.int x :: st) h P := zt_iload zi_75_70 rfl
theorem zi_75_72 : z_ins 75 72 = some (.iload 5, 2) := by decide +kernel
theorem ze_75_72 : z_T g d 75 72 (v0 :: v1 :: v2 :: v3 :: v4 :: .int x :: ls) st h P = z_T g d 75 74 (v0 :: v1 :: v2 :: v3 :: v4 :: .int x :: ls) (.int x :: st) h P := zt_iload zi_75_72 rfl
theorem zi_75_74 : z_ins 75 74 = some (.invokevirtual 165, 3) := by decide +kernel
theorem ze_75_74 : z_T g d 75 74 ls (.int x1 :: .int x0 :: .ref a :: st) h P = ((z_okS 8 st = true ∧ z_gO h.1 a 2 ∧ 0 < d) ∧ z_Ca g (d - 1) 19 [.ref a, .int x0, .int x1] h (fun r => z_k r (fun v h' => z_T g d 75 77 ls (z_push v st) h' P) P)) := zt_cV (as := [.int x0, .int x1]) (kk := 0) zi_75_74 rfl (zt_call zj_75 zh_75) (z_opV ((congrArg (fun o => z_lookup z_cns (o, 165)) zo_75).trans zq_cns_LatinRectangles_165) ((congrArg (fun o => z_lookup z_prs (o, 165)) zo_75).trans zq_prs_LatinRectangles_165)) ((congrArg (fun o => z_clk o 165) zo_75).trans zk_LatinRectangles_165) rfl rfl rfl rfl (z_rcv0 zc_19)
theorem zi_75_77 : z_ins 75 77 = some (.ireturn, 1) := by decide +kernel
theorem ze_75_77 : z_T g d 75 77 ls [.int x] h P = P (.inr (some (.int x)), h) := zt_ireturn zi_75_77 zr_75
theorem zi_75_78 : z_ins 75 78 = some (.aload_n 0, 1) := by decide +kernel
theorem ze_75_78 : z_T g d 75 78 (.ref a :: ls) st h P = z_T g d 75 79 (.ref a :: ls) (.ref a :: st) h P := zt_aloadn zi_75_78 rfl rfl
theorem zi_75_79 : z_ins 75 79 = some (.getfield 37, 3) := by decide +kernel
theorem ze_75_79 : z_T g d 75 79 ls (.ref a :: st) h P = z_gR h.1 a 9 3 (fun x => z_T g d 75 82 ls (x :: st) h P) := zt_getR zi_75_79 ((congrArg (fun o => z_fl o 37) zo_75).trans zf_LatinRectangles_37)
theorem zi_75_82 : z_ins 75 82 = some (.iload 4, 2) := by decide +kernel
theorem ze_75_82 : z_T g d 75 82 (v0 :: v1 :: v2 :: v3 :: .int x :: ls) st h P = z_T g d 75 84 (v0 :: v1 :: v2 :: v3 :: .int x :: ls) (.int x :: st) h P := zt_iload zi_75_82 rfl
theorem zi_75_84 : z_ins 75 84 = some (.iload 5, 2) := by decide +kernel
theorem ze_75_84 : z_T g d 75 84 (v0 :: v1 :: v2 :: v3 :: v4 :: .int x :: ls) st h P = z_T g d 75 86 (v0 :: v1 :: v2 :: v3 :: v4 :: .int x :: ls) (.int x :: st) h P := zt_iload zi_75_84 rfl
theorem zi_75_86 : z_ins 75 86 = some (.invokevirtual 168, 3) := by decide +kernel
theorem ze_75_86 : z_T g d 75 86 ls (.int x1 :: .int x0 :: .ref a :: st) h P = ((z_okS 8 st = true ∧ z_gO h.1 a 2 ∧ 0 < d) ∧ z_Ca g (d - 1) 18 [.ref a, .int x0, .int x1] h (fun r => z_k r (fun v h' => z_T g d 75 89 ls (z_push v st) h' P) P)) := zt_cV (as := [.int x0, .int x1]) (kk := 0) zi_75_86 rfl (zt_call zj_75 zh_75) (z_opV ((congrArg (fun o => z_lookup z_cns (o, 168)) zo_75).trans zq_cns_LatinRectangles_168) ((congrArg (fun o => z_lookup z_prs (o, 168)) zo_75).trans zq_prs_LatinRectangles_168)) ((congrArg (fun o => z_clk o 168) zo_75).trans zk_LatinRectangles_168) rfl rfl rfl rfl (z_rcv0 zc_18)
theorem zi_75_89 : z_ins 75 89 = some (.ireturn, 1) := by decide +kernel
theorem ze_75_89 : z_T g d 75 89 ls [.int x] h P = P (.inr (some (.int x)), h) := zt_ireturn zi_75_89 zr_75
-- LatinRectangles.completions(I)I
theorem zm_76 : z_maxL 76 = 2 := by decide +kernel
theorem zh_76 : z_hds 76 = [] := by decide +kernel
theorem zj_76 : z_jdk 76 = false := by decide +kernel
theorem zr_76 : z_rt 76 = (some .int) := by decide +kernel
theorem zn_76 : z_Ca g d 76 [.ref a0, .int x1] h P = z_T g d 76 0 [.ref a0, .int x1] [] h P := z_Ca_ent zm_76 rfl rfl
theorem zi_76_0 : z_ins 76 0 = some (.iload_n 1, 1) := by decide +kernel
theorem ze_76_0 : z_T g d 76 0 (v0 :: .int x :: ls) st h P = z_T g d 76 1 (v0 :: .int x :: ls) (.int x :: st) h P := zt_iloadn zi_76_0 rfl rfl
theorem zi_76_1 : z_ins 76 1 = some (.iconst 1, 1) := by decide +kernel
theorem ze_76_1 : z_T g d 76 1 ls st h P = z_T g d 76 2 ls (.int (nI 1) :: st) h P := zt_iconst zi_76_1 rfl
theorem zi_76_2 : z_ins 76 2 = some (.if_icmp .lt 10, 3) := by decide +kernel
theorem ze_76_2 : z_T g d 76 2 ls (.int y :: .int x :: st) h P = (if x < y then z_T g d 76 12 ls st h P else z_T g d 76 5 ls st h P) := zt_icmplt zi_76_2 (by decide)
theorem zi_76_5 : z_ins 76 5 = some (.iload_n 1, 1) := by decide +kernel
theorem ze_76_5 : z_T g d 76 5 (v0 :: .int x :: ls) st h P = z_T g d 76 6 (v0 :: .int x :: ls) (.int x :: st) h P := zt_iloadn zi_76_5 rfl rfl
theorem zi_76_6 : z_ins 76 6 = some (.sipush 1000, 3) := by decide +kernel
theorem ze_76_6 : z_T g d 76 6 ls st h P = z_T g d 76 9 ls (.int (nI 1000) :: st) h P := zt_sipush zi_76_6 rfl
theorem zi_76_9 : z_ins 76 9 = some (.if_icmp .le 13, 3) := by decide +kernel
theorem ze_76_9 : z_T g d 76 9 ls (.int y :: .int x :: st) h P = (if y < x then z_T g d 76 12 ls st h P else z_T g d 76 22 ls st h P) := zt_icmple zi_76_9 (by decide)
theorem zi_76_12 : z_ins 76 12 = some (.new 91, 3) := by decide +kernel
theorem ze_76_12 : z_T g d 76 12 ls [] h P = P (.inl "java/lang/IllegalArgumentException", (h.1, h.2.1.map (· + 1), h.2.2.1 + 1, h.2.2.2 + 6)) := zt_throwN zi_76_12 (by decide +kernel) (by decide +kernel) zh_76
theorem zi_76_22 : z_ins 76 22 = some (.aload_n 0, 1) := by decide +kernel
theorem ze_76_22 : z_T g d 76 22 (.ref a :: ls) st h P = z_T g d 76 23 (.ref a :: ls) (.ref a :: st) h P := zt_aloadn zi_76_22 rfl rfl
theorem zi_76_23 : z_ins 76 23 = some (.getfield 44, 3) := by decide +kernel
theorem ze_76_23 : z_T g d 76 23 ls (.ref a :: st) h P = z_gR h.1 a 9 4 (fun x => z_T g d 76 26 ls (x :: st) h P) := zt_getR zi_76_23 ((congrArg (fun o => z_fl o 44) zo_76).trans zf_LatinRectangles_44)
theorem zi_76_26 : z_ins 76 26 = some (.iload_n 1, 1) := by decide +kernel
theorem ze_76_26 : z_T g d 76 26 (v0 :: .int x :: ls) st h P = z_T g d 76 27 (v0 :: .int x :: ls) (.int x :: st) h P := zt_iloadn zi_76_26 rfl rfl
theorem zi_76_27 : z_ins 76 27 = some (.invokevirtual 184, 3) := by decide +kernel
theorem ze_76_27 : z_T g d 76 27 ls (.int x0 :: .ref a :: st) h P = ((z_okS 8 st = true ∧ z_gO h.1 a 0 ∧ 0 < d) ∧ z_Ca g (d - 1) 1 [.ref a, .int x0] h (fun r => z_k r (fun v h' => z_T g d 76 30 ls (z_push v st) h' P) P)) := zt_cV (as := [.int x0]) (kk := 0) zi_76_27 rfl (zt_call zj_76 zh_76) (z_opV ((congrArg (fun o => z_lookup z_cns (o, 184)) zo_76).trans zq_cns_LatinRectangles_184) ((congrArg (fun o => z_lookup z_prs (o, 184)) zo_76).trans zq_prs_LatinRectangles_184)) ((congrArg (fun o => z_clk o 184) zo_76).trans zk_LatinRectangles_184) rfl rfl rfl rfl (z_rcv0 zc_1)
theorem zi_76_30 : z_ins 76 30 = some (.ireturn, 1) := by decide +kernel
theorem ze_76_30 : z_T g d 76 30 ls [.int x] h P = P (.inr (some (.int x)), h) := zt_ireturn zi_76_30 zr_76
-- LatinRectangles.completed(II)I
theorem zm_77 : z_maxL 77 = 3 := by decide +kernel
theorem zh_77 : z_hds 77 = [] := by decide +kernel
theorem zj_77 : z_jdk 77 = false := by decide +kernel
theorem zr_77 : z_rt 77 = (some .int) := by decide +kernel
theorem zn_77 : z_Ca g d 77 [.ref a0, .int x1, .int x2] h P = z_T g d 77 0 [.ref a0, .int x1, .int x2] [] h P := z_Ca_ent zm_77 rfl rfl
theorem zi_77_0 : z_ins 77 0 = some (.aload_n 0, 1) := by decide +kernel
theorem ze_77_0 : z_T g d 77 0 (.ref a :: ls) st h P = z_T g d 77 1 (.ref a :: ls) (.ref a :: st) h P := zt_aloadn zi_77_0 rfl rfl
theorem zi_77_1 : z_ins 77 1 = some (.iload_n 1, 1) := by decide +kernel
theorem ze_77_1 : z_T g d 77 1 (v0 :: .int x :: ls) st h P = z_T g d 77 2 (v0 :: .int x :: ls) (.int x :: st) h P := zt_iloadn zi_77_1 rfl rfl
theorem zi_77_2 : z_ins 77 2 = some (.iload_n 2, 1) := by decide +kernel
theorem ze_77_2 : z_T g d 77 2 (v0 :: v1 :: .int x :: ls) st h P = z_T g d 77 3 (v0 :: v1 :: .int x :: ls) (.int x :: st) h P := zt_iloadn zi_77_2 rfl rfl
theorem zi_77_3 : z_ins 77 3 = some (.invokevirtual 144, 3) := by decide +kernel
theorem ze_77_3 : z_T g d 77 3 ls (.int x1 :: .int x0 :: .ref a :: st) h P = ((z_okS 8 st = true ∧ z_gO h.1 a 9 ∧ 0 < d) ∧ z_Ca g (d - 1) 90 [.ref a, .int x0, .int x1] h (fun r => z_k r (fun v h' => z_T g d 77 6 ls (z_push v st) h' P) P)) := zt_cV (as := [.int x0, .int x1]) (kk := 0) zi_77_3 rfl (zt_call zj_77 zh_77) (z_opV ((congrArg (fun o => z_lookup z_cns (o, 144)) zo_77).trans zq_cns_LatinRectangles_144) ((congrArg (fun o => z_lookup z_prs (o, 144)) zo_77).trans zq_prs_LatinRectangles_144)) ((congrArg (fun o => z_clk o 144) zo_77).trans zk_LatinRectangles_144) rfl rfl rfl rfl (z_rcv0 zc_90)
theorem zi_77_6 : z_ins 77 6 = some (.aload_n 0, 1) := by decide +kernel
theorem ze_77_6 : z_T g d 77 6 (.ref a :: ls) st h P = z_T g d 77 7 (.ref a :: ls) (.ref a :: st) h P := zt_aloadn zi_77_6 rfl rfl
theorem zi_77_7 : z_ins 77 7 = some (.getfield 44, 3) := by decide +kernel
theorem ze_77_7 : z_T g d 77 7 ls (.ref a :: st) h P = z_gR h.1 a 9 4 (fun x => z_T g d 77 10 ls (x :: st) h P) := zt_getR zi_77_7 ((congrArg (fun o => z_fl o 44) zo_77).trans zf_LatinRectangles_44)
theorem zi_77_10 : z_ins 77 10 = some (.iload_n 1, 1) := by decide +kernel
theorem ze_77_10 : z_T g d 77 10 (v0 :: .int x :: ls) st h P = z_T g d 77 11 (v0 :: .int x :: ls) (.int x :: st) h P := zt_iloadn zi_77_10 rfl rfl
theorem zi_77_11 : z_ins 77 11 = some (.iload_n 2, 1) := by decide +kernel
theorem ze_77_11 : z_T g d 77 11 (v0 :: v1 :: .int x :: ls) st h P = z_T g d 77 12 (v0 :: v1 :: .int x :: ls) (.int x :: st) h P := zt_iloadn zi_77_11 rfl rfl
theorem zi_77_12 : z_ins 77 12 = some (.invokevirtual 186, 3) := by decide +kernel
theorem ze_77_12 : z_T g d 77 12 ls (.int x1 :: .int x0 :: .ref a :: st) h P = ((z_okS 8 st = true ∧ z_gO h.1 a 0 ∧ 0 < d) ∧ z_Ca g (d - 1) 2 [.ref a, .int x0, .int x1] h (fun r => z_k r (fun v h' => z_T g d 77 15 ls (z_push v st) h' P) P)) := zt_cV (as := [.int x0, .int x1]) (kk := 0) zi_77_12 rfl (zt_call zj_77 zh_77) (z_opV ((congrArg (fun o => z_lookup z_cns (o, 186)) zo_77).trans zq_cns_LatinRectangles_186) ((congrArg (fun o => z_lookup z_prs (o, 186)) zo_77).trans zq_prs_LatinRectangles_186)) ((congrArg (fun o => z_clk o 186) zo_77).trans zk_LatinRectangles_186) rfl rfl rfl rfl (z_rcv0 zc_2)
theorem zi_77_15 : z_ins 77 15 = some (.ireturn, 1) := by decide +kernel
theorem ze_77_15 : z_T g d 77 15 ls [.int x] h P = P (.inr (some (.int x)), h) := zt_ireturn zi_77_15 zr_77
-- LatinRectangles.possible(II)I
theorem zm_78 : z_maxL 78 = 3 := by decide +kernel
theorem zh_78 : z_hds 78 = [] := by decide +kernel
theorem zj_78 : z_jdk 78 = false := by decide +kernel
theorem zr_78 : z_rt 78 = (some .int) := by decide +kernel
theorem zn_78 : z_Ca g d 78 [.ref a0, .int x1, .int x2] h P = z_T g d 78 0 [.ref a0, .int x1, .int x2] [] h P := z_Ca_ent zm_78 rfl rfl
theorem zi_78_0 : z_ins 78 0 = some (.aload_n 0, 1) := by decide +kernel
theorem ze_78_0 : z_T g d 78 0 (.ref a :: ls) st h P = z_T g d 78 1 (.ref a :: ls) (.ref a :: st) h P := zt_aloadn zi_78_0 rfl rfl
theorem zi_78_1 : z_ins 78 1 = some (.iload_n 1, 1) := by decide +kernel
theorem ze_78_1 : z_T g d 78 1 (v0 :: .int x :: ls) st h P = z_T g d 78 2 (v0 :: .int x :: ls) (.int x :: st) h P := zt_iloadn zi_78_1 rfl rfl
theorem zi_78_2 : z_ins 78 2 = some (.iload_n 2, 1) := by decide +kernel
theorem ze_78_2 : z_T g d 78 2 (v0 :: v1 :: .int x :: ls) st h P = z_T g d 78 3 (v0 :: v1 :: .int x :: ls) (.int x :: st) h P := zt_iloadn zi_78_2 rfl rfl
theorem zi_78_3 : z_ins 78 3 = some (.invokevirtual 144, 3) := by decide +kernel
theorem ze_78_3 : z_T g d 78 3 ls (.int x1 :: .int x0 :: .ref a :: st) h P = ((z_okS 8 st = true ∧ z_gO h.1 a 9 ∧ 0 < d) ∧ z_Ca g (d - 1) 90 [.ref a, .int x0, .int x1] h (fun r => z_k r (fun v h' => z_T g d 78 6 ls (z_push v st) h' P) P)) := zt_cV (as := [.int x0, .int x1]) (kk := 0) zi_78_3 rfl (zt_call zj_78 zh_78) (z_opV ((congrArg (fun o => z_lookup z_cns (o, 144)) zo_78).trans zq_cns_LatinRectangles_144) ((congrArg (fun o => z_lookup z_prs (o, 144)) zo_78).trans zq_prs_LatinRectangles_144)) ((congrArg (fun o => z_clk o 144) zo_78).trans zk_LatinRectangles_144) rfl rfl rfl rfl (z_rcv0 zc_90)
theorem zi_78_6 : z_ins 78 6 = some (.aload_n 0, 1) := by decide +kernel
theorem ze_78_6 : z_T g d 78 6 (.ref a :: ls) st h P = z_T g d 78 7 (.ref a :: ls) (.ref a :: st) h P := zt_aloadn zi_78_6 rfl rfl
theorem zi_78_7 : z_ins 78 7 = some (.getfield 44, 3) := by decide +kernel
theorem ze_78_7 : z_T g d 78 7 ls (.ref a :: st) h P = z_gR h.1 a 9 4 (fun x => z_T g d 78 10 ls (x :: st) h P) := zt_getR zi_78_7 ((congrArg (fun o => z_fl o 44) zo_78).trans zf_LatinRectangles_44)
theorem zi_78_10 : z_ins 78 10 = some (.iload_n 1, 1) := by decide +kernel
theorem ze_78_10 : z_T g d 78 10 (v0 :: .int x :: ls) st h P = z_T g d 78 11 (v0 :: .int x :: ls) (.int x :: st) h P := zt_iloadn zi_78_10 rfl rfl
theorem zi_78_11 : z_ins 78 11 = some (.iload_n 2, 1) := by decide +kernel
theorem ze_78_11 : z_T g d 78 11 (v0 :: v1 :: .int x :: ls) st h P = z_T g d 78 12 (v0 :: v1 :: .int x :: ls) (.int x :: st) h P := zt_iloadn zi_78_11 rfl rfl
theorem zi_78_12 : z_ins 78 12 = some (.invokevirtual 189, 3) := by decide +kernel
theorem ze_78_12 : z_T g d 78 12 ls (.int x1 :: .int x0 :: .ref a :: st) h P = ((z_okS 8 st = true ∧ z_gO h.1 a 0 ∧ 0 < d) ∧ z_Ca g (d - 1) 3 [.ref a, .int x0, .int x1] h (fun r => z_k r (fun v h' => z_T g d 78 15 ls (z_push v st) h' P) P)) := zt_cV (as := [.int x0, .int x1]) (kk := 0) zi_78_12 rfl (zt_call zj_78 zh_78) (z_opV ((congrArg (fun o => z_lookup z_cns (o, 189)) zo_78).trans zq_cns_LatinRectangles_189) ((congrArg (fun o => z_lookup z_prs (o, 189)) zo_78).trans zq_prs_LatinRectangles_189)) ((congrArg (fun o => z_clk o 189) zo_78).trans zk_LatinRectangles_189) rfl rfl rfl rfl (z_rcv0 zc_3)
theorem zi_78_15 : z_ins 78 15 = some (.ireturn, 1) := by decide +kernel
theorem ze_78_15 : z_T g d 78 15 ls [.int x] h P = P (.inr (some (.int x)), h) := zt_ireturn zi_78_15 zr_78
-- LatinRectangles.transversals()I
theorem zm_79 : z_maxL 79 = 1 := by decide +kernel
theorem zh_79 : z_hds 79 = [] := by decide +kernel
theorem zj_79 : z_jdk 79 = false := by decide +kernel
theorem zr_79 : z_rt 79 = (some .int) := by decide +kernel
theorem zn_79 : z_Ca g d 79 [.ref a0] h P = z_T g d 79 0 [.ref a0] [] h P := z_Ca_ent zm_79 rfl rfl
theorem zi_79_0 : z_ins 79 0 = some (.aload_n 0, 1) := by decide +kernel
theorem ze_79_0 : z_T g d 79 0 (.ref a :: ls) st h P = z_T g d 79 1 (.ref a :: ls) (.ref a :: st) h P := zt_aloadn zi_79_0 rfl rfl
theorem zi_79_1 : z_ins 79 1 = some (.getfield 51, 3) := by decide +kernel
theorem ze_79_1 : z_T g d 79 1 ls (.ref a :: st) h P = z_gR h.1 a 9 5 (fun x => z_T g d 79 4 ls (x :: st) h P) := zt_getR zi_79_1 ((congrArg (fun o => z_fl o 51) zo_79).trans zf_LatinRectangles_51)
theorem zi_79_4 : z_ins 79 4 = some (.iconst (-1), 1) := by decide +kernel
theorem ze_79_4 : z_T g d 79 4 ls st h P = z_T g d 79 5 ls (.int (-1) :: st) h P := zt_iconst zi_79_4 rfl
theorem zi_79_5 : z_ins 79 5 = some (.iconst (-1), 1) := by decide +kernel
theorem ze_79_5 : z_T g d 79 5 ls st h P = z_T g d 79 6 ls (.int (-1) :: st) h P := zt_iconst zi_79_5 rfl
theorem zi_79_6 : z_ins 79 6 = some (.invokevirtual 192, 3) := by decide +kernel
theorem ze_79_6 : z_T g d 79 6 ls (.int x1 :: .int x0 :: .ref a :: st) h P = ((z_okS 8 st = true ∧ z_gO h.1 a 8 ∧ 0 < d) ∧ z_Ca g (d - 1) 61 [.ref a, .int x0, .int x1] h (fun r => z_k r (fun v h' => z_T g d 79 9 ls (z_push v st) h' P) P)) := zt_cV (as := [.int x0, .int x1]) (kk := 0) zi_79_6 rfl (zt_call zj_79 zh_79) (z_opV ((congrArg (fun o => z_lookup z_cns (o, 192)) zo_79).trans zq_cns_LatinRectangles_192) ((congrArg (fun o => z_lookup z_prs (o, 192)) zo_79).trans zq_prs_LatinRectangles_192)) ((congrArg (fun o => z_clk o 192) zo_79).trans zk_LatinRectangles_192) rfl rfl rfl rfl (z_rcv0 zc_61)
theorem zi_79_9 : z_ins 79 9 = some (.ireturn, 1) := by decide +kernel
theorem ze_79_9 : z_T g d 79 9 ls [.int x] h P = P (.inr (some (.int x)), h) := zt_ireturn zi_79_9 zr_79
-- LatinRectangles.transversalsThrough(II)I
theorem zm_80 : z_maxL 80 = 3 := by decide +kernel
theorem zh_80 : z_hds 80 = [] := by decide +kernel
theorem zj_80 : z_jdk 80 = false := by decide +kernel
theorem zr_80 : z_rt 80 = (some .int) := by decide +kernel
theorem zn_80 : z_Ca g d 80 [.ref a0, .int x1, .int x2] h P = z_T g d 80 0 [.ref a0, .int x1, .int x2] [] h P := z_Ca_ent zm_80 rfl rfl
theorem zi_80_0 : z_ins 80 0 = some (.aload_n 0, 1) := by decide +kernel
theorem ze_80_0 : z_T g d 80 0 (.ref a :: ls) st h P = z_T g d 80 1 (.ref a :: ls) (.ref a :: st) h P := zt_aloadn zi_80_0 rfl rfl
theorem zi_80_1 : z_ins 80 1 = some (.iload_n 1, 1) := by decide +kernel
theorem ze_80_1 : z_T g d 80 1 (v0 :: .int x :: ls) st h P = z_T g d 80 2 (v0 :: .int x :: ls) (.int x :: st) h P := zt_iloadn zi_80_1 rfl rfl
theorem zi_80_2 : z_ins 80 2 = some (.iload_n 2, 1) := by decide +kernel
theorem ze_80_2 : z_T g d 80 2 (v0 :: v1 :: .int x :: ls) st h P = z_T g d 80 3 (v0 :: v1 :: .int x :: ls) (.int x :: st) h P := zt_iloadn zi_80_2 rfl rfl
theorem zi_80_3 : z_ins 80 3 = some (.invokevirtual 144, 3) := by decide +kernel
theorem ze_80_3 : z_T g d 80 3 ls (.int x1 :: .int x0 :: .ref a :: st) h P = ((z_okS 8 st = true ∧ z_gO h.1 a 9 ∧ 0 < d) ∧ z_Ca g (d - 1) 90 [.ref a, .int x0, .int x1] h (fun r => z_k r (fun v h' => z_T g d 80 6 ls (z_push v st) h' P) P)) := zt_cV (as := [.int x0, .int x1]) (kk := 0) zi_80_3 rfl (zt_call zj_80 zh_80) (z_opV ((congrArg (fun o => z_lookup z_cns (o, 144)) zo_80).trans zq_cns_LatinRectangles_144) ((congrArg (fun o => z_lookup z_prs (o, 144)) zo_80).trans zq_prs_LatinRectangles_144)) ((congrArg (fun o => z_clk o 144) zo_80).trans zk_LatinRectangles_144) rfl rfl rfl rfl (z_rcv0 zc_90)
theorem zi_80_6 : z_ins 80 6 = some (.aload_n 0, 1) := by decide +kernel
theorem ze_80_6 : z_T g d 80 6 (.ref a :: ls) st h P = z_T g d 80 7 (.ref a :: ls) (.ref a :: st) h P := zt_aloadn zi_80_6 rfl rfl
theorem zi_80_7 : z_ins 80 7 = some (.getfield 51, 3) := by decide +kernel
theorem ze_80_7 : z_T g d 80 7 ls (.ref a :: st) h P = z_gR h.1 a 9 5 (fun x => z_T g d 80 10 ls (x :: st) h P) := zt_getR zi_80_7 ((congrArg (fun o => z_fl o 51) zo_80).trans zf_LatinRectangles_51)
theorem zi_80_10 : z_ins 80 10 = some (.iload_n 1, 1) := by decide +kernel
theorem ze_80_10 : z_T g d 80 10 (v0 :: .int x :: ls) st h P = z_T g d 80 11 (v0 :: .int x :: ls) (.int x :: st) h P := zt_iloadn zi_80_10 rfl rfl
theorem zi_80_11 : z_ins 80 11 = some (.iload_n 2, 1) := by decide +kernel
theorem ze_80_11 : z_T g d 80 11 (v0 :: v1 :: .int x :: ls) st h P = z_T g d 80 12 (v0 :: v1 :: .int x :: ls) (.int x :: st) h P := zt_iloadn zi_80_11 rfl rfl
theorem zi_80_12 : z_ins 80 12 = some (.invokevirtual 192, 3) := by decide +kernel
theorem ze_80_12 : z_T g d 80 12 ls (.int x1 :: .int x0 :: .ref a :: st) h P = ((z_okS 8 st = true ∧ z_gO h.1 a 8 ∧ 0 < d) ∧ z_Ca g (d - 1) 61 [.ref a, .int x0, .int x1] h (fun r => z_k r (fun v h' => z_T g d 80 15 ls (z_push v st) h' P) P)) := zt_cV (as := [.int x0, .int x1]) (kk := 0) zi_80_12 rfl (zt_call zj_80 zh_80) (z_opV ((congrArg (fun o => z_lookup z_cns (o, 192)) zo_80).trans zq_cns_LatinRectangles_192) ((congrArg (fun o => z_lookup z_prs (o, 192)) zo_80).trans zq_prs_LatinRectangles_192)) ((congrArg (fun o => z_clk o 192) zo_80).trans zk_LatinRectangles_192) rfl rfl rfl rfl (z_rcv0 zc_61)
theorem zi_80_15 : z_ins 80 15 = some (.ireturn, 1) := by decide +kernel
theorem ze_80_15 : z_T g d 80 15 ls [.int x] h P = P (.inr (some (.int x)), h) := zt_ireturn zi_80_15 zr_80
-- LatinRectangles.firstTransversal(I)I
theorem zm_81 : z_maxL 81 = 2 := by decide +kernel
theorem zh_81 : z_hds 81 = [] := by decide +kernel
theorem zj_81 : z_jdk 81 = false := by decide +kernel
theorem zr_81 : z_rt 81 = (some .int) := by decide +kernel
theorem zn_81 : z_Ca g d 81 [.ref a0, .int x1] h P = z_T g d 81 0 [.ref a0, .int x1] [] h P := z_Ca_ent zm_81 rfl rfl
theorem zi_81_0 : z_ins 81 0 = some (.aload_n 0, 1) := by decide +kernel
theorem ze_81_0 : z_T g d 81 0 (.ref a :: ls) st h P = z_T g d 81 1 (.ref a :: ls) (.ref a :: st) h P := zt_aloadn zi_81_0 rfl rfl
theorem zi_81_1 : z_ins 81 1 = some (.iload_n 1, 1) := by decide +kernel
theorem ze_81_1 : z_T g d 81 1 (v0 :: .int x :: ls) st h P = z_T g d 81 2 (v0 :: .int x :: ls) (.int x :: st) h P := zt_iloadn zi_81_1 rfl rfl
theorem zi_81_2 : z_ins 81 2 = some (.invokevirtual 194, 3) := by decide +kernel
theorem ze_81_2 : z_T g d 81 2 ls (.int x0 :: .ref a :: st) h P = ((z_okS 8 st = true ∧ z_gO h.1 a 9 ∧ 0 < d) ∧ z_Ca g (d - 1) 89 [.ref a, .int x0] h (fun r => z_k r (fun v h' => z_T g d 81 5 ls (z_push v st) h' P) P)) := zt_cV (as := [.int x0]) (kk := 0) zi_81_2 rfl (zt_call zj_81 zh_81) (z_opV ((congrArg (fun o => z_lookup z_cns (o, 194)) zo_81).trans zq_cns_LatinRectangles_194) ((congrArg (fun o => z_lookup z_prs (o, 194)) zo_81).trans zq_prs_LatinRectangles_194)) ((congrArg (fun o => z_clk o 194) zo_81).trans zk_LatinRectangles_194) rfl rfl rfl rfl (z_rcv0 zc_89)
theorem zi_81_5 : z_ins 81 5 = some (.aload_n 0, 1) := by decide +kernel
theorem ze_81_5 : z_T g d 81 5 (.ref a :: ls) st h P = z_T g d 81 6 (.ref a :: ls) (.ref a :: st) h P := zt_aloadn zi_81_5 rfl rfl
theorem zi_81_6 : z_ins 81 6 = some (.getfield 51, 3) := by decide +kernel
theorem ze_81_6 : z_T g d 81 6 ls (.ref a :: st) h P = z_gR h.1 a 9 5 (fun x => z_T g d 81 9 ls (x :: st) h P) := zt_getR zi_81_6 ((congrArg (fun o => z_fl o 51) zo_81).trans zf_LatinRectangles_51)
theorem zi_81_9 : z_ins 81 9 = some (.iload_n 1, 1) := by decide +kernel
theorem ze_81_9 : z_T g d 81 9 (v0 :: .int x :: ls) st h P = z_T g d 81 10 (v0 :: .int x :: ls) (.int x :: st) h P := zt_iloadn zi_81_9 rfl rfl
theorem zi_81_10 : z_ins 81 10 = some (.invokevirtual 197, 3) := by decide +kernel
theorem ze_81_10 : z_T g d 81 10 ls (.int x0 :: .ref a :: st) h P = ((z_okS 8 st = true ∧ z_gO h.1 a 8 ∧ 0 < d) ∧ z_Ca g (d - 1) 62 [.ref a, .int x0] h (fun r => z_k r (fun v h' => z_T g d 81 13 ls (z_push v st) h' P) P)) := zt_cV (as := [.int x0]) (kk := 0) zi_81_10 rfl (zt_call zj_81 zh_81) (z_opV ((congrArg (fun o => z_lookup z_cns (o, 197)) zo_81).trans zq_cns_LatinRectangles_197) ((congrArg (fun o => z_lookup z_prs (o, 197)) zo_81).trans zq_prs_LatinRectangles_197)) ((congrArg (fun o => z_clk o 197) zo_81).trans zk_LatinRectangles_197) rfl rfl rfl rfl (z_rcv0 zc_62)
theorem zi_81_13 : z_ins 81 13 = some (.ireturn, 1) := by decide +kernel
theorem ze_81_13 : z_T g d 81 13 ls [.int x] h P = P (.inr (some (.int x)), h) := zt_ireturn zi_81_13 zr_81
-- LatinRectangles.cycle(III)I
theorem zm_82 : z_maxL 82 = 4 := by decide +kernel
theorem zh_82 : z_hds 82 = [] := by decide +kernel
theorem zj_82 : z_jdk 82 = false := by decide +kernel
theorem zr_82 : z_rt 82 = (some .int) := by decide +kernel
theorem zn_82 : z_Ca g d 82 [.ref a0, .int x1, .int x2, .int x3] h P = z_T g d 82 0 [.ref a0, .int x1, .int x2, .int x3] [] h P := z_Ca_ent zm_82 rfl rfl
theorem zi_82_0 : z_ins 82 0 = some (.aload_n 0, 1) := by decide +kernel
theorem ze_82_0 : z_T g d 82 0 (.ref a :: ls) st h P = z_T g d 82 1 (.ref a :: ls) (.ref a :: st) h P := zt_aloadn zi_82_0 rfl rfl
theorem zi_82_1 : z_ins 82 1 = some (.iload_n 1, 1) := by decide +kernel
theorem ze_82_1 : z_T g d 82 1 (v0 :: .int x :: ls) st h P = z_T g d 82 2 (v0 :: .int x :: ls) (.int x :: st) h P := zt_iloadn zi_82_1 rfl rfl
theorem zi_82_2 : z_ins 82 2 = some (.iload_n 2, 1) := by decide +kernel
theorem ze_82_2 : z_T g d 82 2 (v0 :: v1 :: .int x :: ls) st h P = z_T g d 82 3 (v0 :: v1 :: .int x :: ls) (.int x :: st) h P := zt_iloadn zi_82_2 rfl rfl
theorem zi_82_3 : z_ins 82 3 = some (.iload_n 3, 1) := by decide +kernel
theorem ze_82_3 : z_T g d 82 3 (v0 :: v1 :: v2 :: .int x :: ls) st h P = z_T g d 82 4 (v0 :: v1 :: v2 :: .int x :: ls) (.int x :: st) h P := zt_iloadn zi_82_3 rfl rfl
theorem zi_82_4 : z_ins 82 4 = some (.invokevirtual 203, 3) := by decide +kernel
theorem ze_82_4 : z_T g d 82 4 ls (.int x2 :: .int x1 :: .int x0 :: .ref a :: st) h P = ((z_okS 8 st = true ∧ z_gO h.1 a 9 ∧ 0 < d) ∧ z_Ca g (d - 1) 91 [.ref a, .int x0, .int x1, .int x2] h (fun r => z_k r (fun v h' => z_T g d 82 7 ls (z_push v st) h' P) P)) := zt_cV (as := [.int x0, .int x1, .int x2]) (kk := 0) zi_82_4 rfl (zt_call zj_82 zh_82) (z_opV ((congrArg (fun o => z_lookup z_cns (o, 203)) zo_82).trans zq_cns_LatinRectangles_203) ((congrArg (fun o => z_lookup z_prs (o, 203)) zo_82).trans zq_prs_LatinRectangles_203)) ((congrArg (fun o => z_clk o 203) zo_82).trans zk_LatinRectangles_203) rfl rfl rfl rfl (z_rcv0 zc_91)
theorem zi_82_7 : z_ins 82 7 = some (.aload_n 0, 1) := by decide +kernel
theorem ze_82_7 : z_T g d 82 7 (.ref a :: ls) st h P = z_T g d 82 8 (.ref a :: ls) (.ref a :: st) h P := zt_aloadn zi_82_7 rfl rfl
theorem zi_82_8 : z_ins 82 8 = some (.getfield 58, 3) := by decide +kernel
theorem ze_82_8 : z_T g d 82 8 ls (.ref a :: st) h P = z_gR h.1 a 9 6 (fun x => z_T g d 82 11 ls (x :: st) h P) := zt_getR zi_82_8 ((congrArg (fun o => z_fl o 58) zo_82).trans zf_LatinRectangles_58)
theorem zi_82_11 : z_ins 82 11 = some (.iload_n 1, 1) := by decide +kernel
theorem ze_82_11 : z_T g d 82 11 (v0 :: .int x :: ls) st h P = z_T g d 82 12 (v0 :: .int x :: ls) (.int x :: st) h P := zt_iloadn zi_82_11 rfl rfl
theorem zi_82_12 : z_ins 82 12 = some (.iload_n 2, 1) := by decide +kernel
theorem ze_82_12 : z_T g d 82 12 (v0 :: v1 :: .int x :: ls) st h P = z_T g d 82 13 (v0 :: v1 :: .int x :: ls) (.int x :: st) h P := zt_iloadn zi_82_12 rfl rfl
theorem zi_82_13 : z_ins 82 13 = some (.iload_n 3, 1) := by decide +kernel
theorem ze_82_13 : z_T g d 82 13 (v0 :: v1 :: v2 :: .int x :: ls) st h P = z_T g d 82 14 (v0 :: v1 :: v2 :: .int x :: ls) (.int x :: st) h P := zt_iloadn zi_82_13 rfl rfl
theorem zi_82_14 : z_ins 82 14 = some (.invokevirtual 207, 3) := by decide +kernel
theorem ze_82_14 : z_T g d 82 14 ls (.int x2 :: .int x1 :: .int x0 :: .ref a :: st) h P = ((z_okS 8 st = true ∧ z_gO h.1 a 1 ∧ 0 < d) ∧ z_Ca g (d - 1) 9 [.ref a, .int x0, .int x1, .int x2] h (fun r => z_k r (fun v h' => z_T g d 82 17 ls (z_push v st) h' P) P)) := zt_cV (as := [.int x0, .int x1, .int x2]) (kk := 0) zi_82_14 rfl (zt_call zj_82 zh_82) (z_opV ((congrArg (fun o => z_lookup z_cns (o, 207)) zo_82).trans zq_cns_LatinRectangles_207) ((congrArg (fun o => z_lookup z_prs (o, 207)) zo_82).trans zq_prs_LatinRectangles_207)) ((congrArg (fun o => z_clk o 207) zo_82).trans zk_LatinRectangles_207) rfl rfl rfl rfl (z_rcv0 zc_9)
theorem zi_82_17 : z_ins 82 17 = some (.invokestatic 174, 3) := by decide +kernel
theorem ze_82_17 : z_T g d 82 17 ls (.int x0 :: st) h P = ((z_okS 8 st = true ∧ 0 < d) ∧ z_Ca g (d - 1) 121 [.int x0] h (fun r => z_k r (fun v h' => z_T g d 82 20 ls (z_push v st) h' P) P)) := zt_cS (as := [.int x0]) (kk := 1) zi_82_17 rfl (zt_call zj_82 zh_82) (z_opT ((congrArg (fun o => z_lookup z_cps (o, 174)) zo_82).trans zq_cps_LatinRectangles_174) ((congrArg (fun o => z_lookup z_prs (o, 174)) zo_82).trans zq_prs_LatinRectangles_174)) ((congrArg (fun o => z_clk o 174) zo_82).trans zk_LatinRectangles_174) rfl rfl rfl rfl rfl
theorem zi_82_20 : z_ins 82 20 = some (.ireturn, 1) := by decide +kernel
theorem ze_82_20 : z_T g d 82 20 ls [.int x] h P = P (.inr (some (.int x)), h) := zt_ireturn zi_82_20 zr_82
-- LatinRectangles.intercalates()I
theorem zm_83 : z_maxL 83 = 1 := by decide +kernel
theorem zh_83 : z_hds 83 = [] := by decide +kernel
theorem zj_83 : z_jdk 83 = false := by decide +kernel
theorem zr_83 : z_rt 83 = (some .int) := by decide +kernel
theorem zn_83 : z_Ca g d 83 [.ref a0] h P = z_T g d 83 0 [.ref a0] [] h P := z_Ca_ent zm_83 rfl rfl
theorem zi_83_0 : z_ins 83 0 = some (.aload_n 0, 1) := by decide +kernel
theorem ze_83_0 : z_T g d 83 0 (.ref a :: ls) st h P = z_T g d 83 1 (.ref a :: ls) (.ref a :: st) h P := zt_aloadn zi_83_0 rfl rfl
theorem zi_83_1 : z_ins 83 1 = some (.getfield 58, 3) := by decide +kernel
theorem ze_83_1 : z_T g d 83 1 ls (.ref a :: st) h P = z_gR h.1 a 9 6 (fun x => z_T g d 83 4 ls (x :: st) h P) := zt_getR zi_83_1 ((congrArg (fun o => z_fl o 58) zo_83).trans zf_LatinRectangles_58)
theorem zi_83_4 : z_ins 83 4 = some (.invokevirtual 214, 3) := by decide +kernel
theorem ze_83_4 : z_T g d 83 4 ls (.ref a :: st) h P = ((z_okS 8 st = true ∧ z_gO h.1 a 1 ∧ 0 < d) ∧ z_Ca g (d - 1) 13 [.ref a] h (fun r => z_k r (fun v h' => z_T g d 83 7 ls (z_push v st) h' P) P)) := zt_cV (as := []) (kk := 0) zi_83_4 rfl (zt_call zj_83 zh_83) (z_opV ((congrArg (fun o => z_lookup z_cns (o, 214)) zo_83).trans zq_cns_LatinRectangles_214) ((congrArg (fun o => z_lookup z_prs (o, 214)) zo_83).trans zq_prs_LatinRectangles_214)) ((congrArg (fun o => z_clk o 214) zo_83).trans zk_LatinRectangles_214) rfl rfl rfl rfl (z_rcv0 zc_13)
theorem zi_83_7 : z_ins 83 7 = some (.ireturn, 1) := by decide +kernel
theorem ze_83_7 : z_T g d 83 7 ls [.int x] h P = P (.inr (some (.int x)), h) := zt_ireturn zi_83_7 zr_83
-- LatinRectangles.fill(III)I
theorem zm_84 : z_maxL 84 = 4 := by decide +kernel
theorem zh_84 : z_hds 84 = [] := by decide +kernel
theorem zj_84 : z_jdk 84 = false := by decide +kernel
theorem zr_84 : z_rt 84 = (some .int) := by decide +kernel
theorem zn_84 : z_Ca g d 84 [.ref a0, .int x1, .int x2, .int x3] h P = z_T g d 84 0 [.ref a0, .int x1, .int x2, .int x3] [] h P := z_Ca_ent zm_84 rfl rfl
theorem zi_84_0 : z_ins 84 0 = some (.aload_n 0, 1) := by decide +kernel
theorem ze_84_0 : z_T g d 84 0 (.ref a :: ls) st h P = z_T g d 84 1 (.ref a :: ls) (.ref a :: st) h P := zt_aloadn zi_84_0 rfl rfl
theorem zi_84_1 : z_ins 84 1 = some (.iload_n 1, 1) := by decide +kernel
theorem ze_84_1 : z_T g d 84 1 (v0 :: .int x :: ls) st h P = z_T g d 84 2 (v0 :: .int x :: ls) (.int x :: st) h P := zt_iloadn zi_84_1 rfl rfl
theorem zi_84_2 : z_ins 84 2 = some (.iload_n 2, 1) := by decide +kernel
theorem ze_84_2 : z_T g d 84 2 (v0 :: v1 :: .int x :: ls) st h P = z_T g d 84 3 (v0 :: v1 :: .int x :: ls) (.int x :: st) h P := zt_iloadn zi_84_2 rfl rfl
theorem zi_84_3 : z_ins 84 3 = some (.invokevirtual 144, 3) := by decide +kernel
theorem ze_84_3 : z_T g d 84 3 ls (.int x1 :: .int x0 :: .ref a :: st) h P = ((z_okS 8 st = true ∧ z_gO h.1 a 9 ∧ 0 < d) ∧ z_Ca g (d - 1) 90 [.ref a, .int x0, .int x1] h (fun r => z_k r (fun v h' => z_T g d 84 6 ls (z_push v st) h' P) P)) := zt_cV (as := [.int x0, .int x1]) (kk := 0) zi_84_3 rfl (zt_call zj_84 zh_84) (z_opV ((congrArg (fun o => z_lookup z_cns (o, 144)) zo_84).trans zq_cns_LatinRectangles_144) ((congrArg (fun o => z_lookup z_prs (o, 144)) zo_84).trans zq_prs_LatinRectangles_144)) ((congrArg (fun o => z_clk o 144) zo_84).trans zk_LatinRectangles_144) rfl rfl rfl rfl (z_rcv0 zc_90)
theorem zi_84_6 : z_ins 84 6 = some (.iload_n 3, 1) := by decide +kernel
theorem ze_84_6 : z_T g d 84 6 (v0 :: v1 :: v2 :: .int x :: ls) st h P = z_T g d 84 7 (v0 :: v1 :: v2 :: .int x :: ls) (.int x :: st) h P := zt_iloadn zi_84_6 rfl rfl
theorem zi_84_7 : z_ins 84 7 = some (.ifCond .lt 14, 3) := by decide +kernel
theorem ze_84_7 : z_T g d 84 7 ls (.int x :: st) h P = (if x < nI 0 then z_T g d 84 21 ls st h P else z_T g d 84 10 ls st h P) := zt_iflt zi_84_7 (by decide)
theorem zi_84_10 : z_ins 84 10 = some (.iload_n 3, 1) := by decide +kernel
theorem ze_84_10 : z_T g d 84 10 (v0 :: v1 :: v2 :: .int x :: ls) st h P = z_T g d 84 11 (v0 :: v1 :: v2 :: .int x :: ls) (.int x :: st) h P := zt_iloadn zi_84_10 rfl rfl
theorem zi_84_11 : z_ins 84 11 = some (.aload_n 0, 1) := by decide +kernel
theorem ze_84_11 : z_T g d 84 11 (.ref a :: ls) st h P = z_T g d 84 12 (.ref a :: ls) (.ref a :: st) h P := zt_aloadn zi_84_11 rfl rfl
theorem zi_84_12 : z_ins 84 12 = some (.getfield 12, 3) := by decide +kernel
theorem ze_84_12 : z_T g d 84 12 ls (.ref a :: st) h P = z_gR h.1 a 9 0 (fun x => z_T g d 84 15 ls (x :: st) h P) := zt_getR zi_84_12 ((congrArg (fun o => z_fl o 12) zo_84).trans zf_LatinRectangles_12)
theorem zi_84_15 : z_ins 84 15 = some (.getfield 125, 3) := by decide +kernel
theorem ze_84_15 : z_T g d 84 15 ls (.ref a :: st) h P = z_gI h.1 a 3 6 (fun x => z_T g d 84 18 ls (.int x :: st) h P) := zt_getI zi_84_15 ((congrArg (fun o => z_fl o 125) zo_84).trans zf_LatinRectangles_125)
theorem zi_84_18 : z_ins 84 18 = some (.if_icmp .lt 13, 3) := by decide +kernel
theorem ze_84_18 : z_T g d 84 18 ls (.int y :: .int x :: st) h P = (if x < y then z_T g d 84 31 ls st h P else z_T g d 84 21 ls st h P) := zt_icmplt zi_84_18 (by decide)
theorem zi_84_21 : z_ins 84 21 = some (.new 91, 3) := by decide +kernel
theorem ze_84_21 : z_T g d 84 21 ls [] h P = P (.inl "java/lang/IllegalArgumentException", (h.1, h.2.1.map (· + 1), h.2.2.1 + 1, h.2.2.2 + 6)) := zt_throwN zi_84_21 (by decide +kernel) (by decide +kernel) zh_84
theorem zi_84_31 : z_ins 84 31 = some (.aload_n 0, 1) := by decide +kernel
theorem ze_84_31 : z_T g d 84 31 (.ref a :: ls) st h P = z_T g d 84 32 (.ref a :: ls) (.ref a :: st) h P := zt_aloadn zi_84_31 rfl rfl
theorem zi_84_32 : z_ins 84 32 = some (.getfield 12, 3) := by decide +kernel
theorem ze_84_32 : z_T g d 84 32 ls (.ref a :: st) h P = z_gR h.1 a 9 0 (fun x => z_T g d 84 35 ls (x :: st) h P) := zt_getR zi_84_32 ((congrArg (fun o => z_fl o 12) zo_84).trans zf_LatinRectangles_12)
theorem zi_84_35 : z_ins 84 35 = some (.iload_n 1, 1) := by decide +kernel
theorem ze_84_35 : z_T g d 84 35 (v0 :: .int x :: ls) st h P = z_T g d 84 36 (v0 :: .int x :: ls) (.int x :: st) h P := zt_iloadn zi_84_35 rfl rfl
theorem zi_84_36 : z_ins 84 36 = some (.iload_n 2, 1) := by decide +kernel
theorem ze_84_36 : z_T g d 84 36 (v0 :: v1 :: .int x :: ls) st h P = z_T g d 84 37 (v0 :: v1 :: .int x :: ls) (.int x :: st) h P := zt_iloadn zi_84_36 rfl rfl
theorem zi_84_37 : z_ins 84 37 = some (.invokevirtual 154, 3) := by decide +kernel
theorem ze_84_37 : z_T g d 84 37 ls (.int x1 :: .int x0 :: .ref a :: st) h P = ((z_okS 8 st = true ∧ z_gO h.1 a 3 ∧ 0 < d) ∧ z_Ca g (d - 1) 34 [.ref a, .int x0, .int x1] h (fun r => z_k r (fun v h' => z_T g d 84 40 ls (z_push v st) h' P) P)) := zt_cV (as := [.int x0, .int x1]) (kk := 0) zi_84_37 rfl (zt_call zj_84 zh_84) (z_opV ((congrArg (fun o => z_lookup z_cns (o, 154)) zo_84).trans zq_cns_LatinRectangles_154) ((congrArg (fun o => z_lookup z_prs (o, 154)) zo_84).trans zq_prs_LatinRectangles_154)) ((congrArg (fun o => z_clk o 154) zo_84).trans zk_LatinRectangles_154) rfl rfl rfl rfl (z_rcv0 zc_34)
theorem zi_84_40 : z_ins 84 40 = some (.iload_n 3, 1) := by decide +kernel
theorem ze_84_40 : z_T g d 84 40 (v0 :: v1 :: v2 :: .int x :: ls) st h P = z_T g d 84 41 (v0 :: v1 :: v2 :: .int x :: ls) (.int x :: st) h P := zt_iloadn zi_84_40 rfl rfl
theorem zi_84_41 : z_ins 84 41 = some (.ishr, 1) := by decide +kernel
theorem ze_84_41 : z_T g d 84 41 ls (.int y :: .int x :: st) h P = z_T g d 84 42 ls (.int (x >>> (y &&& 31)) :: st) h P := zt_bin (f := fun x y => x >>> (y &&& 31)) zi_84_41 rfl (fun _ _ _ => rfl)
theorem zi_84_42 : z_ins 84 42 = some (.iconst 1, 1) := by decide +kernel
theorem ze_84_42 : z_T g d 84 42 ls st h P = z_T g d 84 43 ls (.int (nI 1) :: st) h P := zt_iconst zi_84_42 rfl
theorem zi_84_43 : z_ins 84 43 = some (.iand, 1) := by decide +kernel
theorem ze_84_43 : z_T g d 84 43 ls (.int y :: .int x :: st) h P = z_T g d 84 44 ls (.int (x &&& y) :: st) h P := zt_bin (f := fun x y => x &&& y) zi_84_43 rfl (fun _ _ _ => rfl)
theorem zi_84_44 : z_ins 84 44 = some (.ifCond .ne 13, 3) := by decide +kernel
theorem ze_84_44 : z_T g d 84 44 ls (.int x :: st) h P = (if x = nI 0 then z_T g d 84 47 ls st h P else z_T g d 84 57 ls st h P) := zt_ifne zi_84_44 (by decide)
theorem zi_84_47 : z_ins 84 47 = some (.new 230, 3) := by decide +kernel
theorem ze_84_47 : z_T g d 84 47 ls [] h P = P (.inl "java/lang/IllegalStateException", (h.1, h.2.1.map (· + 1), h.2.2.1 + 1, h.2.2.2 + 6)) := zt_throwN zi_84_47 (by decide +kernel) (by decide +kernel) zh_84
theorem zi_84_57 : z_ins 84 57 = some (.aload_n 0, 1) := by decide +kernel
theorem ze_84_57 : z_T g d 84 57 (.ref a :: ls) st h P = z_T g d 84 58 (.ref a :: ls) (.ref a :: st) h P := zt_aloadn zi_84_57 rfl rfl
theorem zi_84_58 : z_ins 84 58 = some (.getfield 65, 3) := by decide +kernel
theorem ze_84_58 : z_T g d 84 58 ls (.ref a :: st) h P = z_gR h.1 a 9 7 (fun x => z_T g d 84 61 ls (x :: st) h P) := zt_getR zi_84_58 ((congrArg (fun o => z_fl o 65) zo_84).trans zf_LatinRectangles_65)
theorem zi_84_61 : z_ins 84 61 = some (.aload_n 0, 1) := by decide +kernel
theorem ze_84_61 : z_T g d 84 61 (.ref a :: ls) st h P = z_T g d 84 62 (.ref a :: ls) (.ref a :: st) h P := zt_aloadn zi_84_61 rfl rfl
theorem zi_84_62 : z_ins 84 62 = some (.getfield 12, 3) := by decide +kernel
theorem ze_84_62 : z_T g d 84 62 ls (.ref a :: st) h P = z_gR h.1 a 9 0 (fun x => z_T g d 84 65 ls (x :: st) h P) := zt_getR zi_84_62 ((congrArg (fun o => z_fl o 12) zo_84).trans zf_LatinRectangles_12)
theorem zi_84_65 : z_ins 84 65 = some (.invokevirtual 235, 3) := by decide +kernel
theorem ze_84_65 : z_T g d 84 65 ls (.ref a0 :: .ref a :: st) h P = ((z_okS 8 st = true ∧ z_gO h.1 a 4 ∧ 0 < d) ∧ z_Ca g (d - 1) 40 [.ref a, .ref a0] h (fun r => z_k r (fun v h' => z_T g d 84 68 ls (z_push v st) h' P) P)) := zt_cV (as := [.ref a0]) (kk := 0) zi_84_65 rfl (zt_call zj_84 zh_84) (z_opV ((congrArg (fun o => z_lookup z_cns (o, 235)) zo_84).trans zq_cns_LatinRectangles_235) ((congrArg (fun o => z_lookup z_prs (o, 235)) zo_84).trans zq_prs_LatinRectangles_235)) ((congrArg (fun o => z_clk o 235) zo_84).trans zk_LatinRectangles_235) rfl rfl rfl rfl (z_rcv0 zc_40)
theorem zi_84_68 : z_ins 84 68 = some (.aload_n 0, 1) := by decide +kernel
theorem ze_84_68 : z_T g d 84 68 (.ref a :: ls) st h P = z_T g d 84 69 (.ref a :: ls) (.ref a :: st) h P := zt_aloadn zi_84_68 rfl rfl
theorem zi_84_69 : z_ins 84 69 = some (.getfield 12, 3) := by decide +kernel
theorem ze_84_69 : z_T g d 84 69 ls (.ref a :: st) h P = z_gR h.1 a 9 0 (fun x => z_T g d 84 72 ls (x :: st) h P) := zt_getR zi_84_69 ((congrArg (fun o => z_fl o 12) zo_84).trans zf_LatinRectangles_12)
theorem zi_84_72 : z_ins 84 72 = some (.iload_n 1, 1) := by decide +kernel
theorem ze_84_72 : z_T g d 84 72 (v0 :: .int x :: ls) st h P = z_T g d 84 73 (v0 :: .int x :: ls) (.int x :: st) h P := zt_iloadn zi_84_72 rfl rfl
theorem zi_84_73 : z_ins 84 73 = some (.iload_n 2, 1) := by decide +kernel
theorem ze_84_73 : z_T g d 84 73 (v0 :: v1 :: .int x :: ls) st h P = z_T g d 84 74 (v0 :: v1 :: .int x :: ls) (.int x :: st) h P := zt_iloadn zi_84_73 rfl rfl
theorem zi_84_74 : z_ins 84 74 = some (.iload_n 3, 1) := by decide +kernel
theorem ze_84_74 : z_T g d 84 74 (v0 :: v1 :: v2 :: .int x :: ls) st h P = z_T g d 84 75 (v0 :: v1 :: v2 :: .int x :: ls) (.int x :: st) h P := zt_iloadn zi_84_74 rfl rfl
theorem zi_84_75 : z_ins 84 75 = some (.invokevirtual 238, 3) := by decide +kernel
theorem ze_84_75 : z_T g d 84 75 ls (.int x2 :: .int x1 :: .int x0 :: .ref a :: st) h P = ((z_okS 8 st = true ∧ z_gO h.1 a 3 ∧ 0 < d) ∧ z_Ca g (d - 1) 29 [.ref a, .int x0, .int x1, .int x2] h (fun r => z_k r (fun v h' => z_T g d 84 78 ls (z_push v st) h' P) P)) := zt_cV (as := [.int x0, .int x1, .int x2]) (kk := 0) zi_84_75 rfl (zt_call zj_84 zh_84) (z_opV ((congrArg (fun o => z_lookup z_cns (o, 238)) zo_84).trans zq_cns_LatinRectangles_238) ((congrArg (fun o => z_lookup z_prs (o, 238)) zo_84).trans zq_prs_LatinRectangles_238)) ((congrArg (fun o => z_clk o 238) zo_84).trans zk_LatinRectangles_238) rfl rfl rfl rfl (z_rcv0 zc_29)
theorem zi_84_78 : z_ins 84 78 = some (.aload_n 0, 1) := by decide +kernel
theorem ze_84_78 : z_T g d 84 78 (.ref a :: ls) st h P = z_T g d 84 79 (.ref a :: ls) (.ref a :: st) h P := zt_aloadn zi_84_78 rfl rfl
theorem zi_84_79 : z_ins 84 79 = some (.getfield 12, 3) := by decide +kernel
theorem ze_84_79 : z_T g d 84 79 ls (.ref a :: st) h P = z_gR h.1 a 9 0 (fun x => z_T g d 84 82 ls (x :: st) h P) := zt_getR zi_84_79 ((congrArg (fun o => z_fl o 12) zo_84).trans zf_LatinRectangles_12)
theorem zi_84_82 : z_ins 84 82 = some (.getfield 122, 3) := by decide +kernel
theorem ze_84_82 : z_T g d 84 82 ls (.ref a :: st) h P = z_gI h.1 a 3 5 (fun x => z_T g d 84 85 ls (.int x :: st) h P) := zt_getI zi_84_82 ((congrArg (fun o => z_fl o 122) zo_84).trans zf_LatinRectangles_122)
theorem zi_84_85 : z_ins 84 85 = some (.aload_n 0, 1) := by decide +kernel
theorem ze_84_85 : z_T g d 84 85 (.ref a :: ls) st h P = z_T g d 84 86 (.ref a :: ls) (.ref a :: st) h P := zt_aloadn zi_84_85 rfl rfl
theorem zi_84_86 : z_ins 84 86 = some (.getfield 12, 3) := by decide +kernel
theorem ze_84_86 : z_T g d 84 86 ls (.ref a :: st) h P = z_gR h.1 a 9 0 (fun x => z_T g d 84 89 ls (x :: st) h P) := zt_getR zi_84_86 ((congrArg (fun o => z_fl o 12) zo_84).trans zf_LatinRectangles_12)
theorem zi_84_89 : z_ins 84 89 = some (.getfield 125, 3) := by decide +kernel
theorem ze_84_89 : z_T g d 84 89 ls (.ref a :: st) h P = z_gI h.1 a 3 6 (fun x => z_T g d 84 92 ls (.int x :: st) h P) := zt_getI zi_84_89 ((congrArg (fun o => z_fl o 125) zo_84).trans zf_LatinRectangles_125)
theorem zi_84_92 : z_ins 84 92 = some (.imul, 1) := by decide +kernel
theorem ze_84_92 : z_T g d 84 92 ls (.int y :: .int x :: st) h P = z_T g d 84 93 ls (.int (x * y) :: st) h P := zt_bin (f := fun x y => x * y) zi_84_92 rfl (fun _ _ _ => rfl)
theorem zi_84_93 : z_ins 84 93 = some (.aload_n 0, 1) := by decide +kernel
theorem ze_84_93 : z_T g d 84 93 (.ref a :: ls) st h P = z_T g d 84 94 (.ref a :: ls) (.ref a :: st) h P := zt_aloadn zi_84_93 rfl rfl
theorem zi_84_94 : z_ins 84 94 = some (.getfield 12, 3) := by decide +kernel
theorem ze_84_94 : z_T g d 84 94 ls (.ref a :: st) h P = z_gR h.1 a 9 0 (fun x => z_T g d 84 97 ls (x :: st) h P) := zt_getR zi_84_94 ((congrArg (fun o => z_fl o 12) zo_84).trans zf_LatinRectangles_12)
theorem zi_84_97 : z_ins 84 97 = some (.getfield 128, 3) := by decide +kernel
theorem ze_84_97 : z_T g d 84 97 ls (.ref a :: st) h P = z_gI h.1 a 3 7 (fun x => z_T g d 84 100 ls (.int x :: st) h P) := zt_getI zi_84_97 ((congrArg (fun o => z_fl o 128) zo_84).trans zf_LatinRectangles_128)
theorem zi_84_100 : z_ins 84 100 = some (.isub, 1) := by decide +kernel
theorem ze_84_100 : z_T g d 84 100 ls (.int y :: .int x :: st) h P = z_T g d 84 101 ls (.int (x - y) :: st) h P := zt_bin (f := fun x y => x - y) zi_84_100 rfl (fun _ _ _ => rfl)
theorem zi_84_101 : z_ins 84 101 = some (.ireturn, 1) := by decide +kernel
theorem ze_84_101 : z_T g d 84 101 ls [.int x] h P = P (.inr (some (.int x)), h) := zt_ireturn zi_84_101 zr_84
-- LatinRectangles.empty(II)I
theorem zm_85 : z_maxL 85 = 5 := by decide +kernel
theorem zh_85 : z_hds 85 = [] := by decide +kernel
theorem zj_85 : z_jdk 85 = false := by decide +kernel
theorem zr_85 : z_rt 85 = (some .int) := by decide +kernel
theorem zn_85 : z_Ca g d 85 [.ref a0, .int x1, .int x2] h P = z_T g d 85 0 [.ref a0, .int x1, .int x2, z_un, z_un] [] h P := z_Ca_ent zm_85 rfl rfl
theorem zi_85_0 : z_ins 85 0 = some (.aload_n 0, 1) := by decide +kernel
theorem ze_85_0 : z_T g d 85 0 (.ref a :: ls) st h P = z_T g d 85 1 (.ref a :: ls) (.ref a :: st) h P := zt_aloadn zi_85_0 rfl rfl
theorem zi_85_1 : z_ins 85 1 = some (.iload_n 1, 1) := by decide +kernel
theorem ze_85_1 : z_T g d 85 1 (v0 :: .int x :: ls) st h P = z_T g d 85 2 (v0 :: .int x :: ls) (.int x :: st) h P := zt_iloadn zi_85_1 rfl rfl
theorem zi_85_2 : z_ins 85 2 = some (.iload_n 2, 1) := by decide +kernel
theorem ze_85_2 : z_T g d 85 2 (v0 :: v1 :: .int x :: ls) st h P = z_T g d 85 3 (v0 :: v1 :: .int x :: ls) (.int x :: st) h P := zt_iloadn zi_85_2 rfl rfl
theorem zi_85_3 : z_ins 85 3 = some (.invokevirtual 144, 3) := by decide +kernel
theorem ze_85_3 : z_T g d 85 3 ls (.int x1 :: .int x0 :: .ref a :: st) h P = ((z_okS 8 st = true ∧ z_gO h.1 a 9 ∧ 0 < d) ∧ z_Ca g (d - 1) 90 [.ref a, .int x0, .int x1] h (fun r => z_k r (fun v h' => z_T g d 85 6 ls (z_push v st) h' P) P)) := zt_cV (as := [.int x0, .int x1]) (kk := 0) zi_85_3 rfl (zt_call zj_85 zh_85) (z_opV ((congrArg (fun o => z_lookup z_cns (o, 144)) zo_85).trans zq_cns_LatinRectangles_144) ((congrArg (fun o => z_lookup z_prs (o, 144)) zo_85).trans zq_prs_LatinRectangles_144)) ((congrArg (fun o => z_clk o 144) zo_85).trans zk_LatinRectangles_144) rfl rfl rfl rfl (z_rcv0 zc_90)
theorem zi_85_6 : z_ins 85 6 = some (.iload_n 1, 1) := by decide +kernel
theorem ze_85_6 : z_T g d 85 6 (v0 :: .int x :: ls) st h P = z_T g d 85 7 (v0 :: .int x :: ls) (.int x :: st) h P := zt_iloadn zi_85_6 rfl rfl
theorem zi_85_7 : z_ins 85 7 = some (.iconst 5, 1) := by decide +kernel
theorem ze_85_7 : z_T g d 85 7 ls st h P = z_T g d 85 8 ls (.int (nI 5) :: st) h P := zt_iconst zi_85_7 rfl
theorem zi_85_8 : z_ins 85 8 = some (.imul, 1) := by decide +kernel
theorem ze_85_8 : z_T g d 85 8 ls (.int y :: .int x :: st) h P = z_T g d 85 9 ls (.int (x * y) :: st) h P := zt_bin (f := fun x y => x * y) zi_85_8 rfl (fun _ _ _ => rfl)
theorem zi_85_9 : z_ins 85 9 = some (.iload_n 2, 1) := by decide +kernel
theorem ze_85_9 : z_T g d 85 9 (v0 :: v1 :: .int x :: ls) st h P = z_T g d 85 10 (v0 :: v1 :: .int x :: ls) (.int x :: st) h P := zt_iloadn zi_85_9 rfl rfl
theorem zi_85_10 : z_ins 85 10 = some (.iadd, 1) := by decide +kernel
theorem ze_85_10 : z_T g d 85 10 ls (.int y :: .int x :: st) h P = z_T g d 85 11 ls (.int (x + y) :: st) h P := zt_bin (f := fun x y => x + y) zi_85_10 rfl (fun _ _ _ => rfl)
theorem zi_85_11 : z_ins 85 11 = some (.istore_n 3, 1) := by decide +kernel
theorem ze_85_11 : z_T g d 85 11 (v0 :: v1 :: v2 :: v3 :: ls) (.int x :: st) h P = z_T g d 85 12 (v0 :: v1 :: v2 :: .int x :: ls) st h P := zt_istoren zi_85_11 rfl (Nat.le_add_left 4 _)
theorem zi_85_12 : z_ins 85 12 = some (.aload_n 0, 1) := by decide +kernel
theorem ze_85_12 : z_T g d 85 12 (.ref a :: ls) st h P = z_T g d 85 13 (.ref a :: ls) (.ref a :: st) h P := zt_aloadn zi_85_12 rfl rfl
theorem zi_85_13 : z_ins 85 13 = some (.getfield 12, 3) := by decide +kernel
theorem ze_85_13 : z_T g d 85 13 ls (.ref a :: st) h P = z_gR h.1 a 9 0 (fun x => z_T g d 85 16 ls (x :: st) h P) := zt_getR zi_85_13 ((congrArg (fun o => z_fl o 12) zo_85).trans zf_LatinRectangles_12)
theorem zi_85_16 : z_ins 85 16 = some (.getfield 147, 3) := by decide +kernel
theorem ze_85_16 : z_T g d 85 16 ls (.ref a :: st) h P = z_gR h.1 a 3 0 (fun x => z_T g d 85 19 ls (x :: st) h P) := zt_getR zi_85_16 ((congrArg (fun o => z_fl o 147) zo_85).trans zf_LatinRectangles_147)
theorem zi_85_19 : z_ins 85 19 = some (.iload_n 3, 1) := by decide +kernel
theorem ze_85_19 : z_T g d 85 19 (v0 :: v1 :: v2 :: .int x :: ls) st h P = z_T g d 85 20 (v0 :: v1 :: v2 :: .int x :: ls) (.int x :: st) h P := zt_iloadn zi_85_19 rfl rfl
theorem zi_85_20 : z_ins 85 20 = some (.iaload, 1) := by decide +kernel
theorem ze_85_20 : z_T g d 85 20 ls (.int x :: .ref a :: st) h P = z_aL h.1 a z_tI x (fun v => z_T g d 85 21 ls (.int v :: st) h P) := zt_iaload zi_85_20
theorem zi_85_21 : z_ins 85 21 = some (.istore 4, 2) := by decide +kernel
theorem ze_85_21 : z_T g d 85 21 (v0 :: v1 :: v2 :: v3 :: v4 :: ls) (.int x :: st) h P = z_T g d 85 23 (v0 :: v1 :: v2 :: v3 :: .int x :: ls) st h P := zt_istore zi_85_21 (Nat.le_add_left 5 _)
theorem zi_85_23 : z_ins 85 23 = some (.iload 4, 2) := by decide +kernel
theorem ze_85_23 : z_T g d 85 23 (v0 :: v1 :: v2 :: v3 :: .int x :: ls) st h P = z_T g d 85 25 (v0 :: v1 :: v2 :: v3 :: .int x :: ls) (.int x :: st) h P := zt_iload zi_85_23 rfl
theorem zi_85_25 : z_ins 85 25 = some (.iconst (-1), 1) := by decide +kernel
theorem ze_85_25 : z_T g d 85 25 ls st h P = z_T g d 85 26 ls (.int (-1) :: st) h P := zt_iconst zi_85_25 rfl
theorem zi_85_26 : z_ins 85 26 = some (.if_icmp .eq 15, 3) := by decide +kernel
theorem ze_85_26 : z_T g d 85 26 ls (.int y :: .int x :: st) h P = (if x = y then z_T g d 85 41 ls st h P else z_T g d 85 29 ls st h P) := zt_icmpeq zi_85_26 (by decide)
theorem zi_85_29 : z_ins 85 29 = some (.aload_n 0, 1) := by decide +kernel
theorem ze_85_29 : z_T g d 85 29 (.ref a :: ls) st h P = z_T g d 85 30 (.ref a :: ls) (.ref a :: st) h P := zt_aloadn zi_85_29 rfl rfl
theorem zi_85_30 : z_ins 85 30 = some (.getfield 12, 3) := by decide +kernel
theorem ze_85_30 : z_T g d 85 30 ls (.ref a :: st) h P = z_gR h.1 a 9 0 (fun x => z_T g d 85 33 ls (x :: st) h P) := zt_getR zi_85_30 ((congrArg (fun o => z_fl o 12) zo_85).trans zf_LatinRectangles_12)
theorem zi_85_33 : z_ins 85 33 = some (.getfield 150, 3) := by decide +kernel
theorem ze_85_33 : z_T g d 85 33 ls (.ref a :: st) h P = z_gR h.1 a 3 1 (fun x => z_T g d 85 36 ls (x :: st) h P) := zt_getR zi_85_33 ((congrArg (fun o => z_fl o 150) zo_85).trans zf_LatinRectangles_150)
theorem zi_85_36 : z_ins 85 36 = some (.iload_n 3, 1) := by decide +kernel
theorem ze_85_36 : z_T g d 85 36 (v0 :: v1 :: v2 :: .int x :: ls) st h P = z_T g d 85 37 (v0 :: v1 :: v2 :: .int x :: ls) (.int x :: st) h P := zt_iloadn zi_85_36 rfl rfl
theorem zi_85_37 : z_ins 85 37 = some (.baload, 1) := by decide +kernel
theorem ze_85_37 : z_T g d 85 37 ls (.int x :: .ref a :: st) h P = z_aL h.1 a z_tB x (fun v => z_T g d 85 38 ls (.int v :: st) h P) := zt_baload zi_85_37
theorem zi_85_38 : z_ins 85 38 = some (.ifCond .eq 13, 3) := by decide +kernel
theorem ze_85_38 : z_T g d 85 38 ls (.int x :: st) h P = (if x = nI 0 then z_T g d 85 51 ls st h P else z_T g d 85 41 ls st h P) := zt_ifeq zi_85_38 (by decide)
theorem zi_85_41 : z_ins 85 41 = some (.new 230, 3) := by decide +kernel
theorem ze_85_41 : z_T g d 85 41 ls [] h P = P (.inl "java/lang/IllegalStateException", (h.1, h.2.1.map (· + 1), h.2.2.1 + 1, h.2.2.2 + 6)) := zt_throwN zi_85_41 (by decide +kernel) (by decide +kernel) zh_85
theorem zi_85_51 : z_ins 85 51 = some (.aload_n 0, 1) := by decide +kernel
theorem ze_85_51 : z_T g d 85 51 (.ref a :: ls) st h P = z_T g d 85 52 (.ref a :: ls) (.ref a :: st) h P := zt_aloadn zi_85_51 rfl rfl
theorem zi_85_52 : z_ins 85 52 = some (.getfield 65, 3) := by decide +kernel
theorem ze_85_52 : z_T g d 85 52 ls (.ref a :: st) h P = z_gR h.1 a 9 7 (fun x => z_T g d 85 55 ls (x :: st) h P) := zt_getR zi_85_52 ((congrArg (fun o => z_fl o 65) zo_85).trans zf_LatinRectangles_65)
theorem zi_85_55 : z_ins 85 55 = some (.aload_n 0, 1) := by decide +kernel
theorem ze_85_55 : z_T g d 85 55 (.ref a :: ls) st h P = z_T g d 85 56 (.ref a :: ls) (.ref a :: st) h P := zt_aloadn zi_85_55 rfl rfl
theorem zi_85_56 : z_ins 85 56 = some (.getfield 12, 3) := by decide +kernel
theorem ze_85_56 : z_T g d 85 56 ls (.ref a :: st) h P = z_gR h.1 a 9 0 (fun x => z_T g d 85 59 ls (x :: st) h P) := zt_getR zi_85_56 ((congrArg (fun o => z_fl o 12) zo_85).trans zf_LatinRectangles_12)
theorem zi_85_59 : z_ins 85 59 = some (.invokevirtual 235, 3) := by decide +kernel
theorem ze_85_59 : z_T g d 85 59 ls (.ref a0 :: .ref a :: st) h P = ((z_okS 8 st = true ∧ z_gO h.1 a 4 ∧ 0 < d) ∧ z_Ca g (d - 1) 40 [.ref a, .ref a0] h (fun r => z_k r (fun v h' => z_T g d 85 62 ls (z_push v st) h' P) P)) := zt_cV (as := [.ref a0]) (kk := 0) zi_85_59 rfl (zt_call zj_85 zh_85) (z_opV ((congrArg (fun o => z_lookup z_cns (o, 235)) zo_85).trans zq_cns_LatinRectangles_235) ((congrArg (fun o => z_lookup z_prs (o, 235)) zo_85).trans zq_prs_LatinRectangles_235)) ((congrArg (fun o => z_clk o 235) zo_85).trans zk_LatinRectangles_235) rfl rfl rfl rfl (z_rcv0 zc_40)
theorem zi_85_62 : z_ins 85 62 = some (.aload_n 0, 1) := by decide +kernel
theorem ze_85_62 : z_T g d 85 62 (.ref a :: ls) st h P = z_T g d 85 63 (.ref a :: ls) (.ref a :: st) h P := zt_aloadn zi_85_62 rfl rfl
theorem zi_85_63 : z_ins 85 63 = some (.getfield 12, 3) := by decide +kernel
theorem ze_85_63 : z_T g d 85 63 ls (.ref a :: st) h P = z_gR h.1 a 9 0 (fun x => z_T g d 85 66 ls (x :: st) h P) := zt_getR zi_85_63 ((congrArg (fun o => z_fl o 12) zo_85).trans zf_LatinRectangles_12)
theorem zi_85_66 : z_ins 85 66 = some (.iload_n 1, 1) := by decide +kernel
theorem ze_85_66 : z_T g d 85 66 (v0 :: .int x :: ls) st h P = z_T g d 85 67 (v0 :: .int x :: ls) (.int x :: st) h P := zt_iloadn zi_85_66 rfl rfl
theorem zi_85_67 : z_ins 85 67 = some (.iload_n 2, 1) := by decide +kernel
theorem ze_85_67 : z_T g d 85 67 (v0 :: v1 :: .int x :: ls) st h P = z_T g d 85 68 (v0 :: v1 :: .int x :: ls) (.int x :: st) h P := zt_iloadn zi_85_67 rfl rfl
theorem zi_85_68 : z_ins 85 68 = some (.invokevirtual 243, 3) := by decide +kernel
theorem ze_85_68 : z_T g d 85 68 ls (.int x1 :: .int x0 :: .ref a :: st) h P = ((z_okS 8 st = true ∧ z_gO h.1 a 3 ∧ 0 < d) ∧ z_Ca g (d - 1) 30 [.ref a, .int x0, .int x1] h (fun r => z_k r (fun v h' => z_T g d 85 71 ls (z_push v st) h' P) P)) := zt_cV (as := [.int x0, .int x1]) (kk := 0) zi_85_68 rfl (zt_call zj_85 zh_85) (z_opV ((congrArg (fun o => z_lookup z_cns (o, 243)) zo_85).trans zq_cns_LatinRectangles_243) ((congrArg (fun o => z_lookup z_prs (o, 243)) zo_85).trans zq_prs_LatinRectangles_243)) ((congrArg (fun o => z_clk o 243) zo_85).trans zk_LatinRectangles_243) rfl rfl rfl rfl (z_rcv0 zc_30)
theorem zi_85_71 : z_ins 85 71 = some (.iload 4, 2) := by decide +kernel
theorem ze_85_71 : z_T g d 85 71 (v0 :: v1 :: v2 :: v3 :: .int x :: ls) st h P = z_T g d 85 73 (v0 :: v1 :: v2 :: v3 :: .int x :: ls) (.int x :: st) h P := zt_iload zi_85_71 rfl
theorem zi_85_73 : z_ins 85 73 = some (.ireturn, 1) := by decide +kernel
theorem ze_85_73 : z_T g d 85 73 ls [.int x] h P = P (.inr (some (.int x)), h) := zt_ireturn zi_85_73 zr_85
-- LatinRectangles.propagate()I
theorem zm_86 : z_maxL 86 = 6 := by decide +kernel
theorem zh_86 : z_hds 86 = [] := by decide +kernel
theorem zj_86 : z_jdk 86 = false := by decide +kernel
theorem zr_86 : z_rt 86 = (some .int) := by decide +kernel
theorem zn_86 : z_Ca g d 86 [.ref a0] h P = z_T g d 86 0 [.ref a0, z_un, z_un, z_un, z_un, z_un] [] h P := z_Ca_ent zm_86 rfl rfl
theorem zi_86_0 : z_ins 86 0 = some (.aload_n 0, 1) := by decide +kernel
theorem ze_86_0 : z_T g d 86 0 (.ref a :: ls) st h P = z_T g d 86 1 (.ref a :: ls) (.ref a :: st) h P := zt_aloadn zi_86_0 rfl rfl
theorem zi_86_1 : z_ins 86 1 = some (.getfield 65, 3) := by decide +kernel
theorem ze_86_1 : z_T g d 86 1 ls (.ref a :: st) h P = z_gR h.1 a 9 7 (fun x => z_T g d 86 4 ls (x :: st) h P) := zt_getR zi_86_1 ((congrArg (fun o => z_fl o 65) zo_86).trans zf_LatinRectangles_65)
theorem zi_86_4 : z_ins 86 4 = some (.aload_n 0, 1) := by decide +kernel
theorem ze_86_4 : z_T g d 86 4 (.ref a :: ls) st h P = z_T g d 86 5 (.ref a :: ls) (.ref a :: st) h P := zt_aloadn zi_86_4 rfl rfl
theorem zi_86_5 : z_ins 86 5 = some (.getfield 12, 3) := by decide +kernel
theorem ze_86_5 : z_T g d 86 5 ls (.ref a :: st) h P = z_gR h.1 a 9 0 (fun x => z_T g d 86 8 ls (x :: st) h P) := zt_getR zi_86_5 ((congrArg (fun o => z_fl o 12) zo_86).trans zf_LatinRectangles_12)
theorem zi_86_8 : z_ins 86 8 = some (.invokevirtual 235, 3) := by decide +kernel
theorem ze_86_8 : z_T g d 86 8 ls (.ref a0 :: .ref a :: st) h P = ((z_okS 8 st = true ∧ z_gO h.1 a 4 ∧ 0 < d) ∧ z_Ca g (d - 1) 40 [.ref a, .ref a0] h (fun r => z_k r (fun v h' => z_T g d 86 11 ls (z_push v st) h' P) P)) := zt_cV (as := [.ref a0]) (kk := 0) zi_86_8 rfl (zt_call zj_86 zh_86) (z_opV ((congrArg (fun o => z_lookup z_cns (o, 235)) zo_86).trans zq_cns_LatinRectangles_235) ((congrArg (fun o => z_lookup z_prs (o, 235)) zo_86).trans zq_prs_LatinRectangles_235)) ((congrArg (fun o => z_clk o 235) zo_86).trans zk_LatinRectangles_235) rfl rfl rfl rfl (z_rcv0 zc_40)
theorem zi_86_11 : z_ins 86 11 = some (.aload_n 0, 1) := by decide +kernel
theorem ze_86_11 : z_T g d 86 11 (.ref a :: ls) st h P = z_T g d 86 12 (.ref a :: ls) (.ref a :: st) h P := zt_aloadn zi_86_11 rfl rfl
theorem zi_86_12 : z_ins 86 12 = some (.getfield 12, 3) := by decide +kernel
theorem ze_86_12 : z_T g d 86 12 ls (.ref a :: st) h P = z_gR h.1 a 9 0 (fun x => z_T g d 86 15 ls (x :: st) h P) := zt_getR zi_86_12 ((congrArg (fun o => z_fl o 12) zo_86).trans zf_LatinRectangles_12)
theorem zi_86_15 : z_ins 86 15 = some (.getfield 128, 3) := by decide +kernel
theorem ze_86_15 : z_T g d 86 15 ls (.ref a :: st) h P = z_gI h.1 a 3 7 (fun x => z_T g d 86 18 ls (.int x :: st) h P) := zt_getI zi_86_15 ((congrArg (fun o => z_fl o 128) zo_86).trans zf_LatinRectangles_128)
theorem zi_86_18 : z_ins 86 18 = some (.istore_n 1, 1) := by decide +kernel
theorem ze_86_18 : z_T g d 86 18 (v0 :: v1 :: ls) (.int x :: st) h P = z_T g d 86 19 (v0 :: .int x :: ls) st h P := zt_istoren zi_86_18 rfl (Nat.le_add_left 2 _)
theorem zi_86_19 : z_ins 86 19 = some (.iconst 0, 1) := by decide +kernel
theorem ze_86_19 : z_T g d 86 19 ls st h P = z_T g d 86 20 ls (.int (nI 0) :: st) h P := zt_iconst zi_86_19 rfl
theorem zi_86_20 : z_ins 86 20 = some (.istore_n 2, 1) := by decide +kernel
theorem ze_86_20 : z_T g d 86 20 (v0 :: v1 :: v2 :: ls) (.int x :: st) h P = z_T g d 86 21 (v0 :: v1 :: .int x :: ls) st h P := zt_istoren zi_86_20 rfl (Nat.le_add_left 3 _)
theorem zi_86_21 : z_ins 86 21 = some (.iload_n 2, 1) := by decide +kernel
theorem ze_86_21 : z_T g d 86 21 (v0 :: v1 :: .int x :: ls) st h P = z_T g d 86 22 (v0 :: v1 :: .int x :: ls) (.int x :: st) h P := zt_iloadn zi_86_21 rfl rfl
theorem zi_86_22 : z_ins 86 22 = some (.bipush 25, 2) := by decide +kernel
theorem ze_86_22 : z_T g d 86 22 ls st h P = z_T g d 86 24 ls (.int (nI 25) :: st) h P := zt_bipush zi_86_22 rfl
theorem zi_86_24 : z_ins 86 24 = some (.if_icmp .ge 58, 3) := by decide +kernel
theorem ze_86_24 : z_T g d 86 24 ls (.int y :: .int x :: st) h P = (if x < y then z_T g d 86 27 ls st h P else z_T g d 86 82 ls st h P) := zt_icmpge zi_86_24 (by decide)
theorem zi_86_27 : z_ins 86 27 = some (.aload_n 0, 1) := by decide +kernel
theorem ze_86_27 : z_T g d 86 27 (.ref a :: ls) st h P = z_T g d 86 28 (.ref a :: ls) (.ref a :: st) h P := zt_aloadn zi_86_27 rfl rfl
theorem zi_86_28 : z_ins 86 28 = some (.getfield 37, 3) := by decide +kernel
theorem ze_86_28 : z_T g d 86 28 ls (.ref a :: st) h P = z_gR h.1 a 9 3 (fun x => z_T g d 86 31 ls (x :: st) h P) := zt_getR zi_86_28 ((congrArg (fun o => z_fl o 37) zo_86).trans zf_LatinRectangles_37)
theorem zi_86_31 : z_ins 86 31 = some (.iconst 0, 1) := by decide +kernel
theorem ze_86_31 : z_T g d 86 31 ls st h P = z_T g d 86 32 ls (.int (nI 0) :: st) h P := zt_iconst zi_86_31 rfl
theorem zi_86_32 : z_ins 86 32 = some (.invokevirtual 161, 3) := by decide +kernel
theorem ze_86_32 : z_T g d 86 32 ls (.int x0 :: .ref a :: st) h P = ((z_okS 8 st = true ∧ z_gO h.1 a 2 ∧ 0 < d) ∧ z_Ca g (d - 1) 17 [.ref a, .int x0] h (fun r => z_k r (fun v h' => z_T g d 86 35 ls (z_push v st) h' P) P)) := zt_cV (as := [.int x0]) (kk := 0) zi_86_32 rfl (zt_call zj_86 zh_86) (z_opV ((congrArg (fun o => z_lookup z_cns (o, 161)) zo_86).trans zq_cns_LatinRectangles_161) ((congrArg (fun o => z_lookup z_prs (o, 161)) zo_86).trans zq_prs_LatinRectangles_161)) ((congrArg (fun o => z_clk o 161) zo_86).trans zk_LatinRectangles_161) rfl rfl rfl rfl (z_rcv0 zc_17)
theorem zi_86_35 : z_ins 86 35 = some (.istore_n 3, 1) := by decide +kernel
theorem ze_86_35 : z_T g d 86 35 (v0 :: v1 :: v2 :: v3 :: ls) (.int x :: st) h P = z_T g d 86 36 (v0 :: v1 :: v2 :: .int x :: ls) st h P := zt_istoren zi_86_35 rfl (Nat.le_add_left 4 _)
theorem zi_86_36 : z_ins 86 36 = some (.iload_n 3, 1) := by decide +kernel
theorem ze_86_36 : z_T g d 86 36 (v0 :: v1 :: v2 :: .int x :: ls) st h P = z_T g d 86 37 (v0 :: v1 :: v2 :: .int x :: ls) (.int x :: st) h P := zt_iloadn zi_86_36 rfl rfl
theorem zi_86_37 : z_ins 86 37 = some (.iconst (-1), 1) := by decide +kernel
theorem ze_86_37 : z_T g d 86 37 ls st h P = z_T g d 86 38 ls (.int (-1) :: st) h P := zt_iconst zi_86_37 rfl
theorem zi_86_38 : z_ins 86 38 = some (.if_icmp .ne 6, 3) := by decide +kernel
theorem ze_86_38 : z_T g d 86 38 ls (.int y :: .int x :: st) h P = (if x = y then z_T g d 86 41 ls st h P else z_T g d 86 44 ls st h P) := zt_icmpne zi_86_38 (by decide)
theorem zi_86_41 : z_ins 86 41 = some (.goto 41, 3) := by decide +kernel
theorem ze_86_41 : z_T g d 86 41 ls st h P = z_T g d 86 82 ls st h P := zt_goto zi_86_41 (by decide)
theorem zi_86_44 : z_ins 86 44 = some (.iload_n 3, 1) := by decide +kernel
theorem ze_86_44 : z_T g d 86 44 (v0 :: v1 :: v2 :: .int x :: ls) st h P = z_T g d 86 45 (v0 :: v1 :: v2 :: .int x :: ls) (.int x :: st) h P := zt_iloadn zi_86_44 rfl rfl
theorem zi_86_45 : z_ins 86 45 = some (.iconst 5, 1) := by decide +kernel
theorem ze_86_45 : z_T g d 86 45 ls st h P = z_T g d 86 46 ls (.int (nI 5) :: st) h P := zt_iconst zi_86_45 rfl
theorem zi_86_46 : z_ins 86 46 = some (.idiv, 1) := by decide +kernel
theorem ze_86_46 : z_T g d 86 46 ls (.int y :: .int x :: st) h P = (¬ y = nI 0 ∧ z_T g d 86 47 ls (.int (x / y) :: st) h P) := zt_idiv zi_86_46
theorem zi_86_47 : z_ins 86 47 = some (.istore 4, 2) := by decide +kernel
theorem ze_86_47 : z_T g d 86 47 (v0 :: v1 :: v2 :: v3 :: v4 :: ls) (.int x :: st) h P = z_T g d 86 49 (v0 :: v1 :: v2 :: v3 :: .int x :: ls) st h P := zt_istore zi_86_47 (Nat.le_add_left 5 _)
theorem zi_86_49 : z_ins 86 49 = some (.iload_n 3, 1) := by decide +kernel
theorem ze_86_49 : z_T g d 86 49 (v0 :: v1 :: v2 :: .int x :: ls) st h P = z_T g d 86 50 (v0 :: v1 :: v2 :: .int x :: ls) (.int x :: st) h P := zt_iloadn zi_86_49 rfl rfl
theorem zi_86_50 : z_ins 86 50 = some (.iconst 5, 1) := by decide +kernel
theorem ze_86_50 : z_T g d 86 50 ls st h P = z_T g d 86 51 ls (.int (nI 5) :: st) h P := zt_iconst zi_86_50 rfl
theorem zi_86_51 : z_ins 86 51 = some (.irem, 1) := by decide +kernel
theorem ze_86_51 : z_T g d 86 51 ls (.int y :: .int x :: st) h P = (¬ y = nI 0 ∧ z_T g d 86 52 ls (.int (x - x / y * y) :: st) h P) := zt_irem zi_86_51
theorem zi_86_52 : z_ins 86 52 = some (.istore 5, 2) := by decide +kernel
theorem ze_86_52 : z_T g d 86 52 (v0 :: v1 :: v2 :: v3 :: v4 :: v5 :: ls) (.int x :: st) h P = z_T g d 86 54 (v0 :: v1 :: v2 :: v3 :: v4 :: .int x :: ls) st h P := zt_istore zi_86_52 (Nat.le_add_left 6 _)
theorem zi_86_54 : z_ins 86 54 = some (.aload_n 0, 1) := by decide +kernel
theorem ze_86_54 : z_T g d 86 54 (.ref a :: ls) st h P = z_T g d 86 55 (.ref a :: ls) (.ref a :: st) h P := zt_aloadn zi_86_54 rfl rfl
theorem zi_86_55 : z_ins 86 55 = some (.getfield 12, 3) := by decide +kernel
theorem ze_86_55 : z_T g d 86 55 ls (.ref a :: st) h P = z_gR h.1 a 9 0 (fun x => z_T g d 86 58 ls (x :: st) h P) := zt_getR zi_86_55 ((congrArg (fun o => z_fl o 12) zo_86).trans zf_LatinRectangles_12)
theorem zi_86_58 : z_ins 86 58 = some (.iload 4, 2) := by decide +kernel
theorem ze_86_58 : z_T g d 86 58 (v0 :: v1 :: v2 :: v3 :: .int x :: ls) st h P = z_T g d 86 60 (v0 :: v1 :: v2 :: v3 :: .int x :: ls) (.int x :: st) h P := zt_iload zi_86_58 rfl
theorem zi_86_60 : z_ins 86 60 = some (.iload 5, 2) := by decide +kernel
theorem ze_86_60 : z_T g d 86 60 (v0 :: v1 :: v2 :: v3 :: v4 :: .int x :: ls) st h P = z_T g d 86 62 (v0 :: v1 :: v2 :: v3 :: v4 :: .int x :: ls) (.int x :: st) h P := zt_iload zi_86_60 rfl
theorem zi_86_62 : z_ins 86 62 = some (.aload_n 0, 1) := by decide +kernel
theorem ze_86_62 : z_T g d 86 62 (.ref a :: ls) st h P = z_T g d 86 63 (.ref a :: ls) (.ref a :: st) h P := zt_aloadn zi_86_62 rfl rfl
theorem zi_86_63 : z_ins 86 63 = some (.getfield 37, 3) := by decide +kernel
theorem ze_86_63 : z_T g d 86 63 ls (.ref a :: st) h P = z_gR h.1 a 9 3 (fun x => z_T g d 86 66 ls (x :: st) h P) := zt_getR zi_86_63 ((congrArg (fun o => z_fl o 37) zo_86).trans zf_LatinRectangles_37)
theorem zi_86_66 : z_ins 86 66 = some (.iload 4, 2) := by decide +kernel
theorem ze_86_66 : z_T g d 86 66 (v0 :: v1 :: v2 :: v3 :: .int x :: ls) st h P = z_T g d 86 68 (v0 :: v1 :: v2 :: v3 :: .int x :: ls) (.int x :: st) h P := zt_iload zi_86_66 rfl
theorem zi_86_68 : z_ins 86 68 = some (.iload 5, 2) := by decide +kernel
theorem ze_86_68 : z_T g d 86 68 (v0 :: v1 :: v2 :: v3 :: v4 :: .int x :: ls) st h P = z_T g d 86 70 (v0 :: v1 :: v2 :: v3 :: v4 :: .int x :: ls) (.int x :: st) h P := zt_iload zi_86_68 rfl
theorem zi_86_70 : z_ins 86 70 = some (.invokevirtual 165, 3) := by decide +kernel
theorem ze_86_70 : z_T g d 86 70 ls (.int x1 :: .int x0 :: .ref a :: st) h P = ((z_okS 8 st = true ∧ z_gO h.1 a 2 ∧ 0 < d) ∧ z_Ca g (d - 1) 19 [.ref a, .int x0, .int x1] h (fun r => z_k r (fun v h' => z_T g d 86 73 ls (z_push v st) h' P) P)) := zt_cV (as := [.int x0, .int x1]) (kk := 0) zi_86_70 rfl (zt_call zj_86 zh_86) (z_opV ((congrArg (fun o => z_lookup z_cns (o, 165)) zo_86).trans zq_cns_LatinRectangles_165) ((congrArg (fun o => z_lookup z_prs (o, 165)) zo_86).trans zq_prs_LatinRectangles_165)) ((congrArg (fun o => z_clk o 165) zo_86).trans zk_LatinRectangles_165) rfl rfl rfl rfl (z_rcv0 zc_19)
theorem zi_86_73 : z_ins 86 73 = some (.invokevirtual 238, 3) := by decide +kernel
theorem ze_86_73 : z_T g d 86 73 ls (.int x2 :: .int x1 :: .int x0 :: .ref a :: st) h P = ((z_okS 8 st = true ∧ z_gO h.1 a 3 ∧ 0 < d) ∧ z_Ca g (d - 1) 29 [.ref a, .int x0, .int x1, .int x2] h (fun r => z_k r (fun v h' => z_T g d 86 76 ls (z_push v st) h' P) P)) := zt_cV (as := [.int x0, .int x1, .int x2]) (kk := 0) zi_86_73 rfl (zt_call zj_86 zh_86) (z_opV ((congrArg (fun o => z_lookup z_cns (o, 238)) zo_86).trans zq_cns_LatinRectangles_238) ((congrArg (fun o => z_lookup z_prs (o, 238)) zo_86).trans zq_prs_LatinRectangles_238)) ((congrArg (fun o => z_clk o 238) zo_86).trans zk_LatinRectangles_238) rfl rfl rfl rfl (z_rcv0 zc_29)
theorem zi_86_76 : z_ins 86 76 = some (.iinc 2 1, 3) := by decide +kernel
theorem ze_86_76 : z_T g d 86 76 (v0 :: v1 :: .int x :: ls) st h P = z_T g d 86 79 (v0 :: v1 :: .int (x + (nI 1)) :: ls) st h P := zt_iinc zi_86_76 rfl rfl
theorem zi_86_79 : z_ins 86 79 = some (.goto (-58), 3) := by decide +kernel
theorem ze_86_79 : z_T g d 86 79 ls st h P = z_T g d 86 21 ls st h P := zt_goto zi_86_79 (by decide)
theorem zi_86_82 : z_ins 86 82 = some (.aload_n 0, 1) := by decide +kernel
theorem ze_86_82 : z_T g d 86 82 (.ref a :: ls) st h P = z_T g d 86 83 (.ref a :: ls) (.ref a :: st) h P := zt_aloadn zi_86_82 rfl rfl
theorem zi_86_83 : z_ins 86 83 = some (.getfield 12, 3) := by decide +kernel
theorem ze_86_83 : z_T g d 86 83 ls (.ref a :: st) h P = z_gR h.1 a 9 0 (fun x => z_T g d 86 86 ls (x :: st) h P) := zt_getR zi_86_83 ((congrArg (fun o => z_fl o 12) zo_86).trans zf_LatinRectangles_12)
theorem zi_86_86 : z_ins 86 86 = some (.getfield 128, 3) := by decide +kernel
theorem ze_86_86 : z_T g d 86 86 ls (.ref a :: st) h P = z_gI h.1 a 3 7 (fun x => z_T g d 86 89 ls (.int x :: st) h P) := zt_getI zi_86_86 ((congrArg (fun o => z_fl o 128) zo_86).trans zf_LatinRectangles_128)
theorem zi_86_89 : z_ins 86 89 = some (.iload_n 1, 1) := by decide +kernel
theorem ze_86_89 : z_T g d 86 89 (v0 :: .int x :: ls) st h P = z_T g d 86 90 (v0 :: .int x :: ls) (.int x :: st) h P := zt_iloadn zi_86_89 rfl rfl
theorem zi_86_90 : z_ins 86 90 = some (.isub, 1) := by decide +kernel
theorem ze_86_90 : z_T g d 86 90 ls (.int y :: .int x :: st) h P = z_T g d 86 91 ls (.int (x - y) :: st) h P := zt_bin (f := fun x y => x - y) zi_86_90 rfl (fun _ _ _ => rfl)
theorem zi_86_91 : z_ins 86 91 = some (.ireturn, 1) := by decide +kernel
theorem ze_86_91 : z_T g d 86 91 ls [.int x] h P = P (.inr (some (.int x)), h) := zt_ireturn zi_86_91 zr_86
-- LatinRectangles.fillRow(I)I
theorem zm_87 : z_maxL 87 = 4 := by decide +kernel
theorem zh_87 : z_hds 87 = [] := by decide +kernel
theorem zj_87 : z_jdk 87 = false := by decide +kernel
theorem zr_87 : z_rt 87 = (some .int) := by decide +kernel
theorem zn_87 : z_Ca g d 87 [.ref a0, .int x1] h P = z_T g d 87 0 [.ref a0, .int x1, z_un, z_un] [] h P := z_Ca_ent zm_87 rfl rfl
theorem zi_87_0 : z_ins 87 0 = some (.aload_n 0, 1) := by decide +kernel
theorem ze_87_0 : z_T g d 87 0 (.ref a :: ls) st h P = z_T g d 87 1 (.ref a :: ls) (.ref a :: st) h P := zt_aloadn zi_87_0 rfl rfl
theorem zi_87_1 : z_ins 87 1 = some (.iload_n 1, 1) := by decide +kernel
theorem ze_87_1 : z_T g d 87 1 (v0 :: .int x :: ls) st h P = z_T g d 87 2 (v0 :: .int x :: ls) (.int x :: st) h P := zt_iloadn zi_87_1 rfl rfl
theorem zi_87_2 : z_ins 87 2 = some (.invokevirtual 194, 3) := by decide +kernel
theorem ze_87_2 : z_T g d 87 2 ls (.int x0 :: .ref a :: st) h P = ((z_okS 8 st = true ∧ z_gO h.1 a 9 ∧ 0 < d) ∧ z_Ca g (d - 1) 89 [.ref a, .int x0] h (fun r => z_k r (fun v h' => z_T g d 87 5 ls (z_push v st) h' P) P)) := zt_cV (as := [.int x0]) (kk := 0) zi_87_2 rfl (zt_call zj_87 zh_87) (z_opV ((congrArg (fun o => z_lookup z_cns (o, 194)) zo_87).trans zq_cns_LatinRectangles_194) ((congrArg (fun o => z_lookup z_prs (o, 194)) zo_87).trans zq_prs_LatinRectangles_194)) ((congrArg (fun o => z_clk o 194) zo_87).trans zk_LatinRectangles_194) rfl rfl rfl rfl (z_rcv0 zc_89)
theorem zi_87_5 : z_ins 87 5 = some (.aload_n 0, 1) := by decide +kernel
theorem ze_87_5 : z_T g d 87 5 (.ref a :: ls) st h P = z_T g d 87 6 (.ref a :: ls) (.ref a :: st) h P := zt_aloadn zi_87_5 rfl rfl
theorem zi_87_6 : z_ins 87 6 = some (.getfield 12, 3) := by decide +kernel
theorem ze_87_6 : z_T g d 87 6 ls (.ref a :: st) h P = z_gR h.1 a 9 0 (fun x => z_T g d 87 9 ls (x :: st) h P) := zt_getR zi_87_6 ((congrArg (fun o => z_fl o 12) zo_87).trans zf_LatinRectangles_12)
theorem zi_87_9 : z_ins 87 9 = some (.iload_n 1, 1) := by decide +kernel
theorem ze_87_9 : z_T g d 87 9 (v0 :: .int x :: ls) st h P = z_T g d 87 10 (v0 :: .int x :: ls) (.int x :: st) h P := zt_iloadn zi_87_9 rfl rfl
theorem zi_87_10 : z_ins 87 10 = some (.iconst 0, 1) := by decide +kernel
theorem ze_87_10 : z_T g d 87 10 ls st h P = z_T g d 87 11 ls (.int (nI 0) :: st) h P := zt_iconst zi_87_10 rfl
theorem zi_87_11 : z_ins 87 11 = some (.iconst 0, 1) := by decide +kernel
theorem ze_87_11 : z_T g d 87 11 ls st h P = z_T g d 87 12 ls (.int (nI 0) :: st) h P := zt_iconst zi_87_11 rfl
theorem zi_87_12 : z_ins 87 12 = some (.aload_n 0, 1) := by decide +kernel
theorem ze_87_12 : z_T g d 87 12 (.ref a :: ls) st h P = z_T g d 87 13 (.ref a :: ls) (.ref a :: st) h P := zt_aloadn zi_87_12 rfl rfl
theorem zi_87_13 : z_ins 87 13 = some (.getfield 76, 3) := by decide +kernel
theorem ze_87_13 : z_T g d 87 13 ls (.ref a :: st) h P = z_gR h.1 a 9 9 (fun x => z_T g d 87 16 ls (x :: st) h P) := zt_getR zi_87_13 ((congrArg (fun o => z_fl o 76) zo_87).trans zf_LatinRectangles_76)
theorem zi_87_16 : z_ins 87 16 = some (.invokestatic 246, 3) := by decide +kernel
theorem ze_87_16 : z_T g d 87 16 ls (.ref a4 :: .int x3 :: .int x2 :: .int x1 :: .ref a0 :: st) h P = ((z_okS 8 st = true ∧ 0 < d) ∧ z_Ca g (d - 1) 93 [.ref a0, .int x1, .int x2, .int x3, .ref a4] h (fun r => z_k r (fun v h' => z_T g d 87 19 ls (z_push v st) h' P) P)) := zt_cS (as := [.ref a0, .int x1, .int x2, .int x3, .ref a4]) (kk := 1) zi_87_16 rfl (zt_call zj_87 zh_87) (z_opT ((congrArg (fun o => z_lookup z_cps (o, 246)) zo_87).trans zq_cps_LatinRectangles_246) ((congrArg (fun o => z_lookup z_prs (o, 246)) zo_87).trans zq_prs_LatinRectangles_246)) ((congrArg (fun o => z_clk o 246) zo_87).trans zk_LatinRectangles_246) rfl rfl rfl rfl rfl
theorem zi_87_19 : z_ins 87 19 = some (.ifCond .ne 13, 3) := by decide +kernel
theorem ze_87_19 : z_T g d 87 19 ls (.int x :: st) h P = (if x = nI 0 then z_T g d 87 22 ls st h P else z_T g d 87 32 ls st h P) := zt_ifne zi_87_19 (by decide)
theorem zi_87_22 : z_ins 87 22 = some (.new 230, 3) := by decide +kernel
theorem ze_87_22 : z_T g d 87 22 ls [] h P = P (.inl "java/lang/IllegalStateException", (h.1, h.2.1.map (· + 1), h.2.2.1 + 1, h.2.2.2 + 6)) := zt_throwN zi_87_22 (by decide +kernel) (by decide +kernel) zh_87
theorem zi_87_32 : z_ins 87 32 = some (.aload_n 0, 1) := by decide +kernel
theorem ze_87_32 : z_T g d 87 32 (.ref a :: ls) st h P = z_T g d 87 33 (.ref a :: ls) (.ref a :: st) h P := zt_aloadn zi_87_32 rfl rfl
theorem zi_87_33 : z_ins 87 33 = some (.getfield 65, 3) := by decide +kernel
theorem ze_87_33 : z_T g d 87 33 ls (.ref a :: st) h P = z_gR h.1 a 9 7 (fun x => z_T g d 87 36 ls (x :: st) h P) := zt_getR zi_87_33 ((congrArg (fun o => z_fl o 65) zo_87).trans zf_LatinRectangles_65)
theorem zi_87_36 : z_ins 87 36 = some (.aload_n 0, 1) := by decide +kernel
theorem ze_87_36 : z_T g d 87 36 (.ref a :: ls) st h P = z_T g d 87 37 (.ref a :: ls) (.ref a :: st) h P := zt_aloadn zi_87_36 rfl rfl
theorem zi_87_37 : z_ins 87 37 = some (.getfield 12, 3) := by decide +kernel
theorem ze_87_37 : z_T g d 87 37 ls (.ref a :: st) h P = z_gR h.1 a 9 0 (fun x => z_T g d 87 40 ls (x :: st) h P) := zt_getR zi_87_37 ((congrArg (fun o => z_fl o 12) zo_87).trans zf_LatinRectangles_12)
theorem zi_87_40 : z_ins 87 40 = some (.invokevirtual 235, 3) := by decide +kernel
theorem ze_87_40 : z_T g d 87 40 ls (.ref a0 :: .ref a :: st) h P = ((z_okS 8 st = true ∧ z_gO h.1 a 4 ∧ 0 < d) ∧ z_Ca g (d - 1) 40 [.ref a, .ref a0] h (fun r => z_k r (fun v h' => z_T g d 87 43 ls (z_push v st) h' P) P)) := zt_cV (as := [.ref a0]) (kk := 0) zi_87_40 rfl (zt_call zj_87 zh_87) (z_opV ((congrArg (fun o => z_lookup z_cns (o, 235)) zo_87).trans zq_cns_LatinRectangles_235) ((congrArg (fun o => z_lookup z_prs (o, 235)) zo_87).trans zq_prs_LatinRectangles_235)) ((congrArg (fun o => z_clk o 235) zo_87).trans zk_LatinRectangles_235) rfl rfl rfl rfl (z_rcv0 zc_40)
theorem zi_87_43 : z_ins 87 43 = some (.aload_n 0, 1) := by decide +kernel
theorem ze_87_43 : z_T g d 87 43 (.ref a :: ls) st h P = z_T g d 87 44 (.ref a :: ls) (.ref a :: st) h P := zt_aloadn zi_87_43 rfl rfl
theorem zi_87_44 : z_ins 87 44 = some (.getfield 12, 3) := by decide +kernel
theorem ze_87_44 : z_T g d 87 44 ls (.ref a :: st) h P = z_gR h.1 a 9 0 (fun x => z_T g d 87 47 ls (x :: st) h P) := zt_getR zi_87_44 ((congrArg (fun o => z_fl o 12) zo_87).trans zf_LatinRectangles_12)
theorem zi_87_47 : z_ins 87 47 = some (.getfield 128, 3) := by decide +kernel
theorem ze_87_47 : z_T g d 87 47 ls (.ref a :: st) h P = z_gI h.1 a 3 7 (fun x => z_T g d 87 50 ls (.int x :: st) h P) := zt_getI zi_87_47 ((congrArg (fun o => z_fl o 128) zo_87).trans zf_LatinRectangles_128)
theorem zi_87_50 : z_ins 87 50 = some (.istore_n 2, 1) := by decide +kernel
theorem ze_87_50 : z_T g d 87 50 (v0 :: v1 :: v2 :: ls) (.int x :: st) h P = z_T g d 87 51 (v0 :: v1 :: .int x :: ls) st h P := zt_istoren zi_87_50 rfl (Nat.le_add_left 3 _)
theorem zi_87_51 : z_ins 87 51 = some (.iconst 0, 1) := by decide +kernel
theorem ze_87_51 : z_T g d 87 51 ls st h P = z_T g d 87 52 ls (.int (nI 0) :: st) h P := zt_iconst zi_87_51 rfl
theorem zi_87_52 : z_ins 87 52 = some (.istore_n 3, 1) := by decide +kernel
theorem ze_87_52 : z_T g d 87 52 (v0 :: v1 :: v2 :: v3 :: ls) (.int x :: st) h P = z_T g d 87 53 (v0 :: v1 :: v2 :: .int x :: ls) st h P := zt_istoren zi_87_52 rfl (Nat.le_add_left 4 _)
theorem zi_87_53 : z_ins 87 53 = some (.iload_n 3, 1) := by decide +kernel
theorem ze_87_53 : z_T g d 87 53 (v0 :: v1 :: v2 :: .int x :: ls) st h P = z_T g d 87 54 (v0 :: v1 :: v2 :: .int x :: ls) (.int x :: st) h P := zt_iloadn zi_87_53 rfl rfl
theorem zi_87_54 : z_ins 87 54 = some (.aload_n 0, 1) := by decide +kernel
theorem ze_87_54 : z_T g d 87 54 (.ref a :: ls) st h P = z_T g d 87 55 (.ref a :: ls) (.ref a :: st) h P := zt_aloadn zi_87_54 rfl rfl
theorem zi_87_55 : z_ins 87 55 = some (.getfield 12, 3) := by decide +kernel
theorem ze_87_55 : z_T g d 87 55 ls (.ref a :: st) h P = z_gR h.1 a 9 0 (fun x => z_T g d 87 58 ls (x :: st) h P) := zt_getR zi_87_55 ((congrArg (fun o => z_fl o 12) zo_87).trans zf_LatinRectangles_12)
theorem zi_87_58 : z_ins 87 58 = some (.getfield 125, 3) := by decide +kernel
theorem ze_87_58 : z_T g d 87 58 ls (.ref a :: st) h P = z_gI h.1 a 3 6 (fun x => z_T g d 87 61 ls (.int x :: st) h P) := zt_getI zi_87_58 ((congrArg (fun o => z_fl o 125) zo_87).trans zf_LatinRectangles_125)
theorem zi_87_61 : z_ins 87 61 = some (.if_icmp .ge 41, 3) := by decide +kernel
theorem ze_87_61 : z_T g d 87 61 ls (.int y :: .int x :: st) h P = (if x < y then z_T g d 87 64 ls st h P else z_T g d 87 102 ls st h P) := zt_icmpge zi_87_61 (by decide)
theorem zi_87_64 : z_ins 87 64 = some (.aload_n 0, 1) := by decide +kernel
theorem ze_87_64 : z_T g d 87 64 (.ref a :: ls) st h P = z_T g d 87 65 (.ref a :: ls) (.ref a :: st) h P := zt_aloadn zi_87_64 rfl rfl
theorem zi_87_65 : z_ins 87 65 = some (.getfield 12, 3) := by decide +kernel
theorem ze_87_65 : z_T g d 87 65 ls (.ref a :: st) h P = z_gR h.1 a 9 0 (fun x => z_T g d 87 68 ls (x :: st) h P) := zt_getR zi_87_65 ((congrArg (fun o => z_fl o 12) zo_87).trans zf_LatinRectangles_12)
theorem zi_87_68 : z_ins 87 68 = some (.getfield 147, 3) := by decide +kernel
theorem ze_87_68 : z_T g d 87 68 ls (.ref a :: st) h P = z_gR h.1 a 3 0 (fun x => z_T g d 87 71 ls (x :: st) h P) := zt_getR zi_87_68 ((congrArg (fun o => z_fl o 147) zo_87).trans zf_LatinRectangles_147)
theorem zi_87_71 : z_ins 87 71 = some (.iload_n 1, 1) := by decide +kernel
theorem ze_87_71 : z_T g d 87 71 (v0 :: .int x :: ls) st h P = z_T g d 87 72 (v0 :: .int x :: ls) (.int x :: st) h P := zt_iloadn zi_87_71 rfl rfl
theorem zi_87_72 : z_ins 87 72 = some (.iconst 5, 1) := by decide +kernel
theorem ze_87_72 : z_T g d 87 72 ls st h P = z_T g d 87 73 ls (.int (nI 5) :: st) h P := zt_iconst zi_87_72 rfl
theorem zi_87_73 : z_ins 87 73 = some (.imul, 1) := by decide +kernel
theorem ze_87_73 : z_T g d 87 73 ls (.int y :: .int x :: st) h P = z_T g d 87 74 ls (.int (x * y) :: st) h P := zt_bin (f := fun x y => x * y) zi_87_73 rfl (fun _ _ _ => rfl)
theorem zi_87_74 : z_ins 87 74 = some (.iload_n 3, 1) := by decide +kernel
theorem ze_87_74 : z_T g d 87 74 (v0 :: v1 :: v2 :: .int x :: ls) st h P = z_T g d 87 75 (v0 :: v1 :: v2 :: .int x :: ls) (.int x :: st) h P := zt_iloadn zi_87_74 rfl rfl
theorem zi_87_75 : z_ins 87 75 = some (.iadd, 1) := by decide +kernel
theorem ze_87_75 : z_T g d 87 75 ls (.int y :: .int x :: st) h P = z_T g d 87 76 ls (.int (x + y) :: st) h P := zt_bin (f := fun x y => x + y) zi_87_75 rfl (fun _ _ _ => rfl)
theorem zi_87_76 : z_ins 87 76 = some (.iaload, 1) := by decide +kernel
theorem ze_87_76 : z_T g d 87 76 ls (.int x :: .ref a :: st) h P = z_aL h.1 a z_tI x (fun v => z_T g d 87 77 ls (.int v :: st) h P) := zt_iaload zi_87_76
theorem zi_87_77 : z_ins 87 77 = some (.iconst (-1), 1) := by decide +kernel
theorem ze_87_77 : z_T g d 87 77 ls st h P = z_T g d 87 78 ls (.int (-1) :: st) h P := zt_iconst zi_87_77 rfl
theorem zi_87_78 : z_ins 87 78 = some (.if_icmp .ne 18, 3) := by decide +kernel
theorem ze_87_78 : z_T g d 87 78 ls (.int y :: .int x :: st) h P = (if x = y then z_T g d 87 81 ls st h P else z_T g d 87 96 ls st h P) := zt_icmpne zi_87_78 (by decide)
theorem zi_87_81 : z_ins 87 81 = some (.aload_n 0, 1) := by decide +kernel
theorem ze_87_81 : z_T g d 87 81 (.ref a :: ls) st h P = z_T g d 87 82 (.ref a :: ls) (.ref a :: st) h P := zt_aloadn zi_87_81 rfl rfl
theorem zi_87_82 : z_ins 87 82 = some (.getfield 12, 3) := by decide +kernel
theorem ze_87_82 : z_T g d 87 82 ls (.ref a :: st) h P = z_gR h.1 a 9 0 (fun x => z_T g d 87 85 ls (x :: st) h P) := zt_getR zi_87_82 ((congrArg (fun o => z_fl o 12) zo_87).trans zf_LatinRectangles_12)
theorem zi_87_85 : z_ins 87 85 = some (.iload_n 1, 1) := by decide +kernel
theorem ze_87_85 : z_T g d 87 85 (v0 :: .int x :: ls) st h P = z_T g d 87 86 (v0 :: .int x :: ls) (.int x :: st) h P := zt_iloadn zi_87_85 rfl rfl
theorem zi_87_86 : z_ins 87 86 = some (.iload_n 3, 1) := by decide +kernel
theorem ze_87_86 : z_T g d 87 86 (v0 :: v1 :: v2 :: .int x :: ls) st h P = z_T g d 87 87 (v0 :: v1 :: v2 :: .int x :: ls) (.int x :: st) h P := zt_iloadn zi_87_86 rfl rfl
theorem zi_87_87 : z_ins 87 87 = some (.aload_n 0, 1) := by decide +kernel
theorem ze_87_87 : z_T g d 87 87 (.ref a :: ls) st h P = z_T g d 87 88 (.ref a :: ls) (.ref a :: st) h P := zt_aloadn zi_87_87 rfl rfl
theorem zi_87_88 : z_ins 87 88 = some (.getfield 76, 3) := by decide +kernel
theorem ze_87_88 : z_T g d 87 88 ls (.ref a :: st) h P = z_gR h.1 a 9 9 (fun x => z_T g d 87 91 ls (x :: st) h P) := zt_getR zi_87_88 ((congrArg (fun o => z_fl o 76) zo_87).trans zf_LatinRectangles_76)
theorem zi_87_91 : z_ins 87 91 = some (.iload_n 3, 1) := by decide +kernel
theorem ze_87_91 : z_T g d 87 91 (v0 :: v1 :: v2 :: .int x :: ls) st h P = z_T g d 87 92 (v0 :: v1 :: v2 :: .int x :: ls) (.int x :: st) h P := zt_iloadn zi_87_91 rfl rfl
theorem zi_87_92 : z_ins 87 92 = some (.iaload, 1) := by decide +kernel
theorem ze_87_92 : z_T g d 87 92 ls (.int x :: .ref a :: st) h P = z_aL h.1 a z_tI x (fun v => z_T g d 87 93 ls (.int v :: st) h P) := zt_iaload zi_87_92
theorem zi_87_93 : z_ins 87 93 = some (.invokevirtual 238, 3) := by decide +kernel
theorem ze_87_93 : z_T g d 87 93 ls (.int x2 :: .int x1 :: .int x0 :: .ref a :: st) h P = ((z_okS 8 st = true ∧ z_gO h.1 a 3 ∧ 0 < d) ∧ z_Ca g (d - 1) 29 [.ref a, .int x0, .int x1, .int x2] h (fun r => z_k r (fun v h' => z_T g d 87 96 ls (z_push v st) h' P) P)) := zt_cV (as := [.int x0, .int x1, .int x2]) (kk := 0) zi_87_93 rfl (zt_call zj_87 zh_87) (z_opV ((congrArg (fun o => z_lookup z_cns (o, 238)) zo_87).trans zq_cns_LatinRectangles_238) ((congrArg (fun o => z_lookup z_prs (o, 238)) zo_87).trans zq_prs_LatinRectangles_238)) ((congrArg (fun o => z_clk o 238) zo_87).trans zk_LatinRectangles_238) rfl rfl rfl rfl (z_rcv0 zc_29)
theorem zi_87_96 : z_ins 87 96 = some (.iinc 3 1, 3) := by decide +kernel
theorem ze_87_96 : z_T g d 87 96 (v0 :: v1 :: v2 :: .int x :: ls) st h P = z_T g d 87 99 (v0 :: v1 :: v2 :: .int (x + (nI 1)) :: ls) st h P := zt_iinc zi_87_96 rfl rfl
theorem zi_87_99 : z_ins 87 99 = some (.goto (-46), 3) := by decide +kernel
theorem ze_87_99 : z_T g d 87 99 ls st h P = z_T g d 87 53 ls st h P := zt_goto zi_87_99 (by decide)
theorem zi_87_102 : z_ins 87 102 = some (.aload_n 0, 1) := by decide +kernel
theorem ze_87_102 : z_T g d 87 102 (.ref a :: ls) st h P = z_T g d 87 103 (.ref a :: ls) (.ref a :: st) h P := zt_aloadn zi_87_102 rfl rfl
theorem zi_87_103 : z_ins 87 103 = some (.getfield 12, 3) := by decide +kernel
theorem ze_87_103 : z_T g d 87 103 ls (.ref a :: st) h P = z_gR h.1 a 9 0 (fun x => z_T g d 87 106 ls (x :: st) h P) := zt_getR zi_87_103 ((congrArg (fun o => z_fl o 12) zo_87).trans zf_LatinRectangles_12)
theorem zi_87_106 : z_ins 87 106 = some (.getfield 128, 3) := by decide +kernel
theorem ze_87_106 : z_T g d 87 106 ls (.ref a :: st) h P = z_gI h.1 a 3 7 (fun x => z_T g d 87 109 ls (.int x :: st) h P) := zt_getI zi_87_106 ((congrArg (fun o => z_fl o 128) zo_87).trans zf_LatinRectangles_128)
theorem zi_87_109 : z_ins 87 109 = some (.iload_n 2, 1) := by decide +kernel
theorem ze_87_109 : z_T g d 87 109 (v0 :: v1 :: .int x :: ls) st h P = z_T g d 87 110 (v0 :: v1 :: .int x :: ls) (.int x :: st) h P := zt_iloadn zi_87_109 rfl rfl
theorem zi_87_110 : z_ins 87 110 = some (.isub, 1) := by decide +kernel
theorem ze_87_110 : z_T g d 87 110 ls (.int y :: .int x :: st) h P = z_T g d 87 111 ls (.int (x - y) :: st) h P := zt_bin (f := fun x y => x - y) zi_87_110 rfl (fun _ _ _ => rfl)
theorem zi_87_111 : z_ins 87 111 = some (.ireturn, 1) := by decide +kernel
theorem ze_87_111 : z_T g d 87 111 ls [.int x] h P = P (.inr (some (.int x)), h) := zt_ireturn zi_87_111 zr_87
-- LatinRectangles.switchCycle(III)I
theorem zm_88 : z_maxL 88 = 5 := by decide +kernel
theorem zh_88 : z_hds 88 = [] := by decide +kernel
theorem zj_88 : z_jdk 88 = false := by decide +kernel
theorem zr_88 : z_rt 88 = (some .int) := by decide +kernel
theorem zn_88 : z_Ca g d 88 [.ref a0, .int x1, .int x2, .int x3] h P = z_T g d 88 0 [.ref a0, .int x1, .int x2, .int x3, z_un] [] h P := z_Ca_ent zm_88 rfl rfl
theorem zi_88_0 : z_ins 88 0 = some (.aload_n 0, 1) := by decide +kernel
theorem ze_88_0 : z_T g d 88 0 (.ref a :: ls) st h P = z_T g d 88 1 (.ref a :: ls) (.ref a :: st) h P := zt_aloadn zi_88_0 rfl rfl
theorem zi_88_1 : z_ins 88 1 = some (.iload_n 1, 1) := by decide +kernel
theorem ze_88_1 : z_T g d 88 1 (v0 :: .int x :: ls) st h P = z_T g d 88 2 (v0 :: .int x :: ls) (.int x :: st) h P := zt_iloadn zi_88_1 rfl rfl
theorem zi_88_2 : z_ins 88 2 = some (.iload_n 2, 1) := by decide +kernel
theorem ze_88_2 : z_T g d 88 2 (v0 :: v1 :: .int x :: ls) st h P = z_T g d 88 3 (v0 :: v1 :: .int x :: ls) (.int x :: st) h P := zt_iloadn zi_88_2 rfl rfl
theorem zi_88_3 : z_ins 88 3 = some (.iload_n 3, 1) := by decide +kernel
theorem ze_88_3 : z_T g d 88 3 (v0 :: v1 :: v2 :: .int x :: ls) st h P = z_T g d 88 4 (v0 :: v1 :: v2 :: .int x :: ls) (.int x :: st) h P := zt_iloadn zi_88_3 rfl rfl
theorem zi_88_4 : z_ins 88 4 = some (.invokevirtual 203, 3) := by decide +kernel
theorem ze_88_4 : z_T g d 88 4 ls (.int x2 :: .int x1 :: .int x0 :: .ref a :: st) h P = ((z_okS 8 st = true ∧ z_gO h.1 a 9 ∧ 0 < d) ∧ z_Ca g (d - 1) 91 [.ref a, .int x0, .int x1, .int x2] h (fun r => z_k r (fun v h' => z_T g d 88 7 ls (z_push v st) h' P) P)) := zt_cV (as := [.int x0, .int x1, .int x2]) (kk := 0) zi_88_4 rfl (zt_call zj_88 zh_88) (z_opV ((congrArg (fun o => z_lookup z_cns (o, 203)) zo_88).trans zq_cns_LatinRectangles_203) ((congrArg (fun o => z_lookup z_prs (o, 203)) zo_88).trans zq_prs_LatinRectangles_203)) ((congrArg (fun o => z_clk o 203) zo_88).trans zk_LatinRectangles_203) rfl rfl rfl rfl (z_rcv0 zc_91)
theorem zi_88_7 : z_ins 88 7 = some (.aload_n 0, 1) := by decide +kernel
theorem ze_88_7 : z_T g d 88 7 (.ref a :: ls) st h P = z_T g d 88 8 (.ref a :: ls) (.ref a :: st) h P := zt_aloadn zi_88_7 rfl rfl
theorem zi_88_8 : z_ins 88 8 = some (.getfield 58, 3) := by decide +kernel
theorem ze_88_8 : z_T g d 88 8 ls (.ref a :: st) h P = z_gR h.1 a 9 6 (fun x => z_T g d 88 11 ls (x :: st) h P) := zt_getR zi_88_8 ((congrArg (fun o => z_fl o 58) zo_88).trans zf_LatinRectangles_58)
theorem zi_88_11 : z_ins 88 11 = some (.iload_n 1, 1) := by decide +kernel
theorem ze_88_11 : z_T g d 88 11 (v0 :: .int x :: ls) st h P = z_T g d 88 12 (v0 :: .int x :: ls) (.int x :: st) h P := zt_iloadn zi_88_11 rfl rfl
theorem zi_88_12 : z_ins 88 12 = some (.iload_n 2, 1) := by decide +kernel
theorem ze_88_12 : z_T g d 88 12 (v0 :: v1 :: .int x :: ls) st h P = z_T g d 88 13 (v0 :: v1 :: .int x :: ls) (.int x :: st) h P := zt_iloadn zi_88_12 rfl rfl
theorem zi_88_13 : z_ins 88 13 = some (.iload_n 3, 1) := by decide +kernel
theorem ze_88_13 : z_T g d 88 13 (v0 :: v1 :: v2 :: .int x :: ls) st h P = z_T g d 88 14 (v0 :: v1 :: v2 :: .int x :: ls) (.int x :: st) h P := zt_iloadn zi_88_13 rfl rfl
theorem zi_88_14 : z_ins 88 14 = some (.invokevirtual 207, 3) := by decide +kernel
theorem ze_88_14 : z_T g d 88 14 ls (.int x2 :: .int x1 :: .int x0 :: .ref a :: st) h P = ((z_okS 8 st = true ∧ z_gO h.1 a 1 ∧ 0 < d) ∧ z_Ca g (d - 1) 9 [.ref a, .int x0, .int x1, .int x2] h (fun r => z_k r (fun v h' => z_T g d 88 17 ls (z_push v st) h' P) P)) := zt_cV (as := [.int x0, .int x1, .int x2]) (kk := 0) zi_88_14 rfl (zt_call zj_88 zh_88) (z_opV ((congrArg (fun o => z_lookup z_cns (o, 207)) zo_88).trans zq_cns_LatinRectangles_207) ((congrArg (fun o => z_lookup z_prs (o, 207)) zo_88).trans zq_prs_LatinRectangles_207)) ((congrArg (fun o => z_clk o 207) zo_88).trans zk_LatinRectangles_207) rfl rfl rfl rfl (z_rcv0 zc_9)
theorem zi_88_17 : z_ins 88 17 = some (.istore 4, 2) := by decide +kernel
theorem ze_88_17 : z_T g d 88 17 (v0 :: v1 :: v2 :: v3 :: v4 :: ls) (.int x :: st) h P = z_T g d 88 19 (v0 :: v1 :: v2 :: v3 :: .int x :: ls) st h P := zt_istore zi_88_17 (Nat.le_add_left 5 _)
theorem zi_88_19 : z_ins 88 19 = some (.aload_n 0, 1) := by decide +kernel
theorem ze_88_19 : z_T g d 88 19 (.ref a :: ls) st h P = z_T g d 88 20 (.ref a :: ls) (.ref a :: st) h P := zt_aloadn zi_88_19 rfl rfl
theorem zi_88_20 : z_ins 88 20 = some (.getfield 58, 3) := by decide +kernel
theorem ze_88_20 : z_T g d 88 20 ls (.ref a :: st) h P = z_gR h.1 a 9 6 (fun x => z_T g d 88 23 ls (x :: st) h P) := zt_getR zi_88_20 ((congrArg (fun o => z_fl o 58) zo_88).trans zf_LatinRectangles_58)
theorem zi_88_23 : z_ins 88 23 = some (.iload_n 1, 1) := by decide +kernel
theorem ze_88_23 : z_T g d 88 23 (v0 :: .int x :: ls) st h P = z_T g d 88 24 (v0 :: .int x :: ls) (.int x :: st) h P := zt_iloadn zi_88_23 rfl rfl
theorem zi_88_24 : z_ins 88 24 = some (.iload_n 2, 1) := by decide +kernel
theorem ze_88_24 : z_T g d 88 24 (v0 :: v1 :: .int x :: ls) st h P = z_T g d 88 25 (v0 :: v1 :: .int x :: ls) (.int x :: st) h P := zt_iloadn zi_88_24 rfl rfl
theorem zi_88_25 : z_ins 88 25 = some (.iload 4, 2) := by decide +kernel
theorem ze_88_25 : z_T g d 88 25 (v0 :: v1 :: v2 :: v3 :: .int x :: ls) st h P = z_T g d 88 27 (v0 :: v1 :: v2 :: v3 :: .int x :: ls) (.int x :: st) h P := zt_iload zi_88_25 rfl
theorem zi_88_27 : z_ins 88 27 = some (.invokevirtual 252, 3) := by decide +kernel
theorem ze_88_27 : z_T g d 88 27 ls (.int x2 :: .int x1 :: .int x0 :: .ref a :: st) h P = ((z_okS 8 st = true ∧ z_gO h.1 a 1 ∧ 0 < d) ∧ z_Ca g (d - 1) 11 [.ref a, .int x0, .int x1, .int x2] h (fun r => z_k r (fun v h' => z_T g d 88 30 ls (z_push v st) h' P) P)) := zt_cV (as := [.int x0, .int x1, .int x2]) (kk := 0) zi_88_27 rfl (zt_call zj_88 zh_88) (z_opV ((congrArg (fun o => z_lookup z_cns (o, 252)) zo_88).trans zq_cns_LatinRectangles_252) ((congrArg (fun o => z_lookup z_prs (o, 252)) zo_88).trans zq_prs_LatinRectangles_252)) ((congrArg (fun o => z_clk o 252) zo_88).trans zk_LatinRectangles_252) rfl rfl rfl rfl (z_rcv0 zc_11)
theorem zi_88_30 : z_ins 88 30 = some (.ifCond .ne 14, 3) := by decide +kernel
theorem ze_88_30 : z_T g d 88 30 ls (.int x :: st) h P = (if x = nI 0 then z_T g d 88 33 ls st h P else z_T g d 88 44 ls st h P) := zt_ifne zi_88_30 (by decide)
theorem zi_88_33 : z_ins 88 33 = some (.new 230, 3) := by decide +kernel
theorem ze_88_33 : z_T g d 88 33 ls [] h P = P (.inl "java/lang/IllegalStateException", (h.1, h.2.1.map (· + 1), h.2.2.1 + 1, h.2.2.2 + 6)) := zt_throwN zi_88_33 (by decide +kernel) (by decide +kernel) zh_88
theorem zi_88_44 : z_ins 88 44 = some (.aload_n 0, 1) := by decide +kernel
theorem ze_88_44 : z_T g d 88 44 (.ref a :: ls) st h P = z_T g d 88 45 (.ref a :: ls) (.ref a :: st) h P := zt_aloadn zi_88_44 rfl rfl
theorem zi_88_45 : z_ins 88 45 = some (.getfield 65, 3) := by decide +kernel
theorem ze_88_45 : z_T g d 88 45 ls (.ref a :: st) h P = z_gR h.1 a 9 7 (fun x => z_T g d 88 48 ls (x :: st) h P) := zt_getR zi_88_45 ((congrArg (fun o => z_fl o 65) zo_88).trans zf_LatinRectangles_65)
theorem zi_88_48 : z_ins 88 48 = some (.aload_n 0, 1) := by decide +kernel
theorem ze_88_48 : z_T g d 88 48 (.ref a :: ls) st h P = z_T g d 88 49 (.ref a :: ls) (.ref a :: st) h P := zt_aloadn zi_88_48 rfl rfl
theorem zi_88_49 : z_ins 88 49 = some (.getfield 12, 3) := by decide +kernel
theorem ze_88_49 : z_T g d 88 49 ls (.ref a :: st) h P = z_gR h.1 a 9 0 (fun x => z_T g d 88 52 ls (x :: st) h P) := zt_getR zi_88_49 ((congrArg (fun o => z_fl o 12) zo_88).trans zf_LatinRectangles_12)
theorem zi_88_52 : z_ins 88 52 = some (.invokevirtual 235, 3) := by decide +kernel
theorem ze_88_52 : z_T g d 88 52 ls (.ref a0 :: .ref a :: st) h P = ((z_okS 8 st = true ∧ z_gO h.1 a 4 ∧ 0 < d) ∧ z_Ca g (d - 1) 40 [.ref a, .ref a0] h (fun r => z_k r (fun v h' => z_T g d 88 55 ls (z_push v st) h' P) P)) := zt_cV (as := [.ref a0]) (kk := 0) zi_88_52 rfl (zt_call zj_88 zh_88) (z_opV ((congrArg (fun o => z_lookup z_cns (o, 235)) zo_88).trans zq_cns_LatinRectangles_235) ((congrArg (fun o => z_lookup z_prs (o, 235)) zo_88).trans zq_prs_LatinRectangles_235)) ((congrArg (fun o => z_clk o 235) zo_88).trans zk_LatinRectangles_235) rfl rfl rfl rfl (z_rcv0 zc_40)
theorem zi_88_55 : z_ins 88 55 = some (.aload_n 0, 1) := by decide +kernel
theorem ze_88_55 : z_T g d 88 55 (.ref a :: ls) st h P = z_T g d 88 56 (.ref a :: ls) (.ref a :: st) h P := zt_aloadn zi_88_55 rfl rfl
theorem zi_88_56 : z_ins 88 56 = some (.getfield 58, 3) := by decide +kernel
theorem ze_88_56 : z_T g d 88 56 ls (.ref a :: st) h P = z_gR h.1 a 9 6 (fun x => z_T g d 88 59 ls (x :: st) h P) := zt_getR zi_88_56 ((congrArg (fun o => z_fl o 58) zo_88).trans zf_LatinRectangles_58)
theorem zi_88_59 : z_ins 88 59 = some (.iload_n 1, 1) := by decide +kernel
theorem ze_88_59 : z_T g d 88 59 (v0 :: .int x :: ls) st h P = z_T g d 88 60 (v0 :: .int x :: ls) (.int x :: st) h P := zt_iloadn zi_88_59 rfl rfl
theorem zi_88_60 : z_ins 88 60 = some (.iload_n 2, 1) := by decide +kernel
theorem ze_88_60 : z_T g d 88 60 (v0 :: v1 :: .int x :: ls) st h P = z_T g d 88 61 (v0 :: v1 :: .int x :: ls) (.int x :: st) h P := zt_iloadn zi_88_60 rfl rfl
theorem zi_88_61 : z_ins 88 61 = some (.iload 4, 2) := by decide +kernel
theorem ze_88_61 : z_T g d 88 61 (v0 :: v1 :: v2 :: v3 :: .int x :: ls) st h P = z_T g d 88 63 (v0 :: v1 :: v2 :: v3 :: .int x :: ls) (.int x :: st) h P := zt_iload zi_88_61 rfl
theorem zi_88_63 : z_ins 88 63 = some (.invokevirtual 258, 3) := by decide +kernel
theorem ze_88_63 : z_T g d 88 63 ls (.int x2 :: .int x1 :: .int x0 :: .ref a :: st) h P = ((z_okS 8 st = true ∧ z_gO h.1 a 1 ∧ 0 < d) ∧ z_Ca g (d - 1) 12 [.ref a, .int x0, .int x1, .int x2] h (fun r => z_k r (fun v h' => z_T g d 88 66 ls (z_push v st) h' P) P)) := zt_cV (as := [.int x0, .int x1, .int x2]) (kk := 0) zi_88_63 rfl (zt_call zj_88 zh_88) (z_opV ((congrArg (fun o => z_lookup z_cns (o, 258)) zo_88).trans zq_cns_LatinRectangles_258) ((congrArg (fun o => z_lookup z_prs (o, 258)) zo_88).trans zq_prs_LatinRectangles_258)) ((congrArg (fun o => z_clk o 258) zo_88).trans zk_LatinRectangles_258) rfl rfl rfl rfl (z_rcv0 zc_12)
theorem zi_88_66 : z_ins 88 66 = some (.iload 4, 2) := by decide +kernel
theorem ze_88_66 : z_T g d 88 66 (v0 :: v1 :: v2 :: v3 :: .int x :: ls) st h P = z_T g d 88 68 (v0 :: v1 :: v2 :: v3 :: .int x :: ls) (.int x :: st) h P := zt_iload zi_88_66 rfl
theorem zi_88_68 : z_ins 88 68 = some (.invokestatic 174, 3) := by decide +kernel
theorem ze_88_68 : z_T g d 88 68 ls (.int x0 :: st) h P = ((z_okS 8 st = true ∧ 0 < d) ∧ z_Ca g (d - 1) 121 [.int x0] h (fun r => z_k r (fun v h' => z_T g d 88 71 ls (z_push v st) h' P) P)) := zt_cS (as := [.int x0]) (kk := 1) zi_88_68 rfl (zt_call zj_88 zh_88) (z_opT ((congrArg (fun o => z_lookup z_cps (o, 174)) zo_88).trans zq_cps_LatinRectangles_174) ((congrArg (fun o => z_lookup z_prs (o, 174)) zo_88).trans zq_prs_LatinRectangles_174)) ((congrArg (fun o => z_clk o 174) zo_88).trans zk_LatinRectangles_174) rfl rfl rfl rfl rfl
theorem zi_88_71 : z_ins 88 71 = some (.ireturn, 1) := by decide +kernel
theorem ze_88_71 : z_T g d 88 71 ls [.int x] h P = P (.inr (some (.int x)), h) := zt_ireturn zi_88_71 zr_88
-- LatinRectangles.checkRow(I)V
theorem zm_89 : z_maxL 89 = 2 := by decide +kernel
theorem zh_89 : z_hds 89 = [] := by decide +kernel
theorem zj_89 : z_jdk 89 = false := by decide +kernel
theorem zr_89 : z_rt 89 = none := by decide +kernel
theorem zn_89 : z_Ca g d 89 [.ref a0, .int x1] h P = z_T g d 89 0 [.ref a0, .int x1] [] h P := z_Ca_ent zm_89 rfl rfl
theorem zi_89_0 : z_ins 89 0 = some (.iload_n 1, 1) := by decide +kernel
theorem ze_89_0 : z_T g d 89 0 (v0 :: .int x :: ls) st h P = z_T g d 89 1 (v0 :: .int x :: ls) (.int x :: st) h P := zt_iloadn zi_89_0 rfl rfl
theorem zi_89_1 : z_ins 89 1 = some (.ifCond .lt 14, 3) := by decide +kernel
theorem ze_89_1 : z_T g d 89 1 ls (.int x :: st) h P = (if x < nI 0 then z_T g d 89 15 ls st h P else z_T g d 89 4 ls st h P) := zt_iflt zi_89_1 (by decide)
theorem zi_89_4 : z_ins 89 4 = some (.iload_n 1, 1) := by decide +kernel
theorem ze_89_4 : z_T g d 89 4 (v0 :: .int x :: ls) st h P = z_T g d 89 5 (v0 :: .int x :: ls) (.int x :: st) h P := zt_iloadn zi_89_4 rfl rfl
theorem zi_89_5 : z_ins 89 5 = some (.aload_n 0, 1) := by decide +kernel
theorem ze_89_5 : z_T g d 89 5 (.ref a :: ls) st h P = z_T g d 89 6 (.ref a :: ls) (.ref a :: st) h P := zt_aloadn zi_89_5 rfl rfl
theorem zi_89_6 : z_ins 89 6 = some (.getfield 12, 3) := by decide +kernel
theorem ze_89_6 : z_T g d 89 6 ls (.ref a :: st) h P = z_gR h.1 a 9 0 (fun x => z_T g d 89 9 ls (x :: st) h P) := zt_getR zi_89_6 ((congrArg (fun o => z_fl o 12) zo_89).trans zf_LatinRectangles_12)
theorem zi_89_9 : z_ins 89 9 = some (.getfield 122, 3) := by decide +kernel
theorem ze_89_9 : z_T g d 89 9 ls (.ref a :: st) h P = z_gI h.1 a 3 5 (fun x => z_T g d 89 12 ls (.int x :: st) h P) := zt_getI zi_89_9 ((congrArg (fun o => z_fl o 122) zo_89).trans zf_LatinRectangles_122)
theorem zi_89_12 : z_ins 89 12 = some (.if_icmp .lt 14, 3) := by decide +kernel
theorem ze_89_12 : z_T g d 89 12 ls (.int y :: .int x :: st) h P = (if x < y then z_T g d 89 26 ls st h P else z_T g d 89 15 ls st h P) := zt_icmplt zi_89_12 (by decide)
theorem zi_89_15 : z_ins 89 15 = some (.new 279, 3) := by decide +kernel
theorem ze_89_15 : z_T g d 89 15 ls [] h P = P (.inl "java/lang/IndexOutOfBoundsException", (h.1, h.2.1.map (· + 1), h.2.2.1 + 1, h.2.2.2 + 6)) := zt_throwN zi_89_15 (by decide +kernel) (by decide +kernel) zh_89
theorem zi_89_26 : z_ins 89 26 = some (.return_, 1) := by decide +kernel
theorem ze_89_26 : z_T g d 89 26 ls [] h P = P (.inr none, h) := zt_return zi_89_26 zr_89
-- LatinRectangles.checkCell(II)V
theorem zm_90 : z_maxL 90 = 3 := by decide +kernel
theorem zh_90 : z_hds 90 = [] := by decide +kernel
theorem zj_90 : z_jdk 90 = false := by decide +kernel
theorem zr_90 : z_rt 90 = none := by decide +kernel
theorem zn_90 : z_Ca g d 90 [.ref a0, .int x1, .int x2] h P = z_T g d 90 0 [.ref a0, .int x1, .int x2] [] h P := z_Ca_ent zm_90 rfl rfl
theorem zi_90_0 : z_ins 90 0 = some (.aload_n 0, 1) := by decide +kernel
theorem ze_90_0 : z_T g d 90 0 (.ref a :: ls) st h P = z_T g d 90 1 (.ref a :: ls) (.ref a :: st) h P := zt_aloadn zi_90_0 rfl rfl
theorem zi_90_1 : z_ins 90 1 = some (.iload_n 1, 1) := by decide +kernel
theorem ze_90_1 : z_T g d 90 1 (v0 :: .int x :: ls) st h P = z_T g d 90 2 (v0 :: .int x :: ls) (.int x :: st) h P := zt_iloadn zi_90_1 rfl rfl
theorem zi_90_2 : z_ins 90 2 = some (.invokevirtual 194, 3) := by decide +kernel
theorem ze_90_2 : z_T g d 90 2 ls (.int x0 :: .ref a :: st) h P = ((z_okS 8 st = true ∧ z_gO h.1 a 9 ∧ 0 < d) ∧ z_Ca g (d - 1) 89 [.ref a, .int x0] h (fun r => z_k r (fun v h' => z_T g d 90 5 ls (z_push v st) h' P) P)) := zt_cV (as := [.int x0]) (kk := 0) zi_90_2 rfl (zt_call zj_90 zh_90) (z_opV ((congrArg (fun o => z_lookup z_cns (o, 194)) zo_90).trans zq_cns_LatinRectangles_194) ((congrArg (fun o => z_lookup z_prs (o, 194)) zo_90).trans zq_prs_LatinRectangles_194)) ((congrArg (fun o => z_clk o 194) zo_90).trans zk_LatinRectangles_194) rfl rfl rfl rfl (z_rcv0 zc_89)
theorem zi_90_5 : z_ins 90 5 = some (.iload_n 2, 1) := by decide +kernel
theorem ze_90_5 : z_T g d 90 5 (v0 :: v1 :: .int x :: ls) st h P = z_T g d 90 6 (v0 :: v1 :: .int x :: ls) (.int x :: st) h P := zt_iloadn zi_90_5 rfl rfl
theorem zi_90_6 : z_ins 90 6 = some (.ifCond .lt 14, 3) := by decide +kernel
theorem ze_90_6 : z_T g d 90 6 ls (.int x :: st) h P = (if x < nI 0 then z_T g d 90 20 ls st h P else z_T g d 90 9 ls st h P) := zt_iflt zi_90_6 (by decide)
theorem zi_90_9 : z_ins 90 9 = some (.iload_n 2, 1) := by decide +kernel
theorem ze_90_9 : z_T g d 90 9 (v0 :: v1 :: .int x :: ls) st h P = z_T g d 90 10 (v0 :: v1 :: .int x :: ls) (.int x :: st) h P := zt_iloadn zi_90_9 rfl rfl
theorem zi_90_10 : z_ins 90 10 = some (.aload_n 0, 1) := by decide +kernel
theorem ze_90_10 : z_T g d 90 10 (.ref a :: ls) st h P = z_T g d 90 11 (.ref a :: ls) (.ref a :: st) h P := zt_aloadn zi_90_10 rfl rfl
theorem zi_90_11 : z_ins 90 11 = some (.getfield 12, 3) := by decide +kernel
theorem ze_90_11 : z_T g d 90 11 ls (.ref a :: st) h P = z_gR h.1 a 9 0 (fun x => z_T g d 90 14 ls (x :: st) h P) := zt_getR zi_90_11 ((congrArg (fun o => z_fl o 12) zo_90).trans zf_LatinRectangles_12)
theorem zi_90_14 : z_ins 90 14 = some (.getfield 125, 3) := by decide +kernel
theorem ze_90_14 : z_T g d 90 14 ls (.ref a :: st) h P = z_gI h.1 a 3 6 (fun x => z_T g d 90 17 ls (.int x :: st) h P) := zt_getI zi_90_14 ((congrArg (fun o => z_fl o 125) zo_90).trans zf_LatinRectangles_125)
theorem zi_90_17 : z_ins 90 17 = some (.if_icmp .lt 14, 3) := by decide +kernel
theorem ze_90_17 : z_T g d 90 17 ls (.int y :: .int x :: st) h P = (if x < y then z_T g d 90 31 ls st h P else z_T g d 90 20 ls st h P) := zt_icmplt zi_90_17 (by decide)
theorem zi_90_20 : z_ins 90 20 = some (.new 279, 3) := by decide +kernel
theorem ze_90_20 : z_T g d 90 20 ls [] h P = P (.inl "java/lang/IndexOutOfBoundsException", (h.1, h.2.1.map (· + 1), h.2.2.1 + 1, h.2.2.2 + 6)) := zt_throwN zi_90_20 (by decide +kernel) (by decide +kernel) zh_90
theorem zi_90_31 : z_ins 90 31 = some (.return_, 1) := by decide +kernel
theorem ze_90_31 : z_T g d 90 31 ls [] h P = P (.inr none, h) := zt_return zi_90_31 zr_90
-- LatinRectangles.checkCycle(III)V
theorem zm_91 : z_maxL 91 = 4 := by decide +kernel
theorem zh_91 : z_hds 91 = [] := by decide +kernel
theorem zj_91 : z_jdk 91 = false := by decide +kernel
theorem zr_91 : z_rt 91 = none := by decide +kernel
theorem zn_91 : z_Ca g d 91 [.ref a0, .int x1, .int x2, .int x3] h P = z_T g d 91 0 [.ref a0, .int x1, .int x2, .int x3] [] h P := z_Ca_ent zm_91 rfl rfl
theorem zi_91_0 : z_ins 91 0 = some (.aload_n 0, 1) := by decide +kernel
theorem ze_91_0 : z_T g d 91 0 (.ref a :: ls) st h P = z_T g d 91 1 (.ref a :: ls) (.ref a :: st) h P := zt_aloadn zi_91_0 rfl rfl
theorem zi_91_1 : z_ins 91 1 = some (.iload_n 1, 1) := by decide +kernel
theorem ze_91_1 : z_T g d 91 1 (v0 :: .int x :: ls) st h P = z_T g d 91 2 (v0 :: .int x :: ls) (.int x :: st) h P := zt_iloadn zi_91_1 rfl rfl
theorem zi_91_2 : z_ins 91 2 = some (.invokevirtual 194, 3) := by decide +kernel
theorem ze_91_2 : z_T g d 91 2 ls (.int x0 :: .ref a :: st) h P = ((z_okS 8 st = true ∧ z_gO h.1 a 9 ∧ 0 < d) ∧ z_Ca g (d - 1) 89 [.ref a, .int x0] h (fun r => z_k r (fun v h' => z_T g d 91 5 ls (z_push v st) h' P) P)) := zt_cV (as := [.int x0]) (kk := 0) zi_91_2 rfl (zt_call zj_91 zh_91) (z_opV ((congrArg (fun o => z_lookup z_cns (o, 194)) zo_91).trans zq_cns_LatinRectangles_194) ((congrArg (fun o => z_lookup z_prs (o, 194)) zo_91).trans zq_prs_LatinRectangles_194)) ((congrArg (fun o => z_clk o 194) zo_91).trans zk_LatinRectangles_194) rfl rfl rfl rfl (z_rcv0 zc_89)
theorem zi_91_5 : z_ins 91 5 = some (.aload_n 0, 1) := by decide +kernel
theorem ze_91_5 : z_T g d 91 5 (.ref a :: ls) st h P = z_T g d 91 6 (.ref a :: ls) (.ref a :: st) h P := zt_aloadn zi_91_5 rfl rfl
theorem zi_91_6 : z_ins 91 6 = some (.iload_n 2, 1) := by decide +kernel
theorem ze_91_6 : z_T g d 91 6 (v0 :: v1 :: .int x :: ls) st h P = z_T g d 91 7 (v0 :: v1 :: .int x :: ls) (.int x :: st) h P := zt_iloadn zi_91_6 rfl rfl
theorem zi_91_7 : z_ins 91 7 = some (.iload_n 3, 1) := by decide +kernel
theorem ze_91_7 : z_T g d 91 7 (v0 :: v1 :: v2 :: .int x :: ls) st h P = z_T g d 91 8 (v0 :: v1 :: v2 :: .int x :: ls) (.int x :: st) h P := zt_iloadn zi_91_7 rfl rfl
theorem zi_91_8 : z_ins 91 8 = some (.invokevirtual 144, 3) := by decide +kernel
theorem ze_91_8 : z_T g d 91 8 ls (.int x1 :: .int x0 :: .ref a :: st) h P = ((z_okS 8 st = true ∧ z_gO h.1 a 9 ∧ 0 < d) ∧ z_Ca g (d - 1) 90 [.ref a, .int x0, .int x1] h (fun r => z_k r (fun v h' => z_T g d 91 11 ls (z_push v st) h' P) P)) := zt_cV (as := [.int x0, .int x1]) (kk := 0) zi_91_8 rfl (zt_call zj_91 zh_91) (z_opV ((congrArg (fun o => z_lookup z_cns (o, 144)) zo_91).trans zq_cns_LatinRectangles_144) ((congrArg (fun o => z_lookup z_prs (o, 144)) zo_91).trans zq_prs_LatinRectangles_144)) ((congrArg (fun o => z_clk o 144) zo_91).trans zk_LatinRectangles_144) rfl rfl rfl rfl (z_rcv0 zc_90)
theorem zi_91_11 : z_ins 91 11 = some (.iload_n 1, 1) := by decide +kernel
theorem ze_91_11 : z_T g d 91 11 (v0 :: .int x :: ls) st h P = z_T g d 91 12 (v0 :: .int x :: ls) (.int x :: st) h P := zt_iloadn zi_91_11 rfl rfl
theorem zi_91_12 : z_ins 91 12 = some (.iload_n 2, 1) := by decide +kernel
theorem ze_91_12 : z_T g d 91 12 (v0 :: v1 :: .int x :: ls) st h P = z_T g d 91 13 (v0 :: v1 :: .int x :: ls) (.int x :: st) h P := zt_iloadn zi_91_12 rfl rfl
theorem zi_91_13 : z_ins 91 13 = some (.if_icmp .ne 14, 3) := by decide +kernel
theorem ze_91_13 : z_T g d 91 13 ls (.int y :: .int x :: st) h P = (if x = y then z_T g d 91 16 ls st h P else z_T g d 91 27 ls st h P) := zt_icmpne zi_91_13 (by decide)
theorem zi_91_16 : z_ins 91 16 = some (.new 91, 3) := by decide +kernel
theorem ze_91_16 : z_T g d 91 16 ls [] h P = P (.inl "java/lang/IllegalArgumentException", (h.1, h.2.1.map (· + 1), h.2.2.1 + 1, h.2.2.2 + 6)) := zt_throwN zi_91_16 (by decide +kernel) (by decide +kernel) zh_91
theorem zi_91_27 : z_ins 91 27 = some (.aload_n 0, 1) := by decide +kernel
theorem ze_91_27 : z_T g d 91 27 (.ref a :: ls) st h P = z_T g d 91 28 (.ref a :: ls) (.ref a :: st) h P := zt_aloadn zi_91_27 rfl rfl
theorem zi_91_28 : z_ins 91 28 = some (.getfield 12, 3) := by decide +kernel
theorem ze_91_28 : z_T g d 91 28 ls (.ref a :: st) h P = z_gR h.1 a 9 0 (fun x => z_T g d 91 31 ls (x :: st) h P) := zt_getR zi_91_28 ((congrArg (fun o => z_fl o 12) zo_91).trans zf_LatinRectangles_12)
theorem zi_91_31 : z_ins 91 31 = some (.iload_n 1, 1) := by decide +kernel
theorem ze_91_31 : z_T g d 91 31 (v0 :: .int x :: ls) st h P = z_T g d 91 32 (v0 :: .int x :: ls) (.int x :: st) h P := zt_iloadn zi_91_31 rfl rfl
theorem zi_91_32 : z_ins 91 32 = some (.invokevirtual 288, 3) := by decide +kernel
theorem ze_91_32 : z_T g d 91 32 ls (.int x0 :: .ref a :: st) h P = ((z_okS 8 st = true ∧ z_gO h.1 a 3 ∧ 0 < d) ∧ z_Ca g (d - 1) 35 [.ref a, .int x0] h (fun r => z_k r (fun v h' => z_T g d 91 35 ls (z_push v st) h' P) P)) := zt_cV (as := [.int x0]) (kk := 0) zi_91_32 rfl (zt_call zj_91 zh_91) (z_opV ((congrArg (fun o => z_lookup z_cns (o, 288)) zo_91).trans zq_cns_LatinRectangles_288) ((congrArg (fun o => z_lookup z_prs (o, 288)) zo_91).trans zq_prs_LatinRectangles_288)) ((congrArg (fun o => z_clk o 288) zo_91).trans zk_LatinRectangles_288) rfl rfl rfl rfl (z_rcv0 zc_35)
theorem zi_91_35 : z_ins 91 35 = some (.ifCond .eq 14, 3) := by decide +kernel
theorem ze_91_35 : z_T g d 91 35 ls (.int x :: st) h P = (if x = nI 0 then z_T g d 91 49 ls st h P else z_T g d 91 38 ls st h P) := zt_ifeq zi_91_35 (by decide)
theorem zi_91_38 : z_ins 91 38 = some (.aload_n 0, 1) := by decide +kernel
theorem ze_91_38 : z_T g d 91 38 (.ref a :: ls) st h P = z_T g d 91 39 (.ref a :: ls) (.ref a :: st) h P := zt_aloadn zi_91_38 rfl rfl
theorem zi_91_39 : z_ins 91 39 = some (.getfield 12, 3) := by decide +kernel
theorem ze_91_39 : z_T g d 91 39 ls (.ref a :: st) h P = z_gR h.1 a 9 0 (fun x => z_T g d 91 42 ls (x :: st) h P) := zt_getR zi_91_39 ((congrArg (fun o => z_fl o 12) zo_91).trans zf_LatinRectangles_12)
theorem zi_91_42 : z_ins 91 42 = some (.iload_n 2, 1) := by decide +kernel
theorem ze_91_42 : z_T g d 91 42 (v0 :: v1 :: .int x :: ls) st h P = z_T g d 91 43 (v0 :: v1 :: .int x :: ls) (.int x :: st) h P := zt_iloadn zi_91_42 rfl rfl
theorem zi_91_43 : z_ins 91 43 = some (.invokevirtual 288, 3) := by decide +kernel
theorem ze_91_43 : z_T g d 91 43 ls (.int x0 :: .ref a :: st) h P = ((z_okS 8 st = true ∧ z_gO h.1 a 3 ∧ 0 < d) ∧ z_Ca g (d - 1) 35 [.ref a, .int x0] h (fun r => z_k r (fun v h' => z_T g d 91 46 ls (z_push v st) h' P) P)) := zt_cV (as := [.int x0]) (kk := 0) zi_91_43 rfl (zt_call zj_91 zh_91) (z_opV ((congrArg (fun o => z_lookup z_cns (o, 288)) zo_91).trans zq_cns_LatinRectangles_288) ((congrArg (fun o => z_lookup z_prs (o, 288)) zo_91).trans zq_prs_LatinRectangles_288)) ((congrArg (fun o => z_clk o 288) zo_91).trans zk_LatinRectangles_288) rfl rfl rfl rfl (z_rcv0 zc_35)
theorem zi_91_46 : z_ins 91 46 = some (.ifCond .ne 14, 3) := by decide +kernel
theorem ze_91_46 : z_T g d 91 46 ls (.int x :: st) h P = (if x = nI 0 then z_T g d 91 49 ls st h P else z_T g d 91 60 ls st h P) := zt_ifne zi_91_46 (by decide)
theorem zi_91_49 : z_ins 91 49 = some (.new 230, 3) := by decide +kernel
theorem ze_91_49 : z_T g d 91 49 ls [] h P = P (.inl "java/lang/IllegalStateException", (h.1, h.2.1.map (· + 1), h.2.2.1 + 1, h.2.2.2 + 6)) := zt_throwN zi_91_49 (by decide +kernel) (by decide +kernel) zh_91
theorem zi_91_60 : z_ins 91 60 = some (.return_, 1) := by decide +kernel
theorem ze_91_60 : z_T g d 91 60 ls [] h P = P (.inr none, h) := zt_return zi_91_60 zr_91
-- LatinRectangles.checkProperty(II)V
theorem zm_92 : z_maxL 92 = 2 := by decide +kernel
theorem zh_92 : z_hds 92 = [] := by decide +kernel
theorem zj_92 : z_jdk 92 = false := by decide +kernel
theorem zr_92 : z_rt 92 = none := by decide +kernel
theorem zn_92 : z_Ca g d 92 [.int x0, .int x1] h P = z_T g d 92 0 [.int x0, .int x1] [] h P := z_Ca_ent zm_92 rfl rfl
theorem zi_92_0 : z_ins 92 0 = some (.iload_n 0, 1) := by decide +kernel
theorem ze_92_0 : z_T g d 92 0 (.int x :: ls) st h P = z_T g d 92 1 (.int x :: ls) (.int x :: st) h P := zt_iloadn zi_92_0 rfl rfl
theorem zi_92_1 : z_ins 92 1 = some (.ifCond .lt 8, 3) := by decide +kernel
theorem ze_92_1 : z_T g d 92 1 ls (.int x :: st) h P = (if x < nI 0 then z_T g d 92 9 ls st h P else z_T g d 92 4 ls st h P) := zt_iflt zi_92_1 (by decide)
theorem zi_92_4 : z_ins 92 4 = some (.iload_n 0, 1) := by decide +kernel
theorem ze_92_4 : z_T g d 92 4 (.int x :: ls) st h P = z_T g d 92 5 (.int x :: ls) (.int x :: st) h P := zt_iloadn zi_92_4 rfl rfl
theorem zi_92_5 : z_ins 92 5 = some (.iload_n 1, 1) := by decide +kernel
theorem ze_92_5 : z_T g d 92 5 (v0 :: .int x :: ls) st h P = z_T g d 92 6 (v0 :: .int x :: ls) (.int x :: st) h P := zt_iloadn zi_92_5 rfl rfl
theorem zi_92_6 : z_ins 92 6 = some (.if_icmp .le 14, 3) := by decide +kernel
theorem ze_92_6 : z_T g d 92 6 ls (.int y :: .int x :: st) h P = (if y < x then z_T g d 92 9 ls st h P else z_T g d 92 20 ls st h P) := zt_icmple zi_92_6 (by decide)
theorem zi_92_9 : z_ins 92 9 = some (.new 91, 3) := by decide +kernel
theorem ze_92_9 : z_T g d 92 9 ls [] h P = P (.inl "java/lang/IllegalArgumentException", (h.1, h.2.1.map (· + 1), h.2.2.1 + 1, h.2.2.2 + 6)) := zt_throwN zi_92_9 (by decide +kernel) (by decide +kernel) zh_92
theorem zi_92_20 : z_ins 92 20 = some (.return_, 1) := by decide +kernel
theorem ze_92_20 : z_T g d 92 20 ls [] h P = P (.inr none, h) := zt_return zi_92_20 zr_92
-- LatinRectangles.planRow(LLatinRectangles$Grid;III[I)Z
theorem zm_93 : z_maxL 93 = 7 := by decide +kernel
theorem zh_93 : z_hds 93 = [] := by decide +kernel
theorem zj_93 : z_jdk 93 = false := by decide +kernel
theorem zr_93 : z_rt 93 = (some .boolean) := by decide +kernel
theorem zn_93 : z_Ca g d 93 [.ref a0, .int x1, .int x2, .int x3, .ref a4] h P = z_T g d 93 0 [.ref a0, .int x1, .int x2, .int x3, .ref a4, z_un, z_un] [] h P := z_Ca_ent zm_93 rfl rfl
theorem zi_93_0 : z_ins 93 0 = some (.iload_n 2, 1) := by decide +kernel
theorem ze_93_0 : z_T g d 93 0 (v0 :: v1 :: .int x :: ls) st h P = z_T g d 93 1 (v0 :: v1 :: .int x :: ls) (.int x :: st) h P := zt_iloadn zi_93_0 rfl rfl
theorem zi_93_1 : z_ins 93 1 = some (.aload_n 0, 1) := by decide +kernel
theorem ze_93_1 : z_T g d 93 1 (.ref a :: ls) st h P = z_T g d 93 2 (.ref a :: ls) (.ref a :: st) h P := zt_aloadn zi_93_1 rfl rfl
theorem zi_93_2 : z_ins 93 2 = some (.getfield 125, 3) := by decide +kernel
theorem ze_93_2 : z_T g d 93 2 ls (.ref a :: st) h P = z_gI h.1 a 3 6 (fun x => z_T g d 93 5 ls (.int x :: st) h P) := zt_getI zi_93_2 ((congrArg (fun o => z_fl o 125) zo_93).trans zf_LatinRectangles_125)
theorem zi_93_5 : z_ins 93 5 = some (.if_icmp .lt 5, 3) := by decide +kernel
theorem ze_93_5 : z_T g d 93 5 ls (.int y :: .int x :: st) h P = (if x < y then z_T g d 93 10 ls st h P else z_T g d 93 8 ls st h P) := zt_icmplt zi_93_5 (by decide)
theorem zi_93_8 : z_ins 93 8 = some (.iconst 1, 1) := by decide +kernel
theorem ze_93_8 : z_T g d 93 8 ls st h P = z_T g d 93 9 ls (.int (nI 1) :: st) h P := zt_iconst zi_93_8 rfl
theorem zi_93_9 : z_ins 93 9 = some (.ireturn, 1) := by decide +kernel
theorem ze_93_9 : z_T g d 93 9 ls [.int x] h P = ((x = nI 0 ∨ x = nI 1) ∧ P (.inr (some (.int x)), h)) := zt_zreturn zi_93_9 zr_93
theorem zi_93_10 : z_ins 93 10 = some (.aload_n 0, 1) := by decide +kernel
theorem ze_93_10 : z_T g d 93 10 (.ref a :: ls) st h P = z_T g d 93 11 (.ref a :: ls) (.ref a :: st) h P := zt_aloadn zi_93_10 rfl rfl
theorem zi_93_11 : z_ins 93 11 = some (.getfield 147, 3) := by decide +kernel
theorem ze_93_11 : z_T g d 93 11 ls (.ref a :: st) h P = z_gR h.1 a 3 0 (fun x => z_T g d 93 14 ls (x :: st) h P) := zt_getR zi_93_11 ((congrArg (fun o => z_fl o 147) zo_93).trans zf_LatinRectangles_147)
theorem zi_93_14 : z_ins 93 14 = some (.iload_n 1, 1) := by decide +kernel
theorem ze_93_14 : z_T g d 93 14 (v0 :: .int x :: ls) st h P = z_T g d 93 15 (v0 :: .int x :: ls) (.int x :: st) h P := zt_iloadn zi_93_14 rfl rfl
theorem zi_93_15 : z_ins 93 15 = some (.iconst 5, 1) := by decide +kernel
theorem ze_93_15 : z_T g d 93 15 ls st h P = z_T g d 93 16 ls (.int (nI 5) :: st) h P := zt_iconst zi_93_15 rfl
theorem zi_93_16 : z_ins 93 16 = some (.imul, 1) := by decide +kernel
theorem ze_93_16 : z_T g d 93 16 ls (.int y :: .int x :: st) h P = z_T g d 93 17 ls (.int (x * y) :: st) h P := zt_bin (f := fun x y => x * y) zi_93_16 rfl (fun _ _ _ => rfl)
theorem zi_93_17 : z_ins 93 17 = some (.iload_n 2, 1) := by decide +kernel
theorem ze_93_17 : z_T g d 93 17 (v0 :: v1 :: .int x :: ls) st h P = z_T g d 93 18 (v0 :: v1 :: .int x :: ls) (.int x :: st) h P := zt_iloadn zi_93_17 rfl rfl
theorem zi_93_18 : z_ins 93 18 = some (.iadd, 1) := by decide +kernel
theorem ze_93_18 : z_T g d 93 18 ls (.int y :: .int x :: st) h P = z_T g d 93 19 ls (.int (x + y) :: st) h P := zt_bin (f := fun x y => x + y) zi_93_18 rfl (fun _ _ _ => rfl)
theorem zi_93_19 : z_ins 93 19 = some (.iaload, 1) := by decide +kernel
theorem ze_93_19 : z_T g d 93 19 ls (.int x :: .ref a :: st) h P = z_aL h.1 a z_tI x (fun v => z_T g d 93 20 ls (.int v :: st) h P) := zt_iaload zi_93_19
theorem zi_93_20 : z_ins 93 20 = some (.iconst (-1), 1) := by decide +kernel
theorem ze_93_20 : z_T g d 93 20 ls st h P = z_T g d 93 21 ls (.int (-1) :: st) h P := zt_iconst zi_93_20 rfl
theorem zi_93_21 : z_ins 93 21 = some (.if_icmp .eq 15, 3) := by decide +kernel
theorem ze_93_21 : z_T g d 93 21 ls (.int y :: .int x :: st) h P = (if x = y then z_T g d 93 36 ls st h P else z_T g d 93 24 ls st h P) := zt_icmpeq zi_93_21 (by decide)
theorem zi_93_24 : z_ins 93 24 = some (.aload_n 0, 1) := by decide +kernel
theorem ze_93_24 : z_T g d 93 24 (.ref a :: ls) st h P = z_T g d 93 25 (.ref a :: ls) (.ref a :: st) h P := zt_aloadn zi_93_24 rfl rfl
theorem zi_93_25 : z_ins 93 25 = some (.iload_n 1, 1) := by decide +kernel
theorem ze_93_25 : z_T g d 93 25 (v0 :: .int x :: ls) st h P = z_T g d 93 26 (v0 :: .int x :: ls) (.int x :: st) h P := zt_iloadn zi_93_25 rfl rfl
theorem zi_93_26 : z_ins 93 26 = some (.iload_n 2, 1) := by decide +kernel
theorem ze_93_26 : z_T g d 93 26 (v0 :: v1 :: .int x :: ls) st h P = z_T g d 93 27 (v0 :: v1 :: .int x :: ls) (.int x :: st) h P := zt_iloadn zi_93_26 rfl rfl
theorem zi_93_27 : z_ins 93 27 = some (.iconst 1, 1) := by decide +kernel
theorem ze_93_27 : z_T g d 93 27 ls st h P = z_T g d 93 28 ls (.int (nI 1) :: st) h P := zt_iconst zi_93_27 rfl
theorem zi_93_28 : z_ins 93 28 = some (.iadd, 1) := by decide +kernel
theorem ze_93_28 : z_T g d 93 28 ls (.int y :: .int x :: st) h P = z_T g d 93 29 ls (.int (x + y) :: st) h P := zt_bin (f := fun x y => x + y) zi_93_28 rfl (fun _ _ _ => rfl)
theorem zi_93_29 : z_ins 93 29 = some (.iload_n 3, 1) := by decide +kernel
theorem ze_93_29 : z_T g d 93 29 (v0 :: v1 :: v2 :: .int x :: ls) st h P = z_T g d 93 30 (v0 :: v1 :: v2 :: .int x :: ls) (.int x :: st) h P := zt_iloadn zi_93_29 rfl rfl
theorem zi_93_30 : z_ins 93 30 = some (.aload 4, 2) := by decide +kernel
theorem ze_93_30 : z_T g d 93 30 (v0 :: v1 :: v2 :: v3 :: .ref a :: ls) st h P = z_T g d 93 32 (v0 :: v1 :: v2 :: v3 :: .ref a :: ls) (.ref a :: st) h P := zt_aload zi_93_30 rfl
theorem zi_93_32 : z_ins 93 32 = some (.invokestatic 246, 3) := by decide +kernel
theorem ze_93_32 : z_T g d 93 32 ls (.ref a4 :: .int x3 :: .int x2 :: .int x1 :: .ref a0 :: st) h P = ((z_okS 8 st = true ∧ 0 < d) ∧ z_Ca g (d - 1) 93 [.ref a0, .int x1, .int x2, .int x3, .ref a4] h (fun r => z_k r (fun v h' => z_T g d 93 35 ls (z_push v st) h' P) P)) := zt_cS (as := [.ref a0, .int x1, .int x2, .int x3, .ref a4]) (kk := 1) zi_93_32 rfl (zt_call zj_93 zh_93) (z_opT ((congrArg (fun o => z_lookup z_cps (o, 246)) zo_93).trans zq_cps_LatinRectangles_246) ((congrArg (fun o => z_lookup z_prs (o, 246)) zo_93).trans zq_prs_LatinRectangles_246)) ((congrArg (fun o => z_clk o 246) zo_93).trans zk_LatinRectangles_246) rfl rfl rfl rfl rfl
theorem zi_93_35 : z_ins 93 35 = some (.ireturn, 1) := by decide +kernel
theorem ze_93_35 : z_T g d 93 35 ls [.int x] h P = ((x = nI 0 ∨ x = nI 1) ∧ P (.inr (some (.int x)), h)) := zt_zreturn zi_93_35 zr_93
theorem zi_93_36 : z_ins 93 36 = some (.aload_n 0, 1) := by decide +kernel
theorem ze_93_36 : z_T g d 93 36 (.ref a :: ls) st h P = z_T g d 93 37 (.ref a :: ls) (.ref a :: st) h P := zt_aloadn zi_93_36 rfl rfl
theorem zi_93_37 : z_ins 93 37 = some (.iload_n 1, 1) := by decide +kernel
theorem ze_93_37 : z_T g d 93 37 (v0 :: .int x :: ls) st h P = z_T g d 93 38 (v0 :: .int x :: ls) (.int x :: st) h P := zt_iloadn zi_93_37 rfl rfl
theorem zi_93_38 : z_ins 93 38 = some (.iload_n 2, 1) := by decide +kernel
theorem ze_93_38 : z_T g d 93 38 (v0 :: v1 :: .int x :: ls) st h P = z_T g d 93 39 (v0 :: v1 :: .int x :: ls) (.int x :: st) h P := zt_iloadn zi_93_38 rfl rfl
theorem zi_93_39 : z_ins 93 39 = some (.invokevirtual 154, 3) := by decide +kernel
theorem ze_93_39 : z_T g d 93 39 ls (.int x1 :: .int x0 :: .ref a :: st) h P = ((z_okS 8 st = true ∧ z_gO h.1 a 3 ∧ 0 < d) ∧ z_Ca g (d - 1) 34 [.ref a, .int x0, .int x1] h (fun r => z_k r (fun v h' => z_T g d 93 42 ls (z_push v st) h' P) P)) := zt_cV (as := [.int x0, .int x1]) (kk := 0) zi_93_39 rfl (zt_call zj_93 zh_93) (z_opV ((congrArg (fun o => z_lookup z_cns (o, 154)) zo_93).trans zq_cns_LatinRectangles_154) ((congrArg (fun o => z_lookup z_prs (o, 154)) zo_93).trans zq_prs_LatinRectangles_154)) ((congrArg (fun o => z_clk o 154) zo_93).trans zk_LatinRectangles_154) rfl rfl rfl rfl (z_rcv0 zc_34)
theorem zi_93_42 : z_ins 93 42 = some (.iload_n 3, 1) := by decide +kernel
theorem ze_93_42 : z_T g d 93 42 (v0 :: v1 :: v2 :: .int x :: ls) st h P = z_T g d 93 43 (v0 :: v1 :: v2 :: .int x :: ls) (.int x :: st) h P := zt_iloadn zi_93_42 rfl rfl
theorem zi_93_43 : z_ins 93 43 = some (.iconst (-1), 1) := by decide +kernel
theorem ze_93_43 : z_T g d 93 43 ls st h P = z_T g d 93 44 ls (.int (-1) :: st) h P := zt_iconst zi_93_43 rfl
theorem zi_93_44 : z_ins 93 44 = some (.ixor, 1) := by decide +kernel
theorem ze_93_44 : z_T g d 93 44 ls (.int y :: .int x :: st) h P = z_T g d 93 45 ls (.int (x ^^^ y) :: st) h P := zt_bin (f := fun x y => x ^^^ y) zi_93_44 rfl (fun _ _ _ => rfl)
theorem zi_93_45 : z_ins 93 45 = some (.iand, 1) := by decide +kernel
theorem ze_93_45 : z_T g d 93 45 ls (.int y :: .int x :: st) h P = z_T g d 93 46 ls (.int (x &&& y) :: st) h P := zt_bin (f := fun x y => x &&& y) zi_93_45 rfl (fun _ _ _ => rfl)
theorem zi_93_46 : z_ins 93 46 = some (.istore 5, 2) := by decide +kernel
theorem ze_93_46 : z_T g d 93 46 (v0 :: v1 :: v2 :: v3 :: v4 :: v5 :: ls) (.int x :: st) h P = z_T g d 93 48 (v0 :: v1 :: v2 :: v3 :: v4 :: .int x :: ls) st h P := zt_istore zi_93_46 (Nat.le_add_left 6 _)
theorem zi_93_48 : z_ins 93 48 = some (.iconst 0, 1) := by decide +kernel
theorem ze_93_48 : z_T g d 93 48 ls st h P = z_T g d 93 49 ls (.int (nI 0) :: st) h P := zt_iconst zi_93_48 rfl
theorem zi_93_49 : z_ins 93 49 = some (.istore 6, 2) := by decide +kernel
theorem ze_93_49 : z_T g d 93 49 (v0 :: v1 :: v2 :: v3 :: v4 :: v5 :: v6 :: ls) (.int x :: st) h P = z_T g d 93 51 (v0 :: v1 :: v2 :: v3 :: v4 :: v5 :: .int x :: ls) st h P := zt_istore zi_93_49 (Nat.le_add_left 7 _)
theorem zi_93_51 : z_ins 93 51 = some (.iload 6, 2) := by decide +kernel
theorem ze_93_51 : z_T g d 93 51 (v0 :: v1 :: v2 :: v3 :: v4 :: v5 :: .int x :: ls) st h P = z_T g d 93 53 (v0 :: v1 :: v2 :: v3 :: v4 :: v5 :: .int x :: ls) (.int x :: st) h P := zt_iload zi_93_51 rfl
theorem zi_93_53 : z_ins 93 53 = some (.aload_n 0, 1) := by decide +kernel
theorem ze_93_53 : z_T g d 93 53 (.ref a :: ls) st h P = z_T g d 93 54 (.ref a :: ls) (.ref a :: st) h P := zt_aloadn zi_93_53 rfl rfl
theorem zi_93_54 : z_ins 93 54 = some (.getfield 125, 3) := by decide +kernel
theorem ze_93_54 : z_T g d 93 54 ls (.ref a :: st) h P = z_gI h.1 a 3 6 (fun x => z_T g d 93 57 ls (.int x :: st) h P) := zt_getI zi_93_54 ((congrArg (fun o => z_fl o 125) zo_93).trans zf_LatinRectangles_125)
theorem zi_93_57 : z_ins 93 57 = some (.if_icmp .ge 46, 3) := by decide +kernel
theorem ze_93_57 : z_T g d 93 57 ls (.int y :: .int x :: st) h P = (if x < y then z_T g d 93 60 ls st h P else z_T g d 93 103 ls st h P) := zt_icmpge zi_93_57 (by decide)
theorem zi_93_60 : z_ins 93 60 = some (.iload 5, 2) := by decide +kernel
theorem ze_93_60 : z_T g d 93 60 (v0 :: v1 :: v2 :: v3 :: v4 :: .int x :: ls) st h P = z_T g d 93 62 (v0 :: v1 :: v2 :: v3 :: v4 :: .int x :: ls) (.int x :: st) h P := zt_iload zi_93_60 rfl
theorem zi_93_62 : z_ins 93 62 = some (.iload 6, 2) := by decide +kernel
theorem ze_93_62 : z_T g d 93 62 (v0 :: v1 :: v2 :: v3 :: v4 :: v5 :: .int x :: ls) st h P = z_T g d 93 64 (v0 :: v1 :: v2 :: v3 :: v4 :: v5 :: .int x :: ls) (.int x :: st) h P := zt_iload zi_93_62 rfl
theorem zi_93_64 : z_ins 93 64 = some (.ishr, 1) := by decide +kernel
theorem ze_93_64 : z_T g d 93 64 ls (.int y :: .int x :: st) h P = z_T g d 93 65 ls (.int (x >>> (y &&& 31)) :: st) h P := zt_bin (f := fun x y => x >>> (y &&& 31)) zi_93_64 rfl (fun _ _ _ => rfl)
theorem zi_93_65 : z_ins 93 65 = some (.iconst 1, 1) := by decide +kernel
theorem ze_93_65 : z_T g d 93 65 ls st h P = z_T g d 93 66 ls (.int (nI 1) :: st) h P := zt_iconst zi_93_65 rfl
theorem zi_93_66 : z_ins 93 66 = some (.iand, 1) := by decide +kernel
theorem ze_93_66 : z_T g d 93 66 ls (.int y :: .int x :: st) h P = z_T g d 93 67 ls (.int (x &&& y) :: st) h P := zt_bin (f := fun x y => x &&& y) zi_93_66 rfl (fun _ _ _ => rfl)
theorem zi_93_67 : z_ins 93 67 = some (.ifCond .eq 30, 3) := by decide +kernel
theorem ze_93_67 : z_T g d 93 67 ls (.int x :: st) h P = (if x = nI 0 then z_T g d 93 97 ls st h P else z_T g d 93 70 ls st h P) := zt_ifeq zi_93_67 (by decide)
theorem zi_93_70 : z_ins 93 70 = some (.aload 4, 2) := by decide +kernel
theorem ze_93_70 : z_T g d 93 70 (v0 :: v1 :: v2 :: v3 :: .ref a :: ls) st h P = z_T g d 93 72 (v0 :: v1 :: v2 :: v3 :: .ref a :: ls) (.ref a :: st) h P := zt_aload zi_93_70 rfl
theorem zi_93_72 : z_ins 93 72 = some (.iload_n 2, 1) := by decide +kernel
theorem ze_93_72 : z_T g d 93 72 (v0 :: v1 :: .int x :: ls) st h P = z_T g d 93 73 (v0 :: v1 :: .int x :: ls) (.int x :: st) h P := zt_iloadn zi_93_72 rfl rfl
theorem zi_93_73 : z_ins 93 73 = some (.iload 6, 2) := by decide +kernel
theorem ze_93_73 : z_T g d 93 73 (v0 :: v1 :: v2 :: v3 :: v4 :: v5 :: .int x :: ls) st h P = z_T g d 93 75 (v0 :: v1 :: v2 :: v3 :: v4 :: v5 :: .int x :: ls) (.int x :: st) h P := zt_iload zi_93_73 rfl
theorem zi_93_75 : z_ins 93 75 = some (.iastore, 1) := by decide +kernel
theorem ze_93_75 : z_T g d 93 75 ls (.int y :: .int x :: .ref a :: st) h P = z_aS h.1 a z_tI x y (fun f => z_T g d 93 76 ls st (f, h.2) P) := zt_iastore zi_93_75
theorem zi_93_76 : z_ins 93 76 = some (.aload_n 0, 1) := by decide +kernel
theorem ze_93_76 : z_T g d 93 76 (.ref a :: ls) st h P = z_T g d 93 77 (.ref a :: ls) (.ref a :: st) h P := zt_aloadn zi_93_76 rfl rfl
theorem zi_93_77 : z_ins 93 77 = some (.iload_n 1, 1) := by decide +kernel
theorem ze_93_77 : z_T g d 93 77 (v0 :: .int x :: ls) st h P = z_T g d 93 78 (v0 :: .int x :: ls) (.int x :: st) h P := zt_iloadn zi_93_77 rfl rfl
theorem zi_93_78 : z_ins 93 78 = some (.iload_n 2, 1) := by decide +kernel
theorem ze_93_78 : z_T g d 93 78 (v0 :: v1 :: .int x :: ls) st h P = z_T g d 93 79 (v0 :: v1 :: .int x :: ls) (.int x :: st) h P := zt_iloadn zi_93_78 rfl rfl
theorem zi_93_79 : z_ins 93 79 = some (.iconst 1, 1) := by decide +kernel
theorem ze_93_79 : z_T g d 93 79 ls st h P = z_T g d 93 80 ls (.int (nI 1) :: st) h P := zt_iconst zi_93_79 rfl
theorem zi_93_80 : z_ins 93 80 = some (.iadd, 1) := by decide +kernel
theorem ze_93_80 : z_T g d 93 80 ls (.int y :: .int x :: st) h P = z_T g d 93 81 ls (.int (x + y) :: st) h P := zt_bin (f := fun x y => x + y) zi_93_80 rfl (fun _ _ _ => rfl)
theorem zi_93_81 : z_ins 93 81 = some (.iload_n 3, 1) := by decide +kernel
theorem ze_93_81 : z_T g d 93 81 (v0 :: v1 :: v2 :: .int x :: ls) st h P = z_T g d 93 82 (v0 :: v1 :: v2 :: .int x :: ls) (.int x :: st) h P := zt_iloadn zi_93_81 rfl rfl
theorem zi_93_82 : z_ins 93 82 = some (.iconst 1, 1) := by decide +kernel
theorem ze_93_82 : z_T g d 93 82 ls st h P = z_T g d 93 83 ls (.int (nI 1) :: st) h P := zt_iconst zi_93_82 rfl
theorem zi_93_83 : z_ins 93 83 = some (.iload 6, 2) := by decide +kernel
theorem ze_93_83 : z_T g d 93 83 (v0 :: v1 :: v2 :: v3 :: v4 :: v5 :: .int x :: ls) st h P = z_T g d 93 85 (v0 :: v1 :: v2 :: v3 :: v4 :: v5 :: .int x :: ls) (.int x :: st) h P := zt_iload zi_93_83 rfl
theorem zi_93_85 : z_ins 93 85 = some (.ishl, 1) := by decide +kernel
theorem ze_93_85 : z_T g d 93 85 ls (.int y :: .int x :: st) h P = z_T g d 93 86 ls (.int (x <<< (y &&& 31)) :: st) h P := zt_bin (f := fun x y => x <<< (y &&& 31)) zi_93_85 rfl (fun _ _ _ => rfl)
theorem zi_93_86 : z_ins 93 86 = some (.ior, 1) := by decide +kernel
theorem ze_93_86 : z_T g d 93 86 ls (.int y :: .int x :: st) h P = z_T g d 93 87 ls (.int (x ||| y) :: st) h P := zt_bin (f := fun x y => x ||| y) zi_93_86 rfl (fun _ _ _ => rfl)
theorem zi_93_87 : z_ins 93 87 = some (.aload 4, 2) := by decide +kernel
theorem ze_93_87 : z_T g d 93 87 (v0 :: v1 :: v2 :: v3 :: .ref a :: ls) st h P = z_T g d 93 89 (v0 :: v1 :: v2 :: v3 :: .ref a :: ls) (.ref a :: st) h P := zt_aload zi_93_87 rfl
theorem zi_93_89 : z_ins 93 89 = some (.invokestatic 246, 3) := by decide +kernel
theorem ze_93_89 : z_T g d 93 89 ls (.ref a4 :: .int x3 :: .int x2 :: .int x1 :: .ref a0 :: st) h P = ((z_okS 8 st = true ∧ 0 < d) ∧ z_Ca g (d - 1) 93 [.ref a0, .int x1, .int x2, .int x3, .ref a4] h (fun r => z_k r (fun v h' => z_T g d 93 92 ls (z_push v st) h' P) P)) := zt_cS (as := [.ref a0, .int x1, .int x2, .int x3, .ref a4]) (kk := 1) zi_93_89 rfl (zt_call zj_93 zh_93) (z_opT ((congrArg (fun o => z_lookup z_cps (o, 246)) zo_93).trans zq_cps_LatinRectangles_246) ((congrArg (fun o => z_lookup z_prs (o, 246)) zo_93).trans zq_prs_LatinRectangles_246)) ((congrArg (fun o => z_clk o 246) zo_93).trans zk_LatinRectangles_246) rfl rfl rfl rfl rfl
theorem zi_93_92 : z_ins 93 92 = some (.ifCond .eq 5, 3) := by decide +kernel
theorem ze_93_92 : z_T g d 93 92 ls (.int x :: st) h P = (if x = nI 0 then z_T g d 93 97 ls st h P else z_T g d 93 95 ls st h P) := zt_ifeq zi_93_92 (by decide)
theorem zi_93_95 : z_ins 93 95 = some (.iconst 1, 1) := by decide +kernel
theorem ze_93_95 : z_T g d 93 95 ls st h P = z_T g d 93 96 ls (.int (nI 1) :: st) h P := zt_iconst zi_93_95 rfl
theorem zi_93_96 : z_ins 93 96 = some (.ireturn, 1) := by decide +kernel
theorem ze_93_96 : z_T g d 93 96 ls [.int x] h P = ((x = nI 0 ∨ x = nI 1) ∧ P (.inr (some (.int x)), h)) := zt_zreturn zi_93_96 zr_93
theorem zi_93_97 : z_ins 93 97 = some (.iinc 6 1, 3) := by decide +kernel
theorem ze_93_97 : z_T g d 93 97 (v0 :: v1 :: v2 :: v3 :: v4 :: v5 :: .int x :: ls) st h P = z_T g d 93 100 (v0 :: v1 :: v2 :: v3 :: v4 :: v5 :: .int (x + (nI 1)) :: ls) st h P := zt_iinc zi_93_97 rfl rfl
theorem zi_93_100 : z_ins 93 100 = some (.goto (-49), 3) := by decide +kernel
theorem ze_93_100 : z_T g d 93 100 ls st h P = z_T g d 93 51 ls st h P := zt_goto zi_93_100 (by decide)
theorem zi_93_103 : z_ins 93 103 = some (.iconst 0, 1) := by decide +kernel
theorem ze_93_103 : z_T g d 93 103 ls st h P = z_T g d 93 104 ls (.int (nI 0) :: st) h P := zt_iconst zi_93_103 rfl
theorem zi_93_104 : z_ins 93 104 = some (.ireturn, 1) := by decide +kernel
theorem ze_93_104 : z_T g d 93 104 ls [.int x] h P = ((x = nI 0 ∨ x = nI 1) ∧ P (.inr (some (.int x)), h)) := zt_zreturn zi_93_104 zr_93
end
