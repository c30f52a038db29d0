section
variable {g : z_G} {d : Nat} {h : z_H} {P : z_Res → Prop} {ls st : List Value} {v0 v1 v2 v3 v4 v5 v6 v7 v8 v9 v10 v11 : Value} {x y x0 x1 x2 x3 x4 x5 x6 : Int32} {u w : Int64} {a b a0 a1 a2 a3 a4 a5 k0 k1 : Nat}
-- LatinRectanglesModel.<init>()V
theorem zo_120 : z_own 120 = "LatinRectanglesModel" := by decide +kernel
theorem zm_120 : z_maxL 120 = 1 := by decide +kernel
theorem zh_120 : z_hds 120 = [] := by decide +kernel
theorem zr_120 : z_rt 120 = none := by decide +kernel
theorem zn_120 : z_Ca g d 120 [.ref a0] h P = z_T g d 120 0 [.ref a0] [] h P := z_Ca_ent zm_120 rfl rfl
theorem zi_120_0 : z_ins 120 0 = some (.aload_n 0, 1) := by decide +kernel
theorem ze_120_0 : z_T g d 120 0 (.ref a :: ls) st h P = z_T g d 120 1 (.ref a :: ls) (.ref a :: st) h P := zt_aloadn zi_120_0 rfl rfl
theorem zi_120_1 : z_ins 120 1 = some (.invokespecial 1, 3) := by decide +kernel
theorem ze_120_1 : z_T g d 120 1 ls (.ref a :: st) h P = (z_okS 8 st = true ∧ z_T g d 120 4 ls st h P) := zt_objInit zi_120_1 ((congrArg (fun o => z_lookup z_ois (o, 1)) zo_120).trans zq_LatinRectanglesModel_1)
theorem zi_120_4 : z_ins 120 4 = some (.aload_n 0, 1) := by decide +kernel
theorem ze_120_4 : z_T g d 120 4 (.ref a :: ls) st h P = z_T g d 120 5 (.ref a :: ls) (.ref a :: st) h P := zt_aloadn zi_120_4 rfl rfl
theorem zi_120_5 : z_ins 120 5 = some (.bipush 25, 2) := by decide +kernel
theorem ze_120_5 : z_T g d 120 5 ls st h P = z_T g d 120 7 ls (.int (nI 25) :: st) h P := zt_bipush zi_120_5 rfl
theorem zi_120_7 : z_ins 120 7 = some (.newarray .int, 2) := by decide +kernel
theorem ze_120_7 : z_T g d 120 7 ls (.int x :: st) h P = z_nA h .int x (fun q h' => z_T g d 120 9 ls (.ref q :: st) h' P) := zt_newarray zi_120_7
theorem zi_120_9 : z_ins 120 9 = some (.putfield 7, 3) := by decide +kernel
theorem ze_120_9 : z_T g d 120 9 ls (.ref b :: .ref a :: st) h P = z_pF h.1 a 10 7 (.ref b) (fun f => z_T g d 120 12 ls st (f, h.2) P) := zt_putR zi_120_9 ((congrArg (fun o => z_fl o 7) zo_120).trans zf_LatinRectanglesModel_7) (by decide +kernel)
theorem zi_120_12 : z_ins 120 12 = some (.aload_n 0, 1) := by decide +kernel
theorem ze_120_12 : z_T g d 120 12 (.ref a :: ls) st h P = z_T g d 120 13 (.ref a :: ls) (.ref a :: st) h P := zt_aloadn zi_120_12 rfl rfl
theorem zi_120_13 : z_ins 120 13 = some (.bipush 25, 2) := by decide +kernel
theorem ze_120_13 : z_T g d 120 13 ls st h P = z_T g d 120 15 ls (.int (nI 25) :: st) h P := zt_bipush zi_120_13 rfl
theorem zi_120_15 : z_ins 120 15 = some (.newarray .int, 2) := by decide +kernel
theorem ze_120_15 : z_T g d 120 15 ls (.int x :: st) h P = z_nA h .int x (fun q h' => z_T g d 120 17 ls (.ref q :: st) h' P) := zt_newarray zi_120_15
theorem zi_120_17 : z_ins 120 17 = some (.putfield 13, 3) := by decide +kernel
theorem ze_120_17 : z_T g d 120 17 ls (.ref b :: .ref a :: st) h P = z_pF h.1 a 10 8 (.ref b) (fun f => z_T g d 120 20 ls st (f, h.2) P) := zt_putR zi_120_17 ((congrArg (fun o => z_fl o 13) zo_120).trans zf_LatinRectanglesModel_13) (by decide +kernel)
theorem zi_120_20 : z_ins 120 20 = some (.aload_n 0, 1) := by decide +kernel
theorem ze_120_20 : z_T g d 120 20 (.ref a :: ls) st h P = z_T g d 120 21 (.ref a :: ls) (.ref a :: st) h P := zt_aloadn zi_120_20 rfl rfl
theorem zi_120_21 : z_ins 120 21 = some (.bipush 25, 2) := by decide +kernel
theorem ze_120_21 : z_T g d 120 21 ls st h P = z_T g d 120 23 ls (.int (nI 25) :: st) h P := zt_bipush zi_120_21 rfl
theorem zi_120_23 : z_ins 120 23 = some (.newarray .int, 2) := by decide +kernel
theorem ze_120_23 : z_T g d 120 23 ls (.int x :: st) h P = z_nA h .int x (fun q h' => z_T g d 120 25 ls (.ref q :: st) h' P) := zt_newarray zi_120_23
theorem zi_120_25 : z_ins 120 25 = some (.putfield 16, 3) := by decide +kernel
theorem ze_120_25 : z_T g d 120 25 ls (.ref b :: .ref a :: st) h P = z_pF h.1 a 10 9 (.ref b) (fun f => z_T g d 120 28 ls st (f, h.2) P) := zt_putR zi_120_25 ((congrArg (fun o => z_fl o 16) zo_120).trans zf_LatinRectanglesModel_16) (by decide +kernel)
theorem zi_120_28 : z_ins 120 28 = some (.aload_n 0, 1) := by decide +kernel
theorem ze_120_28 : z_T g d 120 28 (.ref a :: ls) st h P = z_T g d 120 29 (.ref a :: ls) (.ref a :: st) h P := zt_aloadn zi_120_28 rfl rfl
theorem zi_120_29 : z_ins 120 29 = some (.bipush 25, 2) := by decide +kernel
theorem ze_120_29 : z_T g d 120 29 ls st h P = z_T g d 120 31 ls (.int (nI 25) :: st) h P := zt_bipush zi_120_29 rfl
theorem zi_120_31 : z_ins 120 31 = some (.newarray .int, 2) := by decide +kernel
theorem ze_120_31 : z_T g d 120 31 ls (.int x :: st) h P = z_nA h .int x (fun q h' => z_T g d 120 33 ls (.ref q :: st) h' P) := zt_newarray zi_120_31
theorem zi_120_33 : z_ins 120 33 = some (.putfield 19, 3) := by decide +kernel
theorem ze_120_33 : z_T g d 120 33 ls (.ref b :: .ref a :: st) h P = z_pF h.1 a 10 10 (.ref b) (fun f => z_T g d 120 36 ls st (f, h.2) P) := zt_putR zi_120_33 ((congrArg (fun o => z_fl o 19) zo_120).trans zf_LatinRectanglesModel_19) (by decide +kernel)
theorem zi_120_36 : z_ins 120 36 = some (.aload_n 0, 1) := by decide +kernel
theorem ze_120_36 : z_T g d 120 36 (.ref a :: ls) st h P = z_T g d 120 37 (.ref a :: ls) (.ref a :: st) h P := zt_aloadn zi_120_36 rfl rfl
theorem zi_120_37 : z_ins 120 37 = some (.bipush 25, 2) := by decide +kernel
theorem ze_120_37 : z_T g d 120 37 ls st h P = z_T g d 120 39 ls (.int (nI 25) :: st) h P := zt_bipush zi_120_37 rfl
theorem zi_120_39 : z_ins 120 39 = some (.newarray .int, 2) := by decide +kernel
theorem ze_120_39 : z_T g d 120 39 ls (.int x :: st) h P = z_nA h .int x (fun q h' => z_T g d 120 41 ls (.ref q :: st) h' P) := zt_newarray zi_120_39
theorem zi_120_41 : z_ins 120 41 = some (.putfield 22, 3) := by decide +kernel
theorem ze_120_41 : z_T g d 120 41 ls (.ref b :: .ref a :: st) h P = z_pF h.1 a 10 11 (.ref b) (fun f => z_T g d 120 44 ls st (f, h.2) P) := zt_putR zi_120_41 ((congrArg (fun o => z_fl o 22) zo_120).trans zf_LatinRectanglesModel_22) (by decide +kernel)
theorem zi_120_44 : z_ins 120 44 = some (.aload_n 0, 1) := by decide +kernel
theorem ze_120_44 : z_T g d 120 44 (.ref a :: ls) st h P = z_T g d 120 45 (.ref a :: ls) (.ref a :: st) h P := zt_aloadn zi_120_44 rfl rfl
theorem zi_120_45 : z_ins 120 45 = some (.sipush 500, 3) := by decide +kernel
theorem ze_120_45 : z_T g d 120 45 ls st h P = z_T g d 120 48 ls (.int (nI 500) :: st) h P := zt_sipush zi_120_45 rfl
theorem zi_120_48 : z_ins 120 48 = some (.newarray .byte, 2) := by decide +kernel
theorem ze_120_48 : z_T g d 120 48 ls (.int x :: st) h P = z_nA h .byte x (fun q h' => z_T g d 120 50 ls (.ref q :: st) h' P) := zt_newarray zi_120_48
theorem zi_120_50 : z_ins 120 50 = some (.putfield 25, 3) := by decide +kernel
theorem ze_120_50 : z_T g d 120 50 ls (.ref b :: .ref a :: st) h P = z_pF h.1 a 10 12 (.ref b) (fun f => z_T g d 120 53 ls st (f, h.2) P) := zt_putR zi_120_50 ((congrArg (fun o => z_fl o 25) zo_120).trans zf_LatinRectanglesModel_25) (by decide +kernel)
theorem zi_120_53 : z_ins 120 53 = some (.aload_n 0, 1) := by decide +kernel
theorem ze_120_53 : z_T g d 120 53 (.ref a :: ls) st h P = z_T g d 120 54 (.ref a :: ls) (.ref a :: st) h P := zt_aloadn zi_120_53 rfl rfl
theorem zi_120_54 : z_ins 120 54 = some (.iconst (-1), 1) := by decide +kernel
theorem ze_120_54 : z_T g d 120 54 ls st h P = z_T g d 120 55 ls (.int (-1) :: st) h P := zt_iconst zi_120_54 rfl
theorem zi_120_55 : z_ins 120 55 = some (.putfield 29, 3) := by decide +kernel
theorem ze_120_55 : z_T g d 120 55 ls (.int x :: .ref a :: st) h P = z_pF h.1 a 10 20 (.int x) (fun f => z_T g d 120 58 ls st (f, h.2) P) := zt_putI zi_120_55 ((congrArg (fun o => z_fl o 29) zo_120).trans zf_LatinRectanglesModel_29)
theorem zi_120_58 : z_ins 120 58 = some (.aload_n 0, 1) := by decide +kernel
theorem ze_120_58 : z_T g d 120 58 (.ref a :: ls) st h P = z_T g d 120 59 (.ref a :: ls) (.ref a :: st) h P := zt_aloadn zi_120_58 rfl rfl
theorem zi_120_59 : z_ins 120 59 = some (.bipush 25, 2) := by decide +kernel
theorem ze_120_59 : z_T g d 120 59 ls st h P = z_T g d 120 61 ls (.int (nI 25) :: st) h P := zt_bipush zi_120_59 rfl
theorem zi_120_61 : z_ins 120 61 = some (.newarray .int, 2) := by decide +kernel
theorem ze_120_61 : z_T g d 120 61 ls (.int x :: st) h P = z_nA h .int x (fun q h' => z_T g d 120 63 ls (.ref q :: st) h' P) := zt_newarray zi_120_61
theorem zi_120_63 : z_ins 120 63 = some (.putfield 33, 3) := by decide +kernel
theorem ze_120_63 : z_T g d 120 63 ls (.ref b :: .ref a :: st) h P = z_pF h.1 a 10 22 (.ref b) (fun f => z_T g d 120 66 ls st (f, h.2) P) := zt_putR zi_120_63 ((congrArg (fun o => z_fl o 33) zo_120).trans zf_LatinRectanglesModel_33) (by decide +kernel)
theorem zi_120_66 : z_ins 120 66 = some (.aload_n 0, 1) := by decide +kernel
theorem ze_120_66 : z_T g d 120 66 (.ref a :: ls) st h P = z_T g d 120 67 (.ref a :: ls) (.ref a :: st) h P := zt_aloadn zi_120_66 rfl rfl
theorem zi_120_67 : z_ins 120 67 = some (.sipush 250, 3) := by decide +kernel
theorem ze_120_67 : z_T g d 120 67 ls st h P = z_T g d 120 70 ls (.int (nI 250) :: st) h P := zt_sipush zi_120_67 rfl
theorem zi_120_70 : z_ins 120 70 = some (.newarray .int, 2) := by decide +kernel
theorem ze_120_70 : z_T g d 120 70 ls (.int x :: st) h P = z_nA h .int x (fun q h' => z_T g d 120 72 ls (.ref q :: st) h' P) := zt_newarray zi_120_70
theorem zi_120_72 : z_ins 120 72 = some (.putfield 36, 3) := by decide +kernel
theorem ze_120_72 : z_T g d 120 72 ls (.ref b :: .ref a :: st) h P = z_pF h.1 a 10 24 (.ref b) (fun f => z_T g d 120 75 ls st (f, h.2) P) := zt_putR zi_120_72 ((congrArg (fun o => z_fl o 36) zo_120).trans zf_LatinRectanglesModel_36) (by decide +kernel)
theorem zi_120_75 : z_ins 120 75 = some (.aload_n 0, 1) := by decide +kernel
theorem ze_120_75 : z_T g d 120 75 (.ref a :: ls) st h P = z_T g d 120 76 (.ref a :: ls) (.ref a :: st) h P := zt_aloadn zi_120_75 rfl rfl
theorem zi_120_76 : z_ins 120 76 = some (.bipush 50, 2) := by decide +kernel
theorem ze_120_76 : z_T g d 120 76 ls st h P = z_T g d 120 78 ls (.int (nI 50) :: st) h P := zt_bipush zi_120_76 rfl
theorem zi_120_78 : z_ins 120 78 = some (.newarray .int, 2) := by decide +kernel
theorem ze_120_78 : z_T g d 120 78 ls (.int x :: st) h P = z_nA h .int x (fun q h' => z_T g d 120 80 ls (.ref q :: st) h' P) := zt_newarray zi_120_78
theorem zi_120_80 : z_ins 120 80 = some (.putfield 39, 3) := by decide +kernel
theorem ze_120_80 : z_T g d 120 80 ls (.ref b :: .ref a :: st) h P = z_pF h.1 a 10 25 (.ref b) (fun f => z_T g d 120 83 ls st (f, h.2) P) := zt_putR zi_120_80 ((congrArg (fun o => z_fl o 39) zo_120).trans zf_LatinRectanglesModel_39) (by decide +kernel)
theorem zi_120_83 : z_ins 120 83 = some (.aload_n 0, 1) := by decide +kernel
theorem ze_120_83 : z_T g d 120 83 (.ref a :: ls) st h P = z_T g d 120 84 (.ref a :: ls) (.ref a :: st) h P := zt_aloadn zi_120_83 rfl rfl
theorem zi_120_84 : z_ins 120 84 = some (.bipush 25, 2) := by decide +kernel
theorem ze_120_84 : z_T g d 120 84 ls st h P = z_T g d 120 86 ls (.int (nI 25) :: st) h P := zt_bipush zi_120_84 rfl
theorem zi_120_86 : z_ins 120 86 = some (.newarray .int, 2) := by decide +kernel
theorem ze_120_86 : z_T g d 120 86 ls (.int x :: st) h P = z_nA h .int x (fun q h' => z_T g d 120 88 ls (.ref q :: st) h' P) := zt_newarray zi_120_86
theorem zi_120_88 : z_ins 120 88 = some (.putfield 42, 3) := by decide +kernel
theorem ze_120_88 : z_T g d 120 88 ls (.ref b :: .ref a :: st) h P = z_pF h.1 a 10 26 (.ref b) (fun f => z_T g d 120 91 ls st (f, h.2) P) := zt_putR zi_120_88 ((congrArg (fun o => z_fl o 42) zo_120).trans zf_LatinRectanglesModel_42) (by decide +kernel)
theorem zi_120_91 : z_ins 120 91 = some (.aload_n 0, 1) := by decide +kernel
theorem ze_120_91 : z_T g d 120 91 (.ref a :: ls) st h P = z_T g d 120 92 (.ref a :: ls) (.ref a :: st) h P := zt_aloadn zi_120_91 rfl rfl
theorem zi_120_92 : z_ins 120 92 = some (.bipush 25, 2) := by decide +kernel
theorem ze_120_92 : z_T g d 120 92 ls st h P = z_T g d 120 94 ls (.int (nI 25) :: st) h P := zt_bipush zi_120_92 rfl
theorem zi_120_94 : z_ins 120 94 = some (.newarray .int, 2) := by decide +kernel
theorem ze_120_94 : z_T g d 120 94 ls (.int x :: st) h P = z_nA h .int x (fun q h' => z_T g d 120 96 ls (.ref q :: st) h' P) := zt_newarray zi_120_94
theorem zi_120_96 : z_ins 120 96 = some (.putfield 45, 3) := by decide +kernel
theorem ze_120_96 : z_T g d 120 96 ls (.ref b :: .ref a :: st) h P = z_pF h.1 a 10 27 (.ref b) (fun f => z_T g d 120 99 ls st (f, h.2) P) := zt_putR zi_120_96 ((congrArg (fun o => z_fl o 45) zo_120).trans zf_LatinRectanglesModel_45) (by decide +kernel)
theorem zi_120_99 : z_ins 120 99 = some (.aload_n 0, 1) := by decide +kernel
theorem ze_120_99 : z_T g d 120 99 (.ref a :: ls) st h P = z_T g d 120 100 (.ref a :: ls) (.ref a :: st) h P := zt_aloadn zi_120_99 rfl rfl
theorem zi_120_100 : z_ins 120 100 = some (.iconst 2, 1) := by decide +kernel
theorem ze_120_100 : z_T g d 120 100 ls st h P = z_T g d 120 101 ls (.int (nI 2) :: st) h P := zt_iconst zi_120_100 rfl
theorem zi_120_101 : z_ins 120 101 = some (.newarray .boolean, 2) := by decide +kernel
theorem ze_120_101 : z_T g d 120 101 ls (.int x :: st) h P = z_nA h .boolean x (fun q h' => z_T g d 120 103 ls (.ref q :: st) h' P) := zt_newarray zi_120_101
theorem zi_120_103 : z_ins 120 103 = some (.putfield 48, 3) := by decide +kernel
theorem ze_120_103 : z_T g d 120 103 ls (.ref b :: .ref a :: st) h P = z_pF h.1 a 10 28 (.ref b) (fun f => z_T g d 120 106 ls st (f, h.2) P) := zt_putR zi_120_103 ((congrArg (fun o => z_fl o 48) zo_120).trans zf_LatinRectanglesModel_48) (by decide +kernel)
theorem zi_120_106 : z_ins 120 106 = some (.aload_n 0, 1) := by decide +kernel
theorem ze_120_106 : z_T g d 120 106 (.ref a :: ls) st h P = z_T g d 120 107 (.ref a :: ls) (.ref a :: st) h P := zt_aloadn zi_120_106 rfl rfl
theorem zi_120_107 : z_ins 120 107 = some (.invokevirtual 52, 3) := by decide +kernel
theorem ze_120_107 : z_T g d 120 107 ls (.ref a :: st) h P = ((z_okS 8 st = true ∧ z_gO h.1 a 10 ∧ 0 < d) ∧ z_Ca g (d - 1) 124 [.ref a] h (fun r => z_k r (fun v h' => z_T g d 120 110 ls (z_push v st) h' P) P)) := zt_callV (as := []) zi_120_107 ((congrArg (fun o => z_lookup z_prs (o, 52)) zo_120).trans zp_LatinRectanglesModel_52) ((congrArg (fun o => z_clk o 52) zo_120).trans zk_LatinRectanglesModel_52) zh_120 zc_124 rfl rfl rfl
theorem zi_120_110 : z_ins 120 110 = some (.aload_n 0, 1) := by decide +kernel
theorem ze_120_110 : z_T g d 120 110 (.ref a :: ls) st h P = z_T g d 120 111 (.ref a :: ls) (.ref a :: st) h P := zt_aloadn zi_120_110 rfl rfl
theorem zi_120_111 : z_ins 120 111 = some (.iconst 2, 1) := by decide +kernel
theorem ze_120_111 : z_T g d 120 111 ls st h P = z_T g d 120 112 ls (.int (nI 2) :: st) h P := zt_iconst zi_120_111 rfl
theorem zi_120_112 : z_ins 120 112 = some (.putfield 55, 3) := by decide +kernel
theorem ze_120_112 : z_T g d 120 112 ls (.int x :: .ref a :: st) h P = z_pF h.1 a 10 4 (.int x) (fun f => z_T g d 120 115 ls st (f, h.2) P) := zt_putI zi_120_112 ((congrArg (fun o => z_fl o 55) zo_120).trans zf_LatinRectanglesModel_55)
theorem zi_120_115 : z_ins 120 115 = some (.aload_n 0, 1) := by decide +kernel
theorem ze_120_115 : z_T g d 120 115 (.ref a :: ls) st h P = z_T g d 120 116 (.ref a :: ls) (.ref a :: st) h P := zt_aloadn zi_120_115 rfl rfl
theorem zi_120_116 : z_ins 120 116 = some (.iconst 2, 1) := by decide +kernel
theorem ze_120_116 : z_T g d 120 116 ls st h P = z_T g d 120 117 ls (.int (nI 2) :: st) h P := zt_iconst zi_120_116 rfl
theorem zi_120_117 : z_ins 120 117 = some (.putfield 58, 3) := by decide +kernel
theorem ze_120_117 : z_T g d 120 117 ls (.int x :: .ref a :: st) h P = z_pF h.1 a 10 5 (.int x) (fun f => z_T g d 120 120 ls st (f, h.2) P) := zt_putI zi_120_117 ((congrArg (fun o => z_fl o 58) zo_120).trans zf_LatinRectanglesModel_58)
theorem zi_120_120 : z_ins 120 120 = some (.aload_n 0, 1) := by decide +kernel
theorem ze_120_120 : z_T g d 120 120 (.ref a :: ls) st h P = z_T g d 120 121 (.ref a :: ls) (.ref a :: st) h P := zt_aloadn zi_120_120 rfl rfl
theorem zi_120_121 : z_ins 120 121 = some (.invokevirtual 61, 3) := by decide +kernel
theorem ze_120_121 : z_T g d 120 121 ls (.ref a :: st) h P = ((z_okS 8 st = true ∧ z_gO h.1 a 10 ∧ 0 < d) ∧ z_Ca g (d - 1) 125 [.ref a] h (fun r => z_k r (fun v h' => z_T g d 120 124 ls (z_push v st) h' P) P)) := zt_callV (as := []) zi_120_121 ((congrArg (fun o => z_lookup z_prs (o, 61)) zo_120).trans zp_LatinRectanglesModel_61) ((congrArg (fun o => z_clk o 61) zo_120).trans zk_LatinRectanglesModel_61) zh_120 zc_125 rfl rfl rfl
theorem zi_120_124 : z_ins 120 124 = some (.aload_n 0, 1) := by decide +kernel
theorem ze_120_124 : z_T g d 120 124 (.ref a :: ls) st h P = z_T g d 120 125 (.ref a :: ls) (.ref a :: st) h P := zt_aloadn zi_120_124 rfl rfl
theorem zi_120_125 : z_ins 120 125 = some (.invokevirtual 64, 3) := by decide +kernel
theorem ze_120_125 : z_T g d 120 125 ls (.ref a :: st) h P = ((z_okS 8 st = true ∧ z_gO h.1 a 10 ∧ 0 < d) ∧ z_Ca g (d - 1) 126 [.ref a] h (fun r => z_k r (fun v h' => z_T g d 120 128 ls (z_push v st) h' P) P)) := zt_callV (as := []) zi_120_125 ((congrArg (fun o => z_lookup z_prs (o, 64)) zo_120).trans zp_LatinRectanglesModel_64) ((congrArg (fun o => z_clk o 64) zo_120).trans zk_LatinRectanglesModel_64) zh_120 zc_126 rfl rfl rfl
theorem zi_120_128 : z_ins 120 128 = some (.return_, 1) := by decide +kernel
theorem ze_120_128 : z_T g d 120 128 ls [] h P = P (.inr none, h) := zt_return zi_120_128 zr_120
-- LatinRectanglesModel.thrown()I
theorem zo_121 : z_own 121 = "LatinRectanglesModel" := by decide +kernel
theorem zm_121 : z_maxL 121 = 1 := by decide +kernel
theorem zh_121 : z_hds 121 = [] := by decide +kernel
theorem zr_121 : z_rt 121 = (some .int) := by decide +kernel
theorem zn_121 : z_Ca g d 121 [.ref a0] h P = z_T g d 121 0 [.ref a0] [] h P := z_Ca_ent zm_121 rfl rfl
theorem zi_121_0 : z_ins 121 0 = some (.aload_n 0, 1) := by decide +kernel
theorem ze_121_0 : z_T g d 121 0 (.ref a :: ls) st h P = z_T g d 121 1 (.ref a :: ls) (.ref a :: st) h P := zt_aloadn zi_121_0 rfl rfl
theorem zi_121_1 : z_ins 121 1 = some (.getfield 67, 3) := by decide +kernel
theorem ze_121_1 : z_T g d 121 1 ls (.ref a :: st) h P = z_gI h.1 a 10 0 (fun x => z_T g d 121 4 ls (.int x :: st) h P) := zt_getI zi_121_1 ((congrArg (fun o => z_fl o 67) zo_121).trans zf_LatinRectanglesModel_67)
theorem zi_121_4 : z_ins 121 4 = some (.ireturn, 1) := by decide +kernel
theorem ze_121_4 : z_T g d 121 4 ls [.int x] h P = P (.inr (some (.int x)), h) := zt_ireturn zi_121_4 zr_121
-- LatinRectanglesModel.within(III)Z
theorem zo_122 : z_own 122 = "LatinRectanglesModel" := by decide +kernel
theorem zm_122 : z_maxL 122 = 3 := by decide +kernel
theorem zh_122 : z_hds 122 = [] := by decide +kernel
theorem zr_122 : z_rt 122 = (some .boolean) := by decide +kernel
theorem zn_122 : z_Ca g d 122 [.int x0, .int x1, .int x2] h P = z_T g d 122 0 [.int x0, .int x1, .int x2] [] h P := z_Ca_ent zm_122 rfl rfl
theorem zi_122_0 : z_ins 122 0 = some (.iload_n 0, 1) := by decide +kernel
theorem ze_122_0 : z_T g d 122 0 (.int x :: ls) st h P = z_T g d 122 1 (.int x :: ls) (.int x :: st) h P := zt_iloadn zi_122_0 rfl rfl
theorem zi_122_1 : z_ins 122 1 = some (.iload_n 1, 1) := by decide +kernel
theorem ze_122_1 : z_T g d 122 1 (v0 :: .int x :: ls) st h P = z_T g d 122 2 (v0 :: .int x :: ls) (.int x :: st) h P := zt_iloadn zi_122_1 rfl rfl
theorem zi_122_2 : z_ins 122 2 = some (.if_icmp .lt 12, 3) := by decide +kernel
theorem ze_122_2 : z_T g d 122 2 ls (.int y :: .int x :: st) h P = (if x < y then z_T g d 122 14 ls st h P else z_T g d 122 5 ls st h P) := zt_icmplt zi_122_2 (by decide)
theorem zi_122_5 : z_ins 122 5 = some (.iload_n 0, 1) := by decide +kernel
theorem ze_122_5 : z_T g d 122 5 (.int x :: ls) st h P = z_T g d 122 6 (.int x :: ls) (.int x :: st) h P := zt_iloadn zi_122_5 rfl rfl
theorem zi_122_6 : z_ins 122 6 = some (.iload_n 2, 1) := by decide +kernel
theorem ze_122_6 : z_T g d 122 6 (v0 :: v1 :: .int x :: ls) st h P = z_T g d 122 7 (v0 :: v1 :: .int x :: ls) (.int x :: st) h P := zt_iloadn zi_122_6 rfl rfl
theorem zi_122_7 : z_ins 122 7 = some (.if_icmp .gt 7, 3) := by decide +kernel
theorem ze_122_7 : z_T g d 122 7 ls (.int y :: .int x :: st) h P = (if y < x then z_T g d 122 14 ls st h P else z_T g d 122 10 ls st h P) := zt_icmpgt zi_122_7 (by decide)
theorem zi_122_10 : z_ins 122 10 = some (.iconst 1, 1) := by decide +kernel
theorem ze_122_10 : z_T g d 122 10 ls st h P = z_T g d 122 11 ls (.int (nI 1) :: st) h P := zt_iconst zi_122_10 rfl
theorem zi_122_11 : z_ins 122 11 = some (.goto 4, 3) := by decide +kernel
theorem ze_122_11 : z_T g d 122 11 ls st h P = z_T g d 122 15 ls st h P := zt_goto zi_122_11 (by decide)
theorem zi_122_14 : z_ins 122 14 = some (.iconst 0, 1) := by decide +kernel
theorem ze_122_14 : z_T g d 122 14 ls st h P = z_T g d 122 15 ls (.int (nI 0) :: st) h P := zt_iconst zi_122_14 rfl
theorem zi_122_15 : z_ins 122 15 = some (.ireturn, 1) := by decide +kernel
theorem ze_122_15 : z_T g d 122 15 ls [.int x] h P = ((x = nI 0 ∨ x = nI 1) ∧ P (.inr (some (.int x)), h)) := zt_zreturn zi_122_15 zr_122
-- LatinRectanglesModel.throwsIf(ZI)Z
theorem zo_123 : z_own 123 = "LatinRectanglesModel" := by decide +kernel
theorem zm_123 : z_maxL 123 = 3 := by decide +kernel
theorem zh_123 : z_hds 123 = [] := by decide +kernel
theorem zr_123 : z_rt 123 = (some .boolean) := by decide +kernel
theorem zn_123 : z_Ca g d 123 [.ref a0, .int x1, .int x2] h P = z_T g d 123 0 [.ref a0, .int x1, .int x2] [] h P := z_Ca_ent zm_123 rfl rfl
theorem zi_123_0 : z_ins 123 0 = some (.aload_n 0, 1) := by decide +kernel
theorem ze_123_0 : z_T g d 123 0 (.ref a :: ls) st h P = z_T g d 123 1 (.ref a :: ls) (.ref a :: st) h P := zt_aloadn zi_123_0 rfl rfl
theorem zi_123_1 : z_ins 123 1 = some (.getfield 67, 3) := by decide +kernel
theorem ze_123_1 : z_T g d 123 1 ls (.ref a :: st) h P = z_gI h.1 a 10 0 (fun x => z_T g d 123 4 ls (.int x :: st) h P) := zt_getI zi_123_1 ((congrArg (fun o => z_fl o 67) zo_123).trans zf_LatinRectanglesModel_67)
theorem zi_123_4 : z_ins 123 4 = some (.ifCond .ne 12, 3) := by decide +kernel
theorem ze_123_4 : z_T g d 123 4 ls (.int x :: st) h P = (if x = nI 0 then z_T g d 123 7 ls st h P else z_T g d 123 16 ls st h P) := zt_ifne zi_123_4 (by decide)
theorem zi_123_7 : z_ins 123 7 = some (.iload_n 1, 1) := by decide +kernel
theorem ze_123_7 : z_T g d 123 7 (v0 :: .int x :: ls) st h P = z_T g d 123 8 (v0 :: .int x :: ls) (.int x :: st) h P := zt_iloadn zi_123_7 rfl rfl
theorem zi_123_8 : z_ins 123 8 = some (.ifCond .eq 8, 3) := by decide +kernel
theorem ze_123_8 : z_T g d 123 8 ls (.int x :: st) h P = (if x = nI 0 then z_T g d 123 16 ls st h P else z_T g d 123 11 ls st h P) := zt_ifeq zi_123_8 (by decide)
theorem zi_123_11 : z_ins 123 11 = some (.aload_n 0, 1) := by decide +kernel
theorem ze_123_11 : z_T g d 123 11 (.ref a :: ls) st h P = z_T g d 123 12 (.ref a :: ls) (.ref a :: st) h P := zt_aloadn zi_123_11 rfl rfl
theorem zi_123_12 : z_ins 123 12 = some (.iload_n 2, 1) := by decide +kernel
theorem ze_123_12 : z_T g d 123 12 (v0 :: v1 :: .int x :: ls) st h P = z_T g d 123 13 (v0 :: v1 :: .int x :: ls) (.int x :: st) h P := zt_iloadn zi_123_12 rfl rfl
theorem zi_123_13 : z_ins 123 13 = some (.putfield 67, 3) := by decide +kernel
theorem ze_123_13 : z_T g d 123 13 ls (.int x :: .ref a :: st) h P = z_pF h.1 a 10 0 (.int x) (fun f => z_T g d 123 16 ls st (f, h.2) P) := zt_putI zi_123_13 ((congrArg (fun o => z_fl o 67) zo_123).trans zf_LatinRectanglesModel_67)
theorem zi_123_16 : z_ins 123 16 = some (.aload_n 0, 1) := by decide +kernel
theorem ze_123_16 : z_T g d 123 16 (.ref a :: ls) st h P = z_T g d 123 17 (.ref a :: ls) (.ref a :: st) h P := zt_aloadn zi_123_16 rfl rfl
theorem zi_123_17 : z_ins 123 17 = some (.getfield 67, 3) := by decide +kernel
theorem ze_123_17 : z_T g d 123 17 ls (.ref a :: st) h P = z_gI h.1 a 10 0 (fun x => z_T g d 123 20 ls (.int x :: st) h P) := zt_getI zi_123_17 ((congrArg (fun o => z_fl o 67) zo_123).trans zf_LatinRectanglesModel_67)
theorem zi_123_20 : z_ins 123 20 = some (.ifCond .le 7, 3) := by decide +kernel
theorem ze_123_20 : z_T g d 123 20 ls (.int x :: st) h P = (if nI 0 < x then z_T g d 123 23 ls st h P else z_T g d 123 27 ls st h P) := zt_ifle zi_123_20 (by decide)
theorem zi_123_23 : z_ins 123 23 = some (.iconst 1, 1) := by decide +kernel
theorem ze_123_23 : z_T g d 123 23 ls st h P = z_T g d 123 24 ls (.int (nI 1) :: st) h P := zt_iconst zi_123_23 rfl
theorem zi_123_24 : z_ins 123 24 = some (.goto 4, 3) := by decide +kernel
theorem ze_123_24 : z_T g d 123 24 ls st h P = z_T g d 123 28 ls st h P := zt_goto zi_123_24 (by decide)
theorem zi_123_27 : z_ins 123 27 = some (.iconst 0, 1) := by decide +kernel
theorem ze_123_27 : z_T g d 123 27 ls st h P = z_T g d 123 28 ls (.int (nI 0) :: st) h P := zt_iconst zi_123_27 rfl
theorem zi_123_28 : z_ins 123 28 = some (.ireturn, 1) := by decide +kernel
theorem ze_123_28 : z_T g d 123 28 ls [.int x] h P = ((x = nI 0 ∨ x = nI 1) ∧ P (.inr (some (.int x)), h)) := zt_zreturn zi_123_28 zr_123
-- LatinRectanglesModel.clearDraft()V
theorem zo_124 : z_own 124 = "LatinRectanglesModel" := by decide +kernel
theorem zm_124 : z_maxL 124 = 2 := by decide +kernel
theorem zh_124 : z_hds 124 = [] := by decide +kernel
theorem zr_124 : z_rt 124 = none := by decide +kernel
theorem zn_124 : z_Ca g d 124 [.ref a0] h P = z_T g d 124 0 [.ref a0, z_un] [] h P := z_Ca_ent zm_124 rfl rfl
theorem zi_124_0 : z_ins 124 0 = some (.aload_n 0, 1) := by decide +kernel
theorem ze_124_0 : z_T g d 124 0 (.ref a :: ls) st h P = z_T g d 124 1 (.ref a :: ls) (.ref a :: st) h P := zt_aloadn zi_124_0 rfl rfl
theorem zi_124_1 : z_ins 124 1 = some (.iconst 0, 1) := by decide +kernel
theorem ze_124_1 : z_T g d 124 1 ls st h P = z_T g d 124 2 ls (.int (nI 0) :: st) h P := zt_iconst zi_124_1 rfl
theorem zi_124_2 : z_ins 124 2 = some (.putfield 70, 3) := by decide +kernel
theorem ze_124_2 : z_T g d 124 2 ls (.int x :: .ref a :: st) h P = z_pF h.1 a 10 6 (.int x) (fun f => z_T g d 124 5 ls st (f, h.2) P) := zt_putI zi_124_2 ((congrArg (fun o => z_fl o 70) zo_124).trans zf_LatinRectanglesModel_70)
theorem zi_124_5 : z_ins 124 5 = some (.iconst 0, 1) := by decide +kernel
theorem ze_124_5 : z_T g d 124 5 ls st h P = z_T g d 124 6 ls (.int (nI 0) :: st) h P := zt_iconst zi_124_5 rfl
theorem zi_124_6 : z_ins 124 6 = some (.istore_n 1, 1) := by decide +kernel
theorem ze_124_6 : z_T g d 124 6 (v0 :: v1 :: ls) (.int x :: st) h P = z_T g d 124 7 (v0 :: .int x :: ls) st h P := zt_istoren zi_124_6 rfl (Nat.le_add_left 2 _)
theorem zi_124_7 : z_ins 124 7 = some (.iload_n 1, 1) := by decide +kernel
theorem ze_124_7 : z_T g d 124 7 (v0 :: .int x :: ls) st h P = z_T g d 124 8 (v0 :: .int x :: ls) (.int x :: st) h P := zt_iloadn zi_124_7 rfl rfl
theorem zi_124_8 : z_ins 124 8 = some (.bipush 25, 2) := by decide +kernel
theorem ze_124_8 : z_T g d 124 8 ls st h P = z_T g d 124 10 ls (.int (nI 25) :: st) h P := zt_bipush zi_124_8 rfl
theorem zi_124_10 : z_ins 124 10 = some (.if_icmp .ge 23, 3) := by decide +kernel
theorem ze_124_10 : z_T g d 124 10 ls (.int y :: .int x :: st) h P = (if x < y then z_T g d 124 13 ls st h P else z_T g d 124 33 ls st h P) := zt_icmpge zi_124_10 (by decide)
theorem zi_124_13 : z_ins 124 13 = some (.aload_n 0, 1) := by decide +kernel
theorem ze_124_13 : z_T g d 124 13 (.ref a :: ls) st h P = z_T g d 124 14 (.ref a :: ls) (.ref a :: st) h P := zt_aloadn zi_124_13 rfl rfl
theorem zi_124_14 : z_ins 124 14 = some (.getfield 16, 3) := by decide +kernel
theorem ze_124_14 : z_T g d 124 14 ls (.ref a :: st) h P = z_gR h.1 a 10 9 (fun x => z_T g d 124 17 ls (.ref x :: st) h P) := zt_getR zi_124_14 ((congrArg (fun o => z_fl o 16) zo_124).trans zf_LatinRectanglesModel_16)
theorem zi_124_17 : z_ins 124 17 = some (.iload_n 1, 1) := by decide +kernel
theorem ze_124_17 : z_T g d 124 17 (v0 :: .int x :: ls) st h P = z_T g d 124 18 (v0 :: .int x :: ls) (.int x :: st) h P := zt_iloadn zi_124_17 rfl rfl
theorem zi_124_18 : z_ins 124 18 = some (.iconst (-1), 1) := by decide +kernel
theorem ze_124_18 : z_T g d 124 18 ls st h P = z_T g d 124 19 ls (.int (-1) :: st) h P := zt_iconst zi_124_18 rfl
theorem zi_124_19 : z_ins 124 19 = some (.iastore, 1) := by decide +kernel
theorem ze_124_19 : z_T g d 124 19 ls (.int y :: .int x :: .ref a :: st) h P = z_aS h.1 a z_tI x y (fun f => z_T g d 124 20 ls st (f, h.2) P) := zt_iastore zi_124_19
theorem zi_124_20 : z_ins 124 20 = some (.aload_n 0, 1) := by decide +kernel
theorem ze_124_20 : z_T g d 124 20 (.ref a :: ls) st h P = z_T g d 124 21 (.ref a :: ls) (.ref a :: st) h P := zt_aloadn zi_124_20 rfl rfl
theorem zi_124_21 : z_ins 124 21 = some (.getfield 19, 3) := by decide +kernel
theorem ze_124_21 : z_T g d 124 21 ls (.ref a :: st) h P = z_gR h.1 a 10 10 (fun x => z_T g d 124 24 ls (.ref x :: st) h P) := zt_getR zi_124_21 ((congrArg (fun o => z_fl o 19) zo_124).trans zf_LatinRectanglesModel_19)
theorem zi_124_24 : z_ins 124 24 = some (.iload_n 1, 1) := by decide +kernel
theorem ze_124_24 : z_T g d 124 24 (v0 :: .int x :: ls) st h P = z_T g d 124 25 (v0 :: .int x :: ls) (.int x :: st) h P := zt_iloadn zi_124_24 rfl rfl
theorem zi_124_25 : z_ins 124 25 = some (.iconst 0, 1) := by decide +kernel
theorem ze_124_25 : z_T g d 124 25 ls st h P = z_T g d 124 26 ls (.int (nI 0) :: st) h P := zt_iconst zi_124_25 rfl
theorem zi_124_26 : z_ins 124 26 = some (.iastore, 1) := by decide +kernel
theorem ze_124_26 : z_T g d 124 26 ls (.int y :: .int x :: .ref a :: st) h P = z_aS h.1 a z_tI x y (fun f => z_T g d 124 27 ls st (f, h.2) P) := zt_iastore zi_124_26
theorem zi_124_27 : z_ins 124 27 = some (.iinc 1 1, 3) := by decide +kernel
theorem ze_124_27 : z_T g d 124 27 (v0 :: .int x :: ls) st h P = z_T g d 124 30 (v0 :: .int (x + (nI 1)) :: ls) st h P := zt_iinc zi_124_27 rfl rfl
theorem zi_124_30 : z_ins 124 30 = some (.goto (-23), 3) := by decide +kernel
theorem ze_124_30 : z_T g d 124 30 ls st h P = z_T g d 124 7 ls st h P := zt_goto zi_124_30 (by decide)
theorem zi_124_33 : z_ins 124 33 = some (.return_, 1) := by decide +kernel
theorem ze_124_33 : z_T g d 124 33 ls [] h P = P (.inr none, h) := zt_return zi_124_33 zr_124
-- LatinRectanglesModel.lifts()V
theorem zo_125 : z_own 125 = "LatinRectanglesModel" := by decide +kernel
theorem zm_125 : z_maxL 125 = 2 := by decide +kernel
theorem zh_125 : z_hds 125 = [] := by decide +kernel
theorem zr_125 : z_rt 125 = none := by decide +kernel
theorem zn_125 : z_Ca g d 125 [.ref a0] h P = z_T g d 125 0 [.ref a0, z_un] [] h P := z_Ca_ent zm_125 rfl rfl
theorem zi_125_0 : z_ins 125 0 = some (.aload_n 0, 1) := by decide +kernel
theorem ze_125_0 : z_T g d 125 0 (.ref a :: ls) st h P = z_T g d 125 1 (.ref a :: ls) (.ref a :: st) h P := zt_aloadn zi_125_0 rfl rfl
theorem zi_125_1 : z_ins 125 1 = some (.aload_n 0, 1) := by decide +kernel
theorem ze_125_1 : z_T g d 125 1 (.ref a :: ls) st h P = z_T g d 125 2 (.ref a :: ls) (.ref a :: st) h P := zt_aloadn zi_125_1 rfl rfl
theorem zi_125_2 : z_ins 125 2 = some (.getfield 55, 3) := by decide +kernel
theorem ze_125_2 : z_T g d 125 2 ls (.ref a :: st) h P = z_gI h.1 a 10 4 (fun x => z_T g d 125 5 ls (.int x :: st) h P) := zt_getI zi_125_2 ((congrArg (fun o => z_fl o 55) zo_125).trans zf_LatinRectanglesModel_55)
theorem zi_125_5 : z_ins 125 5 = some (.putfield 73, 3) := by decide +kernel
theorem ze_125_5 : z_T g d 125 5 ls (.int x :: .ref a :: st) h P = z_pF h.1 a 10 1 (.int x) (fun f => z_T g d 125 8 ls st (f, h.2) P) := zt_putI zi_125_5 ((congrArg (fun o => z_fl o 73) zo_125).trans zf_LatinRectanglesModel_73)
theorem zi_125_8 : z_ins 125 8 = some (.aload_n 0, 1) := by decide +kernel
theorem ze_125_8 : z_T g d 125 8 (.ref a :: ls) st h P = z_T g d 125 9 (.ref a :: ls) (.ref a :: st) h P := zt_aloadn zi_125_8 rfl rfl
theorem zi_125_9 : z_ins 125 9 = some (.aload_n 0, 1) := by decide +kernel
theorem ze_125_9 : z_T g d 125 9 (.ref a :: ls) st h P = z_T g d 125 10 (.ref a :: ls) (.ref a :: st) h P := zt_aloadn zi_125_9 rfl rfl
theorem zi_125_10 : z_ins 125 10 = some (.getfield 58, 3) := by decide +kernel
theorem ze_125_10 : z_T g d 125 10 ls (.ref a :: st) h P = z_gI h.1 a 10 5 (fun x => z_T g d 125 13 ls (.int x :: st) h P) := zt_getI zi_125_10 ((congrArg (fun o => z_fl o 58) zo_125).trans zf_LatinRectanglesModel_58)
theorem zi_125_13 : z_ins 125 13 = some (.putfield 76, 3) := by decide +kernel
theorem ze_125_13 : z_T g d 125 13 ls (.int x :: .ref a :: st) h P = z_pF h.1 a 10 2 (.int x) (fun f => z_T g d 125 16 ls st (f, h.2) P) := zt_putI zi_125_13 ((congrArg (fun o => z_fl o 76) zo_125).trans zf_LatinRectanglesModel_76)
theorem zi_125_16 : z_ins 125 16 = some (.aload_n 0, 1) := by decide +kernel
theorem ze_125_16 : z_T g d 125 16 (.ref a :: ls) st h P = z_T g d 125 17 (.ref a :: ls) (.ref a :: st) h P := zt_aloadn zi_125_16 rfl rfl
theorem zi_125_17 : z_ins 125 17 = some (.aload_n 0, 1) := by decide +kernel
theorem ze_125_17 : z_T g d 125 17 (.ref a :: ls) st h P = z_T g d 125 18 (.ref a :: ls) (.ref a :: st) h P := zt_aloadn zi_125_17 rfl rfl
theorem zi_125_18 : z_ins 125 18 = some (.getfield 70, 3) := by decide +kernel
theorem ze_125_18 : z_T g d 125 18 ls (.ref a :: st) h P = z_gI h.1 a 10 6 (fun x => z_T g d 125 21 ls (.int x :: st) h P) := zt_getI zi_125_18 ((congrArg (fun o => z_fl o 70) zo_125).trans zf_LatinRectanglesModel_70)
theorem zi_125_21 : z_ins 125 21 = some (.putfield 79, 3) := by decide +kernel
theorem ze_125_21 : z_T g d 125 21 ls (.int x :: .ref a :: st) h P = z_pF h.1 a 10 3 (.int x) (fun f => z_T g d 125 24 ls st (f, h.2) P) := zt_putI zi_125_21 ((congrArg (fun o => z_fl o 79) zo_125).trans zf_LatinRectanglesModel_79)
theorem zi_125_24 : z_ins 125 24 = some (.iconst 0, 1) := by decide +kernel
theorem ze_125_24 : z_T g d 125 24 ls st h P = z_T g d 125 25 ls (.int (nI 0) :: st) h P := zt_iconst zi_125_24 rfl
theorem zi_125_25 : z_ins 125 25 = some (.istore_n 1, 1) := by decide +kernel
theorem ze_125_25 : z_T g d 125 25 (v0 :: v1 :: ls) (.int x :: st) h P = z_T g d 125 26 (v0 :: .int x :: ls) st h P := zt_istoren zi_125_25 rfl (Nat.le_add_left 2 _)
theorem zi_125_26 : z_ins 125 26 = some (.iload_n 1, 1) := by decide +kernel
theorem ze_125_26 : z_T g d 125 26 (v0 :: .int x :: ls) st h P = z_T g d 125 27 (v0 :: .int x :: ls) (.int x :: st) h P := zt_iloadn zi_125_26 rfl rfl
theorem zi_125_27 : z_ins 125 27 = some (.bipush 25, 2) := by decide +kernel
theorem ze_125_27 : z_T g d 125 27 ls st h P = z_T g d 125 29 ls (.int (nI 25) :: st) h P := zt_bipush zi_125_27 rfl
theorem zi_125_29 : z_ins 125 29 = some (.if_icmp .ge 33, 3) := by decide +kernel
theorem ze_125_29 : z_T g d 125 29 ls (.int y :: .int x :: st) h P = (if x < y then z_T g d 125 32 ls st h P else z_T g d 125 62 ls st h P) := zt_icmpge zi_125_29 (by decide)
theorem zi_125_32 : z_ins 125 32 = some (.aload_n 0, 1) := by decide +kernel
theorem ze_125_32 : z_T g d 125 32 (.ref a :: ls) st h P = z_T g d 125 33 (.ref a :: ls) (.ref a :: st) h P := zt_aloadn zi_125_32 rfl rfl
theorem zi_125_33 : z_ins 125 33 = some (.getfield 7, 3) := by decide +kernel
theorem ze_125_33 : z_T g d 125 33 ls (.ref a :: st) h P = z_gR h.1 a 10 7 (fun x => z_T g d 125 36 ls (.ref x :: st) h P) := zt_getR zi_125_33 ((congrArg (fun o => z_fl o 7) zo_125).trans zf_LatinRectanglesModel_7)
theorem zi_125_36 : z_ins 125 36 = some (.iload_n 1, 1) := by decide +kernel
theorem ze_125_36 : z_T g d 125 36 (v0 :: .int x :: ls) st h P = z_T g d 125 37 (v0 :: .int x :: ls) (.int x :: st) h P := zt_iloadn zi_125_36 rfl rfl
theorem zi_125_37 : z_ins 125 37 = some (.aload_n 0, 1) := by decide +kernel
theorem ze_125_37 : z_T g d 125 37 (.ref a :: ls) st h P = z_T g d 125 38 (.ref a :: ls) (.ref a :: st) h P := zt_aloadn zi_125_37 rfl rfl
theorem zi_125_38 : z_ins 125 38 = some (.getfield 16, 3) := by decide +kernel
theorem ze_125_38 : z_T g d 125 38 ls (.ref a :: st) h P = z_gR h.1 a 10 9 (fun x => z_T g d 125 41 ls (.ref x :: st) h P) := zt_getR zi_125_38 ((congrArg (fun o => z_fl o 16) zo_125).trans zf_LatinRectanglesModel_16)
theorem zi_125_41 : z_ins 125 41 = some (.iload_n 1, 1) := by decide +kernel
theorem ze_125_41 : z_T g d 125 41 (v0 :: .int x :: ls) st h P = z_T g d 125 42 (v0 :: .int x :: ls) (.int x :: st) h P := zt_iloadn zi_125_41 rfl rfl
theorem zi_125_42 : z_ins 125 42 = some (.iaload, 1) := by decide +kernel
theorem ze_125_42 : z_T g d 125 42 ls (.int x :: .ref a :: st) h P = z_aL h.1 a z_tI x (fun v => z_T g d 125 43 ls (.int v :: st) h P) := zt_iaload zi_125_42
theorem zi_125_43 : z_ins 125 43 = some (.iastore, 1) := by decide +kernel
theorem ze_125_43 : z_T g d 125 43 ls (.int y :: .int x :: .ref a :: st) h P = z_aS h.1 a z_tI x y (fun f => z_T g d 125 44 ls st (f, h.2) P) := zt_iastore zi_125_43
theorem zi_125_44 : z_ins 125 44 = some (.aload_n 0, 1) := by decide +kernel
theorem ze_125_44 : z_T g d 125 44 (.ref a :: ls) st h P = z_T g d 125 45 (.ref a :: ls) (.ref a :: st) h P := zt_aloadn zi_125_44 rfl rfl
theorem zi_125_45 : z_ins 125 45 = some (.getfield 13, 3) := by decide +kernel
theorem ze_125_45 : z_T g d 125 45 ls (.ref a :: st) h P = z_gR h.1 a 10 8 (fun x => z_T g d 125 48 ls (.ref x :: st) h P) := zt_getR zi_125_45 ((congrArg (fun o => z_fl o 13) zo_125).trans zf_LatinRectanglesModel_13)
theorem zi_125_48 : z_ins 125 48 = some (.iload_n 1, 1) := by decide +kernel
theorem ze_125_48 : z_T g d 125 48 (v0 :: .int x :: ls) st h P = z_T g d 125 49 (v0 :: .int x :: ls) (.int x :: st) h P := zt_iloadn zi_125_48 rfl rfl
theorem zi_125_49 : z_ins 125 49 = some (.aload_n 0, 1) := by decide +kernel
theorem ze_125_49 : z_T g d 125 49 (.ref a :: ls) st h P = z_T g d 125 50 (.ref a :: ls) (.ref a :: st) h P := zt_aloadn zi_125_49 rfl rfl
theorem zi_125_50 : z_ins 125 50 = some (.getfield 19, 3) := by decide +kernel
theorem ze_125_50 : z_T g d 125 50 ls (.ref a :: st) h P = z_gR h.1 a 10 10 (fun x => z_T g d 125 53 ls (.ref x :: st) h P) := zt_getR zi_125_50 ((congrArg (fun o => z_fl o 19) zo_125).trans zf_LatinRectanglesModel_19)
theorem zi_125_53 : z_ins 125 53 = some (.iload_n 1, 1) := by decide +kernel
theorem ze_125_53 : z_T g d 125 53 (v0 :: .int x :: ls) st h P = z_T g d 125 54 (v0 :: .int x :: ls) (.int x :: st) h P := zt_iloadn zi_125_53 rfl rfl
theorem zi_125_54 : z_ins 125 54 = some (.iaload, 1) := by decide +kernel
theorem ze_125_54 : z_T g d 125 54 ls (.int x :: .ref a :: st) h P = z_aL h.1 a z_tI x (fun v => z_T g d 125 55 ls (.int v :: st) h P) := zt_iaload zi_125_54
theorem zi_125_55 : z_ins 125 55 = some (.iastore, 1) := by decide +kernel
theorem ze_125_55 : z_T g d 125 55 ls (.int y :: .int x :: .ref a :: st) h P = z_aS h.1 a z_tI x y (fun f => z_T g d 125 56 ls st (f, h.2) P) := zt_iastore zi_125_55
theorem zi_125_56 : z_ins 125 56 = some (.iinc 1 1, 3) := by decide +kernel
theorem ze_125_56 : z_T g d 125 56 (v0 :: .int x :: ls) st h P = z_T g d 125 59 (v0 :: .int (x + (nI 1)) :: ls) st h P := zt_iinc zi_125_56 rfl rfl
theorem zi_125_59 : z_ins 125 59 = some (.goto (-33), 3) := by decide +kernel
theorem ze_125_59 : z_T g d 125 59 ls st h P = z_T g d 125 26 ls st h P := zt_goto zi_125_59 (by decide)
theorem zi_125_62 : z_ins 125 62 = some (.return_, 1) := by decide +kernel
theorem ze_125_62 : z_T g d 125 62 ls [] h P = P (.inr none, h) := zt_return zi_125_62 zr_125
-- LatinRectanglesModel.begins()V
theorem zo_126 : z_own 126 = "LatinRectanglesModel" := by decide +kernel
theorem zm_126 : z_maxL 126 = 2 := by decide +kernel
theorem zh_126 : z_hds 126 = [] := by decide +kernel
theorem zr_126 : z_rt 126 = none := by decide +kernel
theorem zn_126 : z_Ca g d 126 [.ref a0] h P = z_T g d 126 0 [.ref a0, z_un] [] h P := z_Ca_ent zm_126 rfl rfl
theorem zi_126_0 : z_ins 126 0 = some (.iconst 0, 1) := by decide +kernel
theorem ze_126_0 : z_T g d 126 0 ls st h P = z_T g d 126 1 ls (.int (nI 0) :: st) h P := zt_iconst zi_126_0 rfl
theorem zi_126_1 : z_ins 126 1 = some (.istore_n 1, 1) := by decide +kernel
theorem ze_126_1 : z_T g d 126 1 (v0 :: v1 :: ls) (.int x :: st) h P = z_T g d 126 2 (v0 :: .int x :: ls) st h P := zt_istoren zi_126_1 rfl (Nat.le_add_left 2 _)
theorem zi_126_2 : z_ins 126 2 = some (.iload_n 1, 1) := by decide +kernel
theorem ze_126_2 : z_T g d 126 2 (v0 :: .int x :: ls) st h P = z_T g d 126 3 (v0 :: .int x :: ls) (.int x :: st) h P := zt_iloadn zi_126_2 rfl rfl
theorem zi_126_3 : z_ins 126 3 = some (.bipush 25, 2) := by decide +kernel
theorem ze_126_3 : z_T g d 126 3 ls st h P = z_T g d 126 5 ls (.int (nI 25) :: st) h P := zt_bipush zi_126_3 rfl
theorem zi_126_5 : z_ins 126 5 = some (.if_icmp .ge 21, 3) := by decide +kernel
theorem ze_126_5 : z_T g d 126 5 ls (.int y :: .int x :: st) h P = (if x < y then z_T g d 126 8 ls st h P else z_T g d 126 26 ls st h P) := zt_icmpge zi_126_5 (by decide)
theorem zi_126_8 : z_ins 126 8 = some (.aload_n 0, 1) := by decide +kernel
theorem ze_126_8 : z_T g d 126 8 (.ref a :: ls) st h P = z_T g d 126 9 (.ref a :: ls) (.ref a :: st) h P := zt_aloadn zi_126_8 rfl rfl
theorem zi_126_9 : z_ins 126 9 = some (.getfield 22, 3) := by decide +kernel
theorem ze_126_9 : z_T g d 126 9 ls (.ref a :: st) h P = z_gR h.1 a 10 11 (fun x => z_T g d 126 12 ls (.ref x :: st) h P) := zt_getR zi_126_9 ((congrArg (fun o => z_fl o 22) zo_126).trans zf_LatinRectanglesModel_22)
theorem zi_126_12 : z_ins 126 12 = some (.iload_n 1, 1) := by decide +kernel
theorem ze_126_12 : z_T g d 126 12 (v0 :: .int x :: ls) st h P = z_T g d 126 13 (v0 :: .int x :: ls) (.int x :: st) h P := zt_iloadn zi_126_12 rfl rfl
theorem zi_126_13 : z_ins 126 13 = some (.aload_n 0, 1) := by decide +kernel
theorem ze_126_13 : z_T g d 126 13 (.ref a :: ls) st h P = z_T g d 126 14 (.ref a :: ls) (.ref a :: st) h P := zt_aloadn zi_126_13 rfl rfl
theorem zi_126_14 : z_ins 126 14 = some (.getfield 7, 3) := by decide +kernel
theorem ze_126_14 : z_T g d 126 14 ls (.ref a :: st) h P = z_gR h.1 a 10 7 (fun x => z_T g d 126 17 ls (.ref x :: st) h P) := zt_getR zi_126_14 ((congrArg (fun o => z_fl o 7) zo_126).trans zf_LatinRectanglesModel_7)
theorem zi_126_17 : z_ins 126 17 = some (.iload_n 1, 1) := by decide +kernel
theorem ze_126_17 : z_T g d 126 17 (v0 :: .int x :: ls) st h P = z_T g d 126 18 (v0 :: .int x :: ls) (.int x :: st) h P := zt_iloadn zi_126_17 rfl rfl
theorem zi_126_18 : z_ins 126 18 = some (.iaload, 1) := by decide +kernel
theorem ze_126_18 : z_T g d 126 18 ls (.int x :: .ref a :: st) h P = z_aL h.1 a z_tI x (fun v => z_T g d 126 19 ls (.int v :: st) h P) := zt_iaload zi_126_18
theorem zi_126_19 : z_ins 126 19 = some (.iastore, 1) := by decide +kernel
theorem ze_126_19 : z_T g d 126 19 ls (.int y :: .int x :: .ref a :: st) h P = z_aS h.1 a z_tI x y (fun f => z_T g d 126 20 ls st (f, h.2) P) := zt_iastore zi_126_19
theorem zi_126_20 : z_ins 126 20 = some (.iinc 1 1, 3) := by decide +kernel
theorem ze_126_20 : z_T g d 126 20 (v0 :: .int x :: ls) st h P = z_T g d 126 23 (v0 :: .int (x + (nI 1)) :: ls) st h P := zt_iinc zi_126_20 rfl rfl
theorem zi_126_23 : z_ins 126 23 = some (.goto (-21), 3) := by decide +kernel
theorem ze_126_23 : z_T g d 126 23 ls st h P = z_T g d 126 2 ls st h P := zt_goto zi_126_23 (by decide)
theorem zi_126_26 : z_ins 126 26 = some (.aload_n 0, 1) := by decide +kernel
theorem ze_126_26 : z_T g d 126 26 (.ref a :: ls) st h P = z_T g d 126 27 (.ref a :: ls) (.ref a :: st) h P := zt_aloadn zi_126_26 rfl rfl
theorem zi_126_27 : z_ins 126 27 = some (.iconst 0, 1) := by decide +kernel
theorem ze_126_27 : z_T g d 126 27 ls st h P = z_T g d 126 28 ls (.int (nI 0) :: st) h P := zt_iconst zi_126_27 rfl
theorem zi_126_28 : z_ins 126 28 = some (.putfield 82, 3) := by decide +kernel
theorem ze_126_28 : z_T g d 126 28 ls (.int x :: .ref a :: st) h P = z_pF h.1 a 10 23 (.int x) (fun f => z_T g d 126 31 ls st (f, h.2) P) := zt_putI zi_126_28 ((congrArg (fun o => z_fl o 82) zo_126).trans zf_LatinRectanglesModel_82)
theorem zi_126_31 : z_ins 126 31 = some (.aload_n 0, 1) := by decide +kernel
theorem ze_126_31 : z_T g d 126 31 (.ref a :: ls) st h P = z_T g d 126 32 (.ref a :: ls) (.ref a :: st) h P := zt_aloadn zi_126_31 rfl rfl
theorem zi_126_32 : z_ins 126 32 = some (.getfield 48, 3) := by decide +kernel
theorem ze_126_32 : z_T g d 126 32 ls (.ref a :: st) h P = z_gR h.1 a 10 28 (fun x => z_T g d 126 35 ls (.ref x :: st) h P) := zt_getR zi_126_32 ((congrArg (fun o => z_fl o 48) zo_126).trans zf_LatinRectanglesModel_48)
theorem zi_126_35 : z_ins 126 35 = some (.iconst 0, 1) := by decide +kernel
theorem ze_126_35 : z_T g d 126 35 ls st h P = z_T g d 126 36 ls (.int (nI 0) :: st) h P := zt_iconst zi_126_35 rfl
theorem zi_126_36 : z_ins 126 36 = some (.iconst 0, 1) := by decide +kernel
theorem ze_126_36 : z_T g d 126 36 ls st h P = z_T g d 126 37 ls (.int (nI 0) :: st) h P := zt_iconst zi_126_36 rfl
theorem zi_126_37 : z_ins 126 37 = some (.bastore, 1) := by decide +kernel
theorem ze_126_37 : z_T g d 126 37 ls (.int y :: .int x :: .ref a :: st) h P = z_aS h.1 a z_tB x y (fun f => z_T g d 126 38 ls st (f, h.2) P) := zt_bastore zi_126_37
theorem zi_126_38 : z_ins 126 38 = some (.aload_n 0, 1) := by decide +kernel
theorem ze_126_38 : z_T g d 126 38 (.ref a :: ls) st h P = z_T g d 126 39 (.ref a :: ls) (.ref a :: st) h P := zt_aloadn zi_126_38 rfl rfl
theorem zi_126_39 : z_ins 126 39 = some (.getfield 48, 3) := by decide +kernel
theorem ze_126_39 : z_T g d 126 39 ls (.ref a :: st) h P = z_gR h.1 a 10 28 (fun x => z_T g d 126 42 ls (.ref x :: st) h P) := zt_getR zi_126_39 ((congrArg (fun o => z_fl o 48) zo_126).trans zf_LatinRectanglesModel_48)
theorem zi_126_42 : z_ins 126 42 = some (.iconst 1, 1) := by decide +kernel
theorem ze_126_42 : z_T g d 126 42 ls st h P = z_T g d 126 43 ls (.int (nI 1) :: st) h P := zt_iconst zi_126_42 rfl
theorem zi_126_43 : z_ins 126 43 = some (.iconst 0, 1) := by decide +kernel
theorem ze_126_43 : z_T g d 126 43 ls st h P = z_T g d 126 44 ls (.int (nI 0) :: st) h P := zt_iconst zi_126_43 rfl
theorem zi_126_44 : z_ins 126 44 = some (.bastore, 1) := by decide +kernel
theorem ze_126_44 : z_T g d 126 44 ls (.int y :: .int x :: .ref a :: st) h P = z_aS h.1 a z_tB x y (fun f => z_T g d 126 45 ls st (f, h.2) P) := zt_bastore zi_126_44
theorem zi_126_45 : z_ins 126 45 = some (.return_, 1) := by decide +kernel
theorem ze_126_45 : z_T g d 126 45 ls [] h P = P (.inr none, h) := zt_return zi_126_45 zr_126
-- LatinRectanglesModel.cell(II)I
theorem zo_127 : z_own 127 = "LatinRectanglesModel" := by decide +kernel
theorem zm_127 : z_maxL 127 = 2 := by decide +kernel
theorem zh_127 : z_hds 127 = [] := by decide +kernel
theorem zr_127 : z_rt 127 = (some .int) := by decide +kernel
theorem zn_127 : z_Ca g d 127 [.int x0, .int x1] h P = z_T g d 127 0 [.int x0, .int x1] [] h P := z_Ca_ent zm_127 rfl rfl
theorem zi_127_0 : z_ins 127 0 = some (.iconst 5, 1) := by decide +kernel
theorem ze_127_0 : z_T g d 127 0 ls st h P = z_T g d 127 1 ls (.int (nI 5) :: st) h P := zt_iconst zi_127_0 rfl
theorem zi_127_1 : z_ins 127 1 = some (.iload_n 0, 1) := by decide +kernel
theorem ze_127_1 : z_T g d 127 1 (.int x :: ls) st h P = z_T g d 127 2 (.int x :: ls) (.int x :: st) h P := zt_iloadn zi_127_1 rfl rfl
theorem zi_127_2 : z_ins 127 2 = some (.imul, 1) := by decide +kernel
theorem ze_127_2 : z_T g d 127 2 ls (.int y :: .int x :: st) h P = z_T g d 127 3 ls (.int (x * y) :: st) h P := zt_bin (f := fun x y => x * y) zi_127_2 rfl (fun _ _ _ => rfl)
theorem zi_127_3 : z_ins 127 3 = some (.iload_n 1, 1) := by decide +kernel
theorem ze_127_3 : z_T g d 127 3 (v0 :: .int x :: ls) st h P = z_T g d 127 4 (v0 :: .int x :: ls) (.int x :: st) h P := zt_iloadn zi_127_3 rfl rfl
theorem zi_127_4 : z_ins 127 4 = some (.iadd, 1) := by decide +kernel
theorem ze_127_4 : z_T g d 127 4 ls (.int y :: .int x :: st) h P = z_T g d 127 5 ls (.int (x + y) :: st) h P := zt_bin (f := fun x y => x + y) zi_127_4 rfl (fun _ _ _ => rfl)
theorem zi_127_5 : z_ins 127 5 = some (.ireturn, 1) := by decide +kernel
theorem ze_127_5 : z_T g d 127 5 ls [.int x] h P = P (.inr (some (.int x)), h) := zt_ireturn zi_127_5 zr_127
-- LatinRectanglesModel.append(IIIII)I
theorem zo_128 : z_own 128 = "LatinRectanglesModel" := by decide +kernel
theorem zm_128 : z_maxL 128 = 6 := by decide +kernel
theorem zh_128 : z_hds 128 = [] := by decide +kernel
theorem zr_128 : z_rt 128 = (some .int) := by decide +kernel
theorem zn_128 : z_Ca g d 128 [.ref a0, .int x1, .int x2, .int x3, .int x4, .int x5] h P = z_T g d 128 0 [.ref a0, .int x1, .int x2, .int x3, .int x4, .int x5] [] h P := z_Ca_ent zm_128 rfl rfl
theorem zi_128_0 : z_ins 128 0 = some (.aload_n 0, 1) := by decide +kernel
theorem ze_128_0 : z_T g d 128 0 (.ref a :: ls) st h P = z_T g d 128 1 (.ref a :: ls) (.ref a :: st) h P := zt_aloadn zi_128_0 rfl rfl
theorem zi_128_1 : z_ins 128 1 = some (.iconst 0, 1) := by decide +kernel
theorem ze_128_1 : z_T g d 128 1 ls st h P = z_T g d 128 2 ls (.int (nI 0) :: st) h P := zt_iconst zi_128_1 rfl
theorem zi_128_2 : z_ins 128 2 = some (.putfield 67, 3) := by decide +kernel
theorem ze_128_2 : z_T g d 128 2 ls (.int x :: .ref a :: st) h P = z_pF h.1 a 10 0 (.int x) (fun f => z_T g d 128 5 ls st (f, h.2) P) := zt_putI zi_128_2 ((congrArg (fun o => z_fl o 67) zo_128).trans zf_LatinRectanglesModel_67)
theorem zi_128_5 : z_ins 128 5 = some (.aload_n 0, 1) := by decide +kernel
theorem ze_128_5 : z_T g d 128 5 (.ref a :: ls) st h P = z_T g d 128 6 (.ref a :: ls) (.ref a :: st) h P := zt_aloadn zi_128_5 rfl rfl
theorem zi_128_6 : z_ins 128 6 = some (.getfield 85, 3) := by decide +kernel
theorem ze_128_6 : z_T g d 128 6 ls (.ref a :: st) h P = z_gI h.1 a 10 13 (fun x => z_T g d 128 9 ls (.int x :: st) h P) := zt_getI zi_128_6 ((congrArg (fun o => z_fl o 85) zo_128).trans zf_LatinRectanglesModel_85)
theorem zi_128_9 : z_ins 128 9 = some (.bipush 20, 2) := by decide +kernel
theorem ze_128_9 : z_T g d 128 9 ls st h P = z_T g d 128 11 ls (.int (nI 20) :: st) h P := zt_bipush zi_128_9 rfl
theorem zi_128_11 : z_ins 128 11 = some (.iadd, 1) := by decide +kernel
theorem ze_128_11 : z_T g d 128 11 ls (.int y :: .int x :: st) h P = z_T g d 128 12 ls (.int (x + y) :: st) h P := zt_bin (f := fun x y => x + y) zi_128_11 rfl (fun _ _ _ => rfl)
theorem zi_128_12 : z_ins 128 12 = some (.sipush 500, 3) := by decide +kernel
theorem ze_128_12 : z_T g d 128 12 ls st h P = z_T g d 128 15 ls (.int (nI 500) :: st) h P := zt_sipush zi_128_12 rfl
theorem zi_128_15 : z_ins 128 15 = some (.if_icmp .le 5, 3) := by decide +kernel
theorem ze_128_15 : z_T g d 128 15 ls (.int y :: .int x :: st) h P = (if y < x then z_T g d 128 18 ls st h P else z_T g d 128 20 ls st h P) := zt_icmple zi_128_15 (by decide)
theorem zi_128_18 : z_ins 128 18 = some (.iconst (-1), 1) := by decide +kernel
theorem ze_128_18 : z_T g d 128 18 ls st h P = z_T g d 128 19 ls (.int (-1) :: st) h P := zt_iconst zi_128_18 rfl
theorem zi_128_19 : z_ins 128 19 = some (.ireturn, 1) := by decide +kernel
theorem ze_128_19 : z_T g d 128 19 ls [.int x] h P = P (.inr (some (.int x)), h) := zt_ireturn zi_128_19 zr_128
theorem zi_128_20 : z_ins 128 20 = some (.aload_n 0, 1) := by decide +kernel
theorem ze_128_20 : z_T g d 128 20 (.ref a :: ls) st h P = z_T g d 128 21 (.ref a :: ls) (.ref a :: st) h P := zt_aloadn zi_128_20 rfl rfl
theorem zi_128_21 : z_ins 128 21 = some (.iload_n 1, 1) := by decide +kernel
theorem ze_128_21 : z_T g d 128 21 (v0 :: .int x :: ls) st h P = z_T g d 128 22 (v0 :: .int x :: ls) (.int x :: st) h P := zt_iloadn zi_128_21 rfl rfl
theorem zi_128_22 : z_ins 128 22 = some (.invokevirtual 88, 3) := by decide +kernel
theorem ze_128_22 : z_T g d 128 22 ls (.int x0 :: .ref a :: st) h P = ((z_okS 8 st = true ∧ z_gO h.1 a 10 ∧ 0 < d) ∧ z_Ca g (d - 1) 129 [.ref a, .int x0] h (fun r => z_k r (fun v h' => z_T g d 128 25 ls (z_push v st) h' P) P)) := zt_callV (as := [.int x0]) zi_128_22 ((congrArg (fun o => z_lookup z_prs (o, 88)) zo_128).trans zp_LatinRectanglesModel_88) ((congrArg (fun o => z_clk o 88) zo_128).trans zk_LatinRectanglesModel_88) zh_128 zc_129 rfl rfl rfl
theorem zi_128_25 : z_ins 128 25 = some (.aload_n 0, 1) := by decide +kernel
theorem ze_128_25 : z_T g d 128 25 (.ref a :: ls) st h P = z_T g d 128 26 (.ref a :: ls) (.ref a :: st) h P := zt_aloadn zi_128_25 rfl rfl
theorem zi_128_26 : z_ins 128 26 = some (.iload_n 2, 1) := by decide +kernel
theorem ze_128_26 : z_T g d 128 26 (v0 :: v1 :: .int x :: ls) st h P = z_T g d 128 27 (v0 :: v1 :: .int x :: ls) (.int x :: st) h P := zt_iloadn zi_128_26 rfl rfl
theorem zi_128_27 : z_ins 128 27 = some (.invokevirtual 88, 3) := by decide +kernel
theorem ze_128_27 : z_T g d 128 27 ls (.int x0 :: .ref a :: st) h P = ((z_okS 8 st = true ∧ z_gO h.1 a 10 ∧ 0 < d) ∧ z_Ca g (d - 1) 129 [.ref a, .int x0] h (fun r => z_k r (fun v h' => z_T g d 128 30 ls (z_push v st) h' P) P)) := zt_callV (as := [.int x0]) zi_128_27 ((congrArg (fun o => z_lookup z_prs (o, 88)) zo_128).trans zp_LatinRectanglesModel_88) ((congrArg (fun o => z_clk o 88) zo_128).trans zk_LatinRectanglesModel_88) zh_128 zc_129 rfl rfl rfl
theorem zi_128_30 : z_ins 128 30 = some (.aload_n 0, 1) := by decide +kernel
theorem ze_128_30 : z_T g d 128 30 (.ref a :: ls) st h P = z_T g d 128 31 (.ref a :: ls) (.ref a :: st) h P := zt_aloadn zi_128_30 rfl rfl
theorem zi_128_31 : z_ins 128 31 = some (.iload_n 3, 1) := by decide +kernel
theorem ze_128_31 : z_T g d 128 31 (v0 :: v1 :: v2 :: .int x :: ls) st h P = z_T g d 128 32 (v0 :: v1 :: v2 :: .int x :: ls) (.int x :: st) h P := zt_iloadn zi_128_31 rfl rfl
theorem zi_128_32 : z_ins 128 32 = some (.invokevirtual 88, 3) := by decide +kernel
theorem ze_128_32 : z_T g d 128 32 ls (.int x0 :: .ref a :: st) h P = ((z_okS 8 st = true ∧ z_gO h.1 a 10 ∧ 0 < d) ∧ z_Ca g (d - 1) 129 [.ref a, .int x0] h (fun r => z_k r (fun v h' => z_T g d 128 35 ls (z_push v st) h' P) P)) := zt_callV (as := [.int x0]) zi_128_32 ((congrArg (fun o => z_lookup z_prs (o, 88)) zo_128).trans zp_LatinRectanglesModel_88) ((congrArg (fun o => z_clk o 88) zo_128).trans zk_LatinRectanglesModel_88) zh_128 zc_129 rfl rfl rfl
theorem zi_128_35 : z_ins 128 35 = some (.aload_n 0, 1) := by decide +kernel
theorem ze_128_35 : z_T g d 128 35 (.ref a :: ls) st h P = z_T g d 128 36 (.ref a :: ls) (.ref a :: st) h P := zt_aloadn zi_128_35 rfl rfl
theorem zi_128_36 : z_ins 128 36 = some (.iload 4, 2) := by decide +kernel
theorem ze_128_36 : z_T g d 128 36 (v0 :: v1 :: v2 :: v3 :: .int x :: ls) st h P = z_T g d 128 38 (v0 :: v1 :: v2 :: v3 :: .int x :: ls) (.int x :: st) h P := zt_iload zi_128_36 rfl
theorem zi_128_38 : z_ins 128 38 = some (.invokevirtual 88, 3) := by decide +kernel
theorem ze_128_38 : z_T g d 128 38 ls (.int x0 :: .ref a :: st) h P = ((z_okS 8 st = true ∧ z_gO h.1 a 10 ∧ 0 < d) ∧ z_Ca g (d - 1) 129 [.ref a, .int x0] h (fun r => z_k r (fun v h' => z_T g d 128 41 ls (z_push v st) h' P) P)) := zt_callV (as := [.int x0]) zi_128_38 ((congrArg (fun o => z_lookup z_prs (o, 88)) zo_128).trans zp_LatinRectanglesModel_88) ((congrArg (fun o => z_clk o 88) zo_128).trans zk_LatinRectanglesModel_88) zh_128 zc_129 rfl rfl rfl
theorem zi_128_41 : z_ins 128 41 = some (.aload_n 0, 1) := by decide +kernel
theorem ze_128_41 : z_T g d 128 41 (.ref a :: ls) st h P = z_T g d 128 42 (.ref a :: ls) (.ref a :: st) h P := zt_aloadn zi_128_41 rfl rfl
theorem zi_128_42 : z_ins 128 42 = some (.iload 5, 2) := by decide +kernel
theorem ze_128_42 : z_T g d 128 42 (v0 :: v1 :: v2 :: v3 :: v4 :: .int x :: ls) st h P = z_T g d 128 44 (v0 :: v1 :: v2 :: v3 :: v4 :: .int x :: ls) (.int x :: st) h P := zt_iload zi_128_42 rfl
theorem zi_128_44 : z_ins 128 44 = some (.invokevirtual 88, 3) := by decide +kernel
theorem ze_128_44 : z_T g d 128 44 ls (.int x0 :: .ref a :: st) h P = ((z_okS 8 st = true ∧ z_gO h.1 a 10 ∧ 0 < d) ∧ z_Ca g (d - 1) 129 [.ref a, .int x0] h (fun r => z_k r (fun v h' => z_T g d 128 47 ls (z_push v st) h' P) P)) := zt_callV (as := [.int x0]) zi_128_44 ((congrArg (fun o => z_lookup z_prs (o, 88)) zo_128).trans zp_LatinRectanglesModel_88) ((congrArg (fun o => z_clk o 88) zo_128).trans zk_LatinRectanglesModel_88) zh_128 zc_129 rfl rfl rfl
theorem zi_128_47 : z_ins 128 47 = some (.aload_n 0, 1) := by decide +kernel
theorem ze_128_47 : z_T g d 128 47 (.ref a :: ls) st h P = z_T g d 128 48 (.ref a :: ls) (.ref a :: st) h P := zt_aloadn zi_128_47 rfl rfl
theorem zi_128_48 : z_ins 128 48 = some (.getfield 85, 3) := by decide +kernel
theorem ze_128_48 : z_T g d 128 48 ls (.ref a :: st) h P = z_gI h.1 a 10 13 (fun x => z_T g d 128 51 ls (.int x :: st) h P) := zt_getI zi_128_48 ((congrArg (fun o => z_fl o 85) zo_128).trans zf_LatinRectanglesModel_85)
theorem zi_128_51 : z_ins 128 51 = some (.ireturn, 1) := by decide +kernel
theorem ze_128_51 : z_T g d 128 51 ls [.int x] h P = P (.inr (some (.int x)), h) := zt_ireturn zi_128_51 zr_128
-- LatinRectanglesModel.bytesOf(I)V
theorem zo_129 : z_own 129 = "LatinRectanglesModel" := by decide +kernel
theorem zm_129 : z_maxL 129 = 3 := by decide +kernel
theorem zh_129 : z_hds 129 = [] := by decide +kernel
theorem zr_129 : z_rt 129 = none := by decide +kernel
theorem zn_129 : z_Ca g d 129 [.ref a0, .int x1] h P = z_T g d 129 0 [.ref a0, .int x1, z_un] [] h P := z_Ca_ent zm_129 rfl rfl
theorem zi_129_0 : z_ins 129 0 = some (.bipush 24, 2) := by decide +kernel
theorem ze_129_0 : z_T g d 129 0 ls st h P = z_T g d 129 2 ls (.int (nI 24) :: st) h P := zt_bipush zi_129_0 rfl
theorem zi_129_2 : z_ins 129 2 = some (.istore_n 2, 1) := by decide +kernel
theorem ze_129_2 : z_T g d 129 2 (v0 :: v1 :: v2 :: ls) (.int x :: st) h P = z_T g d 129 3 (v0 :: v1 :: .int x :: ls) st h P := zt_istoren zi_129_2 rfl (Nat.le_add_left 3 _)
theorem zi_129_3 : z_ins 129 3 = some (.iload_n 2, 1) := by decide +kernel
theorem ze_129_3 : z_T g d 129 3 (v0 :: v1 :: .int x :: ls) st h P = z_T g d 129 4 (v0 :: v1 :: .int x :: ls) (.int x :: st) h P := zt_iloadn zi_129_3 rfl rfl
theorem zi_129_4 : z_ins 129 4 = some (.ifCond .lt 32, 3) := by decide +kernel
theorem ze_129_4 : z_T g d 129 4 ls (.int x :: st) h P = (if x < nI 0 then z_T g d 129 36 ls st h P else z_T g d 129 7 ls st h P) := zt_iflt zi_129_4 (by decide)
theorem zi_129_7 : z_ins 129 7 = some (.aload_n 0, 1) := by decide +kernel
theorem ze_129_7 : z_T g d 129 7 (.ref a :: ls) st h P = z_T g d 129 8 (.ref a :: ls) (.ref a :: st) h P := zt_aloadn zi_129_7 rfl rfl
theorem zi_129_8 : z_ins 129 8 = some (.getfield 25, 3) := by decide +kernel
theorem ze_129_8 : z_T g d 129 8 ls (.ref a :: st) h P = z_gR h.1 a 10 12 (fun x => z_T g d 129 11 ls (.ref x :: st) h P) := zt_getR zi_129_8 ((congrArg (fun o => z_fl o 25) zo_129).trans zf_LatinRectanglesModel_25)
theorem zi_129_11 : z_ins 129 11 = some (.aload_n 0, 1) := by decide +kernel
theorem ze_129_11 : z_T g d 129 11 (.ref a :: ls) st h P = z_T g d 129 12 (.ref a :: ls) (.ref a :: st) h P := zt_aloadn zi_129_11 rfl rfl
theorem zi_129_12 : z_ins 129 12 = some (.getfield 85, 3) := by decide +kernel
theorem ze_129_12 : z_T g d 129 12 ls (.ref a :: st) h P = z_gI h.1 a 10 13 (fun x => z_T g d 129 15 ls (.int x :: st) h P) := zt_getI zi_129_12 ((congrArg (fun o => z_fl o 85) zo_129).trans zf_LatinRectanglesModel_85)
theorem zi_129_15 : z_ins 129 15 = some (.iload_n 1, 1) := by decide +kernel
theorem ze_129_15 : z_T g d 129 15 (v0 :: .int x :: ls) st h P = z_T g d 129 16 (v0 :: .int x :: ls) (.int x :: st) h P := zt_iloadn zi_129_15 rfl rfl
theorem zi_129_16 : z_ins 129 16 = some (.iload_n 2, 1) := by decide +kernel
theorem ze_129_16 : z_T g d 129 16 (v0 :: v1 :: .int x :: ls) st h P = z_T g d 129 17 (v0 :: v1 :: .int x :: ls) (.int x :: st) h P := zt_iloadn zi_129_16 rfl rfl
theorem zi_129_17 : z_ins 129 17 = some (.ishr, 1) := by decide +kernel
theorem ze_129_17 : z_T g d 129 17 ls (.int y :: .int x :: st) h P = z_T g d 129 18 ls (.int (x >>> (y &&& 31)) :: st) h P := zt_bin (f := fun x y => x >>> (y &&& 31)) zi_129_17 rfl (fun _ _ _ => rfl)
theorem zi_129_18 : z_ins 129 18 = some (.i2b, 1) := by decide +kernel
theorem ze_129_18 : z_T g d 129 18 ls (.int x :: st) h P = z_T g d 129 19 ls (.int x.toInt8.toInt32 :: st) h P := zt_i2b zi_129_18
theorem zi_129_19 : z_ins 129 19 = some (.bastore, 1) := by decide +kernel
theorem ze_129_19 : z_T g d 129 19 ls (.int y :: .int x :: .ref a :: st) h P = z_aS h.1 a z_tB x y (fun f => z_T g d 129 20 ls st (f, h.2) P) := zt_bastore zi_129_19
theorem zi_129_20 : z_ins 129 20 = some (.aload_n 0, 1) := by decide +kernel
theorem ze_129_20 : z_T g d 129 20 (.ref a :: ls) st h P = z_T g d 129 21 (.ref a :: ls) (.ref a :: st) h P := zt_aloadn zi_129_20 rfl rfl
theorem zi_129_21 : z_ins 129 21 = some (.dup, 1) := by decide +kernel
theorem ze_129_21 : z_T g d 129 21 ls (.ref a :: st) h P = z_T g d 129 22 ls (.ref a :: .ref a :: st) h P := zt_dupR zi_129_21
theorem ze_129_21_i : z_T g d 129 21 ls (.int x :: st) h P = z_T g d 129 22 ls (.int x :: .int x :: st) h P := zt_dupI zi_129_21
theorem zi_129_22 : z_ins 129 22 = some (.getfield 85, 3) := by decide +kernel
theorem ze_129_22 : z_T g d 129 22 ls (.ref a :: st) h P = z_gI h.1 a 10 13 (fun x => z_T g d 129 25 ls (.int x :: st) h P) := zt_getI zi_129_22 ((congrArg (fun o => z_fl o 85) zo_129).trans zf_LatinRectanglesModel_85)
theorem zi_129_25 : z_ins 129 25 = some (.iconst 1, 1) := by decide +kernel
theorem ze_129_25 : z_T g d 129 25 ls st h P = z_T g d 129 26 ls (.int (nI 1) :: st) h P := zt_iconst zi_129_25 rfl
theorem zi_129_26 : z_ins 129 26 = some (.iadd, 1) := by decide +kernel
theorem ze_129_26 : z_T g d 129 26 ls (.int y :: .int x :: st) h P = z_T g d 129 27 ls (.int (x + y) :: st) h P := zt_bin (f := fun x y => x + y) zi_129_26 rfl (fun _ _ _ => rfl)
theorem zi_129_27 : z_ins 129 27 = some (.putfield 85, 3) := by decide +kernel
theorem ze_129_27 : z_T g d 129 27 ls (.int x :: .ref a :: st) h P = z_pF h.1 a 10 13 (.int x) (fun f => z_T g d 129 30 ls st (f, h.2) P) := zt_putI zi_129_27 ((congrArg (fun o => z_fl o 85) zo_129).trans zf_LatinRectanglesModel_85)
theorem zi_129_30 : z_ins 129 30 = some (.iinc 2 (-8), 3) := by decide +kernel
theorem ze_129_30 : z_T g d 129 30 (v0 :: v1 :: .int x :: ls) st h P = z_T g d 129 33 (v0 :: v1 :: .int (x + (-8)) :: ls) st h P := zt_iinc zi_129_30 rfl rfl
theorem zi_129_33 : z_ins 129 33 = some (.goto (-30), 3) := by decide +kernel
theorem ze_129_33 : z_T g d 129 33 ls st h P = z_T g d 129 3 ls st h P := zt_goto zi_129_33 (by decide)
theorem zi_129_36 : z_ins 129 36 = some (.return_, 1) := by decide +kernel
theorem ze_129_36 : z_T g d 129 36 ls [] h P = P (.inr none, h) := zt_return zi_129_36 zr_129
-- LatinRectanglesModel.byteAt(I)I
theorem zo_130 : z_own 130 = "LatinRectanglesModel" := by decide +kernel
theorem zm_130 : z_maxL 130 = 2 := by decide +kernel
theorem zh_130 : z_hds 130 = [] := by decide +kernel
theorem zr_130 : z_rt 130 = (some .int) := by decide +kernel
theorem zn_130 : z_Ca g d 130 [.ref a0, .int x1] h P = z_T g d 130 0 [.ref a0, .int x1] [] h P := z_Ca_ent zm_130 rfl rfl
theorem zi_130_0 : z_ins 130 0 = some (.iload_n 1, 1) := by decide +kernel
theorem ze_130_0 : z_T g d 130 0 (v0 :: .int x :: ls) st h P = z_T g d 130 1 (v0 :: .int x :: ls) (.int x :: st) h P := zt_iloadn zi_130_0 rfl rfl
theorem zi_130_1 : z_ins 130 1 = some (.aload_n 0, 1) := by decide +kernel
theorem ze_130_1 : z_T g d 130 1 (.ref a :: ls) st h P = z_T g d 130 2 (.ref a :: ls) (.ref a :: st) h P := zt_aloadn zi_130_1 rfl rfl
theorem zi_130_2 : z_ins 130 2 = some (.getfield 92, 3) := by decide +kernel
theorem ze_130_2 : z_T g d 130 2 ls (.ref a :: st) h P = z_gI h.1 a 10 14 (fun x => z_T g d 130 5 ls (.int x :: st) h P) := zt_getI zi_130_2 ((congrArg (fun o => z_fl o 92) zo_130).trans zf_LatinRectanglesModel_92)
theorem zi_130_5 : z_ins 130 5 = some (.if_icmp .ge 16, 3) := by decide +kernel
theorem ze_130_5 : z_T g d 130 5 ls (.int y :: .int x :: st) h P = (if x < y then z_T g d 130 8 ls st h P else z_T g d 130 21 ls st h P) := zt_icmpge zi_130_5 (by decide)
theorem zi_130_8 : z_ins 130 8 = some (.aload_n 0, 1) := by decide +kernel
theorem ze_130_8 : z_T g d 130 8 (.ref a :: ls) st h P = z_T g d 130 9 (.ref a :: ls) (.ref a :: st) h P := zt_aloadn zi_130_8 rfl rfl
theorem zi_130_9 : z_ins 130 9 = some (.getfield 25, 3) := by decide +kernel
theorem ze_130_9 : z_T g d 130 9 ls (.ref a :: st) h P = z_gR h.1 a 10 12 (fun x => z_T g d 130 12 ls (.ref x :: st) h P) := zt_getR zi_130_9 ((congrArg (fun o => z_fl o 25) zo_130).trans zf_LatinRectanglesModel_25)
theorem zi_130_12 : z_ins 130 12 = some (.iload_n 1, 1) := by decide +kernel
theorem ze_130_12 : z_T g d 130 12 (v0 :: .int x :: ls) st h P = z_T g d 130 13 (v0 :: .int x :: ls) (.int x :: st) h P := zt_iloadn zi_130_12 rfl rfl
theorem zi_130_13 : z_ins 130 13 = some (.baload, 1) := by decide +kernel
theorem ze_130_13 : z_T g d 130 13 ls (.int x :: .ref a :: st) h P = z_aL h.1 a z_tB x (fun v => z_T g d 130 14 ls (.int v :: st) h P) := zt_baload zi_130_13
theorem zi_130_14 : z_ins 130 14 = some (.sipush 255, 3) := by decide +kernel
theorem ze_130_14 : z_T g d 130 14 ls st h P = z_T g d 130 17 ls (.int (nI 255) :: st) h P := zt_sipush zi_130_14 rfl
theorem zi_130_17 : z_ins 130 17 = some (.iand, 1) := by decide +kernel
theorem ze_130_17 : z_T g d 130 17 ls (.int y :: .int x :: st) h P = z_T g d 130 18 ls (.int (x &&& y) :: st) h P := zt_bin (f := fun x y => x &&& y) zi_130_17 rfl (fun _ _ _ => rfl)
theorem zi_130_18 : z_ins 130 18 = some (.goto 4, 3) := by decide +kernel
theorem ze_130_18 : z_T g d 130 18 ls st h P = z_T g d 130 22 ls st h P := zt_goto zi_130_18 (by decide)
theorem zi_130_21 : z_ins 130 21 = some (.iconst (-1), 1) := by decide +kernel
theorem ze_130_21 : z_T g d 130 21 ls st h P = z_T g d 130 22 ls (.int (-1) :: st) h P := zt_iconst zi_130_21 rfl
theorem zi_130_22 : z_ins 130 22 = some (.ireturn, 1) := by decide +kernel
theorem ze_130_22 : z_T g d 130 22 ls [.int x] h P = P (.inr (some (.int x)), h) := zt_ireturn zi_130_22 zr_130
-- LatinRectanglesModel.advance()V
theorem zo_131 : z_own 131 = "LatinRectanglesModel" := by decide +kernel
theorem zm_131 : z_maxL 131 = 2 := by decide +kernel
theorem zh_131 : z_hds 131 = [] := by decide +kernel
theorem zr_131 : z_rt 131 = none := by decide +kernel
theorem zn_131 : z_Ca g d 131 [.ref a0] h P = z_T g d 131 0 [.ref a0, z_un] [] h P := z_Ca_ent zm_131 rfl rfl
theorem zi_131_0 : z_ins 131 0 = some (.aload_n 0, 1) := by decide +kernel
theorem ze_131_0 : z_T g d 131 0 (.ref a :: ls) st h P = z_T g d 131 1 (.ref a :: ls) (.ref a :: st) h P := zt_aloadn zi_131_0 rfl rfl
theorem zi_131_1 : z_ins 131 1 = some (.aload_n 0, 1) := by decide +kernel
theorem ze_131_1 : z_T g d 131 1 (.ref a :: ls) st h P = z_T g d 131 2 (.ref a :: ls) (.ref a :: st) h P := zt_aloadn zi_131_1 rfl rfl
theorem zi_131_2 : z_ins 131 2 = some (.getfield 95, 3) := by decide +kernel
theorem ze_131_2 : z_T g d 131 2 ls (.ref a :: st) h P = z_gI h.1 a 10 16 (fun x => z_T g d 131 5 ls (.int x :: st) h P) := zt_getI zi_131_2 ((congrArg (fun o => z_fl o 95) zo_131).trans zf_LatinRectanglesModel_95)
theorem zi_131_5 : z_ins 131 5 = some (.invokevirtual 98, 3) := by decide +kernel
theorem ze_131_5 : z_T g d 131 5 ls (.int x0 :: .ref a :: st) h P = ((z_okS 8 st = true ∧ z_gO h.1 a 10 ∧ 0 < d) ∧ z_Ca g (d - 1) 130 [.ref a, .int x0] h (fun r => z_k r (fun v h' => z_T g d 131 8 ls (z_push v st) h' P) P)) := zt_callV (as := [.int x0]) zi_131_5 ((congrArg (fun o => z_lookup z_prs (o, 98)) zo_131).trans zp_LatinRectanglesModel_98) ((congrArg (fun o => z_clk o 98) zo_131).trans zk_LatinRectanglesModel_98) zh_131 zc_130 rfl rfl rfl
theorem zi_131_8 : z_ins 131 8 = some (.bipush 32, 2) := by decide +kernel
theorem ze_131_8 : z_T g d 131 8 ls st h P = z_T g d 131 10 ls (.int (nI 32) :: st) h P := zt_bipush zi_131_8 rfl
theorem zi_131_10 : z_ins 131 10 = some (.if_icmp .eq 16, 3) := by decide +kernel
theorem ze_131_10 : z_T g d 131 10 ls (.int y :: .int x :: st) h P = (if x = y then z_T g d 131 26 ls st h P else z_T g d 131 13 ls st h P) := zt_icmpeq zi_131_10 (by decide)
theorem zi_131_13 : z_ins 131 13 = some (.aload_n 0, 1) := by decide +kernel
theorem ze_131_13 : z_T g d 131 13 (.ref a :: ls) st h P = z_T g d 131 14 (.ref a :: ls) (.ref a :: st) h P := zt_aloadn zi_131_13 rfl rfl
theorem zi_131_14 : z_ins 131 14 = some (.aload_n 0, 1) := by decide +kernel
theorem ze_131_14 : z_T g d 131 14 (.ref a :: ls) st h P = z_T g d 131 15 (.ref a :: ls) (.ref a :: st) h P := zt_aloadn zi_131_14 rfl rfl
theorem zi_131_15 : z_ins 131 15 = some (.getfield 95, 3) := by decide +kernel
theorem ze_131_15 : z_T g d 131 15 ls (.ref a :: st) h P = z_gI h.1 a 10 16 (fun x => z_T g d 131 18 ls (.int x :: st) h P) := zt_getI zi_131_15 ((congrArg (fun o => z_fl o 95) zo_131).trans zf_LatinRectanglesModel_95)
theorem zi_131_18 : z_ins 131 18 = some (.invokevirtual 98, 3) := by decide +kernel
theorem ze_131_18 : z_T g d 131 18 ls (.int x0 :: .ref a :: st) h P = ((z_okS 8 st = true ∧ z_gO h.1 a 10 ∧ 0 < d) ∧ z_Ca g (d - 1) 130 [.ref a, .int x0] h (fun r => z_k r (fun v h' => z_T g d 131 21 ls (z_push v st) h' P) P)) := zt_callV (as := [.int x0]) zi_131_18 ((congrArg (fun o => z_lookup z_prs (o, 98)) zo_131).trans zp_LatinRectanglesModel_98) ((congrArg (fun o => z_clk o 98) zo_131).trans zk_LatinRectanglesModel_98) zh_131 zc_130 rfl rfl rfl
theorem zi_131_21 : z_ins 131 21 = some (.bipush 10, 2) := by decide +kernel
theorem ze_131_21 : z_T g d 131 21 ls st h P = z_T g d 131 23 ls (.int (nI 10) :: st) h P := zt_bipush zi_131_21 rfl
theorem zi_131_23 : z_ins 131 23 = some (.if_icmp .ne 16, 3) := by decide +kernel
theorem ze_131_23 : z_T g d 131 23 ls (.int y :: .int x :: st) h P = (if x = y then z_T g d 131 26 ls st h P else z_T g d 131 39 ls st h P) := zt_icmpne zi_131_23 (by decide)
theorem zi_131_26 : z_ins 131 26 = some (.aload_n 0, 1) := by decide +kernel
theorem ze_131_26 : z_T g d 131 26 (.ref a :: ls) st h P = z_T g d 131 27 (.ref a :: ls) (.ref a :: st) h P := zt_aloadn zi_131_26 rfl rfl
theorem zi_131_27 : z_ins 131 27 = some (.dup, 1) := by decide +kernel
theorem ze_131_27 : z_T g d 131 27 ls (.ref a :: st) h P = z_T g d 131 28 ls (.ref a :: .ref a :: st) h P := zt_dupR zi_131_27
theorem ze_131_27_i : z_T g d 131 27 ls (.int x :: st) h P = z_T g d 131 28 ls (.int x :: .int x :: st) h P := zt_dupI zi_131_27
theorem zi_131_28 : z_ins 131 28 = some (.getfield 95, 3) := by decide +kernel
theorem ze_131_28 : z_T g d 131 28 ls (.ref a :: st) h P = z_gI h.1 a 10 16 (fun x => z_T g d 131 31 ls (.int x :: st) h P) := zt_getI zi_131_28 ((congrArg (fun o => z_fl o 95) zo_131).trans zf_LatinRectanglesModel_95)
theorem zi_131_31 : z_ins 131 31 = some (.iconst 1, 1) := by decide +kernel
theorem ze_131_31 : z_T g d 131 31 ls st h P = z_T g d 131 32 ls (.int (nI 1) :: st) h P := zt_iconst zi_131_31 rfl
theorem zi_131_32 : z_ins 131 32 = some (.iadd, 1) := by decide +kernel
theorem ze_131_32 : z_T g d 131 32 ls (.int y :: .int x :: st) h P = z_T g d 131 33 ls (.int (x + y) :: st) h P := zt_bin (f := fun x y => x + y) zi_131_32 rfl (fun _ _ _ => rfl)
theorem zi_131_33 : z_ins 131 33 = some (.putfield 95, 3) := by decide +kernel
theorem ze_131_33 : z_T g d 131 33 ls (.int x :: .ref a :: st) h P = z_pF h.1 a 10 16 (.int x) (fun f => z_T g d 131 36 ls st (f, h.2) P) := zt_putI zi_131_33 ((congrArg (fun o => z_fl o 95) zo_131).trans zf_LatinRectanglesModel_95)
theorem zi_131_36 : z_ins 131 36 = some (.goto (-36), 3) := by decide +kernel
theorem ze_131_36 : z_T g d 131 36 ls st h P = z_T g d 131 0 ls st h P := zt_goto zi_131_36 (by decide)
theorem zi_131_39 : z_ins 131 39 = some (.aload_n 0, 1) := by decide +kernel
theorem ze_131_39 : z_T g d 131 39 (.ref a :: ls) st h P = z_T g d 131 40 (.ref a :: ls) (.ref a :: st) h P := zt_aloadn zi_131_39 rfl rfl
theorem zi_131_40 : z_ins 131 40 = some (.aload_n 0, 1) := by decide +kernel
theorem ze_131_40 : z_T g d 131 40 (.ref a :: ls) st h P = z_T g d 131 41 (.ref a :: ls) (.ref a :: st) h P := zt_aloadn zi_131_40 rfl rfl
theorem zi_131_41 : z_ins 131 41 = some (.getfield 95, 3) := by decide +kernel
theorem ze_131_41 : z_T g d 131 41 ls (.ref a :: st) h P = z_gI h.1 a 10 16 (fun x => z_T g d 131 44 ls (.int x :: st) h P) := zt_getI zi_131_41 ((congrArg (fun o => z_fl o 95) zo_131).trans zf_LatinRectanglesModel_95)
theorem zi_131_44 : z_ins 131 44 = some (.putfield 102, 3) := by decide +kernel
theorem ze_131_44 : z_T g d 131 44 ls (.int x :: .ref a :: st) h P = z_pF h.1 a 10 15 (.int x) (fun f => z_T g d 131 47 ls st (f, h.2) P) := zt_putI zi_131_44 ((congrArg (fun o => z_fl o 102) zo_131).trans zf_LatinRectanglesModel_102)
theorem zi_131_47 : z_ins 131 47 = some (.aload_n 0, 1) := by decide +kernel
theorem ze_131_47 : z_T g d 131 47 (.ref a :: ls) st h P = z_T g d 131 48 (.ref a :: ls) (.ref a :: st) h P := zt_aloadn zi_131_47 rfl rfl
theorem zi_131_48 : z_ins 131 48 = some (.iconst 0, 1) := by decide +kernel
theorem ze_131_48 : z_T g d 131 48 ls st h P = z_T g d 131 49 ls (.int (nI 0) :: st) h P := zt_iconst zi_131_48 rfl
theorem zi_131_49 : z_ins 131 49 = some (.putfield 105, 3) := by decide +kernel
theorem ze_131_49 : z_T g d 131 49 ls (.int x :: .ref a :: st) h P = z_pF h.1 a 10 18 (.int x) (fun f => z_T g d 131 52 ls st (f, h.2) P) := zt_putI zi_131_49 ((congrArg (fun o => z_fl o 105) zo_131).trans zf_LatinRectanglesModel_105)
theorem zi_131_52 : z_ins 131 52 = some (.aload_n 0, 1) := by decide +kernel
theorem ze_131_52 : z_T g d 131 52 (.ref a :: ls) st h P = z_T g d 131 53 (.ref a :: ls) (.ref a :: st) h P := zt_aloadn zi_131_52 rfl rfl
theorem zi_131_53 : z_ins 131 53 = some (.aload_n 0, 1) := by decide +kernel
theorem ze_131_53 : z_T g d 131 53 (.ref a :: ls) st h P = z_T g d 131 54 (.ref a :: ls) (.ref a :: st) h P := zt_aloadn zi_131_53 rfl rfl
theorem zi_131_54 : z_ins 131 54 = some (.getfield 95, 3) := by decide +kernel
theorem ze_131_54 : z_T g d 131 54 ls (.ref a :: st) h P = z_gI h.1 a 10 16 (fun x => z_T g d 131 57 ls (.int x :: st) h P) := zt_getI zi_131_54 ((congrArg (fun o => z_fl o 95) zo_131).trans zf_LatinRectanglesModel_95)
theorem zi_131_57 : z_ins 131 57 = some (.invokevirtual 98, 3) := by decide +kernel
theorem ze_131_57 : z_T g d 131 57 ls (.int x0 :: .ref a :: st) h P = ((z_okS 8 st = true ∧ z_gO h.1 a 10 ∧ 0 < d) ∧ z_Ca g (d - 1) 130 [.ref a, .int x0] h (fun r => z_k r (fun v h' => z_T g d 131 60 ls (z_push v st) h' P) P)) := zt_callV (as := [.int x0]) zi_131_57 ((congrArg (fun o => z_lookup z_prs (o, 98)) zo_131).trans zp_LatinRectanglesModel_98) ((congrArg (fun o => z_clk o 98) zo_131).trans zk_LatinRectanglesModel_98) zh_131 zc_130 rfl rfl rfl
theorem zi_131_60 : z_ins 131 60 = some (.istore_n 1, 1) := by decide +kernel
theorem ze_131_60 : z_T g d 131 60 (v0 :: v1 :: ls) (.int x :: st) h P = z_T g d 131 61 (v0 :: .int x :: ls) st h P := zt_istoren zi_131_60 rfl (Nat.le_add_left 2 _)
theorem zi_131_61 : z_ins 131 61 = some (.iload_n 1, 1) := by decide +kernel
theorem ze_131_61 : z_T g d 131 61 (v0 :: .int x :: ls) st h P = z_T g d 131 62 (v0 :: .int x :: ls) (.int x :: st) h P := zt_iloadn zi_131_61 rfl rfl
theorem zi_131_62 : z_ins 131 62 = some (.iconst (-1), 1) := by decide +kernel
theorem ze_131_62 : z_T g d 131 62 ls st h P = z_T g d 131 63 ls (.int (-1) :: st) h P := zt_iconst zi_131_62 rfl
theorem zi_131_63 : z_ins 131 63 = some (.if_icmp .ne 11, 3) := by decide +kernel
theorem ze_131_63 : z_T g d 131 63 ls (.int y :: .int x :: st) h P = (if x = y then z_T g d 131 66 ls st h P else z_T g d 131 74 ls st h P) := zt_icmpne zi_131_63 (by decide)
theorem zi_131_66 : z_ins 131 66 = some (.aload_n 0, 1) := by decide +kernel
theorem ze_131_66 : z_T g d 131 66 (.ref a :: ls) st h P = z_T g d 131 67 (.ref a :: ls) (.ref a :: st) h P := zt_aloadn zi_131_66 rfl rfl
theorem zi_131_67 : z_ins 131 67 = some (.iconst 0, 1) := by decide +kernel
theorem ze_131_67 : z_T g d 131 67 ls st h P = z_T g d 131 68 ls (.int (nI 0) :: st) h P := zt_iconst zi_131_67 rfl
theorem zi_131_68 : z_ins 131 68 = some (.putfield 108, 3) := by decide +kernel
theorem ze_131_68 : z_T g d 131 68 ls (.int x :: .ref a :: st) h P = z_pF h.1 a 10 17 (.int x) (fun f => z_T g d 131 71 ls st (f, h.2) P) := zt_putI zi_131_68 ((congrArg (fun o => z_fl o 108) zo_131).trans zf_LatinRectanglesModel_108)
theorem zi_131_71 : z_ins 131 71 = some (.goto 206, 3) := by decide +kernel
theorem ze_131_71 : z_T g d 131 71 ls st h P = z_T g d 131 277 ls st h P := zt_goto zi_131_71 (by decide)
theorem zi_131_74 : z_ins 131 74 = some (.iload_n 1, 1) := by decide +kernel
theorem ze_131_74 : z_T g d 131 74 (v0 :: .int x :: ls) st h P = z_T g d 131 75 (v0 :: .int x :: ls) (.int x :: st) h P := zt_iloadn zi_131_74 rfl rfl
theorem zi_131_75 : z_ins 131 75 = some (.bipush 97, 2) := by decide +kernel
theorem ze_131_75 : z_T g d 131 75 ls st h P = z_T g d 131 77 ls (.int (nI 97) :: st) h P := zt_bipush zi_131_75 rfl
theorem zi_131_77 : z_ins 131 77 = some (.bipush 122, 2) := by decide +kernel
theorem ze_131_77 : z_T g d 131 77 ls st h P = z_T g d 131 79 ls (.int (nI 122) :: st) h P := zt_bipush zi_131_77 rfl
theorem zi_131_79 : z_ins 131 79 = some (.invokestatic 111, 3) := by decide +kernel
theorem ze_131_79 : z_T g d 131 79 ls (.int x2 :: .int x1 :: .int x0 :: st) h P = ((z_okS 8 st = true ∧ 0 < d) ∧ z_Ca g (d - 1) 122 [.int x0, .int x1, .int x2] h (fun r => z_k r (fun v h' => z_T g d 131 82 ls (z_push v st) h' P) P)) := zt_callS0 (as := [.int x0, .int x1, .int x2]) zi_131_79 ((congrArg (fun o => z_lookup z_prs (o, 111)) zo_131).trans zp_LatinRectanglesModel_111) ((congrArg (fun o => z_clk o 111) zo_131).trans zk_LatinRectanglesModel_111) zh_131 rfl rfl rfl
theorem zi_131_82 : z_ins 131 82 = some (.ifCond .eq 60, 3) := by decide +kernel
theorem ze_131_82 : z_T g d 131 82 ls (.int x :: st) h P = (if x = nI 0 then z_T g d 131 142 ls st h P else z_T g d 131 85 ls st h P) := zt_ifeq zi_131_82 (by decide)
theorem zi_131_85 : z_ins 131 85 = some (.aload_n 0, 1) := by decide +kernel
theorem ze_131_85 : z_T g d 131 85 (.ref a :: ls) st h P = z_T g d 131 86 (.ref a :: ls) (.ref a :: st) h P := zt_aloadn zi_131_85 rfl rfl
theorem zi_131_86 : z_ins 131 86 = some (.aload_n 0, 1) := by decide +kernel
theorem ze_131_86 : z_T g d 131 86 (.ref a :: ls) st h P = z_T g d 131 87 (.ref a :: ls) (.ref a :: st) h P := zt_aloadn zi_131_86 rfl rfl
theorem zi_131_87 : z_ins 131 87 = some (.getfield 95, 3) := by decide +kernel
theorem ze_131_87 : z_T g d 131 87 ls (.ref a :: st) h P = z_gI h.1 a 10 16 (fun x => z_T g d 131 90 ls (.int x :: st) h P) := zt_getI zi_131_87 ((congrArg (fun o => z_fl o 95) zo_131).trans zf_LatinRectanglesModel_95)
theorem zi_131_90 : z_ins 131 90 = some (.invokevirtual 98, 3) := by decide +kernel
theorem ze_131_90 : z_T g d 131 90 ls (.int x0 :: .ref a :: st) h P = ((z_okS 8 st = true ∧ z_gO h.1 a 10 ∧ 0 < d) ∧ z_Ca g (d - 1) 130 [.ref a, .int x0] h (fun r => z_k r (fun v h' => z_T g d 131 93 ls (z_push v st) h' P) P)) := zt_callV (as := [.int x0]) zi_131_90 ((congrArg (fun o => z_lookup z_prs (o, 98)) zo_131).trans zp_LatinRectanglesModel_98) ((congrArg (fun o => z_clk o 98) zo_131).trans zk_LatinRectanglesModel_98) zh_131 zc_130 rfl rfl rfl
theorem zi_131_93 : z_ins 131 93 = some (.bipush 97, 2) := by decide +kernel
theorem ze_131_93 : z_T g d 131 93 ls st h P = z_T g d 131 95 ls (.int (nI 97) :: st) h P := zt_bipush zi_131_93 rfl
theorem zi_131_95 : z_ins 131 95 = some (.bipush 122, 2) := by decide +kernel
theorem ze_131_95 : z_T g d 131 95 ls st h P = z_T g d 131 97 ls (.int (nI 122) :: st) h P := zt_bipush zi_131_95 rfl
theorem zi_131_97 : z_ins 131 97 = some (.invokestatic 111, 3) := by decide +kernel
theorem ze_131_97 : z_T g d 131 97 ls (.int x2 :: .int x1 :: .int x0 :: st) h P = ((z_okS 8 st = true ∧ 0 < d) ∧ z_Ca g (d - 1) 122 [.int x0, .int x1, .int x2] h (fun r => z_k r (fun v h' => z_T g d 131 100 ls (z_push v st) h' P) P)) := zt_callS0 (as := [.int x0, .int x1, .int x2]) zi_131_97 ((congrArg (fun o => z_lookup z_prs (o, 111)) zo_131).trans zp_LatinRectanglesModel_111) ((congrArg (fun o => z_clk o 111) zo_131).trans zk_LatinRectanglesModel_111) zh_131 rfl rfl rfl
theorem zi_131_100 : z_ins 131 100 = some (.ifCond .eq 16, 3) := by decide +kernel
theorem ze_131_100 : z_T g d 131 100 ls (.int x :: st) h P = (if x = nI 0 then z_T g d 131 116 ls st h P else z_T g d 131 103 ls st h P) := zt_ifeq zi_131_100 (by decide)
theorem zi_131_103 : z_ins 131 103 = some (.aload_n 0, 1) := by decide +kernel
theorem ze_131_103 : z_T g d 131 103 (.ref a :: ls) st h P = z_T g d 131 104 (.ref a :: ls) (.ref a :: st) h P := zt_aloadn zi_131_103 rfl rfl
theorem zi_131_104 : z_ins 131 104 = some (.dup, 1) := by decide +kernel
theorem ze_131_104 : z_T g d 131 104 ls (.ref a :: st) h P = z_T g d 131 105 ls (.ref a :: .ref a :: st) h P := zt_dupR zi_131_104
theorem ze_131_104_i : z_T g d 131 104 ls (.int x :: st) h P = z_T g d 131 105 ls (.int x :: .int x :: st) h P := zt_dupI zi_131_104
theorem zi_131_105 : z_ins 131 105 = some (.getfield 95, 3) := by decide +kernel
theorem ze_131_105 : z_T g d 131 105 ls (.ref a :: st) h P = z_gI h.1 a 10 16 (fun x => z_T g d 131 108 ls (.int x :: st) h P) := zt_getI zi_131_105 ((congrArg (fun o => z_fl o 95) zo_131).trans zf_LatinRectanglesModel_95)
theorem zi_131_108 : z_ins 131 108 = some (.iconst 1, 1) := by decide +kernel
theorem ze_131_108 : z_T g d 131 108 ls st h P = z_T g d 131 109 ls (.int (nI 1) :: st) h P := zt_iconst zi_131_108 rfl
theorem zi_131_109 : z_ins 131 109 = some (.iadd, 1) := by decide +kernel
theorem ze_131_109 : z_T g d 131 109 ls (.int y :: .int x :: st) h P = z_T g d 131 110 ls (.int (x + y) :: st) h P := zt_bin (f := fun x y => x + y) zi_131_109 rfl (fun _ _ _ => rfl)
theorem zi_131_110 : z_ins 131 110 = some (.putfield 95, 3) := by decide +kernel
theorem ze_131_110 : z_T g d 131 110 ls (.int x :: .ref a :: st) h P = z_pF h.1 a 10 16 (.int x) (fun f => z_T g d 131 113 ls st (f, h.2) P) := zt_putI zi_131_110 ((congrArg (fun o => z_fl o 95) zo_131).trans zf_LatinRectanglesModel_95)
theorem zi_131_113 : z_ins 131 113 = some (.goto (-28), 3) := by decide +kernel
theorem ze_131_113 : z_T g d 131 113 ls st h P = z_T g d 131 85 ls st h P := zt_goto zi_131_113 (by decide)
theorem zi_131_116 : z_ins 131 116 = some (.aload_n 0, 1) := by decide +kernel
theorem ze_131_116 : z_T g d 131 116 (.ref a :: ls) st h P = z_T g d 131 117 (.ref a :: ls) (.ref a :: st) h P := zt_aloadn zi_131_116 rfl rfl
theorem zi_131_117 : z_ins 131 117 = some (.aload_n 0, 1) := by decide +kernel
theorem ze_131_117 : z_T g d 131 117 (.ref a :: ls) st h P = z_T g d 131 118 (.ref a :: ls) (.ref a :: st) h P := zt_aloadn zi_131_117 rfl rfl
theorem zi_131_118 : z_ins 131 118 = some (.getfield 95, 3) := by decide +kernel
theorem ze_131_118 : z_T g d 131 118 ls (.ref a :: st) h P = z_gI h.1 a 10 16 (fun x => z_T g d 131 121 ls (.int x :: st) h P) := zt_getI zi_131_118 ((congrArg (fun o => z_fl o 95) zo_131).trans zf_LatinRectanglesModel_95)
theorem zi_131_121 : z_ins 131 121 = some (.aload_n 0, 1) := by decide +kernel
theorem ze_131_121 : z_T g d 131 121 (.ref a :: ls) st h P = z_T g d 131 122 (.ref a :: ls) (.ref a :: st) h P := zt_aloadn zi_131_121 rfl rfl
theorem zi_131_122 : z_ins 131 122 = some (.getfield 102, 3) := by decide +kernel
theorem ze_131_122 : z_T g d 131 122 ls (.ref a :: st) h P = z_gI h.1 a 10 15 (fun x => z_T g d 131 125 ls (.int x :: st) h P) := zt_getI zi_131_122 ((congrArg (fun o => z_fl o 102) zo_131).trans zf_LatinRectanglesModel_102)
theorem zi_131_125 : z_ins 131 125 = some (.isub, 1) := by decide +kernel
theorem ze_131_125 : z_T g d 131 125 ls (.int y :: .int x :: st) h P = z_T g d 131 126 ls (.int (x - y) :: st) h P := zt_bin (f := fun x y => x - y) zi_131_125 rfl (fun _ _ _ => rfl)
theorem zi_131_126 : z_ins 131 126 = some (.bipush 9, 2) := by decide +kernel
theorem ze_131_126 : z_T g d 131 126 ls st h P = z_T g d 131 128 ls (.int (nI 9) :: st) h P := zt_bipush zi_131_126 rfl
theorem zi_131_128 : z_ins 131 128 = some (.if_icmp .le 7, 3) := by decide +kernel
theorem ze_131_128 : z_T g d 131 128 ls (.int y :: .int x :: st) h P = (if y < x then z_T g d 131 131 ls st h P else z_T g d 131 135 ls st h P) := zt_icmple zi_131_128 (by decide)
theorem zi_131_131 : z_ins 131 131 = some (.iconst 4, 1) := by decide +kernel
theorem ze_131_131 : z_T g d 131 131 ls st h P = z_T g d 131 132 ls (.int (nI 4) :: st) h P := zt_iconst zi_131_131 rfl
theorem zi_131_132 : z_ins 131 132 = some (.goto 4, 3) := by decide +kernel
theorem ze_131_132 : z_T g d 131 132 ls st h P = z_T g d 131 136 ls st h P := zt_goto zi_131_132 (by decide)
theorem zi_131_135 : z_ins 131 135 = some (.iconst 1, 1) := by decide +kernel
theorem ze_131_135 : z_T g d 131 135 ls st h P = z_T g d 131 136 ls (.int (nI 1) :: st) h P := zt_iconst zi_131_135 rfl
theorem zi_131_136 : z_ins 131 136 = some (.putfield 108, 3) := by decide +kernel
theorem ze_131_136 : z_T g d 131 136 ls (.int x :: .ref a :: st) h P = z_pF h.1 a 10 17 (.int x) (fun f => z_T g d 131 139 ls st (f, h.2) P) := zt_putI zi_131_136 ((congrArg (fun o => z_fl o 108) zo_131).trans zf_LatinRectanglesModel_108)
theorem zi_131_139 : z_ins 131 139 = some (.goto 138, 3) := by decide +kernel
theorem ze_131_139 : z_T g d 131 139 ls st h P = z_T g d 131 277 ls st h P := zt_goto zi_131_139 (by decide)
theorem zi_131_142 : z_ins 131 142 = some (.iload_n 1, 1) := by decide +kernel
theorem ze_131_142 : z_T g d 131 142 (v0 :: .int x :: ls) st h P = z_T g d 131 143 (v0 :: .int x :: ls) (.int x :: st) h P := zt_iloadn zi_131_142 rfl rfl
theorem zi_131_143 : z_ins 131 143 = some (.bipush 48, 2) := by decide +kernel
theorem ze_131_143 : z_T g d 131 143 ls st h P = z_T g d 131 145 ls (.int (nI 48) :: st) h P := zt_bipush zi_131_143 rfl
theorem zi_131_145 : z_ins 131 145 = some (.bipush 57, 2) := by decide +kernel
theorem ze_131_145 : z_T g d 131 145 ls st h P = z_T g d 131 147 ls (.int (nI 57) :: st) h P := zt_bipush zi_131_145 rfl
theorem zi_131_147 : z_ins 131 147 = some (.invokestatic 111, 3) := by decide +kernel
theorem ze_131_147 : z_T g d 131 147 ls (.int x2 :: .int x1 :: .int x0 :: st) h P = ((z_okS 8 st = true ∧ 0 < d) ∧ z_Ca g (d - 1) 122 [.int x0, .int x1, .int x2] h (fun r => z_k r (fun v h' => z_T g d 131 150 ls (z_push v st) h' P) P)) := zt_callS0 (as := [.int x0, .int x1, .int x2]) zi_131_147 ((congrArg (fun o => z_lookup z_prs (o, 111)) zo_131).trans zp_LatinRectanglesModel_111) ((congrArg (fun o => z_clk o 111) zo_131).trans zk_LatinRectanglesModel_111) zh_131 rfl rfl rfl
theorem zi_131_150 : z_ins 131 150 = some (.ifCond .eq 102, 3) := by decide +kernel
theorem ze_131_150 : z_T g d 131 150 ls (.int x :: st) h P = (if x = nI 0 then z_T g d 131 252 ls st h P else z_T g d 131 153 ls st h P) := zt_ifeq zi_131_150 (by decide)
theorem zi_131_153 : z_ins 131 153 = some (.aload_n 0, 1) := by decide +kernel
theorem ze_131_153 : z_T g d 131 153 (.ref a :: ls) st h P = z_T g d 131 154 (.ref a :: ls) (.ref a :: st) h P := zt_aloadn zi_131_153 rfl rfl
theorem zi_131_154 : z_ins 131 154 = some (.aload_n 0, 1) := by decide +kernel
theorem ze_131_154 : z_T g d 131 154 (.ref a :: ls) st h P = z_T g d 131 155 (.ref a :: ls) (.ref a :: st) h P := zt_aloadn zi_131_154 rfl rfl
theorem zi_131_155 : z_ins 131 155 = some (.getfield 95, 3) := by decide +kernel
theorem ze_131_155 : z_T g d 131 155 ls (.ref a :: st) h P = z_gI h.1 a 10 16 (fun x => z_T g d 131 158 ls (.int x :: st) h P) := zt_getI zi_131_155 ((congrArg (fun o => z_fl o 95) zo_131).trans zf_LatinRectanglesModel_95)
theorem zi_131_158 : z_ins 131 158 = some (.invokevirtual 98, 3) := by decide +kernel
theorem ze_131_158 : z_T g d 131 158 ls (.int x0 :: .ref a :: st) h P = ((z_okS 8 st = true ∧ z_gO h.1 a 10 ∧ 0 < d) ∧ z_Ca g (d - 1) 130 [.ref a, .int x0] h (fun r => z_k r (fun v h' => z_T g d 131 161 ls (z_push v st) h' P) P)) := zt_callV (as := [.int x0]) zi_131_158 ((congrArg (fun o => z_lookup z_prs (o, 98)) zo_131).trans zp_LatinRectanglesModel_98) ((congrArg (fun o => z_clk o 98) zo_131).trans zk_LatinRectanglesModel_98) zh_131 zc_130 rfl rfl rfl
theorem zi_131_161 : z_ins 131 161 = some (.bipush 48, 2) := by decide +kernel
theorem ze_131_161 : z_T g d 131 161 ls st h P = z_T g d 131 163 ls (.int (nI 48) :: st) h P := zt_bipush zi_131_161 rfl
theorem zi_131_163 : z_ins 131 163 = some (.bipush 57, 2) := by decide +kernel
theorem ze_131_163 : z_T g d 131 163 ls st h P = z_T g d 131 165 ls (.int (nI 57) :: st) h P := zt_bipush zi_131_163 rfl
theorem zi_131_165 : z_ins 131 165 = some (.invokestatic 111, 3) := by decide +kernel
theorem ze_131_165 : z_T g d 131 165 ls (.int x2 :: .int x1 :: .int x0 :: st) h P = ((z_okS 8 st = true ∧ 0 < d) ∧ z_Ca g (d - 1) 122 [.int x0, .int x1, .int x2] h (fun r => z_k r (fun v h' => z_T g d 131 168 ls (z_push v st) h' P) P)) := zt_callS0 (as := [.int x0, .int x1, .int x2]) zi_131_165 ((congrArg (fun o => z_lookup z_prs (o, 111)) zo_131).trans zp_LatinRectanglesModel_111) ((congrArg (fun o => z_clk o 111) zo_131).trans zk_LatinRectanglesModel_111) zh_131 rfl rfl rfl
theorem zi_131_168 : z_ins 131 168 = some (.ifCond .eq 59, 3) := by decide +kernel
theorem ze_131_168 : z_T g d 131 168 ls (.int x :: st) h P = (if x = nI 0 then z_T g d 131 227 ls st h P else z_T g d 131 171 ls st h P) := zt_ifeq zi_131_168 (by decide)
theorem zi_131_171 : z_ins 131 171 = some (.aload_n 0, 1) := by decide +kernel
theorem ze_131_171 : z_T g d 131 171 (.ref a :: ls) st h P = z_T g d 131 172 (.ref a :: ls) (.ref a :: st) h P := zt_aloadn zi_131_171 rfl rfl
theorem zi_131_172 : z_ins 131 172 = some (.aload_n 0, 1) := by decide +kernel
theorem ze_131_172 : z_T g d 131 172 (.ref a :: ls) st h P = z_T g d 131 173 (.ref a :: ls) (.ref a :: st) h P := zt_aloadn zi_131_172 rfl rfl
theorem zi_131_173 : z_ins 131 173 = some (.getfield 95, 3) := by decide +kernel
theorem ze_131_173 : z_T g d 131 173 ls (.ref a :: st) h P = z_gI h.1 a 10 16 (fun x => z_T g d 131 176 ls (.int x :: st) h P) := zt_getI zi_131_173 ((congrArg (fun o => z_fl o 95) zo_131).trans zf_LatinRectanglesModel_95)
theorem zi_131_176 : z_ins 131 176 = some (.aload_n 0, 1) := by decide +kernel
theorem ze_131_176 : z_T g d 131 176 (.ref a :: ls) st h P = z_T g d 131 177 (.ref a :: ls) (.ref a :: st) h P := zt_aloadn zi_131_176 rfl rfl
theorem zi_131_177 : z_ins 131 177 = some (.getfield 102, 3) := by decide +kernel
theorem ze_131_177 : z_T g d 131 177 ls (.ref a :: st) h P = z_gI h.1 a 10 15 (fun x => z_T g d 131 180 ls (.int x :: st) h P) := zt_getI zi_131_177 ((congrArg (fun o => z_fl o 102) zo_131).trans zf_LatinRectanglesModel_102)
theorem zi_131_180 : z_ins 131 180 = some (.isub, 1) := by decide +kernel
theorem ze_131_180 : z_T g d 131 180 ls (.int y :: .int x :: st) h P = z_T g d 131 181 ls (.int (x - y) :: st) h P := zt_bin (f := fun x y => x - y) zi_131_180 rfl (fun _ _ _ => rfl)
theorem zi_131_181 : z_ins 131 181 = some (.iconst 2, 1) := by decide +kernel
theorem ze_131_181 : z_T g d 131 181 ls st h P = z_T g d 131 182 ls (.int (nI 2) :: st) h P := zt_iconst zi_131_181 rfl
theorem zi_131_182 : z_ins 131 182 = some (.if_icmp .ge 25, 3) := by decide +kernel
theorem ze_131_182 : z_T g d 131 182 ls (.int y :: .int x :: st) h P = (if x < y then z_T g d 131 185 ls st h P else z_T g d 131 207 ls st h P) := zt_icmpge zi_131_182 (by decide)
theorem zi_131_185 : z_ins 131 185 = some (.bipush 10, 2) := by decide +kernel
theorem ze_131_185 : z_T g d 131 185 ls st h P = z_T g d 131 187 ls (.int (nI 10) :: st) h P := zt_bipush zi_131_185 rfl
theorem zi_131_187 : z_ins 131 187 = some (.aload_n 0, 1) := by decide +kernel
theorem ze_131_187 : z_T g d 131 187 (.ref a :: ls) st h P = z_T g d 131 188 (.ref a :: ls) (.ref a :: st) h P := zt_aloadn zi_131_187 rfl rfl
theorem zi_131_188 : z_ins 131 188 = some (.getfield 105, 3) := by decide +kernel
theorem ze_131_188 : z_T g d 131 188 ls (.ref a :: st) h P = z_gI h.1 a 10 18 (fun x => z_T g d 131 191 ls (.int x :: st) h P) := zt_getI zi_131_188 ((congrArg (fun o => z_fl o 105) zo_131).trans zf_LatinRectanglesModel_105)
theorem zi_131_191 : z_ins 131 191 = some (.imul, 1) := by decide +kernel
theorem ze_131_191 : z_T g d 131 191 ls (.int y :: .int x :: st) h P = z_T g d 131 192 ls (.int (x * y) :: st) h P := zt_bin (f := fun x y => x * y) zi_131_191 rfl (fun _ _ _ => rfl)
theorem zi_131_192 : z_ins 131 192 = some (.aload_n 0, 1) := by decide +kernel
theorem ze_131_192 : z_T g d 131 192 (.ref a :: ls) st h P = z_T g d 131 193 (.ref a :: ls) (.ref a :: st) h P := zt_aloadn zi_131_192 rfl rfl
theorem zi_131_193 : z_ins 131 193 = some (.aload_n 0, 1) := by decide +kernel
theorem ze_131_193 : z_T g d 131 193 (.ref a :: ls) st h P = z_T g d 131 194 (.ref a :: ls) (.ref a :: st) h P := zt_aloadn zi_131_193 rfl rfl
theorem zi_131_194 : z_ins 131 194 = some (.getfield 95, 3) := by decide +kernel
theorem ze_131_194 : z_T g d 131 194 ls (.ref a :: st) h P = z_gI h.1 a 10 16 (fun x => z_T g d 131 197 ls (.int x :: st) h P) := zt_getI zi_131_194 ((congrArg (fun o => z_fl o 95) zo_131).trans zf_LatinRectanglesModel_95)
theorem zi_131_197 : z_ins 131 197 = some (.invokevirtual 98, 3) := by decide +kernel
theorem ze_131_197 : z_T g d 131 197 ls (.int x0 :: .ref a :: st) h P = ((z_okS 8 st = true ∧ z_gO h.1 a 10 ∧ 0 < d) ∧ z_Ca g (d - 1) 130 [.ref a, .int x0] h (fun r => z_k r (fun v h' => z_T g d 131 200 ls (z_push v st) h' P) P)) := zt_callV (as := [.int x0]) zi_131_197 ((congrArg (fun o => z_lookup z_prs (o, 98)) zo_131).trans zp_LatinRectanglesModel_98) ((congrArg (fun o => z_clk o 98) zo_131).trans zk_LatinRectanglesModel_98) zh_131 zc_130 rfl rfl rfl
theorem zi_131_200 : z_ins 131 200 = some (.iadd, 1) := by decide +kernel
theorem ze_131_200 : z_T g d 131 200 ls (.int y :: .int x :: st) h P = z_T g d 131 201 ls (.int (x + y) :: st) h P := zt_bin (f := fun x y => x + y) zi_131_200 rfl (fun _ _ _ => rfl)
theorem zi_131_201 : z_ins 131 201 = some (.bipush 48, 2) := by decide +kernel
theorem ze_131_201 : z_T g d 131 201 ls st h P = z_T g d 131 203 ls (.int (nI 48) :: st) h P := zt_bipush zi_131_201 rfl
theorem zi_131_203 : z_ins 131 203 = some (.isub, 1) := by decide +kernel
theorem ze_131_203 : z_T g d 131 203 ls (.int y :: .int x :: st) h P = z_T g d 131 204 ls (.int (x - y) :: st) h P := zt_bin (f := fun x y => x - y) zi_131_203 rfl (fun _ _ _ => rfl)
theorem zi_131_204 : z_ins 131 204 = some (.goto 7, 3) := by decide +kernel
theorem ze_131_204 : z_T g d 131 204 ls st h P = z_T g d 131 211 ls st h P := zt_goto zi_131_204 (by decide)
theorem zi_131_207 : z_ins 131 207 = some (.aload_n 0, 1) := by decide +kernel
theorem ze_131_207 : z_T g d 131 207 (.ref a :: ls) st h P = z_T g d 131 208 (.ref a :: ls) (.ref a :: st) h P := zt_aloadn zi_131_207 rfl rfl
theorem zi_131_208 : z_ins 131 208 = some (.getfield 105, 3) := by decide +kernel
theorem ze_131_208 : z_T g d 131 208 ls (.ref a :: st) h P = z_gI h.1 a 10 18 (fun x => z_T g d 131 211 ls (.int x :: st) h P) := zt_getI zi_131_208 ((congrArg (fun o => z_fl o 105) zo_131).trans zf_LatinRectanglesModel_105)
theorem zi_131_211 : z_ins 131 211 = some (.putfield 105, 3) := by decide +kernel
theorem ze_131_211 : z_T g d 131 211 ls (.int x :: .ref a :: st) h P = z_pF h.1 a 10 18 (.int x) (fun f => z_T g d 131 214 ls st (f, h.2) P) := zt_putI zi_131_211 ((congrArg (fun o => z_fl o 105) zo_131).trans zf_LatinRectanglesModel_105)
theorem zi_131_214 : z_ins 131 214 = some (.aload_n 0, 1) := by decide +kernel
theorem ze_131_214 : z_T g d 131 214 (.ref a :: ls) st h P = z_T g d 131 215 (.ref a :: ls) (.ref a :: st) h P := zt_aloadn zi_131_214 rfl rfl
theorem zi_131_215 : z_ins 131 215 = some (.dup, 1) := by decide +kernel
theorem ze_131_215 : z_T g d 131 215 ls (.ref a :: st) h P = z_T g d 131 216 ls (.ref a :: .ref a :: st) h P := zt_dupR zi_131_215
theorem ze_131_215_i : z_T g d 131 215 ls (.int x :: st) h P = z_T g d 131 216 ls (.int x :: .int x :: st) h P := zt_dupI zi_131_215
theorem zi_131_216 : z_ins 131 216 = some (.getfield 95, 3) := by decide +kernel
theorem ze_131_216 : z_T g d 131 216 ls (.ref a :: st) h P = z_gI h.1 a 10 16 (fun x => z_T g d 131 219 ls (.int x :: st) h P) := zt_getI zi_131_216 ((congrArg (fun o => z_fl o 95) zo_131).trans zf_LatinRectanglesModel_95)
theorem zi_131_219 : z_ins 131 219 = some (.iconst 1, 1) := by decide +kernel
theorem ze_131_219 : z_T g d 131 219 ls st h P = z_T g d 131 220 ls (.int (nI 1) :: st) h P := zt_iconst zi_131_219 rfl
theorem zi_131_220 : z_ins 131 220 = some (.iadd, 1) := by decide +kernel
theorem ze_131_220 : z_T g d 131 220 ls (.int y :: .int x :: st) h P = z_T g d 131 221 ls (.int (x + y) :: st) h P := zt_bin (f := fun x y => x + y) zi_131_220 rfl (fun _ _ _ => rfl)
theorem zi_131_221 : z_ins 131 221 = some (.putfield 95, 3) := by decide +kernel
theorem ze_131_221 : z_T g d 131 221 ls (.int x :: .ref a :: st) h P = z_pF h.1 a 10 16 (.int x) (fun f => z_T g d 131 224 ls st (f, h.2) P) := zt_putI zi_131_221 ((congrArg (fun o => z_fl o 95) zo_131).trans zf_LatinRectanglesModel_95)
theorem zi_131_224 : z_ins 131 224 = some (.goto (-71), 3) := by decide +kernel
theorem ze_131_224 : z_T g d 131 224 ls st h P = z_T g d 131 153 ls st h P := zt_goto zi_131_224 (by decide)
theorem zi_131_227 : z_ins 131 227 = some (.aload_n 0, 1) := by decide +kernel
theorem ze_131_227 : z_T g d 131 227 (.ref a :: ls) st h P = z_T g d 131 228 (.ref a :: ls) (.ref a :: st) h P := zt_aloadn zi_131_227 rfl rfl
theorem zi_131_228 : z_ins 131 228 = some (.aload_n 0, 1) := by decide +kernel
theorem ze_131_228 : z_T g d 131 228 (.ref a :: ls) st h P = z_T g d 131 229 (.ref a :: ls) (.ref a :: st) h P := zt_aloadn zi_131_228 rfl rfl
theorem zi_131_229 : z_ins 131 229 = some (.getfield 95, 3) := by decide +kernel
theorem ze_131_229 : z_T g d 131 229 ls (.ref a :: st) h P = z_gI h.1 a 10 16 (fun x => z_T g d 131 232 ls (.int x :: st) h P) := zt_getI zi_131_229 ((congrArg (fun o => z_fl o 95) zo_131).trans zf_LatinRectanglesModel_95)
theorem zi_131_232 : z_ins 131 232 = some (.aload_n 0, 1) := by decide +kernel
theorem ze_131_232 : z_T g d 131 232 (.ref a :: ls) st h P = z_T g d 131 233 (.ref a :: ls) (.ref a :: st) h P := zt_aloadn zi_131_232 rfl rfl
theorem zi_131_233 : z_ins 131 233 = some (.getfield 102, 3) := by decide +kernel
theorem ze_131_233 : z_T g d 131 233 ls (.ref a :: st) h P = z_gI h.1 a 10 15 (fun x => z_T g d 131 236 ls (.int x :: st) h P) := zt_getI zi_131_233 ((congrArg (fun o => z_fl o 102) zo_131).trans zf_LatinRectanglesModel_102)
theorem zi_131_236 : z_ins 131 236 = some (.isub, 1) := by decide +kernel
theorem ze_131_236 : z_T g d 131 236 ls (.int y :: .int x :: st) h P = z_T g d 131 237 ls (.int (x - y) :: st) h P := zt_bin (f := fun x y => x - y) zi_131_236 rfl (fun _ _ _ => rfl)
theorem zi_131_237 : z_ins 131 237 = some (.iconst 2, 1) := by decide +kernel
theorem ze_131_237 : z_T g d 131 237 ls st h P = z_T g d 131 238 ls (.int (nI 2) :: st) h P := zt_iconst zi_131_237 rfl
theorem zi_131_238 : z_ins 131 238 = some (.if_icmp .le 7, 3) := by decide +kernel
theorem ze_131_238 : z_T g d 131 238 ls (.int y :: .int x :: st) h P = (if y < x then z_T g d 131 241 ls st h P else z_T g d 131 245 ls st h P) := zt_icmple zi_131_238 (by decide)
theorem zi_131_241 : z_ins 131 241 = some (.iconst 4, 1) := by decide +kernel
theorem ze_131_241 : z_T g d 131 241 ls st h P = z_T g d 131 242 ls (.int (nI 4) :: st) h P := zt_iconst zi_131_241 rfl
theorem zi_131_242 : z_ins 131 242 = some (.goto 4, 3) := by decide +kernel
theorem ze_131_242 : z_T g d 131 242 ls st h P = z_T g d 131 246 ls st h P := zt_goto zi_131_242 (by decide)
theorem zi_131_245 : z_ins 131 245 = some (.iconst 2, 1) := by decide +kernel
theorem ze_131_245 : z_T g d 131 245 ls st h P = z_T g d 131 246 ls (.int (nI 2) :: st) h P := zt_iconst zi_131_245 rfl
theorem zi_131_246 : z_ins 131 246 = some (.putfield 108, 3) := by decide +kernel
theorem ze_131_246 : z_T g d 131 246 ls (.int x :: .ref a :: st) h P = z_pF h.1 a 10 17 (.int x) (fun f => z_T g d 131 249 ls st (f, h.2) P) := zt_putI zi_131_246 ((congrArg (fun o => z_fl o 108) zo_131).trans zf_LatinRectanglesModel_108)
theorem zi_131_249 : z_ins 131 249 = some (.goto 28, 3) := by decide +kernel
theorem ze_131_249 : z_T g d 131 249 ls st h P = z_T g d 131 277 ls st h P := zt_goto zi_131_249 (by decide)
theorem zi_131_252 : z_ins 131 252 = some (.aload_n 0, 1) := by decide +kernel
theorem ze_131_252 : z_T g d 131 252 (.ref a :: ls) st h P = z_T g d 131 253 (.ref a :: ls) (.ref a :: st) h P := zt_aloadn zi_131_252 rfl rfl
theorem zi_131_253 : z_ins 131 253 = some (.dup, 1) := by decide +kernel
theorem ze_131_253 : z_T g d 131 253 ls (.ref a :: st) h P = z_T g d 131 254 ls (.ref a :: .ref a :: st) h P := zt_dupR zi_131_253
theorem ze_131_253_i : z_T g d 131 253 ls (.int x :: st) h P = z_T g d 131 254 ls (.int x :: .int x :: st) h P := zt_dupI zi_131_253
theorem zi_131_254 : z_ins 131 254 = some (.getfield 95, 3) := by decide +kernel
theorem ze_131_254 : z_T g d 131 254 ls (.ref a :: st) h P = z_gI h.1 a 10 16 (fun x => z_T g d 131 257 ls (.int x :: st) h P) := zt_getI zi_131_254 ((congrArg (fun o => z_fl o 95) zo_131).trans zf_LatinRectanglesModel_95)
theorem zi_131_257 : z_ins 131 257 = some (.iconst 1, 1) := by decide +kernel
theorem ze_131_257 : z_T g d 131 257 ls st h P = z_T g d 131 258 ls (.int (nI 1) :: st) h P := zt_iconst zi_131_257 rfl
theorem zi_131_258 : z_ins 131 258 = some (.iadd, 1) := by decide +kernel
theorem ze_131_258 : z_T g d 131 258 ls (.int y :: .int x :: st) h P = z_T g d 131 259 ls (.int (x + y) :: st) h P := zt_bin (f := fun x y => x + y) zi_131_258 rfl (fun _ _ _ => rfl)
theorem zi_131_259 : z_ins 131 259 = some (.putfield 95, 3) := by decide +kernel
theorem ze_131_259 : z_T g d 131 259 ls (.int x :: .ref a :: st) h P = z_pF h.1 a 10 16 (.int x) (fun f => z_T g d 131 262 ls st (f, h.2) P) := zt_putI zi_131_259 ((congrArg (fun o => z_fl o 95) zo_131).trans zf_LatinRectanglesModel_95)
theorem zi_131_262 : z_ins 131 262 = some (.aload_n 0, 1) := by decide +kernel
theorem ze_131_262 : z_T g d 131 262 (.ref a :: ls) st h P = z_T g d 131 263 (.ref a :: ls) (.ref a :: st) h P := zt_aloadn zi_131_262 rfl rfl
theorem zi_131_263 : z_ins 131 263 = some (.iload_n 1, 1) := by decide +kernel
theorem ze_131_263 : z_T g d 131 263 (v0 :: .int x :: ls) st h P = z_T g d 131 264 (v0 :: .int x :: ls) (.int x :: st) h P := zt_iloadn zi_131_263 rfl rfl
theorem zi_131_264 : z_ins 131 264 = some (.bipush 59, 2) := by decide +kernel
theorem ze_131_264 : z_T g d 131 264 ls st h P = z_T g d 131 266 ls (.int (nI 59) :: st) h P := zt_bipush zi_131_264 rfl
theorem zi_131_266 : z_ins 131 266 = some (.if_icmp .ne 7, 3) := by decide +kernel
theorem ze_131_266 : z_T g d 131 266 ls (.int y :: .int x :: st) h P = (if x = y then z_T g d 131 269 ls st h P else z_T g d 131 273 ls st h P) := zt_icmpne zi_131_266 (by decide)
theorem zi_131_269 : z_ins 131 269 = some (.iconst 3, 1) := by decide +kernel
theorem ze_131_269 : z_T g d 131 269 ls st h P = z_T g d 131 270 ls (.int (nI 3) :: st) h P := zt_iconst zi_131_269 rfl
theorem zi_131_270 : z_ins 131 270 = some (.goto 4, 3) := by decide +kernel
theorem ze_131_270 : z_T g d 131 270 ls st h P = z_T g d 131 274 ls st h P := zt_goto zi_131_270 (by decide)
theorem zi_131_273 : z_ins 131 273 = some (.iconst 4, 1) := by decide +kernel
theorem ze_131_273 : z_T g d 131 273 ls st h P = z_T g d 131 274 ls (.int (nI 4) :: st) h P := zt_iconst zi_131_273 rfl
theorem zi_131_274 : z_ins 131 274 = some (.putfield 108, 3) := by decide +kernel
theorem ze_131_274 : z_T g d 131 274 ls (.int x :: .ref a :: st) h P = z_pF h.1 a 10 17 (.int x) (fun f => z_T g d 131 277 ls st (f, h.2) P) := zt_putI zi_131_274 ((congrArg (fun o => z_fl o 108) zo_131).trans zf_LatinRectanglesModel_108)
theorem zi_131_277 : z_ins 131 277 = some (.return_, 1) := by decide +kernel
theorem ze_131_277 : z_T g d 131 277 ls [] h P = P (.inr none, h) := zt_return zi_131_277 zr_131
-- LatinRectanglesModel.isWord(Ljava/lang/String;)Z
theorem zo_132 : z_own 132 = "LatinRectanglesModel" := by decide +kernel
theorem zm_132 : z_maxL 132 = 4 := by decide +kernel
theorem zh_132 : z_hds 132 = [] := by decide +kernel
theorem zr_132 : z_rt 132 = (some .boolean) := by decide +kernel
theorem zn_132 : z_Ca g d 132 [.ref a0, .retAddr k1] h P = z_T g d 132 0 [.ref a0, .retAddr k1, z_un, z_un] [] h P := z_Ca_ent zm_132 rfl rfl
theorem zi_132_0 : z_ins 132 0 = some (.aload_n 0, 1) := by decide +kernel
theorem ze_132_0 : z_T g d 132 0 (.ref a :: ls) st h P = z_T g d 132 1 (.ref a :: ls) (.ref a :: st) h P := zt_aloadn zi_132_0 rfl rfl
theorem zi_132_1 : z_ins 132 1 = some (.getfield 108, 3) := by decide +kernel
theorem ze_132_1 : z_T g d 132 1 ls (.ref a :: st) h P = z_gI h.1 a 10 17 (fun x => z_T g d 132 4 ls (.int x :: st) h P) := zt_getI zi_132_1 ((congrArg (fun o => z_fl o 108) zo_132).trans zf_LatinRectanglesModel_108)
theorem zi_132_4 : z_ins 132 4 = some (.iconst 1, 1) := by decide +kernel
theorem ze_132_4 : z_T g d 132 4 ls st h P = z_T g d 132 5 ls (.int (nI 1) :: st) h P := zt_iconst zi_132_4 rfl
theorem zi_132_5 : z_ins 132 5 = some (.if_icmp .ne 23, 3) := by decide +kernel
theorem ze_132_5 : z_T g d 132 5 ls (.int y :: .int x :: st) h P = (if x = y then z_T g d 132 8 ls st h P else z_T g d 132 28 ls st h P) := zt_icmpne zi_132_5 (by decide)
theorem zi_132_8 : z_ins 132 8 = some (.aload_n 0, 1) := by decide +kernel
theorem ze_132_8 : z_T g d 132 8 (.ref a :: ls) st h P = z_T g d 132 9 (.ref a :: ls) (.ref a :: st) h P := zt_aloadn zi_132_8 rfl rfl
theorem zi_132_9 : z_ins 132 9 = some (.getfield 95, 3) := by decide +kernel
theorem ze_132_9 : z_T g d 132 9 ls (.ref a :: st) h P = z_gI h.1 a 10 16 (fun x => z_T g d 132 12 ls (.int x :: st) h P) := zt_getI zi_132_9 ((congrArg (fun o => z_fl o 95) zo_132).trans zf_LatinRectanglesModel_95)
theorem zi_132_12 : z_ins 132 12 = some (.aload_n 0, 1) := by decide +kernel
theorem ze_132_12 : z_T g d 132 12 (.ref a :: ls) st h P = z_T g d 132 13 (.ref a :: ls) (.ref a :: st) h P := zt_aloadn zi_132_12 rfl rfl
theorem zi_132_13 : z_ins 132 13 = some (.getfield 102, 3) := by decide +kernel
theorem ze_132_13 : z_T g d 132 13 ls (.ref a :: st) h P = z_gI h.1 a 10 15 (fun x => z_T g d 132 16 ls (.int x :: st) h P) := zt_getI zi_132_13 ((congrArg (fun o => z_fl o 102) zo_132).trans zf_LatinRectanglesModel_102)
theorem zi_132_16 : z_ins 132 16 = some (.isub, 1) := by decide +kernel
theorem ze_132_16 : z_T g d 132 16 ls (.int y :: .int x :: st) h P = z_T g d 132 17 ls (.int (x - y) :: st) h P := zt_bin (f := fun x y => x - y) zi_132_16 rfl (fun _ _ _ => rfl)
theorem zi_132_17 : z_ins 132 17 = some (.aload_n 1, 1) := by decide +kernel
theorem ze_132_17 : z_T g d 132 17 (v0 :: .retAddr b :: ls) st h P = z_T g d 132 18 (v0 :: .retAddr b :: ls) (.retAddr b :: st) h P := zt_aloadnS zi_132_17 rfl rfl
theorem zi_132_18 : z_ins 132 18 = some (.invokevirtual 115, 3) := by decide +kernel
theorem ze_132_18 (hk : b < 3) (hok : z_okS 8 (.retAddr b :: st) = true) : z_T g d 132 18 ls (.retAddr b :: st) h P = z_T g d 132 21 ls (.int (nI (z_lit b).length) :: st) h P := zt_prim zi_132_18 ((congrArg (fun o => z_lookup z_prs (o, 115)) zo_132).trans zq_LatinRectanglesModel_115) (by decide) hok (by simp only [z_prim, hk, if_true])
theorem zi_132_21 : z_ins 132 21 = some (.if_icmp .ne 7, 3) := by decide +kernel
theorem ze_132_21 : z_T g d 132 21 ls (.int y :: .int x :: st) h P = (if x = y then z_T g d 132 24 ls st h P else z_T g d 132 28 ls st h P) := zt_icmpne zi_132_21 (by decide)
theorem zi_132_24 : z_ins 132 24 = some (.iconst 1, 1) := by decide +kernel
theorem ze_132_24 : z_T g d 132 24 ls st h P = z_T g d 132 25 ls (.int (nI 1) :: st) h P := zt_iconst zi_132_24 rfl
theorem zi_132_25 : z_ins 132 25 = some (.goto 4, 3) := by decide +kernel
theorem ze_132_25 : z_T g d 132 25 ls st h P = z_T g d 132 29 ls st h P := zt_goto zi_132_25 (by decide)
theorem zi_132_28 : z_ins 132 28 = some (.iconst 0, 1) := by decide +kernel
theorem ze_132_28 : z_T g d 132 28 ls st h P = z_T g d 132 29 ls (.int (nI 0) :: st) h P := zt_iconst zi_132_28 rfl
theorem zi_132_29 : z_ins 132 29 = some (.istore_n 2, 1) := by decide +kernel
theorem ze_132_29 : z_T g d 132 29 (v0 :: v1 :: v2 :: ls) (.int x :: st) h P = z_T g d 132 30 (v0 :: v1 :: .int x :: ls) st h P := zt_istoren zi_132_29 rfl (Nat.le_add_left 3 _)
theorem zi_132_30 : z_ins 132 30 = some (.iconst 0, 1) := by decide +kernel
theorem ze_132_30 : z_T g d 132 30 ls st h P = z_T g d 132 31 ls (.int (nI 0) :: st) h P := zt_iconst zi_132_30 rfl
theorem zi_132_31 : z_ins 132 31 = some (.istore_n 3, 1) := by decide +kernel
theorem ze_132_31 : z_T g d 132 31 (v0 :: v1 :: v2 :: v3 :: ls) (.int x :: st) h P = z_T g d 132 32 (v0 :: v1 :: v2 :: .int x :: ls) st h P := zt_istoren zi_132_31 rfl (Nat.le_add_left 4 _)
theorem zi_132_32 : z_ins 132 32 = some (.iload_n 3, 1) := by decide +kernel
theorem ze_132_32 : z_T g d 132 32 (v0 :: v1 :: v2 :: .int x :: ls) st h P = z_T g d 132 33 (v0 :: v1 :: v2 :: .int x :: ls) (.int x :: st) h P := zt_iloadn zi_132_32 rfl rfl
theorem zi_132_33 : z_ins 132 33 = some (.aload_n 1, 1) := by decide +kernel
theorem ze_132_33 : z_T g d 132 33 (v0 :: .retAddr b :: ls) st h P = z_T g d 132 34 (v0 :: .retAddr b :: ls) (.retAddr b :: st) h P := zt_aloadnS zi_132_33 rfl rfl
theorem zi_132_34 : z_ins 132 34 = some (.invokevirtual 115, 3) := by decide +kernel
theorem ze_132_34 (hk : b < 3) (hok : z_okS 8 (.retAddr b :: st) = true) : z_T g d 132 34 ls (.retAddr b :: st) h P = z_T g d 132 37 ls (.int (nI (z_lit b).length) :: st) h P := zt_prim zi_132_34 ((congrArg (fun o => z_lookup z_prs (o, 115)) zo_132).trans zq_LatinRectanglesModel_115) (by decide) hok (by simp only [z_prim, hk, if_true])
theorem zi_132_37 : z_ins 132 37 = some (.if_icmp .ge 38, 3) := by decide +kernel
theorem ze_132_37 : z_T g d 132 37 ls (.int y :: .int x :: st) h P = (if x < y then z_T g d 132 40 ls st h P else z_T g d 132 75 ls st h P) := zt_icmpge zi_132_37 (by decide)
theorem zi_132_40 : z_ins 132 40 = some (.iload_n 2, 1) := by decide +kernel
theorem ze_132_40 : z_T g d 132 40 (v0 :: v1 :: .int x :: ls) st h P = z_T g d 132 41 (v0 :: v1 :: .int x :: ls) (.int x :: st) h P := zt_iloadn zi_132_40 rfl rfl
theorem zi_132_41 : z_ins 132 41 = some (.ifCond .eq 34, 3) := by decide +kernel
theorem ze_132_41 : z_T g d 132 41 ls (.int x :: st) h P = (if x = nI 0 then z_T g d 132 75 ls st h P else z_T g d 132 44 ls st h P) := zt_ifeq zi_132_41 (by decide)
theorem zi_132_44 : z_ins 132 44 = some (.aload_n 0, 1) := by decide +kernel
theorem ze_132_44 : z_T g d 132 44 (.ref a :: ls) st h P = z_T g d 132 45 (.ref a :: ls) (.ref a :: st) h P := zt_aloadn zi_132_44 rfl rfl
theorem zi_132_45 : z_ins 132 45 = some (.getfield 25, 3) := by decide +kernel
theorem ze_132_45 : z_T g d 132 45 ls (.ref a :: st) h P = z_gR h.1 a 10 12 (fun x => z_T g d 132 48 ls (.ref x :: st) h P) := zt_getR zi_132_45 ((congrArg (fun o => z_fl o 25) zo_132).trans zf_LatinRectanglesModel_25)
theorem zi_132_48 : z_ins 132 48 = some (.aload_n 0, 1) := by decide +kernel
theorem ze_132_48 : z_T g d 132 48 (.ref a :: ls) st h P = z_T g d 132 49 (.ref a :: ls) (.ref a :: st) h P := zt_aloadn zi_132_48 rfl rfl
theorem zi_132_49 : z_ins 132 49 = some (.getfield 102, 3) := by decide +kernel
theorem ze_132_49 : z_T g d 132 49 ls (.ref a :: st) h P = z_gI h.1 a 10 15 (fun x => z_T g d 132 52 ls (.int x :: st) h P) := zt_getI zi_132_49 ((congrArg (fun o => z_fl o 102) zo_132).trans zf_LatinRectanglesModel_102)
theorem zi_132_52 : z_ins 132 52 = some (.iload_n 3, 1) := by decide +kernel
theorem ze_132_52 : z_T g d 132 52 (v0 :: v1 :: v2 :: .int x :: ls) st h P = z_T g d 132 53 (v0 :: v1 :: v2 :: .int x :: ls) (.int x :: st) h P := zt_iloadn zi_132_52 rfl rfl
theorem zi_132_53 : z_ins 132 53 = some (.iadd, 1) := by decide +kernel
theorem ze_132_53 : z_T g d 132 53 ls (.int y :: .int x :: st) h P = z_T g d 132 54 ls (.int (x + y) :: st) h P := zt_bin (f := fun x y => x + y) zi_132_53 rfl (fun _ _ _ => rfl)
theorem zi_132_54 : z_ins 132 54 = some (.baload, 1) := by decide +kernel
theorem ze_132_54 : z_T g d 132 54 ls (.int x :: .ref a :: st) h P = z_aL h.1 a z_tB x (fun v => z_T g d 132 55 ls (.int v :: st) h P) := zt_baload zi_132_54
theorem zi_132_55 : z_ins 132 55 = some (.aload_n 1, 1) := by decide +kernel
theorem ze_132_55 : z_T g d 132 55 (v0 :: .retAddr b :: ls) st h P = z_T g d 132 56 (v0 :: .retAddr b :: ls) (.retAddr b :: st) h P := zt_aloadnS zi_132_55 rfl rfl
theorem zi_132_56 : z_ins 132 56 = some (.iload_n 3, 1) := by decide +kernel
theorem ze_132_56 : z_T g d 132 56 (v0 :: v1 :: v2 :: .int x :: ls) st h P = z_T g d 132 57 (v0 :: v1 :: v2 :: .int x :: ls) (.int x :: st) h P := zt_iloadn zi_132_56 rfl rfl
theorem zi_132_57 : z_ins 132 57 = some (.invokevirtual 120, 3) := by decide +kernel
theorem ze_132_57 (hk : b < 3) (hj : z_idx x (z_lit b).length = true) (hok : z_okS 8 (.int x :: .retAddr b :: st) = true) : z_T g d 132 57 ls (.int x :: .retAddr b :: st) h P = z_T g d 132 60 ls (.int ((z_lit b).getD x.toNatClampNeg 0) :: st) h P := zt_prim zi_132_57 ((congrArg (fun o => z_lookup z_prs (o, 120)) zo_132).trans zq_LatinRectanglesModel_120) (by decide) hok (by simp only [z_prim, hk, hj, and_self, if_true])
theorem zi_132_60 : z_ins 132 60 = some (.if_icmp .ne 7, 3) := by decide +kernel
theorem ze_132_60 : z_T g d 132 60 ls (.int y :: .int x :: st) h P = (if x = y then z_T g d 132 63 ls st h P else z_T g d 132 67 ls st h P) := zt_icmpne zi_132_60 (by decide)
theorem zi_132_63 : z_ins 132 63 = some (.iconst 1, 1) := by decide +kernel
theorem ze_132_63 : z_T g d 132 63 ls st h P = z_T g d 132 64 ls (.int (nI 1) :: st) h P := zt_iconst zi_132_63 rfl
theorem zi_132_64 : z_ins 132 64 = some (.goto 4, 3) := by decide +kernel
theorem ze_132_64 : z_T g d 132 64 ls st h P = z_T g d 132 68 ls st h P := zt_goto zi_132_64 (by decide)
theorem zi_132_67 : z_ins 132 67 = some (.iconst 0, 1) := by decide +kernel
theorem ze_132_67 : z_T g d 132 67 ls st h P = z_T g d 132 68 ls (.int (nI 0) :: st) h P := zt_iconst zi_132_67 rfl
theorem zi_132_68 : z_ins 132 68 = some (.istore_n 2, 1) := by decide +kernel
theorem ze_132_68 : z_T g d 132 68 (v0 :: v1 :: v2 :: ls) (.int x :: st) h P = z_T g d 132 69 (v0 :: v1 :: .int x :: ls) st h P := zt_istoren zi_132_68 rfl (Nat.le_add_left 3 _)
theorem zi_132_69 : z_ins 132 69 = some (.iinc 3 1, 3) := by decide +kernel
theorem ze_132_69 : z_T g d 132 69 (v0 :: v1 :: v2 :: .int x :: ls) st h P = z_T g d 132 72 (v0 :: v1 :: v2 :: .int (x + (nI 1)) :: ls) st h P := zt_iinc zi_132_69 rfl rfl
theorem zi_132_72 : z_ins 132 72 = some (.goto (-40), 3) := by decide +kernel
theorem ze_132_72 : z_T g d 132 72 ls st h P = z_T g d 132 32 ls st h P := zt_goto zi_132_72 (by decide)
theorem zi_132_75 : z_ins 132 75 = some (.iload_n 2, 1) := by decide +kernel
theorem ze_132_75 : z_T g d 132 75 (v0 :: v1 :: .int x :: ls) st h P = z_T g d 132 76 (v0 :: v1 :: .int x :: ls) (.int x :: st) h P := zt_iloadn zi_132_75 rfl rfl
theorem zi_132_76 : z_ins 132 76 = some (.ireturn, 1) := by decide +kernel
theorem ze_132_76 : z_T g d 132 76 ls [.int x] h P = ((x = nI 0 ∨ x = nI 1) ∧ P (.inr (some (.int x)), h)) := zt_zreturn zi_132_76 zr_132
-- LatinRectanglesModel.fails(I)Z
theorem zo_133 : z_own 133 = "LatinRectanglesModel" := by decide +kernel
theorem zm_133 : z_maxL 133 = 2 := by decide +kernel
theorem zh_133 : z_hds 133 = [] := by decide +kernel
theorem zr_133 : z_rt 133 = (some .boolean) := by decide +kernel
theorem zn_133 : z_Ca g d 133 [.ref a0, .int x1] h P = z_T g d 133 0 [.ref a0, .int x1] [] h P := z_Ca_ent zm_133 rfl rfl
theorem zi_133_0 : z_ins 133 0 = some (.aload_n 0, 1) := by decide +kernel
theorem ze_133_0 : z_T g d 133 0 (.ref a :: ls) st h P = z_T g d 133 1 (.ref a :: ls) (.ref a :: st) h P := zt_aloadn zi_133_0 rfl rfl
theorem zi_133_1 : z_ins 133 1 = some (.getfield 124, 3) := by decide +kernel
theorem ze_133_1 : z_T g d 133 1 ls (.ref a :: st) h P = z_gI h.1 a 10 19 (fun x => z_T g d 133 4 ls (.int x :: st) h P) := zt_getI zi_133_1 ((congrArg (fun o => z_fl o 124) zo_133).trans zf_LatinRectanglesModel_124)
theorem zi_133_4 : z_ins 133 4 = some (.ifCond .ne 16, 3) := by decide +kernel
theorem ze_133_4 : z_T g d 133 4 ls (.int x :: st) h P = (if x = nI 0 then z_T g d 133 7 ls st h P else z_T g d 133 20 ls st h P) := zt_ifne zi_133_4 (by decide)
theorem zi_133_7 : z_ins 133 7 = some (.aload_n 0, 1) := by decide +kernel
theorem ze_133_7 : z_T g d 133 7 (.ref a :: ls) st h P = z_T g d 133 8 (.ref a :: ls) (.ref a :: st) h P := zt_aloadn zi_133_7 rfl rfl
theorem zi_133_8 : z_ins 133 8 = some (.iload_n 1, 1) := by decide +kernel
theorem ze_133_8 : z_T g d 133 8 (v0 :: .int x :: ls) st h P = z_T g d 133 9 (v0 :: .int x :: ls) (.int x :: st) h P := zt_iloadn zi_133_8 rfl rfl
theorem zi_133_9 : z_ins 133 9 = some (.putfield 124, 3) := by decide +kernel
theorem ze_133_9 : z_T g d 133 9 ls (.int x :: .ref a :: st) h P = z_pF h.1 a 10 19 (.int x) (fun f => z_T g d 133 12 ls st (f, h.2) P) := zt_putI zi_133_9 ((congrArg (fun o => z_fl o 124) zo_133).trans zf_LatinRectanglesModel_124)
theorem zi_133_12 : z_ins 133 12 = some (.aload_n 0, 1) := by decide +kernel
theorem ze_133_12 : z_T g d 133 12 (.ref a :: ls) st h P = z_T g d 133 13 (.ref a :: ls) (.ref a :: st) h P := zt_aloadn zi_133_12 rfl rfl
theorem zi_133_13 : z_ins 133 13 = some (.aload_n 0, 1) := by decide +kernel
theorem ze_133_13 : z_T g d 133 13 (.ref a :: ls) st h P = z_T g d 133 14 (.ref a :: ls) (.ref a :: st) h P := zt_aloadn zi_133_13 rfl rfl
theorem zi_133_14 : z_ins 133 14 = some (.getfield 102, 3) := by decide +kernel
theorem ze_133_14 : z_T g d 133 14 ls (.ref a :: st) h P = z_gI h.1 a 10 15 (fun x => z_T g d 133 17 ls (.int x :: st) h P) := zt_getI zi_133_14 ((congrArg (fun o => z_fl o 102) zo_133).trans zf_LatinRectanglesModel_102)
theorem zi_133_17 : z_ins 133 17 = some (.putfield 29, 3) := by decide +kernel
theorem ze_133_17 : z_T g d 133 17 ls (.int x :: .ref a :: st) h P = z_pF h.1 a 10 20 (.int x) (fun f => z_T g d 133 20 ls st (f, h.2) P) := zt_putI zi_133_17 ((congrArg (fun o => z_fl o 29) zo_133).trans zf_LatinRectanglesModel_29)
theorem zi_133_20 : z_ins 133 20 = some (.iconst 0, 1) := by decide +kernel
theorem ze_133_20 : z_T g d 133 20 ls st h P = z_T g d 133 21 ls (.int (nI 0) :: st) h P := zt_iconst zi_133_20 rfl
theorem zi_133_21 : z_ins 133 21 = some (.ireturn, 1) := by decide +kernel
theorem ze_133_21 : z_T g d 133 21 ls [.int x] h P = ((x = nI 0 ∨ x = nI 1) ∧ P (.inr (some (.int x)), h)) := zt_zreturn zi_133_21 zr_133
-- LatinRectanglesModel.takes(II)Z
theorem zo_134 : z_own 134 = "LatinRectanglesModel" := by decide +kernel
theorem zm_134 : z_maxL 134 = 3 := by decide +kernel
theorem zh_134 : z_hds 134 = [] := by decide +kernel
theorem zr_134 : z_rt 134 = (some .boolean) := by decide +kernel
theorem zn_134 : z_Ca g d 134 [.ref a0, .int x1, .int x2] h P = z_T g d 134 0 [.ref a0, .int x1, .int x2] [] h P := z_Ca_ent zm_134 rfl rfl
theorem zi_134_0 : z_ins 134 0 = some (.aload_n 0, 1) := by decide +kernel
theorem ze_134_0 : z_T g d 134 0 (.ref a :: ls) st h P = z_T g d 134 1 (.ref a :: ls) (.ref a :: st) h P := zt_aloadn zi_134_0 rfl rfl
theorem zi_134_1 : z_ins 134 1 = some (.getfield 108, 3) := by decide +kernel
theorem ze_134_1 : z_T g d 134 1 ls (.ref a :: st) h P = z_gI h.1 a 10 17 (fun x => z_T g d 134 4 ls (.int x :: st) h P) := zt_getI zi_134_1 ((congrArg (fun o => z_fl o 108) zo_134).trans zf_LatinRectanglesModel_108)
theorem zi_134_4 : z_ins 134 4 = some (.iconst 2, 1) := by decide +kernel
theorem ze_134_4 : z_T g d 134 4 ls st h P = z_T g d 134 5 ls (.int (nI 2) :: st) h P := zt_iconst zi_134_4 rfl
theorem zi_134_5 : z_ins 134 5 = some (.if_icmp .eq 9, 3) := by decide +kernel
theorem ze_134_5 : z_T g d 134 5 ls (.int y :: .int x :: st) h P = (if x = y then z_T g d 134 14 ls st h P else z_T g d 134 8 ls st h P) := zt_icmpeq zi_134_5 (by decide)
theorem zi_134_8 : z_ins 134 8 = some (.aload_n 0, 1) := by decide +kernel
theorem ze_134_8 : z_T g d 134 8 (.ref a :: ls) st h P = z_T g d 134 9 (.ref a :: ls) (.ref a :: st) h P := zt_aloadn zi_134_8 rfl rfl
theorem zi_134_9 : z_ins 134 9 = some (.iconst 1, 1) := by decide +kernel
theorem ze_134_9 : z_T g d 134 9 ls st h P = z_T g d 134 10 ls (.int (nI 1) :: st) h P := zt_iconst zi_134_9 rfl
theorem zi_134_10 : z_ins 134 10 = some (.invokevirtual 127, 3) := by decide +kernel
theorem ze_134_10 : z_T g d 134 10 ls (.int x0 :: .ref a :: st) h P = ((z_okS 8 st = true ∧ z_gO h.1 a 10 ∧ 0 < d) ∧ z_Ca g (d - 1) 133 [.ref a, .int x0] h (fun r => z_k r (fun v h' => z_T g d 134 13 ls (z_push v st) h' P) P)) := zt_callV (as := [.int x0]) zi_134_10 ((congrArg (fun o => z_lookup z_prs (o, 127)) zo_134).trans zp_LatinRectanglesModel_127) ((congrArg (fun o => z_clk o 127) zo_134).trans zk_LatinRectanglesModel_127) zh_134 zc_133 rfl rfl rfl
theorem zi_134_13 : z_ins 134 13 = some (.ireturn, 1) := by decide +kernel
theorem ze_134_13 : z_T g d 134 13 ls [.int x] h P = ((x = nI 0 ∨ x = nI 1) ∧ P (.inr (some (.int x)), h)) := zt_zreturn zi_134_13 zr_134
theorem zi_134_14 : z_ins 134 14 = some (.aload_n 0, 1) := by decide +kernel
theorem ze_134_14 : z_T g d 134 14 (.ref a :: ls) st h P = z_T g d 134 15 (.ref a :: ls) (.ref a :: st) h P := zt_aloadn zi_134_14 rfl rfl
theorem zi_134_15 : z_ins 134 15 = some (.getfield 105, 3) := by decide +kernel
theorem ze_134_15 : z_T g d 134 15 ls (.ref a :: st) h P = z_gI h.1 a 10 18 (fun x => z_T g d 134 18 ls (.int x :: st) h P) := zt_getI zi_134_15 ((congrArg (fun o => z_fl o 105) zo_134).trans zf_LatinRectanglesModel_105)
theorem zi_134_18 : z_ins 134 18 = some (.iload_n 1, 1) := by decide +kernel
theorem ze_134_18 : z_T g d 134 18 (v0 :: .int x :: ls) st h P = z_T g d 134 19 (v0 :: .int x :: ls) (.int x :: st) h P := zt_iloadn zi_134_18 rfl rfl
theorem zi_134_19 : z_ins 134 19 = some (.iload_n 2, 1) := by decide +kernel
theorem ze_134_19 : z_T g d 134 19 (v0 :: v1 :: .int x :: ls) st h P = z_T g d 134 20 (v0 :: v1 :: .int x :: ls) (.int x :: st) h P := zt_iloadn zi_134_19 rfl rfl
theorem zi_134_20 : z_ins 134 20 = some (.invokestatic 111, 3) := by decide +kernel
theorem ze_134_20 : z_T g d 134 20 ls (.int x2 :: .int x1 :: .int x0 :: st) h P = ((z_okS 8 st = true ∧ 0 < d) ∧ z_Ca g (d - 1) 122 [.int x0, .int x1, .int x2] h (fun r => z_k r (fun v h' => z_T g d 134 23 ls (z_push v st) h' P) P)) := zt_callS0 (as := [.int x0, .int x1, .int x2]) zi_134_20 ((congrArg (fun o => z_lookup z_prs (o, 111)) zo_134).trans zp_LatinRectanglesModel_111) ((congrArg (fun o => z_clk o 111) zo_134).trans zk_LatinRectanglesModel_111) zh_134 rfl rfl rfl
theorem zi_134_23 : z_ins 134 23 = some (.ifCond .ne 9, 3) := by decide +kernel
theorem ze_134_23 : z_T g d 134 23 ls (.int x :: st) h P = (if x = nI 0 then z_T g d 134 26 ls st h P else z_T g d 134 32 ls st h P) := zt_ifne zi_134_23 (by decide)
theorem zi_134_26 : z_ins 134 26 = some (.aload_n 0, 1) := by decide +kernel
theorem ze_134_26 : z_T g d 134 26 (.ref a :: ls) st h P = z_T g d 134 27 (.ref a :: ls) (.ref a :: st) h P := zt_aloadn zi_134_26 rfl rfl
theorem zi_134_27 : z_ins 134 27 = some (.iconst 3, 1) := by decide +kernel
theorem ze_134_27 : z_T g d 134 27 ls st h P = z_T g d 134 28 ls (.int (nI 3) :: st) h P := zt_iconst zi_134_27 rfl
theorem zi_134_28 : z_ins 134 28 = some (.invokevirtual 127, 3) := by decide +kernel
theorem ze_134_28 : z_T g d 134 28 ls (.int x0 :: .ref a :: st) h P = ((z_okS 8 st = true ∧ z_gO h.1 a 10 ∧ 0 < d) ∧ z_Ca g (d - 1) 133 [.ref a, .int x0] h (fun r => z_k r (fun v h' => z_T g d 134 31 ls (z_push v st) h' P) P)) := zt_callV (as := [.int x0]) zi_134_28 ((congrArg (fun o => z_lookup z_prs (o, 127)) zo_134).trans zp_LatinRectanglesModel_127) ((congrArg (fun o => z_clk o 127) zo_134).trans zk_LatinRectanglesModel_127) zh_134 zc_133 rfl rfl rfl
theorem zi_134_31 : z_ins 134 31 = some (.ireturn, 1) := by decide +kernel
theorem ze_134_31 : z_T g d 134 31 ls [.int x] h P = ((x = nI 0 ∨ x = nI 1) ∧ P (.inr (some (.int x)), h)) := zt_zreturn zi_134_31 zr_134
theorem zi_134_32 : z_ins 134 32 = some (.aload_n 0, 1) := by decide +kernel
theorem ze_134_32 : z_T g d 134 32 (.ref a :: ls) st h P = z_T g d 134 33 (.ref a :: ls) (.ref a :: st) h P := zt_aloadn zi_134_32 rfl rfl
theorem zi_134_33 : z_ins 134 33 = some (.aload_n 0, 1) := by decide +kernel
theorem ze_134_33 : z_T g d 134 33 (.ref a :: ls) st h P = z_T g d 134 34 (.ref a :: ls) (.ref a :: st) h P := zt_aloadn zi_134_33 rfl rfl
theorem zi_134_34 : z_ins 134 34 = some (.getfield 105, 3) := by decide +kernel
theorem ze_134_34 : z_T g d 134 34 ls (.ref a :: st) h P = z_gI h.1 a 10 18 (fun x => z_T g d 134 37 ls (.int x :: st) h P) := zt_getI zi_134_34 ((congrArg (fun o => z_fl o 105) zo_134).trans zf_LatinRectanglesModel_105)
theorem zi_134_37 : z_ins 134 37 = some (.putfield 131, 3) := by decide +kernel
theorem ze_134_37 : z_T g d 134 37 ls (.int x :: .ref a :: st) h P = z_pF h.1 a 10 21 (.int x) (fun f => z_T g d 134 40 ls st (f, h.2) P) := zt_putI zi_134_37 ((congrArg (fun o => z_fl o 131) zo_134).trans zf_LatinRectanglesModel_131)
theorem zi_134_40 : z_ins 134 40 = some (.aload_n 0, 1) := by decide +kernel
theorem ze_134_40 : z_T g d 134 40 (.ref a :: ls) st h P = z_T g d 134 41 (.ref a :: ls) (.ref a :: st) h P := zt_aloadn zi_134_40 rfl rfl
theorem zi_134_41 : z_ins 134 41 = some (.invokevirtual 134, 3) := by decide +kernel
theorem ze_134_41 : z_T g d 134 41 ls (.ref a :: st) h P = ((z_okS 8 st = true ∧ z_gO h.1 a 10 ∧ 0 < d) ∧ z_Ca g (d - 1) 131 [.ref a] h (fun r => z_k r (fun v h' => z_T g d 134 44 ls (z_push v st) h' P) P)) := zt_callV (as := []) zi_134_41 ((congrArg (fun o => z_lookup z_prs (o, 134)) zo_134).trans zp_LatinRectanglesModel_134) ((congrArg (fun o => z_clk o 134) zo_134).trans zk_LatinRectanglesModel_134) zh_134 zc_131 rfl rfl rfl
theorem zi_134_44 : z_ins 134 44 = some (.iconst 1, 1) := by decide +kernel
theorem ze_134_44 : z_T g d 134 44 ls st h P = z_T g d 134 45 ls (.int (nI 1) :: st) h P := zt_iconst zi_134_44 rfl
theorem zi_134_45 : z_ins 134 45 = some (.ireturn, 1) := by decide +kernel
theorem ze_134_45 : z_T g d 134 45 ls [.int x] h P = ((x = nI 0 ∨ x = nI 1) ∧ P (.inr (some (.int x)), h)) := zt_zreturn zi_134_45 zr_134
-- LatinRectanglesModel.closes()Z
theorem zo_135 : z_own 135 = "LatinRectanglesModel" := by decide +kernel
theorem zm_135 : z_maxL 135 = 1 := by decide +kernel
theorem zh_135 : z_hds 135 = [] := by decide +kernel
theorem zr_135 : z_rt 135 = (some .boolean) := by decide +kernel
theorem zn_135 : z_Ca g d 135 [.ref a0] h P = z_T g d 135 0 [.ref a0] [] h P := z_Ca_ent zm_135 rfl rfl
theorem zi_135_0 : z_ins 135 0 = some (.aload_n 0, 1) := by decide +kernel
theorem ze_135_0 : z_T g d 135 0 (.ref a :: ls) st h P = z_T g d 135 1 (.ref a :: ls) (.ref a :: st) h P := zt_aloadn zi_135_0 rfl rfl
theorem zi_135_1 : z_ins 135 1 = some (.getfield 108, 3) := by decide +kernel
theorem ze_135_1 : z_T g d 135 1 ls (.ref a :: st) h P = z_gI h.1 a 10 17 (fun x => z_T g d 135 4 ls (.int x :: st) h P) := zt_getI zi_135_1 ((congrArg (fun o => z_fl o 108) zo_135).trans zf_LatinRectanglesModel_108)
theorem zi_135_4 : z_ins 135 4 = some (.iconst 3, 1) := by decide +kernel
theorem ze_135_4 : z_T g d 135 4 ls st h P = z_T g d 135 5 ls (.int (nI 3) :: st) h P := zt_iconst zi_135_4 rfl
theorem zi_135_5 : z_ins 135 5 = some (.if_icmp .eq 9, 3) := by decide +kernel
theorem ze_135_5 : z_T g d 135 5 ls (.int y :: .int x :: st) h P = (if x = y then z_T g d 135 14 ls st h P else z_T g d 135 8 ls st h P) := zt_icmpeq zi_135_5 (by decide)
theorem zi_135_8 : z_ins 135 8 = some (.aload_n 0, 1) := by decide +kernel
theorem ze_135_8 : z_T g d 135 8 (.ref a :: ls) st h P = z_T g d 135 9 (.ref a :: ls) (.ref a :: st) h P := zt_aloadn zi_135_8 rfl rfl
theorem zi_135_9 : z_ins 135 9 = some (.iconst 1, 1) := by decide +kernel
theorem ze_135_9 : z_T g d 135 9 ls st h P = z_T g d 135 10 ls (.int (nI 1) :: st) h P := zt_iconst zi_135_9 rfl
theorem zi_135_10 : z_ins 135 10 = some (.invokevirtual 127, 3) := by decide +kernel
theorem ze_135_10 : z_T g d 135 10 ls (.int x0 :: .ref a :: st) h P = ((z_okS 8 st = true ∧ z_gO h.1 a 10 ∧ 0 < d) ∧ z_Ca g (d - 1) 133 [.ref a, .int x0] h (fun r => z_k r (fun v h' => z_T g d 135 13 ls (z_push v st) h' P) P)) := zt_callV (as := [.int x0]) zi_135_10 ((congrArg (fun o => z_lookup z_prs (o, 127)) zo_135).trans zp_LatinRectanglesModel_127) ((congrArg (fun o => z_clk o 127) zo_135).trans zk_LatinRectanglesModel_127) zh_135 zc_133 rfl rfl rfl
theorem zi_135_13 : z_ins 135 13 = some (.ireturn, 1) := by decide +kernel
theorem ze_135_13 : z_T g d 135 13 ls [.int x] h P = ((x = nI 0 ∨ x = nI 1) ∧ P (.inr (some (.int x)), h)) := zt_zreturn zi_135_13 zr_135
theorem zi_135_14 : z_ins 135 14 = some (.aload_n 0, 1) := by decide +kernel
theorem ze_135_14 : z_T g d 135 14 (.ref a :: ls) st h P = z_T g d 135 15 (.ref a :: ls) (.ref a :: st) h P := zt_aloadn zi_135_14 rfl rfl
theorem zi_135_15 : z_ins 135 15 = some (.invokevirtual 134, 3) := by decide +kernel
theorem ze_135_15 : z_T g d 135 15 ls (.ref a :: st) h P = ((z_okS 8 st = true ∧ z_gO h.1 a 10 ∧ 0 < d) ∧ z_Ca g (d - 1) 131 [.ref a] h (fun r => z_k r (fun v h' => z_T g d 135 18 ls (z_push v st) h' P) P)) := zt_callV (as := []) zi_135_15 ((congrArg (fun o => z_lookup z_prs (o, 134)) zo_135).trans zp_LatinRectanglesModel_134) ((congrArg (fun o => z_clk o 134) zo_135).trans zk_LatinRectanglesModel_134) zh_135 zc_131 rfl rfl rfl
theorem zi_135_18 : z_ins 135 18 = some (.iconst 1, 1) := by decide +kernel
theorem ze_135_18 : z_T g d 135 18 ls st h P = z_T g d 135 19 ls (.int (nI 1) :: st) h P := zt_iconst zi_135_18 rfl
theorem zi_135_19 : z_ins 135 19 = some (.ireturn, 1) := by decide +kernel
theorem ze_135_19 : z_T g d 135 19 ls [.int x] h P = ((x = nI 0 ∨ x = nI 1) ∧ P (.inr (some (.int x)), h)) := zt_zreturn zi_135_19 zr_135
-- LatinRectanglesModel.heading()Z
theorem zo_136 : z_own 136 = "LatinRectanglesModel" := by decide +kernel
theorem zm_136 : z_maxL 136 = 1 := by decide +kernel
theorem zh_136 : z_hds 136 = [] := by decide +kernel
theorem zr_136 : z_rt 136 = (some .boolean) := by decide +kernel
theorem zn_136 : z_Ca g d 136 [.ref a0] h P = z_T g d 136 0 [.ref a0] [] h P := z_Ca_ent zm_136 rfl rfl
theorem zi_136_0 : z_ins 136 0 = some (.aload_n 0, 1) := by decide +kernel
theorem ze_136_0 : z_T g d 136 0 (.ref a :: ls) st h P = z_T g d 136 1 (.ref a :: ls) (.ref a :: st) h P := zt_aloadn zi_136_0 rfl rfl
theorem zi_136_1 : z_ins 136 1 = some (.ldc 137, 2) := by decide +kernel
theorem ze_136_1 : z_T g d 136 1 ls st h P = z_T g d 136 3 ls (.retAddr 0 :: st) h P := zt_ldc zi_136_1 (by decide +kernel)
theorem zi_136_3 : z_ins 136 3 = some (.invokevirtual 139, 3) := by decide +kernel
theorem ze_136_3 : z_T g d 136 3 ls (.retAddr k0 :: .ref a :: st) h P = ((z_okS 8 st = true ∧ z_gO h.1 a 10 ∧ 0 < d) ∧ z_Ca g (d - 1) 132 [.ref a, .retAddr k0] h (fun r => z_k r (fun v h' => z_T g d 136 6 ls (z_push v st) h' P) P)) := zt_callV (as := [.retAddr k0]) zi_136_3 ((congrArg (fun o => z_lookup z_prs (o, 139)) zo_136).trans zp_LatinRectanglesModel_139) ((congrArg (fun o => z_clk o 139) zo_136).trans zk_LatinRectanglesModel_139) zh_136 zc_132 rfl rfl rfl
theorem zi_136_6 : z_ins 136 6 = some (.ifCond .ne 9, 3) := by decide +kernel
theorem ze_136_6 : z_T g d 136 6 ls (.int x :: st) h P = (if x = nI 0 then z_T g d 136 9 ls st h P else z_T g d 136 15 ls st h P) := zt_ifne zi_136_6 (by decide)
theorem zi_136_9 : z_ins 136 9 = some (.aload_n 0, 1) := by decide +kernel
theorem ze_136_9 : z_T g d 136 9 (.ref a :: ls) st h P = z_T g d 136 10 (.ref a :: ls) (.ref a :: st) h P := zt_aloadn zi_136_9 rfl rfl
theorem zi_136_10 : z_ins 136 10 = some (.iconst 1, 1) := by decide +kernel
theorem ze_136_10 : z_T g d 136 10 ls st h P = z_T g d 136 11 ls (.int (nI 1) :: st) h P := zt_iconst zi_136_10 rfl
theorem zi_136_11 : z_ins 136 11 = some (.invokevirtual 127, 3) := by decide +kernel
theorem ze_136_11 : z_T g d 136 11 ls (.int x0 :: .ref a :: st) h P = ((z_okS 8 st = true ∧ z_gO h.1 a 10 ∧ 0 < d) ∧ z_Ca g (d - 1) 133 [.ref a, .int x0] h (fun r => z_k r (fun v h' => z_T g d 136 14 ls (z_push v st) h' P) P)) := zt_callV (as := [.int x0]) zi_136_11 ((congrArg (fun o => z_lookup z_prs (o, 127)) zo_136).trans zp_LatinRectanglesModel_127) ((congrArg (fun o => z_clk o 127) zo_136).trans zk_LatinRectanglesModel_127) zh_136 zc_133 rfl rfl rfl
theorem zi_136_14 : z_ins 136 14 = some (.ireturn, 1) := by decide +kernel
theorem ze_136_14 : z_T g d 136 14 ls [.int x] h P = ((x = nI 0 ∨ x = nI 1) ∧ P (.inr (some (.int x)), h)) := zt_zreturn zi_136_14 zr_136
theorem zi_136_15 : z_ins 136 15 = some (.aload_n 0, 1) := by decide +kernel
theorem ze_136_15 : z_T g d 136 15 (.ref a :: ls) st h P = z_T g d 136 16 (.ref a :: ls) (.ref a :: st) h P := zt_aloadn zi_136_15 rfl rfl
theorem zi_136_16 : z_ins 136 16 = some (.invokevirtual 134, 3) := by decide +kernel
theorem ze_136_16 : z_T g d 136 16 ls (.ref a :: st) h P = ((z_okS 8 st = true ∧ z_gO h.1 a 10 ∧ 0 < d) ∧ z_Ca g (d - 1) 131 [.ref a] h (fun r => z_k r (fun v h' => z_T g d 136 19 ls (z_push v st) h' P) P)) := zt_callV (as := []) zi_136_16 ((congrArg (fun o => z_lookup z_prs (o, 134)) zo_136).trans zp_LatinRectanglesModel_134) ((congrArg (fun o => z_clk o 134) zo_136).trans zk_LatinRectanglesModel_134) zh_136 zc_131 rfl rfl rfl
theorem zi_136_19 : z_ins 136 19 = some (.aload_n 0, 1) := by decide +kernel
theorem ze_136_19 : z_T g d 136 19 (.ref a :: ls) st h P = z_T g d 136 20 (.ref a :: ls) (.ref a :: st) h P := zt_aloadn zi_136_19 rfl rfl
theorem zi_136_20 : z_ins 136 20 = some (.iconst 1, 1) := by decide +kernel
theorem ze_136_20 : z_T g d 136 20 ls st h P = z_T g d 136 21 ls (.int (nI 1) :: st) h P := zt_iconst zi_136_20 rfl
theorem zi_136_21 : z_ins 136 21 = some (.iconst 5, 1) := by decide +kernel
theorem ze_136_21 : z_T g d 136 21 ls st h P = z_T g d 136 22 ls (.int (nI 5) :: st) h P := zt_iconst zi_136_21 rfl
theorem zi_136_22 : z_ins 136 22 = some (.invokevirtual 143, 3) := by decide +kernel
theorem ze_136_22 : z_T g d 136 22 ls (.int x1 :: .int x0 :: .ref a :: st) h P = ((z_okS 8 st = true ∧ z_gO h.1 a 10 ∧ 0 < d) ∧ z_Ca g (d - 1) 134 [.ref a, .int x0, .int x1] h (fun r => z_k r (fun v h' => z_T g d 136 25 ls (z_push v st) h' P) P)) := zt_callV (as := [.int x0, .int x1]) zi_136_22 ((congrArg (fun o => z_lookup z_prs (o, 143)) zo_136).trans zp_LatinRectanglesModel_143) ((congrArg (fun o => z_clk o 143) zo_136).trans zk_LatinRectanglesModel_143) zh_136 zc_134 rfl rfl rfl
theorem zi_136_25 : z_ins 136 25 = some (.ifCond .ne 5, 3) := by decide +kernel
theorem ze_136_25 : z_T g d 136 25 ls (.int x :: st) h P = (if x = nI 0 then z_T g d 136 28 ls st h P else z_T g d 136 30 ls st h P) := zt_ifne zi_136_25 (by decide)
theorem zi_136_28 : z_ins 136 28 = some (.iconst 0, 1) := by decide +kernel
theorem ze_136_28 : z_T g d 136 28 ls st h P = z_T g d 136 29 ls (.int (nI 0) :: st) h P := zt_iconst zi_136_28 rfl
theorem zi_136_29 : z_ins 136 29 = some (.ireturn, 1) := by decide +kernel
theorem ze_136_29 : z_T g d 136 29 ls [.int x] h P = ((x = nI 0 ∨ x = nI 1) ∧ P (.inr (some (.int x)), h)) := zt_zreturn zi_136_29 zr_136
theorem zi_136_30 : z_ins 136 30 = some (.aload_n 0, 1) := by decide +kernel
theorem ze_136_30 : z_T g d 136 30 (.ref a :: ls) st h P = z_T g d 136 31 (.ref a :: ls) (.ref a :: st) h P := zt_aloadn zi_136_30 rfl rfl
theorem zi_136_31 : z_ins 136 31 = some (.aload_n 0, 1) := by decide +kernel
theorem ze_136_31 : z_T g d 136 31 (.ref a :: ls) st h P = z_T g d 136 32 (.ref a :: ls) (.ref a :: st) h P := zt_aloadn zi_136_31 rfl rfl
theorem zi_136_32 : z_ins 136 32 = some (.getfield 131, 3) := by decide +kernel
theorem ze_136_32 : z_T g d 136 32 ls (.ref a :: st) h P = z_gI h.1 a 10 21 (fun x => z_T g d 136 35 ls (.int x :: st) h P) := zt_getI zi_136_32 ((congrArg (fun o => z_fl o 131) zo_136).trans zf_LatinRectanglesModel_131)
theorem zi_136_35 : z_ins 136 35 = some (.putfield 55, 3) := by decide +kernel
theorem ze_136_35 : z_T g d 136 35 ls (.int x :: .ref a :: st) h P = z_pF h.1 a 10 4 (.int x) (fun f => z_T g d 136 38 ls st (f, h.2) P) := zt_putI zi_136_35 ((congrArg (fun o => z_fl o 55) zo_136).trans zf_LatinRectanglesModel_55)
theorem zi_136_38 : z_ins 136 38 = some (.aload_n 0, 1) := by decide +kernel
theorem ze_136_38 : z_T g d 136 38 (.ref a :: ls) st h P = z_T g d 136 39 (.ref a :: ls) (.ref a :: st) h P := zt_aloadn zi_136_38 rfl rfl
theorem zi_136_39 : z_ins 136 39 = some (.aload_n 0, 1) := by decide +kernel
theorem ze_136_39 : z_T g d 136 39 (.ref a :: ls) st h P = z_T g d 136 40 (.ref a :: ls) (.ref a :: st) h P := zt_aloadn zi_136_39 rfl rfl
theorem zi_136_40 : z_ins 136 40 = some (.getfield 131, 3) := by decide +kernel
theorem ze_136_40 : z_T g d 136 40 ls (.ref a :: st) h P = z_gI h.1 a 10 21 (fun x => z_T g d 136 43 ls (.int x :: st) h P) := zt_getI zi_136_40 ((congrArg (fun o => z_fl o 131) zo_136).trans zf_LatinRectanglesModel_131)
theorem zi_136_43 : z_ins 136 43 = some (.iconst 2, 1) := by decide +kernel
theorem ze_136_43 : z_T g d 136 43 ls st h P = z_T g d 136 44 ls (.int (nI 2) :: st) h P := zt_iconst zi_136_43 rfl
theorem zi_136_44 : z_ins 136 44 = some (.if_icmp .ge 7, 3) := by decide +kernel
theorem ze_136_44 : z_T g d 136 44 ls (.int y :: .int x :: st) h P = (if x < y then z_T g d 136 47 ls st h P else z_T g d 136 51 ls st h P) := zt_icmpge zi_136_44 (by decide)
theorem zi_136_47 : z_ins 136 47 = some (.iconst 2, 1) := by decide +kernel
theorem ze_136_47 : z_T g d 136 47 ls st h P = z_T g d 136 48 ls (.int (nI 2) :: st) h P := zt_iconst zi_136_47 rfl
theorem zi_136_48 : z_ins 136 48 = some (.goto 7, 3) := by decide +kernel
theorem ze_136_48 : z_T g d 136 48 ls st h P = z_T g d 136 55 ls st h P := zt_goto zi_136_48 (by decide)
theorem zi_136_51 : z_ins 136 51 = some (.aload_n 0, 1) := by decide +kernel
theorem ze_136_51 : z_T g d 136 51 (.ref a :: ls) st h P = z_T g d 136 52 (.ref a :: ls) (.ref a :: st) h P := zt_aloadn zi_136_51 rfl rfl
theorem zi_136_52 : z_ins 136 52 = some (.getfield 131, 3) := by decide +kernel
theorem ze_136_52 : z_T g d 136 52 ls (.ref a :: st) h P = z_gI h.1 a 10 21 (fun x => z_T g d 136 55 ls (.int x :: st) h P) := zt_getI zi_136_52 ((congrArg (fun o => z_fl o 131) zo_136).trans zf_LatinRectanglesModel_131)
theorem zi_136_55 : z_ins 136 55 = some (.iconst 5, 1) := by decide +kernel
theorem ze_136_55 : z_T g d 136 55 ls st h P = z_T g d 136 56 ls (.int (nI 5) :: st) h P := zt_iconst zi_136_55 rfl
theorem zi_136_56 : z_ins 136 56 = some (.invokevirtual 143, 3) := by decide +kernel
theorem ze_136_56 : z_T g d 136 56 ls (.int x1 :: .int x0 :: .ref a :: st) h P = ((z_okS 8 st = true ∧ z_gO h.1 a 10 ∧ 0 < d) ∧ z_Ca g (d - 1) 134 [.ref a, .int x0, .int x1] h (fun r => z_k r (fun v h' => z_T g d 136 59 ls (z_push v st) h' P) P)) := zt_callV (as := [.int x0, .int x1]) zi_136_56 ((congrArg (fun o => z_lookup z_prs (o, 143)) zo_136).trans zp_LatinRectanglesModel_143) ((congrArg (fun o => z_clk o 143) zo_136).trans zk_LatinRectanglesModel_143) zh_136 zc_134 rfl rfl rfl
theorem zi_136_59 : z_ins 136 59 = some (.ifCond .ne 5, 3) := by decide +kernel
theorem ze_136_59 : z_T g d 136 59 ls (.int x :: st) h P = (if x = nI 0 then z_T g d 136 62 ls st h P else z_T g d 136 64 ls st h P) := zt_ifne zi_136_59 (by decide)
theorem zi_136_62 : z_ins 136 62 = some (.iconst 0, 1) := by decide +kernel
theorem ze_136_62 : z_T g d 136 62 ls st h P = z_T g d 136 63 ls (.int (nI 0) :: st) h P := zt_iconst zi_136_62 rfl
theorem zi_136_63 : z_ins 136 63 = some (.ireturn, 1) := by decide +kernel
theorem ze_136_63 : z_T g d 136 63 ls [.int x] h P = ((x = nI 0 ∨ x = nI 1) ∧ P (.inr (some (.int x)), h)) := zt_zreturn zi_136_63 zr_136
theorem zi_136_64 : z_ins 136 64 = some (.aload_n 0, 1) := by decide +kernel
theorem ze_136_64 : z_T g d 136 64 (.ref a :: ls) st h P = z_T g d 136 65 (.ref a :: ls) (.ref a :: st) h P := zt_aloadn zi_136_64 rfl rfl
theorem zi_136_65 : z_ins 136 65 = some (.aload_n 0, 1) := by decide +kernel
theorem ze_136_65 : z_T g d 136 65 (.ref a :: ls) st h P = z_T g d 136 66 (.ref a :: ls) (.ref a :: st) h P := zt_aloadn zi_136_65 rfl rfl
theorem zi_136_66 : z_ins 136 66 = some (.getfield 131, 3) := by decide +kernel
theorem ze_136_66 : z_T g d 136 66 ls (.ref a :: st) h P = z_gI h.1 a 10 21 (fun x => z_T g d 136 69 ls (.int x :: st) h P) := zt_getI zi_136_66 ((congrArg (fun o => z_fl o 131) zo_136).trans zf_LatinRectanglesModel_131)
theorem zi_136_69 : z_ins 136 69 = some (.putfield 58, 3) := by decide +kernel
theorem ze_136_69 : z_T g d 136 69 ls (.int x :: .ref a :: st) h P = z_pF h.1 a 10 5 (.int x) (fun f => z_T g d 136 72 ls st (f, h.2) P) := zt_putI zi_136_69 ((congrArg (fun o => z_fl o 58) zo_136).trans zf_LatinRectanglesModel_58)
theorem zi_136_72 : z_ins 136 72 = some (.aload_n 0, 1) := by decide +kernel
theorem ze_136_72 : z_T g d 136 72 (.ref a :: ls) st h P = z_T g d 136 73 (.ref a :: ls) (.ref a :: st) h P := zt_aloadn zi_136_72 rfl rfl
theorem zi_136_73 : z_ins 136 73 = some (.invokevirtual 147, 3) := by decide +kernel
theorem ze_136_73 : z_T g d 136 73 ls (.ref a :: st) h P = ((z_okS 8 st = true ∧ z_gO h.1 a 10 ∧ 0 < d) ∧ z_Ca g (d - 1) 135 [.ref a] h (fun r => z_k r (fun v h' => z_T g d 136 76 ls (z_push v st) h' P) P)) := zt_callV (as := []) zi_136_73 ((congrArg (fun o => z_lookup z_prs (o, 147)) zo_136).trans zp_LatinRectanglesModel_147) ((congrArg (fun o => z_clk o 147) zo_136).trans zk_LatinRectanglesModel_147) zh_136 zc_135 rfl rfl rfl
theorem zi_136_76 : z_ins 136 76 = some (.ireturn, 1) := by decide +kernel
theorem ze_136_76 : z_T g d 136 76 ls [.int x] h P = ((x = nI 0 ∨ x = nI 1) ∧ P (.inr (some (.int x)), h)) := zt_zreturn zi_136_76 zr_136
-- LatinRectanglesModel.clashes(III)Z
theorem zo_137 : z_own 137 = "LatinRectanglesModel" := by decide +kernel
theorem zm_137 : z_maxL 137 = 6 := by decide +kernel
theorem zh_137 : z_hds 137 = [] := by decide +kernel
theorem zr_137 : z_rt 137 = (some .boolean) := by decide +kernel
theorem zn_137 : z_Ca g d 137 [.ref a0, .int x1, .int x2, .int x3] h P = z_T g d 137 0 [.ref a0, .int x1, .int x2, .int x3, z_un, z_un] [] h P := z_Ca_ent zm_137 rfl rfl
theorem zi_137_0 : z_ins 137 0 = some (.aload_n 0, 1) := by decide +kernel
theorem ze_137_0 : z_T g d 137 0 (.ref a :: ls) st h P = z_T g d 137 1 (.ref a :: ls) (.ref a :: st) h P := zt_aloadn zi_137_0 rfl rfl
theorem zi_137_1 : z_ins 137 1 = some (.getfield 19, 3) := by decide +kernel
theorem ze_137_1 : z_T g d 137 1 ls (.ref a :: st) h P = z_gR h.1 a 10 10 (fun x => z_T g d 137 4 ls (.ref x :: st) h P) := zt_getR zi_137_1 ((congrArg (fun o => z_fl o 19) zo_137).trans zf_LatinRectanglesModel_19)
theorem zi_137_4 : z_ins 137 4 = some (.iload_n 1, 1) := by decide +kernel
theorem ze_137_4 : z_T g d 137 4 (v0 :: .int x :: ls) st h P = z_T g d 137 5 (v0 :: .int x :: ls) (.int x :: st) h P := zt_iloadn zi_137_4 rfl rfl
theorem zi_137_5 : z_ins 137 5 = some (.iload_n 2, 1) := by decide +kernel
theorem ze_137_5 : z_T g d 137 5 (v0 :: v1 :: .int x :: ls) st h P = z_T g d 137 6 (v0 :: v1 :: .int x :: ls) (.int x :: st) h P := zt_iloadn zi_137_5 rfl rfl
theorem zi_137_6 : z_ins 137 6 = some (.invokestatic 151, 3) := by decide +kernel
theorem ze_137_6 : z_T g d 137 6 ls (.int x1 :: .int x0 :: st) h P = ((z_okS 8 st = true ∧ 0 < d) ∧ z_Ca g (d - 1) 127 [.int x0, .int x1] h (fun r => z_k r (fun v h' => z_T g d 137 9 ls (z_push v st) h' P) P)) := zt_callS0 (as := [.int x0, .int x1]) zi_137_6 ((congrArg (fun o => z_lookup z_prs (o, 151)) zo_137).trans zp_LatinRectanglesModel_151) ((congrArg (fun o => z_clk o 151) zo_137).trans zk_LatinRectanglesModel_151) zh_137 rfl rfl rfl
theorem zi_137_9 : z_ins 137 9 = some (.iaload, 1) := by decide +kernel
theorem ze_137_9 : z_T g d 137 9 ls (.int x :: .ref a :: st) h P = z_aL h.1 a z_tI x (fun v => z_T g d 137 10 ls (.int v :: st) h P) := zt_iaload zi_137_9
theorem zi_137_10 : z_ins 137 10 = some (.iload_n 3, 1) := by decide +kernel
theorem ze_137_10 : z_T g d 137 10 (v0 :: v1 :: v2 :: .int x :: ls) st h P = z_T g d 137 11 (v0 :: v1 :: v2 :: .int x :: ls) (.int x :: st) h P := zt_iloadn zi_137_10 rfl rfl
theorem zi_137_11 : z_ins 137 11 = some (.ishr, 1) := by decide +kernel
theorem ze_137_11 : z_T g d 137 11 ls (.int y :: .int x :: st) h P = z_T g d 137 12 ls (.int (x >>> (y &&& 31)) :: st) h P := zt_bin (f := fun x y => x >>> (y &&& 31)) zi_137_11 rfl (fun _ _ _ => rfl)
theorem zi_137_12 : z_ins 137 12 = some (.iconst 1, 1) := by decide +kernel
theorem ze_137_12 : z_T g d 137 12 ls st h P = z_T g d 137 13 ls (.int (nI 1) :: st) h P := zt_iconst zi_137_12 rfl
theorem zi_137_13 : z_ins 137 13 = some (.iand, 1) := by decide +kernel
theorem ze_137_13 : z_T g d 137 13 ls (.int y :: .int x :: st) h P = z_T g d 137 14 ls (.int (x &&& y) :: st) h P := zt_bin (f := fun x y => x &&& y) zi_137_13 rfl (fun _ _ _ => rfl)
theorem zi_137_14 : z_ins 137 14 = some (.iconst 1, 1) := by decide +kernel
theorem ze_137_14 : z_T g d 137 14 ls st h P = z_T g d 137 15 ls (.int (nI 1) :: st) h P := zt_iconst zi_137_14 rfl
theorem zi_137_15 : z_ins 137 15 = some (.if_icmp .ne 7, 3) := by decide +kernel
theorem ze_137_15 : z_T g d 137 15 ls (.int y :: .int x :: st) h P = (if x = y then z_T g d 137 18 ls st h P else z_T g d 137 22 ls st h P) := zt_icmpne zi_137_15 (by decide)
theorem zi_137_18 : z_ins 137 18 = some (.iconst 1, 1) := by decide +kernel
theorem ze_137_18 : z_T g d 137 18 ls st h P = z_T g d 137 19 ls (.int (nI 1) :: st) h P := zt_iconst zi_137_18 rfl
theorem zi_137_19 : z_ins 137 19 = some (.goto 4, 3) := by decide +kernel
theorem ze_137_19 : z_T g d 137 19 ls st h P = z_T g d 137 23 ls st h P := zt_goto zi_137_19 (by decide)
theorem zi_137_22 : z_ins 137 22 = some (.iconst 0, 1) := by decide +kernel
theorem ze_137_22 : z_T g d 137 22 ls st h P = z_T g d 137 23 ls (.int (nI 0) :: st) h P := zt_iconst zi_137_22 rfl
theorem zi_137_23 : z_ins 137 23 = some (.istore 4, 2) := by decide +kernel
theorem ze_137_23 : z_T g d 137 23 (v0 :: v1 :: v2 :: v3 :: v4 :: ls) (.int x :: st) h P = z_T g d 137 25 (v0 :: v1 :: v2 :: v3 :: .int x :: ls) st h P := zt_istore zi_137_23 (Nat.le_add_left 5 _)
theorem zi_137_25 : z_ins 137 25 = some (.iconst 0, 1) := by decide +kernel
theorem ze_137_25 : z_T g d 137 25 ls st h P = z_T g d 137 26 ls (.int (nI 0) :: st) h P := zt_iconst zi_137_25 rfl
theorem zi_137_26 : z_ins 137 26 = some (.istore 5, 2) := by decide +kernel
theorem ze_137_26 : z_T g d 137 26 (v0 :: v1 :: v2 :: v3 :: v4 :: v5 :: ls) (.int x :: st) h P = z_T g d 137 28 (v0 :: v1 :: v2 :: v3 :: v4 :: .int x :: ls) st h P := zt_istore zi_137_26 (Nat.le_add_left 6 _)
theorem zi_137_28 : z_ins 137 28 = some (.iload 5, 2) := by decide +kernel
theorem ze_137_28 : z_T g d 137 28 (v0 :: v1 :: v2 :: v3 :: v4 :: .int x :: ls) st h P = z_T g d 137 30 (v0 :: v1 :: v2 :: v3 :: v4 :: .int x :: ls) (.int x :: st) h P := zt_iload zi_137_28 rfl
theorem zi_137_30 : z_ins 137 30 = some (.iconst 5, 1) := by decide +kernel
theorem ze_137_30 : z_T g d 137 30 ls st h P = z_T g d 137 31 ls (.int (nI 5) :: st) h P := zt_iconst zi_137_30 rfl
theorem zi_137_31 : z_ins 137 31 = some (.if_icmp .ge 51, 3) := by decide +kernel
theorem ze_137_31 : z_T g d 137 31 ls (.int y :: .int x :: st) h P = (if x < y then z_T g d 137 34 ls st h P else z_T g d 137 82 ls st h P) := zt_icmpge zi_137_31 (by decide)
theorem zi_137_34 : z_ins 137 34 = some (.iload 4, 2) := by decide +kernel
theorem ze_137_34 : z_T g d 137 34 (v0 :: v1 :: v2 :: v3 :: .int x :: ls) st h P = z_T g d 137 36 (v0 :: v1 :: v2 :: v3 :: .int x :: ls) (.int x :: st) h P := zt_iload zi_137_34 rfl
theorem zi_137_36 : z_ins 137 36 = some (.ifCond .ne 33, 3) := by decide +kernel
theorem ze_137_36 : z_T g d 137 36 ls (.int x :: st) h P = (if x = nI 0 then z_T g d 137 39 ls st h P else z_T g d 137 69 ls st h P) := zt_ifne zi_137_36 (by decide)
theorem zi_137_39 : z_ins 137 39 = some (.aload_n 0, 1) := by decide +kernel
theorem ze_137_39 : z_T g d 137 39 (.ref a :: ls) st h P = z_T g d 137 40 (.ref a :: ls) (.ref a :: st) h P := zt_aloadn zi_137_39 rfl rfl
theorem zi_137_40 : z_ins 137 40 = some (.getfield 16, 3) := by decide +kernel
theorem ze_137_40 : z_T g d 137 40 ls (.ref a :: st) h P = z_gR h.1 a 10 9 (fun x => z_T g d 137 43 ls (.ref x :: st) h P) := zt_getR zi_137_40 ((congrArg (fun o => z_fl o 16) zo_137).trans zf_LatinRectanglesModel_16)
theorem zi_137_43 : z_ins 137 43 = some (.iload_n 1, 1) := by decide +kernel
theorem ze_137_43 : z_T g d 137 43 (v0 :: .int x :: ls) st h P = z_T g d 137 44 (v0 :: .int x :: ls) (.int x :: st) h P := zt_iloadn zi_137_43 rfl rfl
theorem zi_137_44 : z_ins 137 44 = some (.iload 5, 2) := by decide +kernel
theorem ze_137_44 : z_T g d 137 44 (v0 :: v1 :: v2 :: v3 :: v4 :: .int x :: ls) st h P = z_T g d 137 46 (v0 :: v1 :: v2 :: v3 :: v4 :: .int x :: ls) (.int x :: st) h P := zt_iload zi_137_44 rfl
theorem zi_137_46 : z_ins 137 46 = some (.invokestatic 151, 3) := by decide +kernel
theorem ze_137_46 : z_T g d 137 46 ls (.int x1 :: .int x0 :: st) h P = ((z_okS 8 st = true ∧ 0 < d) ∧ z_Ca g (d - 1) 127 [.int x0, .int x1] h (fun r => z_k r (fun v h' => z_T g d 137 49 ls (z_push v st) h' P) P)) := zt_callS0 (as := [.int x0, .int x1]) zi_137_46 ((congrArg (fun o => z_lookup z_prs (o, 151)) zo_137).trans zp_LatinRectanglesModel_151) ((congrArg (fun o => z_clk o 151) zo_137).trans zk_LatinRectanglesModel_151) zh_137 rfl rfl rfl
theorem zi_137_49 : z_ins 137 49 = some (.iaload, 1) := by decide +kernel
theorem ze_137_49 : z_T g d 137 49 ls (.int x :: .ref a :: st) h P = z_aL h.1 a z_tI x (fun v => z_T g d 137 50 ls (.int v :: st) h P) := zt_iaload zi_137_49
theorem zi_137_50 : z_ins 137 50 = some (.iload_n 3, 1) := by decide +kernel
theorem ze_137_50 : z_T g d 137 50 (v0 :: v1 :: v2 :: .int x :: ls) st h P = z_T g d 137 51 (v0 :: v1 :: v2 :: .int x :: ls) (.int x :: st) h P := zt_iloadn zi_137_50 rfl rfl
theorem zi_137_51 : z_ins 137 51 = some (.if_icmp .eq 18, 3) := by decide +kernel
theorem ze_137_51 : z_T g d 137 51 ls (.int y :: .int x :: st) h P = (if x = y then z_T g d 137 69 ls st h P else z_T g d 137 54 ls st h P) := zt_icmpeq zi_137_51 (by decide)
theorem zi_137_54 : z_ins 137 54 = some (.aload_n 0, 1) := by decide +kernel
theorem ze_137_54 : z_T g d 137 54 (.ref a :: ls) st h P = z_T g d 137 55 (.ref a :: ls) (.ref a :: st) h P := zt_aloadn zi_137_54 rfl rfl
theorem zi_137_55 : z_ins 137 55 = some (.getfield 16, 3) := by decide +kernel
theorem ze_137_55 : z_T g d 137 55 ls (.ref a :: st) h P = z_gR h.1 a 10 9 (fun x => z_T g d 137 58 ls (.ref x :: st) h P) := zt_getR zi_137_55 ((congrArg (fun o => z_fl o 16) zo_137).trans zf_LatinRectanglesModel_16)
theorem zi_137_58 : z_ins 137 58 = some (.iload 5, 2) := by decide +kernel
theorem ze_137_58 : z_T g d 137 58 (v0 :: v1 :: v2 :: v3 :: v4 :: .int x :: ls) st h P = z_T g d 137 60 (v0 :: v1 :: v2 :: v3 :: v4 :: .int x :: ls) (.int x :: st) h P := zt_iload zi_137_58 rfl
theorem zi_137_60 : z_ins 137 60 = some (.iload_n 2, 1) := by decide +kernel
theorem ze_137_60 : z_T g d 137 60 (v0 :: v1 :: .int x :: ls) st h P = z_T g d 137 61 (v0 :: v1 :: .int x :: ls) (.int x :: st) h P := zt_iloadn zi_137_60 rfl rfl
theorem zi_137_61 : z_ins 137 61 = some (.invokestatic 151, 3) := by decide +kernel
theorem ze_137_61 : z_T g d 137 61 ls (.int x1 :: .int x0 :: st) h P = ((z_okS 8 st = true ∧ 0 < d) ∧ z_Ca g (d - 1) 127 [.int x0, .int x1] h (fun r => z_k r (fun v h' => z_T g d 137 64 ls (z_push v st) h' P) P)) := zt_callS0 (as := [.int x0, .int x1]) zi_137_61 ((congrArg (fun o => z_lookup z_prs (o, 151)) zo_137).trans zp_LatinRectanglesModel_151) ((congrArg (fun o => z_clk o 151) zo_137).trans zk_LatinRectanglesModel_151) zh_137 rfl rfl rfl
theorem zi_137_64 : z_ins 137 64 = some (.iaload, 1) := by decide +kernel
theorem ze_137_64 : z_T g d 137 64 ls (.int x :: .ref a :: st) h P = z_aL h.1 a z_tI x (fun v => z_T g d 137 65 ls (.int v :: st) h P) := zt_iaload zi_137_64
theorem zi_137_65 : z_ins 137 65 = some (.iload_n 3, 1) := by decide +kernel
theorem ze_137_65 : z_T g d 137 65 (v0 :: v1 :: v2 :: .int x :: ls) st h P = z_T g d 137 66 (v0 :: v1 :: v2 :: .int x :: ls) (.int x :: st) h P := zt_iloadn zi_137_65 rfl rfl
theorem zi_137_66 : z_ins 137 66 = some (.if_icmp .ne 7, 3) := by decide +kernel
theorem ze_137_66 : z_T g d 137 66 ls (.int y :: .int x :: st) h P = (if x = y then z_T g d 137 69 ls st h P else z_T g d 137 73 ls st h P) := zt_icmpne zi_137_66 (by decide)
theorem zi_137_69 : z_ins 137 69 = some (.iconst 1, 1) := by decide +kernel
theorem ze_137_69 : z_T g d 137 69 ls st h P = z_T g d 137 70 ls (.int (nI 1) :: st) h P := zt_iconst zi_137_69 rfl
theorem zi_137_70 : z_ins 137 70 = some (.goto 4, 3) := by decide +kernel
theorem ze_137_70 : z_T g d 137 70 ls st h P = z_T g d 137 74 ls st h P := zt_goto zi_137_70 (by decide)
theorem zi_137_73 : z_ins 137 73 = some (.iconst 0, 1) := by decide +kernel
theorem ze_137_73 : z_T g d 137 73 ls st h P = z_T g d 137 74 ls (.int (nI 0) :: st) h P := zt_iconst zi_137_73 rfl
theorem zi_137_74 : z_ins 137 74 = some (.istore 4, 2) := by decide +kernel
theorem ze_137_74 : z_T g d 137 74 (v0 :: v1 :: v2 :: v3 :: v4 :: ls) (.int x :: st) h P = z_T g d 137 76 (v0 :: v1 :: v2 :: v3 :: .int x :: ls) st h P := zt_istore zi_137_74 (Nat.le_add_left 5 _)
theorem zi_137_76 : z_ins 137 76 = some (.iinc 5 1, 3) := by decide +kernel
theorem ze_137_76 : z_T g d 137 76 (v0 :: v1 :: v2 :: v3 :: v4 :: .int x :: ls) st h P = z_T g d 137 79 (v0 :: v1 :: v2 :: v3 :: v4 :: .int (x + (nI 1)) :: ls) st h P := zt_iinc zi_137_76 rfl rfl
theorem zi_137_79 : z_ins 137 79 = some (.goto (-51), 3) := by decide +kernel
theorem ze_137_79 : z_T g d 137 79 ls st h P = z_T g d 137 28 ls st h P := zt_goto zi_137_79 (by decide)
theorem zi_137_82 : z_ins 137 82 = some (.iload 4, 2) := by decide +kernel
theorem ze_137_82 : z_T g d 137 82 (v0 :: v1 :: v2 :: v3 :: .int x :: ls) st h P = z_T g d 137 84 (v0 :: v1 :: v2 :: v3 :: .int x :: ls) (.int x :: st) h P := zt_iload zi_137_82 rfl
theorem zi_137_84 : z_ins 137 84 = some (.ireturn, 1) := by decide +kernel
theorem ze_137_84 : z_T g d 137 84 ls [.int x] h P = ((x = nI 0 ∨ x = nI 1) ∧ P (.inr (some (.int x)), h)) := zt_zreturn zi_137_84 zr_137
-- LatinRectanglesModel.givenLine(II)Z
theorem zo_138 : z_own 138 = "LatinRectanglesModel" := by decide +kernel
theorem zm_138 : z_maxL 138 = 6 := by decide +kernel
theorem zh_138 : z_hds 138 = [] := by decide +kernel
theorem zr_138 : z_rt 138 = (some .boolean) := by decide +kernel
theorem zn_138 : z_Ca g d 138 [.ref a0, .int x1, .int x2] h P = z_T g d 138 0 [.ref a0, .int x1, .int x2, z_un, z_un, z_un] [] h P := z_Ca_ent zm_138 rfl rfl
theorem zi_138_0 : z_ins 138 0 = some (.iload_n 1, 1) := by decide +kernel
theorem ze_138_0 : z_T g d 138 0 (v0 :: .int x :: ls) st h P = z_T g d 138 1 (v0 :: .int x :: ls) (.int x :: st) h P := zt_iloadn zi_138_0 rfl rfl
theorem zi_138_1 : z_ins 138 1 = some (.iload_n 2, 1) := by decide +kernel
theorem ze_138_1 : z_T g d 138 1 (v0 :: v1 :: .int x :: ls) st h P = z_T g d 138 2 (v0 :: v1 :: .int x :: ls) (.int x :: st) h P := zt_iloadn zi_138_1 rfl rfl
theorem zi_138_2 : z_ins 138 2 = some (.invokestatic 151, 3) := by decide +kernel
theorem ze_138_2 : z_T g d 138 2 ls (.int x1 :: .int x0 :: st) h P = ((z_okS 8 st = true ∧ 0 < d) ∧ z_Ca g (d - 1) 127 [.int x0, .int x1] h (fun r => z_k r (fun v h' => z_T g d 138 5 ls (z_push v st) h' P) P)) := zt_callS0 (as := [.int x0, .int x1]) zi_138_2 ((congrArg (fun o => z_lookup z_prs (o, 151)) zo_138).trans zp_LatinRectanglesModel_151) ((congrArg (fun o => z_clk o 151) zo_138).trans zk_LatinRectanglesModel_151) zh_138 rfl rfl rfl
theorem zi_138_5 : z_ins 138 5 = some (.istore_n 3, 1) := by decide +kernel
theorem ze_138_5 : z_T g d 138 5 (v0 :: v1 :: v2 :: v3 :: ls) (.int x :: st) h P = z_T g d 138 6 (v0 :: v1 :: v2 :: .int x :: ls) st h P := zt_istoren zi_138_5 rfl (Nat.le_add_left 4 _)
theorem zi_138_6 : z_ins 138 6 = some (.aload_n 0, 1) := by decide +kernel
theorem ze_138_6 : z_T g d 138 6 (.ref a :: ls) st h P = z_T g d 138 7 (.ref a :: ls) (.ref a :: st) h P := zt_aloadn zi_138_6 rfl rfl
theorem zi_138_7 : z_ins 138 7 = some (.getfield 108, 3) := by decide +kernel
theorem ze_138_7 : z_T g d 138 7 ls (.ref a :: st) h P = z_gI h.1 a 10 17 (fun x => z_T g d 138 10 ls (.int x :: st) h P) := zt_getI zi_138_7 ((congrArg (fun o => z_fl o 108) zo_138).trans zf_LatinRectanglesModel_108)
theorem zi_138_10 : z_ins 138 10 = some (.iconst 2, 1) := by decide +kernel
theorem ze_138_10 : z_T g d 138 10 ls st h P = z_T g d 138 11 ls (.int (nI 2) :: st) h P := zt_iconst zi_138_10 rfl
theorem zi_138_11 : z_ins 138 11 = some (.if_icmp .ne 7, 3) := by decide +kernel
theorem ze_138_11 : z_T g d 138 11 ls (.int y :: .int x :: st) h P = (if x = y then z_T g d 138 14 ls st h P else z_T g d 138 18 ls st h P) := zt_icmpne zi_138_11 (by decide)
theorem zi_138_14 : z_ins 138 14 = some (.iconst 1, 1) := by decide +kernel
theorem ze_138_14 : z_T g d 138 14 ls st h P = z_T g d 138 15 ls (.int (nI 1) :: st) h P := zt_iconst zi_138_14 rfl
theorem zi_138_15 : z_ins 138 15 = some (.goto 4, 3) := by decide +kernel
theorem ze_138_15 : z_T g d 138 15 ls st h P = z_T g d 138 19 ls st h P := zt_goto zi_138_15 (by decide)
theorem zi_138_18 : z_ins 138 18 = some (.iconst 0, 1) := by decide +kernel
theorem ze_138_18 : z_T g d 138 18 ls st h P = z_T g d 138 19 ls (.int (nI 0) :: st) h P := zt_iconst zi_138_18 rfl
theorem zi_138_19 : z_ins 138 19 = some (.istore 4, 2) := by decide +kernel
theorem ze_138_19 : z_T g d 138 19 (v0 :: v1 :: v2 :: v3 :: v4 :: ls) (.int x :: st) h P = z_T g d 138 21 (v0 :: v1 :: v2 :: v3 :: .int x :: ls) st h P := zt_istore zi_138_19 (Nat.le_add_left 5 _)
theorem zi_138_21 : z_ins 138 21 = some (.aload_n 0, 1) := by decide +kernel
theorem ze_138_21 : z_T g d 138 21 (.ref a :: ls) st h P = z_T g d 138 22 (.ref a :: ls) (.ref a :: st) h P := zt_aloadn zi_138_21 rfl rfl
theorem zi_138_22 : z_ins 138 22 = some (.getfield 16, 3) := by decide +kernel
theorem ze_138_22 : z_T g d 138 22 ls (.ref a :: st) h P = z_gR h.1 a 10 9 (fun x => z_T g d 138 25 ls (.ref x :: st) h P) := zt_getR zi_138_22 ((congrArg (fun o => z_fl o 16) zo_138).trans zf_LatinRectanglesModel_16)
theorem zi_138_25 : z_ins 138 25 = some (.iload_n 3, 1) := by decide +kernel
theorem ze_138_25 : z_T g d 138 25 (v0 :: v1 :: v2 :: .int x :: ls) st h P = z_T g d 138 26 (v0 :: v1 :: v2 :: .int x :: ls) (.int x :: st) h P := zt_iloadn zi_138_25 rfl rfl
theorem zi_138_26 : z_ins 138 26 = some (.iaload, 1) := by decide +kernel
theorem ze_138_26 : z_T g d 138 26 ls (.int x :: .ref a :: st) h P = z_aL h.1 a z_tI x (fun v => z_T g d 138 27 ls (.int v :: st) h P) := zt_iaload zi_138_26
theorem zi_138_27 : z_ins 138 27 = some (.iconst (-1), 1) := by decide +kernel
theorem ze_138_27 : z_T g d 138 27 ls st h P = z_T g d 138 28 ls (.int (-1) :: st) h P := zt_iconst zi_138_27 rfl
theorem zi_138_28 : z_ins 138 28 = some (.if_icmp .ne 38, 3) := by decide +kernel
theorem ze_138_28 : z_T g d 138 28 ls (.int y :: .int x :: st) h P = (if x = y then z_T g d 138 31 ls st h P else z_T g d 138 66 ls st h P) := zt_icmpne zi_138_28 (by decide)
theorem zi_138_31 : z_ins 138 31 = some (.iload 4, 2) := by decide +kernel
theorem ze_138_31 : z_T g d 138 31 (v0 :: v1 :: v2 :: v3 :: .int x :: ls) st h P = z_T g d 138 33 (v0 :: v1 :: v2 :: v3 :: .int x :: ls) (.int x :: st) h P := zt_iload zi_138_31 rfl
theorem zi_138_33 : z_ins 138 33 = some (.ifCond .eq 37, 3) := by decide +kernel
theorem ze_138_33 : z_T g d 138 33 ls (.int x :: st) h P = (if x = nI 0 then z_T g d 138 70 ls st h P else z_T g d 138 36 ls st h P) := zt_ifeq zi_138_33 (by decide)
theorem zi_138_36 : z_ins 138 36 = some (.aload_n 0, 1) := by decide +kernel
theorem ze_138_36 : z_T g d 138 36 (.ref a :: ls) st h P = z_T g d 138 37 (.ref a :: ls) (.ref a :: st) h P := zt_aloadn zi_138_36 rfl rfl
theorem zi_138_37 : z_ins 138 37 = some (.getfield 105, 3) := by decide +kernel
theorem ze_138_37 : z_T g d 138 37 ls (.ref a :: st) h P = z_gI h.1 a 10 18 (fun x => z_T g d 138 40 ls (.int x :: st) h P) := zt_getI zi_138_37 ((congrArg (fun o => z_fl o 105) zo_138).trans zf_LatinRectanglesModel_105)
theorem zi_138_40 : z_ins 138 40 = some (.iconst 0, 1) := by decide +kernel
theorem ze_138_40 : z_T g d 138 40 ls st h P = z_T g d 138 41 ls (.int (nI 0) :: st) h P := zt_iconst zi_138_40 rfl
theorem zi_138_41 : z_ins 138 41 = some (.aload_n 0, 1) := by decide +kernel
theorem ze_138_41 : z_T g d 138 41 (.ref a :: ls) st h P = z_T g d 138 42 (.ref a :: ls) (.ref a :: st) h P := zt_aloadn zi_138_41 rfl rfl
theorem zi_138_42 : z_ins 138 42 = some (.getfield 58, 3) := by decide +kernel
theorem ze_138_42 : z_T g d 138 42 ls (.ref a :: st) h P = z_gI h.1 a 10 5 (fun x => z_T g d 138 45 ls (.int x :: st) h P) := zt_getI zi_138_42 ((congrArg (fun o => z_fl o 58) zo_138).trans zf_LatinRectanglesModel_58)
theorem zi_138_45 : z_ins 138 45 = some (.iconst 1, 1) := by decide +kernel
theorem ze_138_45 : z_T g d 138 45 ls st h P = z_T g d 138 46 ls (.int (nI 1) :: st) h P := zt_iconst zi_138_45 rfl
theorem zi_138_46 : z_ins 138 46 = some (.isub, 1) := by decide +kernel
theorem ze_138_46 : z_T g d 138 46 ls (.int y :: .int x :: st) h P = z_T g d 138 47 ls (.int (x - y) :: st) h P := zt_bin (f := fun x y => x - y) zi_138_46 rfl (fun _ _ _ => rfl)
theorem zi_138_47 : z_ins 138 47 = some (.invokestatic 111, 3) := by decide +kernel
theorem ze_138_47 : z_T g d 138 47 ls (.int x2 :: .int x1 :: .int x0 :: st) h P = ((z_okS 8 st = true ∧ 0 < d) ∧ z_Ca g (d - 1) 122 [.int x0, .int x1, .int x2] h (fun r => z_k r (fun v h' => z_T g d 138 50 ls (z_push v st) h' P) P)) := zt_callS0 (as := [.int x0, .int x1, .int x2]) zi_138_47 ((congrArg (fun o => z_lookup z_prs (o, 111)) zo_138).trans zp_LatinRectanglesModel_111) ((congrArg (fun o => z_clk o 111) zo_138).trans zk_LatinRectanglesModel_111) zh_138 rfl rfl rfl
theorem zi_138_50 : z_ins 138 50 = some (.ifCond .eq 20, 3) := by decide +kernel
theorem ze_138_50 : z_T g d 138 50 ls (.int x :: st) h P = (if x = nI 0 then z_T g d 138 70 ls st h P else z_T g d 138 53 ls st h P) := zt_ifeq zi_138_50 (by decide)
theorem zi_138_53 : z_ins 138 53 = some (.aload_n 0, 1) := by decide +kernel
theorem ze_138_53 : z_T g d 138 53 (.ref a :: ls) st h P = z_T g d 138 54 (.ref a :: ls) (.ref a :: st) h P := zt_aloadn zi_138_53 rfl rfl
theorem zi_138_54 : z_ins 138 54 = some (.iload_n 1, 1) := by decide +kernel
theorem ze_138_54 : z_T g d 138 54 (v0 :: .int x :: ls) st h P = z_T g d 138 55 (v0 :: .int x :: ls) (.int x :: st) h P := zt_iloadn zi_138_54 rfl rfl
theorem zi_138_55 : z_ins 138 55 = some (.iload_n 2, 1) := by decide +kernel
theorem ze_138_55 : z_T g d 138 55 (v0 :: v1 :: .int x :: ls) st h P = z_T g d 138 56 (v0 :: v1 :: .int x :: ls) (.int x :: st) h P := zt_iloadn zi_138_55 rfl rfl
theorem zi_138_56 : z_ins 138 56 = some (.aload_n 0, 1) := by decide +kernel
theorem ze_138_56 : z_T g d 138 56 (.ref a :: ls) st h P = z_T g d 138 57 (.ref a :: ls) (.ref a :: st) h P := zt_aloadn zi_138_56 rfl rfl
theorem zi_138_57 : z_ins 138 57 = some (.getfield 105, 3) := by decide +kernel
theorem ze_138_57 : z_T g d 138 57 ls (.ref a :: st) h P = z_gI h.1 a 10 18 (fun x => z_T g d 138 60 ls (.int x :: st) h P) := zt_getI zi_138_57 ((congrArg (fun o => z_fl o 105) zo_138).trans zf_LatinRectanglesModel_105)
theorem zi_138_60 : z_ins 138 60 = some (.invokevirtual 155, 3) := by decide +kernel
theorem ze_138_60 : z_T g d 138 60 ls (.int x2 :: .int x1 :: .int x0 :: .ref a :: st) h P = ((z_okS 8 st = true ∧ z_gO h.1 a 10 ∧ 0 < d) ∧ z_Ca g (d - 1) 137 [.ref a, .int x0, .int x1, .int x2] h (fun r => z_k r (fun v h' => z_T g d 138 63 ls (z_push v st) h' P) P)) := zt_callV (as := [.int x0, .int x1, .int x2]) zi_138_60 ((congrArg (fun o => z_lookup z_prs (o, 155)) zo_138).trans zp_LatinRectanglesModel_155) ((congrArg (fun o => z_clk o 155) zo_138).trans zk_LatinRectanglesModel_155) zh_138 zc_137 rfl rfl rfl
theorem zi_138_63 : z_ins 138 63 = some (.ifCond .eq 7, 3) := by decide +kernel
theorem ze_138_63 : z_T g d 138 63 ls (.int x :: st) h P = (if x = nI 0 then z_T g d 138 70 ls st h P else z_T g d 138 66 ls st h P) := zt_ifeq zi_138_63 (by decide)
theorem zi_138_66 : z_ins 138 66 = some (.iconst 1, 1) := by decide +kernel
theorem ze_138_66 : z_T g d 138 66 ls st h P = z_T g d 138 67 ls (.int (nI 1) :: st) h P := zt_iconst zi_138_66 rfl
theorem zi_138_67 : z_ins 138 67 = some (.goto 4, 3) := by decide +kernel
theorem ze_138_67 : z_T g d 138 67 ls st h P = z_T g d 138 71 ls st h P := zt_goto zi_138_67 (by decide)
theorem zi_138_70 : z_ins 138 70 = some (.iconst 0, 1) := by decide +kernel
theorem ze_138_70 : z_T g d 138 70 ls st h P = z_T g d 138 71 ls (.int (nI 0) :: st) h P := zt_iconst zi_138_70 rfl
theorem zi_138_71 : z_ins 138 71 = some (.istore 5, 2) := by decide +kernel
theorem ze_138_71 : z_T g d 138 71 (v0 :: v1 :: v2 :: v3 :: v4 :: v5 :: ls) (.int x :: st) h P = z_T g d 138 73 (v0 :: v1 :: v2 :: v3 :: v4 :: .int x :: ls) st h P := zt_istore zi_138_71 (Nat.le_add_left 6 _)
theorem zi_138_73 : z_ins 138 73 = some (.iload 4, 2) := by decide +kernel
theorem ze_138_73 : z_T g d 138 73 (v0 :: v1 :: v2 :: v3 :: .int x :: ls) st h P = z_T g d 138 75 (v0 :: v1 :: v2 :: v3 :: .int x :: ls) (.int x :: st) h P := zt_iload zi_138_73 rfl
theorem zi_138_75 : z_ins 138 75 = some (.ifCond .eq 14, 3) := by decide +kernel
theorem ze_138_75 : z_T g d 138 75 ls (.int x :: st) h P = (if x = nI 0 then z_T g d 138 89 ls st h P else z_T g d 138 78 ls st h P) := zt_ifeq zi_138_75 (by decide)
theorem zi_138_78 : z_ins 138 78 = some (.iload 5, 2) := by decide +kernel
theorem ze_138_78 : z_T g d 138 78 (v0 :: v1 :: v2 :: v3 :: v4 :: .int x :: ls) st h P = z_T g d 138 80 (v0 :: v1 :: v2 :: v3 :: v4 :: .int x :: ls) (.int x :: st) h P := zt_iload zi_138_78 rfl
theorem zi_138_80 : z_ins 138 80 = some (.ifCond .eq 9, 3) := by decide +kernel
theorem ze_138_80 : z_T g d 138 80 ls (.int x :: st) h P = (if x = nI 0 then z_T g d 138 89 ls st h P else z_T g d 138 83 ls st h P) := zt_ifeq zi_138_80 (by decide)
theorem zi_138_83 : z_ins 138 83 = some (.aload_n 0, 1) := by decide +kernel
theorem ze_138_83 : z_T g d 138 83 (.ref a :: ls) st h P = z_T g d 138 84 (.ref a :: ls) (.ref a :: st) h P := zt_aloadn zi_138_83 rfl rfl
theorem zi_138_84 : z_ins 138 84 = some (.iconst 2, 1) := by decide +kernel
theorem ze_138_84 : z_T g d 138 84 ls st h P = z_T g d 138 85 ls (.int (nI 2) :: st) h P := zt_iconst zi_138_84 rfl
theorem zi_138_85 : z_ins 138 85 = some (.invokevirtual 127, 3) := by decide +kernel
theorem ze_138_85 : z_T g d 138 85 ls (.int x0 :: .ref a :: st) h P = ((z_okS 8 st = true ∧ z_gO h.1 a 10 ∧ 0 < d) ∧ z_Ca g (d - 1) 133 [.ref a, .int x0] h (fun r => z_k r (fun v h' => z_T g d 138 88 ls (z_push v st) h' P) P)) := zt_callV (as := [.int x0]) zi_138_85 ((congrArg (fun o => z_lookup z_prs (o, 127)) zo_138).trans zp_LatinRectanglesModel_127) ((congrArg (fun o => z_clk o 127) zo_138).trans zk_LatinRectanglesModel_127) zh_138 zc_133 rfl rfl rfl
theorem zi_138_88 : z_ins 138 88 = some (.ireturn, 1) := by decide +kernel
theorem ze_138_88 : z_T g d 138 88 ls [.int x] h P = ((x = nI 0 ∨ x = nI 1) ∧ P (.inr (some (.int x)), h)) := zt_zreturn zi_138_88 zr_138
theorem zi_138_89 : z_ins 138 89 = some (.aload_n 0, 1) := by decide +kernel
theorem ze_138_89 : z_T g d 138 89 (.ref a :: ls) st h P = z_T g d 138 90 (.ref a :: ls) (.ref a :: st) h P := zt_aloadn zi_138_89 rfl rfl
theorem zi_138_90 : z_ins 138 90 = some (.iconst 0, 1) := by decide +kernel
theorem ze_138_90 : z_T g d 138 90 ls st h P = z_T g d 138 91 ls (.int (nI 0) :: st) h P := zt_iconst zi_138_90 rfl
theorem zi_138_91 : z_ins 138 91 = some (.aload_n 0, 1) := by decide +kernel
theorem ze_138_91 : z_T g d 138 91 (.ref a :: ls) st h P = z_T g d 138 92 (.ref a :: ls) (.ref a :: st) h P := zt_aloadn zi_138_91 rfl rfl
theorem zi_138_92 : z_ins 138 92 = some (.getfield 58, 3) := by decide +kernel
theorem ze_138_92 : z_T g d 138 92 ls (.ref a :: st) h P = z_gI h.1 a 10 5 (fun x => z_T g d 138 95 ls (.int x :: st) h P) := zt_getI zi_138_92 ((congrArg (fun o => z_fl o 58) zo_138).trans zf_LatinRectanglesModel_58)
theorem zi_138_95 : z_ins 138 95 = some (.iconst 1, 1) := by decide +kernel
theorem ze_138_95 : z_T g d 138 95 ls st h P = z_T g d 138 96 ls (.int (nI 1) :: st) h P := zt_iconst zi_138_95 rfl
theorem zi_138_96 : z_ins 138 96 = some (.isub, 1) := by decide +kernel
theorem ze_138_96 : z_T g d 138 96 ls (.int y :: .int x :: st) h P = z_T g d 138 97 ls (.int (x - y) :: st) h P := zt_bin (f := fun x y => x - y) zi_138_96 rfl (fun _ _ _ => rfl)
theorem zi_138_97 : z_ins 138 97 = some (.invokevirtual 143, 3) := by decide +kernel
theorem ze_138_97 : z_T g d 138 97 ls (.int x1 :: .int x0 :: .ref a :: st) h P = ((z_okS 8 st = true ∧ z_gO h.1 a 10 ∧ 0 < d) ∧ z_Ca g (d - 1) 134 [.ref a, .int x0, .int x1] h (fun r => z_k r (fun v h' => z_T g d 138 100 ls (z_push v st) h' P) P)) := zt_callV (as := [.int x0, .int x1]) zi_138_97 ((congrArg (fun o => z_lookup z_prs (o, 143)) zo_138).trans zp_LatinRectanglesModel_143) ((congrArg (fun o => z_clk o 143) zo_138).trans zk_LatinRectanglesModel_143) zh_138 zc_134 rfl rfl rfl
theorem zi_138_100 : z_ins 138 100 = some (.ifCond .ne 5, 3) := by decide +kernel
theorem ze_138_100 : z_T g d 138 100 ls (.int x :: st) h P = (if x = nI 0 then z_T g d 138 103 ls st h P else z_T g d 138 105 ls st h P) := zt_ifne zi_138_100 (by decide)
theorem zi_138_103 : z_ins 138 103 = some (.iconst 0, 1) := by decide +kernel
theorem ze_138_103 : z_T g d 138 103 ls st h P = z_T g d 138 104 ls (.int (nI 0) :: st) h P := zt_iconst zi_138_103 rfl
theorem zi_138_104 : z_ins 138 104 = some (.ireturn, 1) := by decide +kernel
theorem ze_138_104 : z_T g d 138 104 ls [.int x] h P = ((x = nI 0 ∨ x = nI 1) ∧ P (.inr (some (.int x)), h)) := zt_zreturn zi_138_104 zr_138
theorem zi_138_105 : z_ins 138 105 = some (.aload_n 0, 1) := by decide +kernel
theorem ze_138_105 : z_T g d 138 105 (.ref a :: ls) st h P = z_T g d 138 106 (.ref a :: ls) (.ref a :: st) h P := zt_aloadn zi_138_105 rfl rfl
theorem zi_138_106 : z_ins 138 106 = some (.getfield 16, 3) := by decide +kernel
theorem ze_138_106 : z_T g d 138 106 ls (.ref a :: st) h P = z_gR h.1 a 10 9 (fun x => z_T g d 138 109 ls (.ref x :: st) h P) := zt_getR zi_138_106 ((congrArg (fun o => z_fl o 16) zo_138).trans zf_LatinRectanglesModel_16)
theorem zi_138_109 : z_ins 138 109 = some (.iload_n 3, 1) := by decide +kernel
theorem ze_138_109 : z_T g d 138 109 (v0 :: v1 :: v2 :: .int x :: ls) st h P = z_T g d 138 110 (v0 :: v1 :: v2 :: .int x :: ls) (.int x :: st) h P := zt_iloadn zi_138_109 rfl rfl
theorem zi_138_110 : z_ins 138 110 = some (.aload_n 0, 1) := by decide +kernel
theorem ze_138_110 : z_T g d 138 110 (.ref a :: ls) st h P = z_T g d 138 111 (.ref a :: ls) (.ref a :: st) h P := zt_aloadn zi_138_110 rfl rfl
theorem zi_138_111 : z_ins 138 111 = some (.getfield 131, 3) := by decide +kernel
theorem ze_138_111 : z_T g d 138 111 ls (.ref a :: st) h P = z_gI h.1 a 10 21 (fun x => z_T g d 138 114 ls (.int x :: st) h P) := zt_getI zi_138_111 ((congrArg (fun o => z_fl o 131) zo_138).trans zf_LatinRectanglesModel_131)
theorem zi_138_114 : z_ins 138 114 = some (.iastore, 1) := by decide +kernel
theorem ze_138_114 : z_T g d 138 114 ls (.int y :: .int x :: .ref a :: st) h P = z_aS h.1 a z_tI x y (fun f => z_T g d 138 115 ls st (f, h.2) P) := zt_iastore zi_138_114
theorem zi_138_115 : z_ins 138 115 = some (.iconst 1, 1) := by decide +kernel
theorem ze_138_115 : z_T g d 138 115 ls st h P = z_T g d 138 116 ls (.int (nI 1) :: st) h P := zt_iconst zi_138_115 rfl
theorem zi_138_116 : z_ins 138 116 = some (.ireturn, 1) := by decide +kernel
theorem ze_138_116 : z_T g d 138 116 ls [.int x] h P = ((x = nI 0 ∨ x = nI 1) ∧ P (.inr (some (.int x)), h)) := zt_zreturn zi_138_116 zr_138
-- LatinRectanglesModel.banLine(II)Z
theorem zo_139 : z_own 139 = "LatinRectanglesModel" := by decide +kernel
theorem zm_139 : z_maxL 139 = 5 := by decide +kernel
theorem zh_139 : z_hds 139 = [] := by decide +kernel
theorem zr_139 : z_rt 139 = (some .boolean) := by decide +kernel
theorem zn_139 : z_Ca g d 139 [.ref a0, .int x1, .int x2] h P = z_T g d 139 0 [.ref a0, .int x1, .int x2, z_un, z_un] [] h P := z_Ca_ent zm_139 rfl rfl
theorem zi_139_0 : z_ins 139 0 = some (.iload_n 1, 1) := by decide +kernel
theorem ze_139_0 : z_T g d 139 0 (v0 :: .int x :: ls) st h P = z_T g d 139 1 (v0 :: .int x :: ls) (.int x :: st) h P := zt_iloadn zi_139_0 rfl rfl
theorem zi_139_1 : z_ins 139 1 = some (.iload_n 2, 1) := by decide +kernel
theorem ze_139_1 : z_T g d 139 1 (v0 :: v1 :: .int x :: ls) st h P = z_T g d 139 2 (v0 :: v1 :: .int x :: ls) (.int x :: st) h P := zt_iloadn zi_139_1 rfl rfl
theorem zi_139_2 : z_ins 139 2 = some (.invokestatic 151, 3) := by decide +kernel
theorem ze_139_2 : z_T g d 139 2 ls (.int x1 :: .int x0 :: st) h P = ((z_okS 8 st = true ∧ 0 < d) ∧ z_Ca g (d - 1) 127 [.int x0, .int x1] h (fun r => z_k r (fun v h' => z_T g d 139 5 ls (z_push v st) h' P) P)) := zt_callS0 (as := [.int x0, .int x1]) zi_139_2 ((congrArg (fun o => z_lookup z_prs (o, 151)) zo_139).trans zp_LatinRectanglesModel_151) ((congrArg (fun o => z_clk o 151) zo_139).trans zk_LatinRectanglesModel_151) zh_139 rfl rfl rfl
theorem zi_139_5 : z_ins 139 5 = some (.istore_n 3, 1) := by decide +kernel
theorem ze_139_5 : z_T g d 139 5 (v0 :: v1 :: v2 :: v3 :: ls) (.int x :: st) h P = z_T g d 139 6 (v0 :: v1 :: v2 :: .int x :: ls) st h P := zt_istoren zi_139_5 rfl (Nat.le_add_left 4 _)
theorem zi_139_6 : z_ins 139 6 = some (.aload_n 0, 1) := by decide +kernel
theorem ze_139_6 : z_T g d 139 6 (.ref a :: ls) st h P = z_T g d 139 7 (.ref a :: ls) (.ref a :: st) h P := zt_aloadn zi_139_6 rfl rfl
theorem zi_139_7 : z_ins 139 7 = some (.getfield 108, 3) := by decide +kernel
theorem ze_139_7 : z_T g d 139 7 ls (.ref a :: st) h P = z_gI h.1 a 10 17 (fun x => z_T g d 139 10 ls (.int x :: st) h P) := zt_getI zi_139_7 ((congrArg (fun o => z_fl o 108) zo_139).trans zf_LatinRectanglesModel_108)
theorem zi_139_10 : z_ins 139 10 = some (.iconst 2, 1) := by decide +kernel
theorem ze_139_10 : z_T g d 139 10 ls st h P = z_T g d 139 11 ls (.int (nI 2) :: st) h P := zt_iconst zi_139_10 rfl
theorem zi_139_11 : z_ins 139 11 = some (.if_icmp .ne 24, 3) := by decide +kernel
theorem ze_139_11 : z_T g d 139 11 ls (.int y :: .int x :: st) h P = (if x = y then z_T g d 139 14 ls st h P else z_T g d 139 35 ls st h P) := zt_icmpne zi_139_11 (by decide)
theorem zi_139_14 : z_ins 139 14 = some (.aload_n 0, 1) := by decide +kernel
theorem ze_139_14 : z_T g d 139 14 (.ref a :: ls) st h P = z_T g d 139 15 (.ref a :: ls) (.ref a :: st) h P := zt_aloadn zi_139_14 rfl rfl
theorem zi_139_15 : z_ins 139 15 = some (.getfield 105, 3) := by decide +kernel
theorem ze_139_15 : z_T g d 139 15 ls (.ref a :: st) h P = z_gI h.1 a 10 18 (fun x => z_T g d 139 18 ls (.int x :: st) h P) := zt_getI zi_139_15 ((congrArg (fun o => z_fl o 105) zo_139).trans zf_LatinRectanglesModel_105)
theorem zi_139_18 : z_ins 139 18 = some (.iconst 0, 1) := by decide +kernel
theorem ze_139_18 : z_T g d 139 18 ls st h P = z_T g d 139 19 ls (.int (nI 0) :: st) h P := zt_iconst zi_139_18 rfl
theorem zi_139_19 : z_ins 139 19 = some (.aload_n 0, 1) := by decide +kernel
theorem ze_139_19 : z_T g d 139 19 (.ref a :: ls) st h P = z_T g d 139 20 (.ref a :: ls) (.ref a :: st) h P := zt_aloadn zi_139_19 rfl rfl
theorem zi_139_20 : z_ins 139 20 = some (.getfield 58, 3) := by decide +kernel
theorem ze_139_20 : z_T g d 139 20 ls (.ref a :: st) h P = z_gI h.1 a 10 5 (fun x => z_T g d 139 23 ls (.int x :: st) h P) := zt_getI zi_139_20 ((congrArg (fun o => z_fl o 58) zo_139).trans zf_LatinRectanglesModel_58)
theorem zi_139_23 : z_ins 139 23 = some (.iconst 1, 1) := by decide +kernel
theorem ze_139_23 : z_T g d 139 23 ls st h P = z_T g d 139 24 ls (.int (nI 1) :: st) h P := zt_iconst zi_139_23 rfl
theorem zi_139_24 : z_ins 139 24 = some (.isub, 1) := by decide +kernel
theorem ze_139_24 : z_T g d 139 24 ls (.int y :: .int x :: st) h P = z_T g d 139 25 ls (.int (x - y) :: st) h P := zt_bin (f := fun x y => x - y) zi_139_24 rfl (fun _ _ _ => rfl)
theorem zi_139_25 : z_ins 139 25 = some (.invokestatic 111, 3) := by decide +kernel
theorem ze_139_25 : z_T g d 139 25 ls (.int x2 :: .int x1 :: .int x0 :: st) h P = ((z_okS 8 st = true ∧ 0 < d) ∧ z_Ca g (d - 1) 122 [.int x0, .int x1, .int x2] h (fun r => z_k r (fun v h' => z_T g d 139 28 ls (z_push v st) h' P) P)) := zt_callS0 (as := [.int x0, .int x1, .int x2]) zi_139_25 ((congrArg (fun o => z_lookup z_prs (o, 111)) zo_139).trans zp_LatinRectanglesModel_111) ((congrArg (fun o => z_clk o 111) zo_139).trans zk_LatinRectanglesModel_111) zh_139 rfl rfl rfl
theorem zi_139_28 : z_ins 139 28 = some (.ifCond .eq 7, 3) := by decide +kernel
theorem ze_139_28 : z_T g d 139 28 ls (.int x :: st) h P = (if x = nI 0 then z_T g d 139 35 ls st h P else z_T g d 139 31 ls st h P) := zt_ifeq zi_139_28 (by decide)
theorem zi_139_31 : z_ins 139 31 = some (.iconst 1, 1) := by decide +kernel
theorem ze_139_31 : z_T g d 139 31 ls st h P = z_T g d 139 32 ls (.int (nI 1) :: st) h P := zt_iconst zi_139_31 rfl
theorem zi_139_32 : z_ins 139 32 = some (.goto 4, 3) := by decide +kernel
theorem ze_139_32 : z_T g d 139 32 ls st h P = z_T g d 139 36 ls st h P := zt_goto zi_139_32 (by decide)
theorem zi_139_35 : z_ins 139 35 = some (.iconst 0, 1) := by decide +kernel
theorem ze_139_35 : z_T g d 139 35 ls st h P = z_T g d 139 36 ls (.int (nI 0) :: st) h P := zt_iconst zi_139_35 rfl
theorem zi_139_36 : z_ins 139 36 = some (.istore 4, 2) := by decide +kernel
theorem ze_139_36 : z_T g d 139 36 (v0 :: v1 :: v2 :: v3 :: v4 :: ls) (.int x :: st) h P = z_T g d 139 38 (v0 :: v1 :: v2 :: v3 :: .int x :: ls) st h P := zt_istore zi_139_36 (Nat.le_add_left 5 _)
theorem zi_139_38 : z_ins 139 38 = some (.iload 4, 2) := by decide +kernel
theorem ze_139_38 : z_T g d 139 38 (v0 :: v1 :: v2 :: v3 :: .int x :: ls) st h P = z_T g d 139 40 (v0 :: v1 :: v2 :: v3 :: .int x :: ls) (.int x :: st) h P := zt_iload zi_139_38 rfl
theorem zi_139_40 : z_ins 139 40 = some (.ifCond .eq 39, 3) := by decide +kernel
theorem ze_139_40 : z_T g d 139 40 ls (.int x :: st) h P = (if x = nI 0 then z_T g d 139 79 ls st h P else z_T g d 139 43 ls st h P) := zt_ifeq zi_139_40 (by decide)
theorem zi_139_43 : z_ins 139 43 = some (.aload_n 0, 1) := by decide +kernel
theorem ze_139_43 : z_T g d 139 43 (.ref a :: ls) st h P = z_T g d 139 44 (.ref a :: ls) (.ref a :: st) h P := zt_aloadn zi_139_43 rfl rfl
theorem zi_139_44 : z_ins 139 44 = some (.getfield 19, 3) := by decide +kernel
theorem ze_139_44 : z_T g d 139 44 ls (.ref a :: st) h P = z_gR h.1 a 10 10 (fun x => z_T g d 139 47 ls (.ref x :: st) h P) := zt_getR zi_139_44 ((congrArg (fun o => z_fl o 19) zo_139).trans zf_LatinRectanglesModel_19)
theorem zi_139_47 : z_ins 139 47 = some (.iload_n 3, 1) := by decide +kernel
theorem ze_139_47 : z_T g d 139 47 (v0 :: v1 :: v2 :: .int x :: ls) st h P = z_T g d 139 48 (v0 :: v1 :: v2 :: .int x :: ls) (.int x :: st) h P := zt_iloadn zi_139_47 rfl rfl
theorem zi_139_48 : z_ins 139 48 = some (.iaload, 1) := by decide +kernel
theorem ze_139_48 : z_T g d 139 48 ls (.int x :: .ref a :: st) h P = z_aL h.1 a z_tI x (fun v => z_T g d 139 49 ls (.int v :: st) h P) := zt_iaload zi_139_48
theorem zi_139_49 : z_ins 139 49 = some (.aload_n 0, 1) := by decide +kernel
theorem ze_139_49 : z_T g d 139 49 (.ref a :: ls) st h P = z_T g d 139 50 (.ref a :: ls) (.ref a :: st) h P := zt_aloadn zi_139_49 rfl rfl
theorem zi_139_50 : z_ins 139 50 = some (.getfield 105, 3) := by decide +kernel
theorem ze_139_50 : z_T g d 139 50 ls (.ref a :: st) h P = z_gI h.1 a 10 18 (fun x => z_T g d 139 53 ls (.int x :: st) h P) := zt_getI zi_139_50 ((congrArg (fun o => z_fl o 105) zo_139).trans zf_LatinRectanglesModel_105)
theorem zi_139_53 : z_ins 139 53 = some (.ishr, 1) := by decide +kernel
theorem ze_139_53 : z_T g d 139 53 ls (.int y :: .int x :: st) h P = z_T g d 139 54 ls (.int (x >>> (y &&& 31)) :: st) h P := zt_bin (f := fun x y => x >>> (y &&& 31)) zi_139_53 rfl (fun _ _ _ => rfl)
theorem zi_139_54 : z_ins 139 54 = some (.iconst 1, 1) := by decide +kernel
theorem ze_139_54 : z_T g d 139 54 ls st h P = z_T g d 139 55 ls (.int (nI 1) :: st) h P := zt_iconst zi_139_54 rfl
theorem zi_139_55 : z_ins 139 55 = some (.iand, 1) := by decide +kernel
theorem ze_139_55 : z_T g d 139 55 ls (.int y :: .int x :: st) h P = z_T g d 139 56 ls (.int (x &&& y) :: st) h P := zt_bin (f := fun x y => x &&& y) zi_139_55 rfl (fun _ _ _ => rfl)
theorem zi_139_56 : z_ins 139 56 = some (.iconst 1, 1) := by decide +kernel
theorem ze_139_56 : z_T g d 139 56 ls st h P = z_T g d 139 57 ls (.int (nI 1) :: st) h P := zt_iconst zi_139_56 rfl
theorem zi_139_57 : z_ins 139 57 = some (.if_icmp .eq 16, 3) := by decide +kernel
theorem ze_139_57 : z_T g d 139 57 ls (.int y :: .int x :: st) h P = (if x = y then z_T g d 139 73 ls st h P else z_T g d 139 60 ls st h P) := zt_icmpeq zi_139_57 (by decide)
theorem zi_139_60 : z_ins 139 60 = some (.aload_n 0, 1) := by decide +kernel
theorem ze_139_60 : z_T g d 139 60 (.ref a :: ls) st h P = z_T g d 139 61 (.ref a :: ls) (.ref a :: st) h P := zt_aloadn zi_139_60 rfl rfl
theorem zi_139_61 : z_ins 139 61 = some (.getfield 16, 3) := by decide +kernel
theorem ze_139_61 : z_T g d 139 61 ls (.ref a :: st) h P = z_gR h.1 a 10 9 (fun x => z_T g d 139 64 ls (.ref x :: st) h P) := zt_getR zi_139_61 ((congrArg (fun o => z_fl o 16) zo_139).trans zf_LatinRectanglesModel_16)
theorem zi_139_64 : z_ins 139 64 = some (.iload_n 3, 1) := by decide +kernel
theorem ze_139_64 : z_T g d 139 64 (v0 :: v1 :: v2 :: .int x :: ls) st h P = z_T g d 139 65 (v0 :: v1 :: v2 :: .int x :: ls) (.int x :: st) h P := zt_iloadn zi_139_64 rfl rfl
theorem zi_139_65 : z_ins 139 65 = some (.iaload, 1) := by decide +kernel
theorem ze_139_65 : z_T g d 139 65 ls (.int x :: .ref a :: st) h P = z_aL h.1 a z_tI x (fun v => z_T g d 139 66 ls (.int v :: st) h P) := zt_iaload zi_139_65
theorem zi_139_66 : z_ins 139 66 = some (.aload_n 0, 1) := by decide +kernel
theorem ze_139_66 : z_T g d 139 66 (.ref a :: ls) st h P = z_T g d 139 67 (.ref a :: ls) (.ref a :: st) h P := zt_aloadn zi_139_66 rfl rfl
theorem zi_139_67 : z_ins 139 67 = some (.getfield 105, 3) := by decide +kernel
theorem ze_139_67 : z_T g d 139 67 ls (.ref a :: st) h P = z_gI h.1 a 10 18 (fun x => z_T g d 139 70 ls (.int x :: st) h P) := zt_getI zi_139_67 ((congrArg (fun o => z_fl o 105) zo_139).trans zf_LatinRectanglesModel_105)
theorem zi_139_70 : z_ins 139 70 = some (.if_icmp .ne 9, 3) := by decide +kernel
theorem ze_139_70 : z_T g d 139 70 ls (.int y :: .int x :: st) h P = (if x = y then z_T g d 139 73 ls st h P else z_T g d 139 79 ls st h P) := zt_icmpne zi_139_70 (by decide)
theorem zi_139_73 : z_ins 139 73 = some (.aload_n 0, 1) := by decide +kernel
theorem ze_139_73 : z_T g d 139 73 (.ref a :: ls) st h P = z_T g d 139 74 (.ref a :: ls) (.ref a :: st) h P := zt_aloadn zi_139_73 rfl rfl
theorem zi_139_74 : z_ins 139 74 = some (.iconst 2, 1) := by decide +kernel
theorem ze_139_74 : z_T g d 139 74 ls st h P = z_T g d 139 75 ls (.int (nI 2) :: st) h P := zt_iconst zi_139_74 rfl
theorem zi_139_75 : z_ins 139 75 = some (.invokevirtual 127, 3) := by decide +kernel
theorem ze_139_75 : z_T g d 139 75 ls (.int x0 :: .ref a :: st) h P = ((z_okS 8 st = true ∧ z_gO h.1 a 10 ∧ 0 < d) ∧ z_Ca g (d - 1) 133 [.ref a, .int x0] h (fun r => z_k r (fun v h' => z_T g d 139 78 ls (z_push v st) h' P) P)) := zt_callV (as := [.int x0]) zi_139_75 ((congrArg (fun o => z_lookup z_prs (o, 127)) zo_139).trans zp_LatinRectanglesModel_127) ((congrArg (fun o => z_clk o 127) zo_139).trans zk_LatinRectanglesModel_127) zh_139 zc_133 rfl rfl rfl
theorem zi_139_78 : z_ins 139 78 = some (.ireturn, 1) := by decide +kernel
theorem ze_139_78 : z_T g d 139 78 ls [.int x] h P = ((x = nI 0 ∨ x = nI 1) ∧ P (.inr (some (.int x)), h)) := zt_zreturn zi_139_78 zr_139
theorem zi_139_79 : z_ins 139 79 = some (.aload_n 0, 1) := by decide +kernel
theorem ze_139_79 : z_T g d 139 79 (.ref a :: ls) st h P = z_T g d 139 80 (.ref a :: ls) (.ref a :: st) h P := zt_aloadn zi_139_79 rfl rfl
theorem zi_139_80 : z_ins 139 80 = some (.iconst 0, 1) := by decide +kernel
theorem ze_139_80 : z_T g d 139 80 ls st h P = z_T g d 139 81 ls (.int (nI 0) :: st) h P := zt_iconst zi_139_80 rfl
theorem zi_139_81 : z_ins 139 81 = some (.aload_n 0, 1) := by decide +kernel
theorem ze_139_81 : z_T g d 139 81 (.ref a :: ls) st h P = z_T g d 139 82 (.ref a :: ls) (.ref a :: st) h P := zt_aloadn zi_139_81 rfl rfl
theorem zi_139_82 : z_ins 139 82 = some (.getfield 58, 3) := by decide +kernel
theorem ze_139_82 : z_T g d 139 82 ls (.ref a :: st) h P = z_gI h.1 a 10 5 (fun x => z_T g d 139 85 ls (.int x :: st) h P) := zt_getI zi_139_82 ((congrArg (fun o => z_fl o 58) zo_139).trans zf_LatinRectanglesModel_58)
theorem zi_139_85 : z_ins 139 85 = some (.iconst 1, 1) := by decide +kernel
theorem ze_139_85 : z_T g d 139 85 ls st h P = z_T g d 139 86 ls (.int (nI 1) :: st) h P := zt_iconst zi_139_85 rfl
theorem zi_139_86 : z_ins 139 86 = some (.isub, 1) := by decide +kernel
theorem ze_139_86 : z_T g d 139 86 ls (.int y :: .int x :: st) h P = z_T g d 139 87 ls (.int (x - y) :: st) h P := zt_bin (f := fun x y => x - y) zi_139_86 rfl (fun _ _ _ => rfl)
theorem zi_139_87 : z_ins 139 87 = some (.invokevirtual 143, 3) := by decide +kernel
theorem ze_139_87 : z_T g d 139 87 ls (.int x1 :: .int x0 :: .ref a :: st) h P = ((z_okS 8 st = true ∧ z_gO h.1 a 10 ∧ 0 < d) ∧ z_Ca g (d - 1) 134 [.ref a, .int x0, .int x1] h (fun r => z_k r (fun v h' => z_T g d 139 90 ls (z_push v st) h' P) P)) := zt_callV (as := [.int x0, .int x1]) zi_139_87 ((congrArg (fun o => z_lookup z_prs (o, 143)) zo_139).trans zp_LatinRectanglesModel_143) ((congrArg (fun o => z_clk o 143) zo_139).trans zk_LatinRectanglesModel_143) zh_139 zc_134 rfl rfl rfl
theorem zi_139_90 : z_ins 139 90 = some (.ifCond .ne 5, 3) := by decide +kernel
theorem ze_139_90 : z_T g d 139 90 ls (.int x :: st) h P = (if x = nI 0 then z_T g d 139 93 ls st h P else z_T g d 139 95 ls st h P) := zt_ifne zi_139_90 (by decide)
theorem zi_139_93 : z_ins 139 93 = some (.iconst 0, 1) := by decide +kernel
theorem ze_139_93 : z_T g d 139 93 ls st h P = z_T g d 139 94 ls (.int (nI 0) :: st) h P := zt_iconst zi_139_93 rfl
theorem zi_139_94 : z_ins 139 94 = some (.ireturn, 1) := by decide +kernel
theorem ze_139_94 : z_T g d 139 94 ls [.int x] h P = ((x = nI 0 ∨ x = nI 1) ∧ P (.inr (some (.int x)), h)) := zt_zreturn zi_139_94 zr_139
theorem zi_139_95 : z_ins 139 95 = some (.aload_n 0, 1) := by decide +kernel
theorem ze_139_95 : z_T g d 139 95 (.ref a :: ls) st h P = z_T g d 139 96 (.ref a :: ls) (.ref a :: st) h P := zt_aloadn zi_139_95 rfl rfl
theorem zi_139_96 : z_ins 139 96 = some (.getfield 19, 3) := by decide +kernel
theorem ze_139_96 : z_T g d 139 96 ls (.ref a :: st) h P = z_gR h.1 a 10 10 (fun x => z_T g d 139 99 ls (.ref x :: st) h P) := zt_getR zi_139_96 ((congrArg (fun o => z_fl o 19) zo_139).trans zf_LatinRectanglesModel_19)
theorem zi_139_99 : z_ins 139 99 = some (.iload_n 3, 1) := by decide +kernel
theorem ze_139_99 : z_T g d 139 99 (v0 :: v1 :: v2 :: .int x :: ls) st h P = z_T g d 139 100 (v0 :: v1 :: v2 :: .int x :: ls) (.int x :: st) h P := zt_iloadn zi_139_99 rfl rfl
theorem zi_139_100 : z_ins 139 100 = some (.dup2, 1) := by decide +kernel
theorem ze_139_100 : z_T g d 139 100 ls (.int x :: .ref a :: st) h P = z_T g d 139 101 ls (.int x :: .ref a :: .int x :: .ref a :: st) h P := zt_dup2 zi_139_100
theorem zi_139_101 : z_ins 139 101 = some (.iaload, 1) := by decide +kernel
theorem ze_139_101 : z_T g d 139 101 ls (.int x :: .ref a :: st) h P = z_aL h.1 a z_tI x (fun v => z_T g d 139 102 ls (.int v :: st) h P) := zt_iaload zi_139_101
theorem zi_139_102 : z_ins 139 102 = some (.iconst 1, 1) := by decide +kernel
theorem ze_139_102 : z_T g d 139 102 ls st h P = z_T g d 139 103 ls (.int (nI 1) :: st) h P := zt_iconst zi_139_102 rfl
theorem zi_139_103 : z_ins 139 103 = some (.aload_n 0, 1) := by decide +kernel
theorem ze_139_103 : z_T g d 139 103 (.ref a :: ls) st h P = z_T g d 139 104 (.ref a :: ls) (.ref a :: st) h P := zt_aloadn zi_139_103 rfl rfl
theorem zi_139_104 : z_ins 139 104 = some (.getfield 131, 3) := by decide +kernel
theorem ze_139_104 : z_T g d 139 104 ls (.ref a :: st) h P = z_gI h.1 a 10 21 (fun x => z_T g d 139 107 ls (.int x :: st) h P) := zt_getI zi_139_104 ((congrArg (fun o => z_fl o 131) zo_139).trans zf_LatinRectanglesModel_131)
theorem zi_139_107 : z_ins 139 107 = some (.ishl, 1) := by decide +kernel
theorem ze_139_107 : z_T g d 139 107 ls (.int y :: .int x :: st) h P = z_T g d 139 108 ls (.int (x <<< (y &&& 31)) :: st) h P := zt_bin (f := fun x y => x <<< (y &&& 31)) zi_139_107 rfl (fun _ _ _ => rfl)
theorem zi_139_108 : z_ins 139 108 = some (.ior, 1) := by decide +kernel
theorem ze_139_108 : z_T g d 139 108 ls (.int y :: .int x :: st) h P = z_T g d 139 109 ls (.int (x ||| y) :: st) h P := zt_bin (f := fun x y => x ||| y) zi_139_108 rfl (fun _ _ _ => rfl)
theorem zi_139_109 : z_ins 139 109 = some (.iastore, 1) := by decide +kernel
theorem ze_139_109 : z_T g d 139 109 ls (.int y :: .int x :: .ref a :: st) h P = z_aS h.1 a z_tI x y (fun f => z_T g d 139 110 ls st (f, h.2) P) := zt_iastore zi_139_109
theorem zi_139_110 : z_ins 139 110 = some (.aload_n 0, 1) := by decide +kernel
theorem ze_139_110 : z_T g d 139 110 (.ref a :: ls) st h P = z_T g d 139 111 (.ref a :: ls) (.ref a :: st) h P := zt_aloadn zi_139_110 rfl rfl
theorem zi_139_111 : z_ins 139 111 = some (.dup, 1) := by decide +kernel
theorem ze_139_111 : z_T g d 139 111 ls (.ref a :: st) h P = z_T g d 139 112 ls (.ref a :: .ref a :: st) h P := zt_dupR zi_139_111
theorem ze_139_111_i : z_T g d 139 111 ls (.int x :: st) h P = z_T g d 139 112 ls (.int x :: .int x :: st) h P := zt_dupI zi_139_111
theorem zi_139_112 : z_ins 139 112 = some (.getfield 70, 3) := by decide +kernel
theorem ze_139_112 : z_T g d 139 112 ls (.ref a :: st) h P = z_gI h.1 a 10 6 (fun x => z_T g d 139 115 ls (.int x :: st) h P) := zt_getI zi_139_112 ((congrArg (fun o => z_fl o 70) zo_139).trans zf_LatinRectanglesModel_70)
theorem zi_139_115 : z_ins 139 115 = some (.iconst 1, 1) := by decide +kernel
theorem ze_139_115 : z_T g d 139 115 ls st h P = z_T g d 139 116 ls (.int (nI 1) :: st) h P := zt_iconst zi_139_115 rfl
theorem zi_139_116 : z_ins 139 116 = some (.iadd, 1) := by decide +kernel
theorem ze_139_116 : z_T g d 139 116 ls (.int y :: .int x :: st) h P = z_T g d 139 117 ls (.int (x + y) :: st) h P := zt_bin (f := fun x y => x + y) zi_139_116 rfl (fun _ _ _ => rfl)
theorem zi_139_117 : z_ins 139 117 = some (.putfield 70, 3) := by decide +kernel
theorem ze_139_117 : z_T g d 139 117 ls (.int x :: .ref a :: st) h P = z_pF h.1 a 10 6 (.int x) (fun f => z_T g d 139 120 ls st (f, h.2) P) := zt_putI zi_139_117 ((congrArg (fun o => z_fl o 70) zo_139).trans zf_LatinRectanglesModel_70)
theorem zi_139_120 : z_ins 139 120 = some (.iconst 1, 1) := by decide +kernel
theorem ze_139_120 : z_T g d 139 120 ls st h P = z_T g d 139 121 ls (.int (nI 1) :: st) h P := zt_iconst zi_139_120 rfl
theorem zi_139_121 : z_ins 139 121 = some (.ireturn, 1) := by decide +kernel
theorem ze_139_121 : z_T g d 139 121 ls [.int x] h P = ((x = nI 0 ∨ x = nI 1) ∧ P (.inr (some (.int x)), h)) := zt_zreturn zi_139_121 zr_139
-- LatinRectanglesModel.statement()Z
theorem zo_140 : z_own 140 = "LatinRectanglesModel" := by decide +kernel
theorem zm_140 : z_maxL 140 = 3 := by decide +kernel
theorem zh_140 : z_hds 140 = [] := by decide +kernel
theorem zr_140 : z_rt 140 = (some .boolean) := by decide +kernel
theorem zn_140 : z_Ca g d 140 [.ref a0] h P = z_T g d 140 0 [.ref a0, z_un, z_un] [] h P := z_Ca_ent zm_140 rfl rfl
theorem zi_140_0 : z_ins 140 0 = some (.aload_n 0, 1) := by decide +kernel
theorem ze_140_0 : z_T g d 140 0 (.ref a :: ls) st h P = z_T g d 140 1 (.ref a :: ls) (.ref a :: st) h P := zt_aloadn zi_140_0 rfl rfl
theorem zi_140_1 : z_ins 140 1 = some (.ldc 158, 2) := by decide +kernel
theorem ze_140_1 : z_T g d 140 1 ls st h P = z_T g d 140 3 ls (.retAddr 1 :: st) h P := zt_ldc zi_140_1 (by decide +kernel)
theorem zi_140_3 : z_ins 140 3 = some (.invokevirtual 139, 3) := by decide +kernel
theorem ze_140_3 : z_T g d 140 3 ls (.retAddr k0 :: .ref a :: st) h P = ((z_okS 8 st = true ∧ z_gO h.1 a 10 ∧ 0 < d) ∧ z_Ca g (d - 1) 132 [.ref a, .retAddr k0] h (fun r => z_k r (fun v h' => z_T g d 140 6 ls (z_push v st) h' P) P)) := zt_callV (as := [.retAddr k0]) zi_140_3 ((congrArg (fun o => z_lookup z_prs (o, 139)) zo_140).trans zp_LatinRectanglesModel_139) ((congrArg (fun o => z_clk o 139) zo_140).trans zk_LatinRectanglesModel_139) zh_140 zc_132 rfl rfl rfl
theorem zi_140_6 : z_ins 140 6 = some (.istore_n 1, 1) := by decide +kernel
theorem ze_140_6 : z_T g d 140 6 (v0 :: v1 :: ls) (.int x :: st) h P = z_T g d 140 7 (v0 :: .int x :: ls) st h P := zt_istoren zi_140_6 rfl (Nat.le_add_left 2 _)
theorem zi_140_7 : z_ins 140 7 = some (.iload_n 1, 1) := by decide +kernel
theorem ze_140_7 : z_T g d 140 7 (v0 :: .int x :: ls) st h P = z_T g d 140 8 (v0 :: .int x :: ls) (.int x :: st) h P := zt_iloadn zi_140_7 rfl rfl
theorem zi_140_8 : z_ins 140 8 = some (.ifCond .ne 18, 3) := by decide +kernel
theorem ze_140_8 : z_T g d 140 8 ls (.int x :: st) h P = (if x = nI 0 then z_T g d 140 11 ls st h P else z_T g d 140 26 ls st h P) := zt_ifne zi_140_8 (by decide)
theorem zi_140_11 : z_ins 140 11 = some (.aload_n 0, 1) := by decide +kernel
theorem ze_140_11 : z_T g d 140 11 (.ref a :: ls) st h P = z_T g d 140 12 (.ref a :: ls) (.ref a :: st) h P := zt_aloadn zi_140_11 rfl rfl
theorem zi_140_12 : z_ins 140 12 = some (.ldc 160, 2) := by decide +kernel
theorem ze_140_12 : z_T g d 140 12 ls st h P = z_T g d 140 14 ls (.retAddr 2 :: st) h P := zt_ldc zi_140_12 (by decide +kernel)
theorem zi_140_14 : z_ins 140 14 = some (.invokevirtual 139, 3) := by decide +kernel
theorem ze_140_14 : z_T g d 140 14 ls (.retAddr k0 :: .ref a :: st) h P = ((z_okS 8 st = true ∧ z_gO h.1 a 10 ∧ 0 < d) ∧ z_Ca g (d - 1) 132 [.ref a, .retAddr k0] h (fun r => z_k r (fun v h' => z_T g d 140 17 ls (z_push v st) h' P) P)) := zt_callV (as := [.retAddr k0]) zi_140_14 ((congrArg (fun o => z_lookup z_prs (o, 139)) zo_140).trans zp_LatinRectanglesModel_139) ((congrArg (fun o => z_clk o 139) zo_140).trans zk_LatinRectanglesModel_139) zh_140 zc_132 rfl rfl rfl
theorem zi_140_17 : z_ins 140 17 = some (.ifCond .ne 9, 3) := by decide +kernel
theorem ze_140_17 : z_T g d 140 17 ls (.int x :: st) h P = (if x = nI 0 then z_T g d 140 20 ls st h P else z_T g d 140 26 ls st h P) := zt_ifne zi_140_17 (by decide)
theorem zi_140_20 : z_ins 140 20 = some (.aload_n 0, 1) := by decide +kernel
theorem ze_140_20 : z_T g d 140 20 (.ref a :: ls) st h P = z_T g d 140 21 (.ref a :: ls) (.ref a :: st) h P := zt_aloadn zi_140_20 rfl rfl
theorem zi_140_21 : z_ins 140 21 = some (.iconst 1, 1) := by decide +kernel
theorem ze_140_21 : z_T g d 140 21 ls st h P = z_T g d 140 22 ls (.int (nI 1) :: st) h P := zt_iconst zi_140_21 rfl
theorem zi_140_22 : z_ins 140 22 = some (.invokevirtual 127, 3) := by decide +kernel
theorem ze_140_22 : z_T g d 140 22 ls (.int x0 :: .ref a :: st) h P = ((z_okS 8 st = true ∧ z_gO h.1 a 10 ∧ 0 < d) ∧ z_Ca g (d - 1) 133 [.ref a, .int x0] h (fun r => z_k r (fun v h' => z_T g d 140 25 ls (z_push v st) h' P) P)) := zt_callV (as := [.int x0]) zi_140_22 ((congrArg (fun o => z_lookup z_prs (o, 127)) zo_140).trans zp_LatinRectanglesModel_127) ((congrArg (fun o => z_clk o 127) zo_140).trans zk_LatinRectanglesModel_127) zh_140 zc_133 rfl rfl rfl
theorem zi_140_25 : z_ins 140 25 = some (.ireturn, 1) := by decide +kernel
theorem ze_140_25 : z_T g d 140 25 ls [.int x] h P = ((x = nI 0 ∨ x = nI 1) ∧ P (.inr (some (.int x)), h)) := zt_zreturn zi_140_25 zr_140
theorem zi_140_26 : z_ins 140 26 = some (.iload_n 1, 1) := by decide +kernel
theorem ze_140_26 : z_T g d 140 26 (v0 :: .int x :: ls) st h P = z_T g d 140 27 (v0 :: .int x :: ls) (.int x :: st) h P := zt_iloadn zi_140_26 rfl rfl
theorem zi_140_27 : z_ins 140 27 = some (.ifCond .eq 18, 3) := by decide +kernel
theorem ze_140_27 : z_T g d 140 27 ls (.int x :: st) h P = (if x = nI 0 then z_T g d 140 45 ls st h P else z_T g d 140 30 ls st h P) := zt_ifeq zi_140_27 (by decide)
theorem zi_140_30 : z_ins 140 30 = some (.aload_n 0, 1) := by decide +kernel
theorem ze_140_30 : z_T g d 140 30 (.ref a :: ls) st h P = z_T g d 140 31 (.ref a :: ls) (.ref a :: st) h P := zt_aloadn zi_140_30 rfl rfl
theorem zi_140_31 : z_ins 140 31 = some (.getfield 70, 3) := by decide +kernel
theorem ze_140_31 : z_T g d 140 31 ls (.ref a :: st) h P = z_gI h.1 a 10 6 (fun x => z_T g d 140 34 ls (.int x :: st) h P) := zt_getI zi_140_31 ((congrArg (fun o => z_fl o 70) zo_140).trans zf_LatinRectanglesModel_70)
theorem zi_140_34 : z_ins 140 34 = some (.bipush 20, 2) := by decide +kernel
theorem ze_140_34 : z_T g d 140 34 ls st h P = z_T g d 140 36 ls (.int (nI 20) :: st) h P := zt_bipush zi_140_34 rfl
theorem zi_140_36 : z_ins 140 36 = some (.if_icmp .ne 9, 3) := by decide +kernel
theorem ze_140_36 : z_T g d 140 36 ls (.int y :: .int x :: st) h P = (if x = y then z_T g d 140 39 ls st h P else z_T g d 140 45 ls st h P) := zt_icmpne zi_140_36 (by decide)
theorem zi_140_39 : z_ins 140 39 = some (.aload_n 0, 1) := by decide +kernel
theorem ze_140_39 : z_T g d 140 39 (.ref a :: ls) st h P = z_T g d 140 40 (.ref a :: ls) (.ref a :: st) h P := zt_aloadn zi_140_39 rfl rfl
theorem zi_140_40 : z_ins 140 40 = some (.iconst 4, 1) := by decide +kernel
theorem ze_140_40 : z_T g d 140 40 ls st h P = z_T g d 140 41 ls (.int (nI 4) :: st) h P := zt_iconst zi_140_40 rfl
theorem zi_140_41 : z_ins 140 41 = some (.invokevirtual 127, 3) := by decide +kernel
theorem ze_140_41 : z_T g d 140 41 ls (.int x0 :: .ref a :: st) h P = ((z_okS 8 st = true ∧ z_gO h.1 a 10 ∧ 0 < d) ∧ z_Ca g (d - 1) 133 [.ref a, .int x0] h (fun r => z_k r (fun v h' => z_T g d 140 44 ls (z_push v st) h' P) P)) := zt_callV (as := [.int x0]) zi_140_41 ((congrArg (fun o => z_lookup z_prs (o, 127)) zo_140).trans zp_LatinRectanglesModel_127) ((congrArg (fun o => z_clk o 127) zo_140).trans zk_LatinRectanglesModel_127) zh_140 zc_133 rfl rfl rfl
theorem zi_140_44 : z_ins 140 44 = some (.ireturn, 1) := by decide +kernel
theorem ze_140_44 : z_T g d 140 44 ls [.int x] h P = ((x = nI 0 ∨ x = nI 1) ∧ P (.inr (some (.int x)), h)) := zt_zreturn zi_140_44 zr_140
theorem zi_140_45 : z_ins 140 45 = some (.aload_n 0, 1) := by decide +kernel
theorem ze_140_45 : z_T g d 140 45 (.ref a :: ls) st h P = z_T g d 140 46 (.ref a :: ls) (.ref a :: st) h P := zt_aloadn zi_140_45 rfl rfl
theorem zi_140_46 : z_ins 140 46 = some (.invokevirtual 134, 3) := by decide +kernel
theorem ze_140_46 : z_T g d 140 46 ls (.ref a :: st) h P = ((z_okS 8 st = true ∧ z_gO h.1 a 10 ∧ 0 < d) ∧ z_Ca g (d - 1) 131 [.ref a] h (fun r => z_k r (fun v h' => z_T g d 140 49 ls (z_push v st) h' P) P)) := zt_callV (as := []) zi_140_46 ((congrArg (fun o => z_lookup z_prs (o, 134)) zo_140).trans zp_LatinRectanglesModel_134) ((congrArg (fun o => z_clk o 134) zo_140).trans zk_LatinRectanglesModel_134) zh_140 zc_131 rfl rfl rfl
theorem zi_140_49 : z_ins 140 49 = some (.aload_n 0, 1) := by decide +kernel
theorem ze_140_49 : z_T g d 140 49 (.ref a :: ls) st h P = z_T g d 140 50 (.ref a :: ls) (.ref a :: st) h P := zt_aloadn zi_140_49 rfl rfl
theorem zi_140_50 : z_ins 140 50 = some (.iconst 0, 1) := by decide +kernel
theorem ze_140_50 : z_T g d 140 50 ls st h P = z_T g d 140 51 ls (.int (nI 0) :: st) h P := zt_iconst zi_140_50 rfl
theorem zi_140_51 : z_ins 140 51 = some (.aload_n 0, 1) := by decide +kernel
theorem ze_140_51 : z_T g d 140 51 (.ref a :: ls) st h P = z_T g d 140 52 (.ref a :: ls) (.ref a :: st) h P := zt_aloadn zi_140_51 rfl rfl
theorem zi_140_52 : z_ins 140 52 = some (.getfield 55, 3) := by decide +kernel
theorem ze_140_52 : z_T g d 140 52 ls (.ref a :: st) h P = z_gI h.1 a 10 4 (fun x => z_T g d 140 55 ls (.int x :: st) h P) := zt_getI zi_140_52 ((congrArg (fun o => z_fl o 55) zo_140).trans zf_LatinRectanglesModel_55)
theorem zi_140_55 : z_ins 140 55 = some (.iconst 1, 1) := by decide +kernel
theorem ze_140_55 : z_T g d 140 55 ls st h P = z_T g d 140 56 ls (.int (nI 1) :: st) h P := zt_iconst zi_140_55 rfl
theorem zi_140_56 : z_ins 140 56 = some (.isub, 1) := by decide +kernel
theorem ze_140_56 : z_T g d 140 56 ls (.int y :: .int x :: st) h P = z_T g d 140 57 ls (.int (x - y) :: st) h P := zt_bin (f := fun x y => x - y) zi_140_56 rfl (fun _ _ _ => rfl)
theorem zi_140_57 : z_ins 140 57 = some (.invokevirtual 143, 3) := by decide +kernel
theorem ze_140_57 : z_T g d 140 57 ls (.int x1 :: .int x0 :: .ref a :: st) h P = ((z_okS 8 st = true ∧ z_gO h.1 a 10 ∧ 0 < d) ∧ z_Ca g (d - 1) 134 [.ref a, .int x0, .int x1] h (fun r => z_k r (fun v h' => z_T g d 140 60 ls (z_push v st) h' P) P)) := zt_callV (as := [.int x0, .int x1]) zi_140_57 ((congrArg (fun o => z_lookup z_prs (o, 143)) zo_140).trans zp_LatinRectanglesModel_143) ((congrArg (fun o => z_clk o 143) zo_140).trans zk_LatinRectanglesModel_143) zh_140 zc_134 rfl rfl rfl
theorem zi_140_60 : z_ins 140 60 = some (.ifCond .ne 5, 3) := by decide +kernel
theorem ze_140_60 : z_T g d 140 60 ls (.int x :: st) h P = (if x = nI 0 then z_T g d 140 63 ls st h P else z_T g d 140 65 ls st h P) := zt_ifne zi_140_60 (by decide)
theorem zi_140_63 : z_ins 140 63 = some (.iconst 0, 1) := by decide +kernel
theorem ze_140_63 : z_T g d 140 63 ls st h P = z_T g d 140 64 ls (.int (nI 0) :: st) h P := zt_iconst zi_140_63 rfl
theorem zi_140_64 : z_ins 140 64 = some (.ireturn, 1) := by decide +kernel
theorem ze_140_64 : z_T g d 140 64 ls [.int x] h P = ((x = nI 0 ∨ x = nI 1) ∧ P (.inr (some (.int x)), h)) := zt_zreturn zi_140_64 zr_140
theorem zi_140_65 : z_ins 140 65 = some (.aload_n 0, 1) := by decide +kernel
theorem ze_140_65 : z_T g d 140 65 (.ref a :: ls) st h P = z_T g d 140 66 (.ref a :: ls) (.ref a :: st) h P := zt_aloadn zi_140_65 rfl rfl
theorem zi_140_66 : z_ins 140 66 = some (.getfield 131, 3) := by decide +kernel
theorem ze_140_66 : z_T g d 140 66 ls (.ref a :: st) h P = z_gI h.1 a 10 21 (fun x => z_T g d 140 69 ls (.int x :: st) h P) := zt_getI zi_140_66 ((congrArg (fun o => z_fl o 131) zo_140).trans zf_LatinRectanglesModel_131)
theorem zi_140_69 : z_ins 140 69 = some (.istore_n 2, 1) := by decide +kernel
theorem ze_140_69 : z_T g d 140 69 (v0 :: v1 :: v2 :: ls) (.int x :: st) h P = z_T g d 140 70 (v0 :: v1 :: .int x :: ls) st h P := zt_istoren zi_140_69 rfl (Nat.le_add_left 3 _)
theorem zi_140_70 : z_ins 140 70 = some (.aload_n 0, 1) := by decide +kernel
theorem ze_140_70 : z_T g d 140 70 (.ref a :: ls) st h P = z_T g d 140 71 (.ref a :: ls) (.ref a :: st) h P := zt_aloadn zi_140_70 rfl rfl
theorem zi_140_71 : z_ins 140 71 = some (.iconst 0, 1) := by decide +kernel
theorem ze_140_71 : z_T g d 140 71 ls st h P = z_T g d 140 72 ls (.int (nI 0) :: st) h P := zt_iconst zi_140_71 rfl
theorem zi_140_72 : z_ins 140 72 = some (.aload_n 0, 1) := by decide +kernel
theorem ze_140_72 : z_T g d 140 72 (.ref a :: ls) st h P = z_T g d 140 73 (.ref a :: ls) (.ref a :: st) h P := zt_aloadn zi_140_72 rfl rfl
theorem zi_140_73 : z_ins 140 73 = some (.getfield 58, 3) := by decide +kernel
theorem ze_140_73 : z_T g d 140 73 ls (.ref a :: st) h P = z_gI h.1 a 10 5 (fun x => z_T g d 140 76 ls (.int x :: st) h P) := zt_getI zi_140_73 ((congrArg (fun o => z_fl o 58) zo_140).trans zf_LatinRectanglesModel_58)
theorem zi_140_76 : z_ins 140 76 = some (.iconst 1, 1) := by decide +kernel
theorem ze_140_76 : z_T g d 140 76 ls st h P = z_T g d 140 77 ls (.int (nI 1) :: st) h P := zt_iconst zi_140_76 rfl
theorem zi_140_77 : z_ins 140 77 = some (.isub, 1) := by decide +kernel
theorem ze_140_77 : z_T g d 140 77 ls (.int y :: .int x :: st) h P = z_T g d 140 78 ls (.int (x - y) :: st) h P := zt_bin (f := fun x y => x - y) zi_140_77 rfl (fun _ _ _ => rfl)
theorem zi_140_78 : z_ins 140 78 = some (.invokevirtual 143, 3) := by decide +kernel
theorem ze_140_78 : z_T g d 140 78 ls (.int x1 :: .int x0 :: .ref a :: st) h P = ((z_okS 8 st = true ∧ z_gO h.1 a 10 ∧ 0 < d) ∧ z_Ca g (d - 1) 134 [.ref a, .int x0, .int x1] h (fun r => z_k r (fun v h' => z_T g d 140 81 ls (z_push v st) h' P) P)) := zt_callV (as := [.int x0, .int x1]) zi_140_78 ((congrArg (fun o => z_lookup z_prs (o, 143)) zo_140).trans zp_LatinRectanglesModel_143) ((congrArg (fun o => z_clk o 143) zo_140).trans zk_LatinRectanglesModel_143) zh_140 zc_134 rfl rfl rfl
theorem zi_140_81 : z_ins 140 81 = some (.ifCond .ne 5, 3) := by decide +kernel
theorem ze_140_81 : z_T g d 140 81 ls (.int x :: st) h P = (if x = nI 0 then z_T g d 140 84 ls st h P else z_T g d 140 86 ls st h P) := zt_ifne zi_140_81 (by decide)
theorem zi_140_84 : z_ins 140 84 = some (.iconst 0, 1) := by decide +kernel
theorem ze_140_84 : z_T g d 140 84 ls st h P = z_T g d 140 85 ls (.int (nI 0) :: st) h P := zt_iconst zi_140_84 rfl
theorem zi_140_85 : z_ins 140 85 = some (.ireturn, 1) := by decide +kernel
theorem ze_140_85 : z_T g d 140 85 ls [.int x] h P = ((x = nI 0 ∨ x = nI 1) ∧ P (.inr (some (.int x)), h)) := zt_zreturn zi_140_85 zr_140
theorem zi_140_86 : z_ins 140 86 = some (.iload_n 1, 1) := by decide +kernel
theorem ze_140_86 : z_T g d 140 86 (v0 :: .int x :: ls) st h P = z_T g d 140 87 (v0 :: .int x :: ls) (.int x :: st) h P := zt_iloadn zi_140_86 rfl rfl
theorem zi_140_87 : z_ins 140 87 = some (.ifCond .eq 15, 3) := by decide +kernel
theorem ze_140_87 : z_T g d 140 87 ls (.int x :: st) h P = (if x = nI 0 then z_T g d 140 102 ls st h P else z_T g d 140 90 ls st h P) := zt_ifeq zi_140_87 (by decide)
theorem zi_140_90 : z_ins 140 90 = some (.aload_n 0, 1) := by decide +kernel
theorem ze_140_90 : z_T g d 140 90 (.ref a :: ls) st h P = z_T g d 140 91 (.ref a :: ls) (.ref a :: st) h P := zt_aloadn zi_140_90 rfl rfl
theorem zi_140_91 : z_ins 140 91 = some (.iload_n 2, 1) := by decide +kernel
theorem ze_140_91 : z_T g d 140 91 (v0 :: v1 :: .int x :: ls) st h P = z_T g d 140 92 (v0 :: v1 :: .int x :: ls) (.int x :: st) h P := zt_iloadn zi_140_91 rfl rfl
theorem zi_140_92 : z_ins 140 92 = some (.aload_n 0, 1) := by decide +kernel
theorem ze_140_92 : z_T g d 140 92 (.ref a :: ls) st h P = z_T g d 140 93 (.ref a :: ls) (.ref a :: st) h P := zt_aloadn zi_140_92 rfl rfl
theorem zi_140_93 : z_ins 140 93 = some (.getfield 131, 3) := by decide +kernel
theorem ze_140_93 : z_T g d 140 93 ls (.ref a :: st) h P = z_gI h.1 a 10 21 (fun x => z_T g d 140 96 ls (.int x :: st) h P) := zt_getI zi_140_93 ((congrArg (fun o => z_fl o 131) zo_140).trans zf_LatinRectanglesModel_131)
theorem zi_140_96 : z_ins 140 96 = some (.invokevirtual 161, 3) := by decide +kernel
theorem ze_140_96 : z_T g d 140 96 ls (.int x1 :: .int x0 :: .ref a :: st) h P = ((z_okS 8 st = true ∧ z_gO h.1 a 10 ∧ 0 < d) ∧ z_Ca g (d - 1) 139 [.ref a, .int x0, .int x1] h (fun r => z_k r (fun v h' => z_T g d 140 99 ls (z_push v st) h' P) P)) := zt_callV (as := [.int x0, .int x1]) zi_140_96 ((congrArg (fun o => z_lookup z_prs (o, 161)) zo_140).trans zp_LatinRectanglesModel_161) ((congrArg (fun o => z_clk o 161) zo_140).trans zk_LatinRectanglesModel_161) zh_140 zc_139 rfl rfl rfl
theorem zi_140_99 : z_ins 140 99 = some (.goto 12, 3) := by decide +kernel
theorem ze_140_99 : z_T g d 140 99 ls st h P = z_T g d 140 111 ls st h P := zt_goto zi_140_99 (by decide)
theorem zi_140_102 : z_ins 140 102 = some (.aload_n 0, 1) := by decide +kernel
theorem ze_140_102 : z_T g d 140 102 (.ref a :: ls) st h P = z_T g d 140 103 (.ref a :: ls) (.ref a :: st) h P := zt_aloadn zi_140_102 rfl rfl
theorem zi_140_103 : z_ins 140 103 = some (.iload_n 2, 1) := by decide +kernel
theorem ze_140_103 : z_T g d 140 103 (v0 :: v1 :: .int x :: ls) st h P = z_T g d 140 104 (v0 :: v1 :: .int x :: ls) (.int x :: st) h P := zt_iloadn zi_140_103 rfl rfl
theorem zi_140_104 : z_ins 140 104 = some (.aload_n 0, 1) := by decide +kernel
theorem ze_140_104 : z_T g d 140 104 (.ref a :: ls) st h P = z_T g d 140 105 (.ref a :: ls) (.ref a :: st) h P := zt_aloadn zi_140_104 rfl rfl
theorem zi_140_105 : z_ins 140 105 = some (.getfield 131, 3) := by decide +kernel
theorem ze_140_105 : z_T g d 140 105 ls (.ref a :: st) h P = z_gI h.1 a 10 21 (fun x => z_T g d 140 108 ls (.int x :: st) h P) := zt_getI zi_140_105 ((congrArg (fun o => z_fl o 131) zo_140).trans zf_LatinRectanglesModel_131)
theorem zi_140_108 : z_ins 140 108 = some (.invokevirtual 164, 3) := by decide +kernel
theorem ze_140_108 : z_T g d 140 108 ls (.int x1 :: .int x0 :: .ref a :: st) h P = ((z_okS 8 st = true ∧ z_gO h.1 a 10 ∧ 0 < d) ∧ z_Ca g (d - 1) 138 [.ref a, .int x0, .int x1] h (fun r => z_k r (fun v h' => z_T g d 140 111 ls (z_push v st) h' P) P)) := zt_callV (as := [.int x0, .int x1]) zi_140_108 ((congrArg (fun o => z_lookup z_prs (o, 164)) zo_140).trans zp_LatinRectanglesModel_164) ((congrArg (fun o => z_clk o 164) zo_140).trans zk_LatinRectanglesModel_164) zh_140 zc_138 rfl rfl rfl
theorem zi_140_111 : z_ins 140 111 = some (.ireturn, 1) := by decide +kernel
theorem ze_140_111 : z_T g d 140 111 ls [.int x] h P = ((x = nI 0 ∨ x = nI 1) ∧ P (.inr (some (.int x)), h)) := zt_zreturn zi_140_111 zr_140
-- LatinRectanglesModel.parse(I)I
theorem zo_141 : z_own 141 = "LatinRectanglesModel" := by decide +kernel
theorem zm_141 : z_maxL 141 = 3 := by decide +kernel
theorem zh_141 : z_hds 141 = [] := by decide +kernel
theorem zr_141 : z_rt 141 = (some .int) := by decide +kernel
theorem zn_141 : z_Ca g d 141 [.ref a0, .int x1] h P = z_T g d 141 0 [.ref a0, .int x1, z_un] [] h P := z_Ca_ent zm_141 rfl rfl
theorem zi_141_0 : z_ins 141 0 = some (.aload_n 0, 1) := by decide +kernel
theorem ze_141_0 : z_T g d 141 0 (.ref a :: ls) st h P = z_T g d 141 1 (.ref a :: ls) (.ref a :: st) h P := zt_aloadn zi_141_0 rfl rfl
theorem zi_141_1 : z_ins 141 1 = some (.iconst 0, 1) := by decide +kernel
theorem ze_141_1 : z_T g d 141 1 ls st h P = z_T g d 141 2 ls (.int (nI 0) :: st) h P := zt_iconst zi_141_1 rfl
theorem zi_141_2 : z_ins 141 2 = some (.putfield 67, 3) := by decide +kernel
theorem ze_141_2 : z_T g d 141 2 ls (.int x :: .ref a :: st) h P = z_pF h.1 a 10 0 (.int x) (fun f => z_T g d 141 5 ls st (f, h.2) P) := zt_putI zi_141_2 ((congrArg (fun o => z_fl o 67) zo_141).trans zf_LatinRectanglesModel_67)
theorem zi_141_5 : z_ins 141 5 = some (.aload_n 0, 1) := by decide +kernel
theorem ze_141_5 : z_T g d 141 5 (.ref a :: ls) st h P = z_T g d 141 6 (.ref a :: ls) (.ref a :: st) h P := zt_aloadn zi_141_5 rfl rfl
theorem zi_141_6 : z_ins 141 6 = some (.iload_n 1, 1) := by decide +kernel
theorem ze_141_6 : z_T g d 141 6 (v0 :: .int x :: ls) st h P = z_T g d 141 7 (v0 :: .int x :: ls) (.int x :: st) h P := zt_iloadn zi_141_6 rfl rfl
theorem zi_141_7 : z_ins 141 7 = some (.iconst 0, 1) := by decide +kernel
theorem ze_141_7 : z_T g d 141 7 ls st h P = z_T g d 141 8 ls (.int (nI 0) :: st) h P := zt_iconst zi_141_7 rfl
theorem zi_141_8 : z_ins 141 8 = some (.aload_n 0, 1) := by decide +kernel
theorem ze_141_8 : z_T g d 141 8 (.ref a :: ls) st h P = z_T g d 141 9 (.ref a :: ls) (.ref a :: st) h P := zt_aloadn zi_141_8 rfl rfl
theorem zi_141_9 : z_ins 141 9 = some (.getfield 85, 3) := by decide +kernel
theorem ze_141_9 : z_T g d 141 9 ls (.ref a :: st) h P = z_gI h.1 a 10 13 (fun x => z_T g d 141 12 ls (.int x :: st) h P) := zt_getI zi_141_9 ((congrArg (fun o => z_fl o 85) zo_141).trans zf_LatinRectanglesModel_85)
theorem zi_141_12 : z_ins 141 12 = some (.invokestatic 111, 3) := by decide +kernel
theorem ze_141_12 : z_T g d 141 12 ls (.int x2 :: .int x1 :: .int x0 :: st) h P = ((z_okS 8 st = true ∧ 0 < d) ∧ z_Ca g (d - 1) 122 [.int x0, .int x1, .int x2] h (fun r => z_k r (fun v h' => z_T g d 141 15 ls (z_push v st) h' P) P)) := zt_callS0 (as := [.int x0, .int x1, .int x2]) zi_141_12 ((congrArg (fun o => z_lookup z_prs (o, 111)) zo_141).trans zp_LatinRectanglesModel_111) ((congrArg (fun o => z_clk o 111) zo_141).trans zk_LatinRectanglesModel_111) zh_141 rfl rfl rfl
theorem zi_141_15 : z_ins 141 15 = some (.ifCond .ne 7, 3) := by decide +kernel
theorem ze_141_15 : z_T g d 141 15 ls (.int x :: st) h P = (if x = nI 0 then z_T g d 141 18 ls st h P else z_T g d 141 22 ls st h P) := zt_ifne zi_141_15 (by decide)
theorem zi_141_18 : z_ins 141 18 = some (.iconst 1, 1) := by decide +kernel
theorem ze_141_18 : z_T g d 141 18 ls st h P = z_T g d 141 19 ls (.int (nI 1) :: st) h P := zt_iconst zi_141_18 rfl
theorem zi_141_19 : z_ins 141 19 = some (.goto 4, 3) := by decide +kernel
theorem ze_141_19 : z_T g d 141 19 ls st h P = z_T g d 141 23 ls st h P := zt_goto zi_141_19 (by decide)
theorem zi_141_22 : z_ins 141 22 = some (.iconst 0, 1) := by decide +kernel
theorem ze_141_22 : z_T g d 141 22 ls st h P = z_T g d 141 23 ls (.int (nI 0) :: st) h P := zt_iconst zi_141_22 rfl
theorem zi_141_23 : z_ins 141 23 = some (.iconst 1, 1) := by decide +kernel
theorem ze_141_23 : z_T g d 141 23 ls st h P = z_T g d 141 24 ls (.int (nI 1) :: st) h P := zt_iconst zi_141_23 rfl
theorem zi_141_24 : z_ins 141 24 = some (.invokevirtual 167, 3) := by decide +kernel
theorem ze_141_24 : z_T g d 141 24 ls (.int x1 :: .int x0 :: .ref a :: st) h P = ((z_okS 8 st = true ∧ z_gO h.1 a 10 ∧ 0 < d) ∧ z_Ca g (d - 1) 123 [.ref a, .int x0, .int x1] h (fun r => z_k r (fun v h' => z_T g d 141 27 ls (z_push v st) h' P) P)) := zt_callV (as := [.int x0, .int x1]) zi_141_24 ((congrArg (fun o => z_lookup z_prs (o, 167)) zo_141).trans zp_LatinRectanglesModel_167) ((congrArg (fun o => z_clk o 167) zo_141).trans zk_LatinRectanglesModel_167) zh_141 zc_123 rfl rfl rfl
theorem zi_141_27 : z_ins 141 27 = some (.ifCond .eq 5, 3) := by decide +kernel
theorem ze_141_27 : z_T g d 141 27 ls (.int x :: st) h P = (if x = nI 0 then z_T g d 141 32 ls st h P else z_T g d 141 30 ls st h P) := zt_ifeq zi_141_27 (by decide)
theorem zi_141_30 : z_ins 141 30 = some (.iconst 0, 1) := by decide +kernel
theorem ze_141_30 : z_T g d 141 30 ls st h P = z_T g d 141 31 ls (.int (nI 0) :: st) h P := zt_iconst zi_141_30 rfl
theorem zi_141_31 : z_ins 141 31 = some (.ireturn, 1) := by decide +kernel
theorem ze_141_31 : z_T g d 141 31 ls [.int x] h P = P (.inr (some (.int x)), h) := zt_ireturn zi_141_31 zr_141
theorem zi_141_32 : z_ins 141 32 = some (.aload_n 0, 1) := by decide +kernel
theorem ze_141_32 : z_T g d 141 32 (.ref a :: ls) st h P = z_T g d 141 33 (.ref a :: ls) (.ref a :: st) h P := zt_aloadn zi_141_32 rfl rfl
theorem zi_141_33 : z_ins 141 33 = some (.iload_n 1, 1) := by decide +kernel
theorem ze_141_33 : z_T g d 141 33 (v0 :: .int x :: ls) st h P = z_T g d 141 34 (v0 :: .int x :: ls) (.int x :: st) h P := zt_iloadn zi_141_33 rfl rfl
theorem zi_141_34 : z_ins 141 34 = some (.putfield 92, 3) := by decide +kernel
theorem ze_141_34 : z_T g d 141 34 ls (.int x :: .ref a :: st) h P = z_pF h.1 a 10 14 (.int x) (fun f => z_T g d 141 37 ls st (f, h.2) P) := zt_putI zi_141_34 ((congrArg (fun o => z_fl o 92) zo_141).trans zf_LatinRectanglesModel_92)
theorem zi_141_37 : z_ins 141 37 = some (.aload_n 0, 1) := by decide +kernel
theorem ze_141_37 : z_T g d 141 37 (.ref a :: ls) st h P = z_T g d 141 38 (.ref a :: ls) (.ref a :: st) h P := zt_aloadn zi_141_37 rfl rfl
theorem zi_141_38 : z_ins 141 38 = some (.iconst 0, 1) := by decide +kernel
theorem ze_141_38 : z_T g d 141 38 ls st h P = z_T g d 141 39 ls (.int (nI 0) :: st) h P := zt_iconst zi_141_38 rfl
theorem zi_141_39 : z_ins 141 39 = some (.putfield 85, 3) := by decide +kernel
theorem ze_141_39 : z_T g d 141 39 ls (.int x :: .ref a :: st) h P = z_pF h.1 a 10 13 (.int x) (fun f => z_T g d 141 42 ls st (f, h.2) P) := zt_putI zi_141_39 ((congrArg (fun o => z_fl o 85) zo_141).trans zf_LatinRectanglesModel_85)
theorem zi_141_42 : z_ins 141 42 = some (.aload_n 0, 1) := by decide +kernel
theorem ze_141_42 : z_T g d 141 42 (.ref a :: ls) st h P = z_T g d 141 43 (.ref a :: ls) (.ref a :: st) h P := zt_aloadn zi_141_42 rfl rfl
theorem zi_141_43 : z_ins 141 43 = some (.iconst 0, 1) := by decide +kernel
theorem ze_141_43 : z_T g d 141 43 ls st h P = z_T g d 141 44 ls (.int (nI 0) :: st) h P := zt_iconst zi_141_43 rfl
theorem zi_141_44 : z_ins 141 44 = some (.putfield 95, 3) := by decide +kernel
theorem ze_141_44 : z_T g d 141 44 ls (.int x :: .ref a :: st) h P = z_pF h.1 a 10 16 (.int x) (fun f => z_T g d 141 47 ls st (f, h.2) P) := zt_putI zi_141_44 ((congrArg (fun o => z_fl o 95) zo_141).trans zf_LatinRectanglesModel_95)
theorem zi_141_47 : z_ins 141 47 = some (.aload_n 0, 1) := by decide +kernel
theorem ze_141_47 : z_T g d 141 47 (.ref a :: ls) st h P = z_T g d 141 48 (.ref a :: ls) (.ref a :: st) h P := zt_aloadn zi_141_47 rfl rfl
theorem zi_141_48 : z_ins 141 48 = some (.iconst 0, 1) := by decide +kernel
theorem ze_141_48 : z_T g d 141 48 ls st h P = z_T g d 141 49 ls (.int (nI 0) :: st) h P := zt_iconst zi_141_48 rfl
theorem zi_141_49 : z_ins 141 49 = some (.putfield 124, 3) := by decide +kernel
theorem ze_141_49 : z_T g d 141 49 ls (.int x :: .ref a :: st) h P = z_pF h.1 a 10 19 (.int x) (fun f => z_T g d 141 52 ls st (f, h.2) P) := zt_putI zi_141_49 ((congrArg (fun o => z_fl o 124) zo_141).trans zf_LatinRectanglesModel_124)
theorem zi_141_52 : z_ins 141 52 = some (.aload_n 0, 1) := by decide +kernel
theorem ze_141_52 : z_T g d 141 52 (.ref a :: ls) st h P = z_T g d 141 53 (.ref a :: ls) (.ref a :: st) h P := zt_aloadn zi_141_52 rfl rfl
theorem zi_141_53 : z_ins 141 53 = some (.iconst (-1), 1) := by decide +kernel
theorem ze_141_53 : z_T g d 141 53 ls st h P = z_T g d 141 54 ls (.int (-1) :: st) h P := zt_iconst zi_141_53 rfl
theorem zi_141_54 : z_ins 141 54 = some (.putfield 29, 3) := by decide +kernel
theorem ze_141_54 : z_T g d 141 54 ls (.int x :: .ref a :: st) h P = z_pF h.1 a 10 20 (.int x) (fun f => z_T g d 141 57 ls st (f, h.2) P) := zt_putI zi_141_54 ((congrArg (fun o => z_fl o 29) zo_141).trans zf_LatinRectanglesModel_29)
theorem zi_141_57 : z_ins 141 57 = some (.aload_n 0, 1) := by decide +kernel
theorem ze_141_57 : z_T g d 141 57 (.ref a :: ls) st h P = z_T g d 141 58 (.ref a :: ls) (.ref a :: st) h P := zt_aloadn zi_141_57 rfl rfl
theorem zi_141_58 : z_ins 141 58 = some (.invokevirtual 52, 3) := by decide +kernel
theorem ze_141_58 : z_T g d 141 58 ls (.ref a :: st) h P = ((z_okS 8 st = true ∧ z_gO h.1 a 10 ∧ 0 < d) ∧ z_Ca g (d - 1) 124 [.ref a] h (fun r => z_k r (fun v h' => z_T g d 141 61 ls (z_push v st) h' P) P)) := zt_callV (as := []) zi_141_58 ((congrArg (fun o => z_lookup z_prs (o, 52)) zo_141).trans zp_LatinRectanglesModel_52) ((congrArg (fun o => z_clk o 52) zo_141).trans zk_LatinRectanglesModel_52) zh_141 zc_124 rfl rfl rfl
theorem zi_141_61 : z_ins 141 61 = some (.aload_n 0, 1) := by decide +kernel
theorem ze_141_61 : z_T g d 141 61 (.ref a :: ls) st h P = z_T g d 141 62 (.ref a :: ls) (.ref a :: st) h P := zt_aloadn zi_141_61 rfl rfl
theorem zi_141_62 : z_ins 141 62 = some (.invokevirtual 134, 3) := by decide +kernel
theorem ze_141_62 : z_T g d 141 62 ls (.ref a :: st) h P = ((z_okS 8 st = true ∧ z_gO h.1 a 10 ∧ 0 < d) ∧ z_Ca g (d - 1) 131 [.ref a] h (fun r => z_k r (fun v h' => z_T g d 141 65 ls (z_push v st) h' P) P)) := zt_callV (as := []) zi_141_62 ((congrArg (fun o => z_lookup z_prs (o, 134)) zo_141).trans zp_LatinRectanglesModel_134) ((congrArg (fun o => z_clk o 134) zo_141).trans zk_LatinRectanglesModel_134) zh_141 zc_131 rfl rfl rfl
theorem zi_141_65 : z_ins 141 65 = some (.aload_n 0, 1) := by decide +kernel
theorem ze_141_65 : z_T g d 141 65 (.ref a :: ls) st h P = z_T g d 141 66 (.ref a :: ls) (.ref a :: st) h P := zt_aloadn zi_141_65 rfl rfl
theorem zi_141_66 : z_ins 141 66 = some (.invokevirtual 171, 3) := by decide +kernel
theorem ze_141_66 : z_T g d 141 66 ls (.ref a :: st) h P = ((z_okS 8 st = true ∧ z_gO h.1 a 10 ∧ 0 < d) ∧ z_Ca g (d - 1) 136 [.ref a] h (fun r => z_k r (fun v h' => z_T g d 141 69 ls (z_push v st) h' P) P)) := zt_callV (as := []) zi_141_66 ((congrArg (fun o => z_lookup z_prs (o, 171)) zo_141).trans zp_LatinRectanglesModel_171) ((congrArg (fun o => z_clk o 171) zo_141).trans zk_LatinRectanglesModel_171) zh_141 zc_136 rfl rfl rfl
theorem zi_141_69 : z_ins 141 69 = some (.istore_n 2, 1) := by decide +kernel
theorem ze_141_69 : z_T g d 141 69 (v0 :: v1 :: v2 :: ls) (.int x :: st) h P = z_T g d 141 70 (v0 :: v1 :: .int x :: ls) st h P := zt_istoren zi_141_69 rfl (Nat.le_add_left 3 _)
theorem zi_141_70 : z_ins 141 70 = some (.iload_n 2, 1) := by decide +kernel
theorem ze_141_70 : z_T g d 141 70 (v0 :: v1 :: .int x :: ls) st h P = z_T g d 141 71 (v0 :: v1 :: .int x :: ls) (.int x :: st) h P := zt_iloadn zi_141_70 rfl rfl
theorem zi_141_71 : z_ins 141 71 = some (.ifCond .eq 33, 3) := by decide +kernel
theorem ze_141_71 : z_T g d 141 71 ls (.int x :: st) h P = (if x = nI 0 then z_T g d 141 104 ls st h P else z_T g d 141 74 ls st h P) := zt_ifeq zi_141_71 (by decide)
theorem zi_141_74 : z_ins 141 74 = some (.aload_n 0, 1) := by decide +kernel
theorem ze_141_74 : z_T g d 141 74 (.ref a :: ls) st h P = z_T g d 141 75 (.ref a :: ls) (.ref a :: st) h P := zt_aloadn zi_141_74 rfl rfl
theorem zi_141_75 : z_ins 141 75 = some (.getfield 108, 3) := by decide +kernel
theorem ze_141_75 : z_T g d 141 75 ls (.ref a :: st) h P = z_gI h.1 a 10 17 (fun x => z_T g d 141 78 ls (.int x :: st) h P) := zt_getI zi_141_75 ((congrArg (fun o => z_fl o 108) zo_141).trans zf_LatinRectanglesModel_108)
theorem zi_141_78 : z_ins 141 78 = some (.ifCond .eq 26, 3) := by decide +kernel
theorem ze_141_78 : z_T g d 141 78 ls (.int x :: st) h P = (if x = nI 0 then z_T g d 141 104 ls st h P else z_T g d 141 81 ls st h P) := zt_ifeq zi_141_78 (by decide)
theorem zi_141_81 : z_ins 141 81 = some (.aload_n 0, 1) := by decide +kernel
theorem ze_141_81 : z_T g d 141 81 (.ref a :: ls) st h P = z_T g d 141 82 (.ref a :: ls) (.ref a :: st) h P := zt_aloadn zi_141_81 rfl rfl
theorem zi_141_82 : z_ins 141 82 = some (.invokevirtual 174, 3) := by decide +kernel
theorem ze_141_82 : z_T g d 141 82 ls (.ref a :: st) h P = ((z_okS 8 st = true ∧ z_gO h.1 a 10 ∧ 0 < d) ∧ z_Ca g (d - 1) 140 [.ref a] h (fun r => z_k r (fun v h' => z_T g d 141 85 ls (z_push v st) h' P) P)) := zt_callV (as := []) zi_141_82 ((congrArg (fun o => z_lookup z_prs (o, 174)) zo_141).trans zp_LatinRectanglesModel_174) ((congrArg (fun o => z_clk o 174) zo_141).trans zk_LatinRectanglesModel_174) zh_141 zc_140 rfl rfl rfl
theorem zi_141_85 : z_ins 141 85 = some (.ifCond .eq 14, 3) := by decide +kernel
theorem ze_141_85 : z_T g d 141 85 ls (.int x :: st) h P = (if x = nI 0 then z_T g d 141 99 ls st h P else z_T g d 141 88 ls st h P) := zt_ifeq zi_141_85 (by decide)
theorem zi_141_88 : z_ins 141 88 = some (.aload_n 0, 1) := by decide +kernel
theorem ze_141_88 : z_T g d 141 88 (.ref a :: ls) st h P = z_T g d 141 89 (.ref a :: ls) (.ref a :: st) h P := zt_aloadn zi_141_88 rfl rfl
theorem zi_141_89 : z_ins 141 89 = some (.invokevirtual 147, 3) := by decide +kernel
theorem ze_141_89 : z_T g d 141 89 ls (.ref a :: st) h P = ((z_okS 8 st = true ∧ z_gO h.1 a 10 ∧ 0 < d) ∧ z_Ca g (d - 1) 135 [.ref a] h (fun r => z_k r (fun v h' => z_T g d 141 92 ls (z_push v st) h' P) P)) := zt_callV (as := []) zi_141_89 ((congrArg (fun o => z_lookup z_prs (o, 147)) zo_141).trans zp_LatinRectanglesModel_147) ((congrArg (fun o => z_clk o 147) zo_141).trans zk_LatinRectanglesModel_147) zh_141 zc_135 rfl rfl rfl
theorem zi_141_92 : z_ins 141 92 = some (.ifCond .eq 7, 3) := by decide +kernel
theorem ze_141_92 : z_T g d 141 92 ls (.int x :: st) h P = (if x = nI 0 then z_T g d 141 99 ls st h P else z_T g d 141 95 ls st h P) := zt_ifeq zi_141_92 (by decide)
theorem zi_141_95 : z_ins 141 95 = some (.iconst 1, 1) := by decide +kernel
theorem ze_141_95 : z_T g d 141 95 ls st h P = z_T g d 141 96 ls (.int (nI 1) :: st) h P := zt_iconst zi_141_95 rfl
theorem zi_141_96 : z_ins 141 96 = some (.goto 4, 3) := by decide +kernel
theorem ze_141_96 : z_T g d 141 96 ls st h P = z_T g d 141 100 ls st h P := zt_goto zi_141_96 (by decide)
theorem zi_141_99 : z_ins 141 99 = some (.iconst 0, 1) := by decide +kernel
theorem ze_141_99 : z_T g d 141 99 ls st h P = z_T g d 141 100 ls (.int (nI 0) :: st) h P := zt_iconst zi_141_99 rfl
theorem zi_141_100 : z_ins 141 100 = some (.istore_n 2, 1) := by decide +kernel
theorem ze_141_100 : z_T g d 141 100 (v0 :: v1 :: v2 :: ls) (.int x :: st) h P = z_T g d 141 101 (v0 :: v1 :: .int x :: ls) st h P := zt_istoren zi_141_100 rfl (Nat.le_add_left 3 _)
theorem zi_141_101 : z_ins 141 101 = some (.goto (-31), 3) := by decide +kernel
theorem ze_141_101 : z_T g d 141 101 ls st h P = z_T g d 141 70 ls st h P := zt_goto zi_141_101 (by decide)
theorem zi_141_104 : z_ins 141 104 = some (.iload_n 2, 1) := by decide +kernel
theorem ze_141_104 : z_T g d 141 104 (v0 :: v1 :: .int x :: ls) st h P = z_T g d 141 105 (v0 :: v1 :: .int x :: ls) (.int x :: st) h P := zt_iloadn zi_141_104 rfl rfl
theorem zi_141_105 : z_ins 141 105 = some (.ifCond .ne 8, 3) := by decide +kernel
theorem ze_141_105 : z_T g d 141 105 ls (.int x :: st) h P = (if x = nI 0 then z_T g d 141 108 ls st h P else z_T g d 141 113 ls st h P) := zt_ifne zi_141_105 (by decide)
theorem zi_141_108 : z_ins 141 108 = some (.aload_n 0, 1) := by decide +kernel
theorem ze_141_108 : z_T g d 141 108 (.ref a :: ls) st h P = z_T g d 141 109 (.ref a :: ls) (.ref a :: st) h P := zt_aloadn zi_141_108 rfl rfl
theorem zi_141_109 : z_ins 141 109 = some (.getfield 124, 3) := by decide +kernel
theorem ze_141_109 : z_T g d 141 109 ls (.ref a :: st) h P = z_gI h.1 a 10 19 (fun x => z_T g d 141 112 ls (.int x :: st) h P) := zt_getI zi_141_109 ((congrArg (fun o => z_fl o 124) zo_141).trans zf_LatinRectanglesModel_124)
theorem zi_141_112 : z_ins 141 112 = some (.ireturn, 1) := by decide +kernel
theorem ze_141_112 : z_T g d 141 112 ls [.int x] h P = P (.inr (some (.int x)), h) := zt_ireturn zi_141_112 zr_141
theorem zi_141_113 : z_ins 141 113 = some (.aload_n 0, 1) := by decide +kernel
theorem ze_141_113 : z_T g d 141 113 (.ref a :: ls) st h P = z_T g d 141 114 (.ref a :: ls) (.ref a :: st) h P := zt_aloadn zi_141_113 rfl rfl
theorem zi_141_114 : z_ins 141 114 = some (.invokevirtual 61, 3) := by decide +kernel
theorem ze_141_114 : z_T g d 141 114 ls (.ref a :: st) h P = ((z_okS 8 st = true ∧ z_gO h.1 a 10 ∧ 0 < d) ∧ z_Ca g (d - 1) 125 [.ref a] h (fun r => z_k r (fun v h' => z_T g d 141 117 ls (z_push v st) h' P) P)) := zt_callV (as := []) zi_141_114 ((congrArg (fun o => z_lookup z_prs (o, 61)) zo_141).trans zp_LatinRectanglesModel_61) ((congrArg (fun o => z_clk o 61) zo_141).trans zk_LatinRectanglesModel_61) zh_141 zc_125 rfl rfl rfl
theorem zi_141_117 : z_ins 141 117 = some (.aload_n 0, 1) := by decide +kernel
theorem ze_141_117 : z_T g d 141 117 (.ref a :: ls) st h P = z_T g d 141 118 (.ref a :: ls) (.ref a :: st) h P := zt_aloadn zi_141_117 rfl rfl
theorem zi_141_118 : z_ins 141 118 = some (.invokevirtual 64, 3) := by decide +kernel
theorem ze_141_118 : z_T g d 141 118 ls (.ref a :: st) h P = ((z_okS 8 st = true ∧ z_gO h.1 a 10 ∧ 0 < d) ∧ z_Ca g (d - 1) 126 [.ref a] h (fun r => z_k r (fun v h' => z_T g d 141 121 ls (z_push v st) h' P) P)) := zt_callV (as := []) zi_141_118 ((congrArg (fun o => z_lookup z_prs (o, 64)) zo_141).trans zp_LatinRectanglesModel_64) ((congrArg (fun o => z_clk o 64) zo_141).trans zk_LatinRectanglesModel_64) zh_141 zc_126 rfl rfl rfl
theorem zi_141_121 : z_ins 141 121 = some (.iconst 0, 1) := by decide +kernel
theorem ze_141_121 : z_T g d 141 121 ls st h P = z_T g d 141 122 ls (.int (nI 0) :: st) h P := zt_iconst zi_141_121 rfl
theorem zi_141_122 : z_ins 141 122 = some (.ireturn, 1) := by decide +kernel
theorem ze_141_122 : z_T g d 141 122 ls [.int x] h P = P (.inr (some (.int x)), h) := zt_ireturn zi_141_122 zr_141
-- LatinRectanglesModel.errorPosition()I
theorem zo_142 : z_own 142 = "LatinRectanglesModel" := by decide +kernel
theorem zm_142 : z_maxL 142 = 1 := by decide +kernel
theorem zh_142 : z_hds 142 = [] := by decide +kernel
theorem zr_142 : z_rt 142 = (some .int) := by decide +kernel
theorem zn_142 : z_Ca g d 142 [.ref a0] h P = z_T g d 142 0 [.ref a0] [] h P := z_Ca_ent zm_142 rfl rfl
theorem zi_142_0 : z_ins 142 0 = some (.aload_n 0, 1) := by decide +kernel
theorem ze_142_0 : z_T g d 142 0 (.ref a :: ls) st h P = z_T g d 142 1 (.ref a :: ls) (.ref a :: st) h P := zt_aloadn zi_142_0 rfl rfl
theorem zi_142_1 : z_ins 142 1 = some (.iconst 0, 1) := by decide +kernel
theorem ze_142_1 : z_T g d 142 1 ls st h P = z_T g d 142 2 ls (.int (nI 0) :: st) h P := zt_iconst zi_142_1 rfl
theorem zi_142_2 : z_ins 142 2 = some (.putfield 67, 3) := by decide +kernel
theorem ze_142_2 : z_T g d 142 2 ls (.int x :: .ref a :: st) h P = z_pF h.1 a 10 0 (.int x) (fun f => z_T g d 142 5 ls st (f, h.2) P) := zt_putI zi_142_2 ((congrArg (fun o => z_fl o 67) zo_142).trans zf_LatinRectanglesModel_67)
theorem zi_142_5 : z_ins 142 5 = some (.aload_n 0, 1) := by decide +kernel
theorem ze_142_5 : z_T g d 142 5 (.ref a :: ls) st h P = z_T g d 142 6 (.ref a :: ls) (.ref a :: st) h P := zt_aloadn zi_142_5 rfl rfl
theorem zi_142_6 : z_ins 142 6 = some (.getfield 29, 3) := by decide +kernel
theorem ze_142_6 : z_T g d 142 6 ls (.ref a :: st) h P = z_gI h.1 a 10 20 (fun x => z_T g d 142 9 ls (.int x :: st) h P) := zt_getI zi_142_6 ((congrArg (fun o => z_fl o 29) zo_142).trans zf_LatinRectanglesModel_29)
theorem zi_142_9 : z_ins 142 9 = some (.ireturn, 1) := by decide +kernel
theorem ze_142_9 : z_T g d 142 9 ls [.int x] h P = P (.inr (some (.int x)), h) := zt_ireturn zi_142_9 zr_142
end
