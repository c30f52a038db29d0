section
variable {g : z_G} {d : Nat} {h : z_H} {P : z_Res → Prop} {ls st : List Value} {v0 v1 v2 v3 v4 v5 v6 v7 v8 v9 v10 v11 : Value} {x y x0 x1 x2 x3 x4 x5 x6 : Int32} {u w : Int64} {a b a0 a1 a2 a3 a4 a5 k0 k1 : Nat}
-- LatinRectanglesModel.noRow(I)Z
theorem zo_143 : z_own 143 = "LatinRectanglesModel" := by decide +kernel
theorem zm_143 : z_maxL 143 = 2 := by decide +kernel
theorem zh_143 : z_hds 143 = [] := by decide +kernel
theorem zr_143 : z_rt 143 = (some .boolean) := by decide +kernel
theorem zn_143 : z_Ca g d 143 [.ref a0, .int x1] h P = z_T g d 143 0 [.ref a0, .int x1] [] h P := z_Ca_ent zm_143 rfl rfl
theorem zi_143_0 : z_ins 143 0 = some (.aload_n 0, 1) := by decide +kernel
theorem ze_143_0 : z_T g d 143 0 (.ref a :: ls) st h P = z_T g d 143 1 (.ref a :: ls) (.ref a :: st) h P := zt_aloadn zi_143_0 rfl rfl
theorem zi_143_1 : z_ins 143 1 = some (.iconst 0, 1) := by decide +kernel
theorem ze_143_1 : z_T g d 143 1 ls st h P = z_T g d 143 2 ls (.int (nI 0) :: st) h P := zt_iconst zi_143_1 rfl
theorem zi_143_2 : z_ins 143 2 = some (.putfield 67, 3) := by decide +kernel
theorem ze_143_2 : z_T g d 143 2 ls (.int x :: .ref a :: st) h P = z_pF h.1 a 10 0 (.int x) (fun f => z_T g d 143 5 ls st (f, h.2) P) := zt_putI zi_143_2 ((congrArg (fun o => z_fl o 67) zo_143).trans zf_LatinRectanglesModel_67)
theorem zi_143_5 : z_ins 143 5 = some (.aload_n 0, 1) := by decide +kernel
theorem ze_143_5 : z_T g d 143 5 (.ref a :: ls) st h P = z_T g d 143 6 (.ref a :: ls) (.ref a :: st) h P := zt_aloadn zi_143_5 rfl rfl
theorem zi_143_6 : z_ins 143 6 = some (.iload_n 1, 1) := by decide +kernel
theorem ze_143_6 : z_T g d 143 6 (v0 :: .int x :: ls) st h P = z_T g d 143 7 (v0 :: .int x :: ls) (.int x :: st) h P := zt_iloadn zi_143_6 rfl rfl
theorem zi_143_7 : z_ins 143 7 = some (.iconst 0, 1) := by decide +kernel
theorem ze_143_7 : z_T g d 143 7 ls st h P = z_T g d 143 8 ls (.int (nI 0) :: st) h P := zt_iconst zi_143_7 rfl
theorem zi_143_8 : z_ins 143 8 = some (.aload_n 0, 1) := by decide +kernel
theorem ze_143_8 : z_T g d 143 8 (.ref a :: ls) st h P = z_T g d 143 9 (.ref a :: ls) (.ref a :: st) h P := zt_aloadn zi_143_8 rfl rfl
theorem zi_143_9 : z_ins 143 9 = some (.getfield 73, 3) := by decide +kernel
theorem ze_143_9 : z_T g d 143 9 ls (.ref a :: st) h P = z_gI h.1 a 10 1 (fun x => z_T g d 143 12 ls (.int x :: st) h P) := zt_getI zi_143_9 ((congrArg (fun o => z_fl o 73) zo_143).trans zf_LatinRectanglesModel_73)
theorem zi_143_12 : z_ins 143 12 = some (.iconst 1, 1) := by decide +kernel
theorem ze_143_12 : z_T g d 143 12 ls st h P = z_T g d 143 13 ls (.int (nI 1) :: st) h P := zt_iconst zi_143_12 rfl
theorem zi_143_13 : z_ins 143 13 = some (.isub, 1) := by decide +kernel
theorem ze_143_13 : z_T g d 143 13 ls (.int y :: .int x :: st) h P = z_T g d 143 14 ls (.int (x - y) :: st) h P := zt_bin (f := fun x y => x - y) zi_143_13 rfl (fun _ _ _ => rfl)
theorem zi_143_14 : z_ins 143 14 = some (.invokestatic 111, 3) := by decide +kernel
theorem ze_143_14 : z_T g d 143 14 ls (.int x2 :: .int x1 :: .int x0 :: st) h P = ((z_okS 8 st = true ∧ 0 < d) ∧ z_Ca g (d - 1) 122 [.int x0, .int x1, .int x2] h (fun r => z_k r (fun v h' => z_T g d 143 17 ls (z_push v st) h' P) P)) := zt_callS0 (as := [.int x0, .int x1, .int x2]) zi_143_14 ((congrArg (fun o => z_lookup z_prs (o, 111)) zo_143).trans zp_LatinRectanglesModel_111) ((congrArg (fun o => z_clk o 111) zo_143).trans zk_LatinRectanglesModel_111) zh_143 rfl rfl rfl
theorem zi_143_17 : z_ins 143 17 = some (.ifCond .ne 7, 3) := by decide +kernel
theorem ze_143_17 : z_T g d 143 17 ls (.int x :: st) h P = (if x = nI 0 then z_T g d 143 20 ls st h P else z_T g d 143 24 ls st h P) := zt_ifne zi_143_17 (by decide)
theorem zi_143_20 : z_ins 143 20 = some (.iconst 1, 1) := by decide +kernel
theorem ze_143_20 : z_T g d 143 20 ls st h P = z_T g d 143 21 ls (.int (nI 1) :: st) h P := zt_iconst zi_143_20 rfl
theorem zi_143_21 : z_ins 143 21 = some (.goto 4, 3) := by decide +kernel
theorem ze_143_21 : z_T g d 143 21 ls st h P = z_T g d 143 25 ls st h P := zt_goto zi_143_21 (by decide)
theorem zi_143_24 : z_ins 143 24 = some (.iconst 0, 1) := by decide +kernel
theorem ze_143_24 : z_T g d 143 24 ls st h P = z_T g d 143 25 ls (.int (nI 0) :: st) h P := zt_iconst zi_143_24 rfl
theorem zi_143_25 : z_ins 143 25 = some (.iconst 1, 1) := by decide +kernel
theorem ze_143_25 : z_T g d 143 25 ls st h P = z_T g d 143 26 ls (.int (nI 1) :: st) h P := zt_iconst zi_143_25 rfl
theorem zi_143_26 : z_ins 143 26 = some (.invokevirtual 167, 3) := by decide +kernel
theorem ze_143_26 : z_T g d 143 26 ls (.int x1 :: .int x0 :: .ref a :: st) h P = ((z_okS 8 st = true ∧ z_gO h.1 a 10 ∧ 0 < d) ∧ z_Ca g (d - 1) 123 [.ref a, .int x0, .int x1] h (fun r => z_k r (fun v h' => z_T g d 143 29 ls (z_push v st) h' P) P)) := zt_callV (as := [.int x0, .int x1]) zi_143_26 ((congrArg (fun o => z_lookup z_prs (o, 167)) zo_143).trans zp_LatinRectanglesModel_167) ((congrArg (fun o => z_clk o 167) zo_143).trans zk_LatinRectanglesModel_167) zh_143 zc_123 rfl rfl rfl
theorem zi_143_29 : z_ins 143 29 = some (.ireturn, 1) := by decide +kernel
theorem ze_143_29 : z_T g d 143 29 ls [.int x] h P = ((x = nI 0 ∨ x = nI 1) ∧ P (.inr (some (.int x)), h)) := zt_zreturn zi_143_29 zr_143
-- LatinRectanglesModel.noCell(II)Z
theorem zo_144 : z_own 144 = "LatinRectanglesModel" := by decide +kernel
theorem zm_144 : z_maxL 144 = 3 := by decide +kernel
theorem zh_144 : z_hds 144 = [] := by decide +kernel
theorem zr_144 : z_rt 144 = (some .boolean) := by decide +kernel
theorem zn_144 : z_Ca g d 144 [.ref a0, .int x1, .int x2] h P = z_T g d 144 0 [.ref a0, .int x1, .int x2] [] h P := z_Ca_ent zm_144 rfl rfl
theorem zi_144_0 : z_ins 144 0 = some (.aload_n 0, 1) := by decide +kernel
theorem ze_144_0 : z_T g d 144 0 (.ref a :: ls) st h P = z_T g d 144 1 (.ref a :: ls) (.ref a :: st) h P := zt_aloadn zi_144_0 rfl rfl
theorem zi_144_1 : z_ins 144 1 = some (.iload_n 1, 1) := by decide +kernel
theorem ze_144_1 : z_T g d 144 1 (v0 :: .int x :: ls) st h P = z_T g d 144 2 (v0 :: .int x :: ls) (.int x :: st) h P := zt_iloadn zi_144_1 rfl rfl
theorem zi_144_2 : z_ins 144 2 = some (.invokevirtual 177, 3) := by decide +kernel
theorem ze_144_2 : z_T g d 144 2 ls (.int x0 :: .ref a :: st) h P = ((z_okS 8 st = true ∧ z_gO h.1 a 10 ∧ 0 < d) ∧ z_Ca g (d - 1) 143 [.ref a, .int x0] h (fun r => z_k r (fun v h' => z_T g d 144 5 ls (z_push v st) h' P) P)) := zt_callV (as := [.int x0]) zi_144_2 ((congrArg (fun o => z_lookup z_prs (o, 177)) zo_144).trans zp_LatinRectanglesModel_177) ((congrArg (fun o => z_clk o 177) zo_144).trans zk_LatinRectanglesModel_177) zh_144 zc_143 rfl rfl rfl
theorem zi_144_5 : z_ins 144 5 = some (.ifCond .ne 30, 3) := by decide +kernel
theorem ze_144_5 : z_T g d 144 5 ls (.int x :: st) h P = (if x = nI 0 then z_T g d 144 8 ls st h P else z_T g d 144 35 ls st h P) := zt_ifne zi_144_5 (by decide)
theorem zi_144_8 : z_ins 144 8 = some (.aload_n 0, 1) := by decide +kernel
theorem ze_144_8 : z_T g d 144 8 (.ref a :: ls) st h P = z_T g d 144 9 (.ref a :: ls) (.ref a :: st) h P := zt_aloadn zi_144_8 rfl rfl
theorem zi_144_9 : z_ins 144 9 = some (.iload_n 2, 1) := by decide +kernel
theorem ze_144_9 : z_T g d 144 9 (v0 :: v1 :: .int x :: ls) st h P = z_T g d 144 10 (v0 :: v1 :: .int x :: ls) (.int x :: st) h P := zt_iloadn zi_144_9 rfl rfl
theorem zi_144_10 : z_ins 144 10 = some (.iconst 0, 1) := by decide +kernel
theorem ze_144_10 : z_T g d 144 10 ls st h P = z_T g d 144 11 ls (.int (nI 0) :: st) h P := zt_iconst zi_144_10 rfl
theorem zi_144_11 : z_ins 144 11 = some (.aload_n 0, 1) := by decide +kernel
theorem ze_144_11 : z_T g d 144 11 (.ref a :: ls) st h P = z_T g d 144 12 (.ref a :: ls) (.ref a :: st) h P := zt_aloadn zi_144_11 rfl rfl
theorem zi_144_12 : z_ins 144 12 = some (.getfield 76, 3) := by decide +kernel
theorem ze_144_12 : z_T g d 144 12 ls (.ref a :: st) h P = z_gI h.1 a 10 2 (fun x => z_T g d 144 15 ls (.int x :: st) h P) := zt_getI zi_144_12 ((congrArg (fun o => z_fl o 76) zo_144).trans zf_LatinRectanglesModel_76)
theorem zi_144_15 : z_ins 144 15 = some (.iconst 1, 1) := by decide +kernel
theorem ze_144_15 : z_T g d 144 15 ls st h P = z_T g d 144 16 ls (.int (nI 1) :: st) h P := zt_iconst zi_144_15 rfl
theorem zi_144_16 : z_ins 144 16 = some (.isub, 1) := by decide +kernel
theorem ze_144_16 : z_T g d 144 16 ls (.int y :: .int x :: st) h P = z_T g d 144 17 ls (.int (x - y) :: st) h P := zt_bin (f := fun x y => x - y) zi_144_16 rfl (fun _ _ _ => rfl)
theorem zi_144_17 : z_ins 144 17 = some (.invokestatic 111, 3) := by decide +kernel
theorem ze_144_17 : z_T g d 144 17 ls (.int x2 :: .int x1 :: .int x0 :: st) h P = ((z_okS 8 st = true ∧ 0 < d) ∧ z_Ca g (d - 1) 122 [.int x0, .int x1, .int x2] h (fun r => z_k r (fun v h' => z_T g d 144 20 ls (z_push v st) h' P) P)) := zt_callS0 (as := [.int x0, .int x1, .int x2]) zi_144_17 ((congrArg (fun o => z_lookup z_prs (o, 111)) zo_144).trans zp_LatinRectanglesModel_111) ((congrArg (fun o => z_clk o 111) zo_144).trans zk_LatinRectanglesModel_111) zh_144 rfl rfl rfl
theorem zi_144_20 : z_ins 144 20 = some (.ifCond .ne 7, 3) := by decide +kernel
theorem ze_144_20 : z_T g d 144 20 ls (.int x :: st) h P = (if x = nI 0 then z_T g d 144 23 ls st h P else z_T g d 144 27 ls st h P) := zt_ifne zi_144_20 (by decide)
theorem zi_144_23 : z_ins 144 23 = some (.iconst 1, 1) := by decide +kernel
theorem ze_144_23 : z_T g d 144 23 ls st h P = z_T g d 144 24 ls (.int (nI 1) :: st) h P := zt_iconst zi_144_23 rfl
theorem zi_144_24 : z_ins 144 24 = some (.goto 4, 3) := by decide +kernel
theorem ze_144_24 : z_T g d 144 24 ls st h P = z_T g d 144 28 ls st h P := zt_goto zi_144_24 (by decide)
theorem zi_144_27 : z_ins 144 27 = some (.iconst 0, 1) := by decide +kernel
theorem ze_144_27 : z_T g d 144 27 ls st h P = z_T g d 144 28 ls (.int (nI 0) :: st) h P := zt_iconst zi_144_27 rfl
theorem zi_144_28 : z_ins 144 28 = some (.iconst 1, 1) := by decide +kernel
theorem ze_144_28 : z_T g d 144 28 ls st h P = z_T g d 144 29 ls (.int (nI 1) :: st) h P := zt_iconst zi_144_28 rfl
theorem zi_144_29 : z_ins 144 29 = some (.invokevirtual 167, 3) := by decide +kernel
theorem ze_144_29 : z_T g d 144 29 ls (.int x1 :: .int x0 :: .ref a :: st) h P = ((z_okS 8 st = true ∧ z_gO h.1 a 10 ∧ 0 < d) ∧ z_Ca g (d - 1) 123 [.ref a, .int x0, .int x1] h (fun r => z_k r (fun v h' => z_T g d 144 32 ls (z_push v st) h' P) P)) := zt_callV (as := [.int x0, .int x1]) zi_144_29 ((congrArg (fun o => z_lookup z_prs (o, 167)) zo_144).trans zp_LatinRectanglesModel_167) ((congrArg (fun o => z_clk o 167) zo_144).trans zk_LatinRectanglesModel_167) zh_144 zc_123 rfl rfl rfl
theorem zi_144_32 : z_ins 144 32 = some (.ifCond .eq 7, 3) := by decide +kernel
theorem ze_144_32 : z_T g d 144 32 ls (.int x :: st) h P = (if x = nI 0 then z_T g d 144 39 ls st h P else z_T g d 144 35 ls st h P) := zt_ifeq zi_144_32 (by decide)
theorem zi_144_35 : z_ins 144 35 = some (.iconst 1, 1) := by decide +kernel
theorem ze_144_35 : z_T g d 144 35 ls st h P = z_T g d 144 36 ls (.int (nI 1) :: st) h P := zt_iconst zi_144_35 rfl
theorem zi_144_36 : z_ins 144 36 = some (.goto 4, 3) := by decide +kernel
theorem ze_144_36 : z_T g d 144 36 ls st h P = z_T g d 144 40 ls st h P := zt_goto zi_144_36 (by decide)
theorem zi_144_39 : z_ins 144 39 = some (.iconst 0, 1) := by decide +kernel
theorem ze_144_39 : z_T g d 144 39 ls st h P = z_T g d 144 40 ls (.int (nI 0) :: st) h P := zt_iconst zi_144_39 rfl
theorem zi_144_40 : z_ins 144 40 = some (.ireturn, 1) := by decide +kernel
theorem ze_144_40 : z_T g d 144 40 ls [.int x] h P = ((x = nI 0 ∨ x = nI 1) ∧ P (.inr (some (.int x)), h)) := zt_zreturn zi_144_40 zr_144
-- LatinRectanglesModel.at(II)I
theorem zo_145 : z_own 145 = "LatinRectanglesModel" := by decide +kernel
theorem zm_145 : z_maxL 145 = 3 := by decide +kernel
theorem zh_145 : z_hds 145 = [] := by decide +kernel
theorem zr_145 : z_rt 145 = (some .int) := by decide +kernel
theorem zn_145 : z_Ca g d 145 [.ref a0, .int x1, .int x2] h P = z_T g d 145 0 [.ref a0, .int x1, .int x2] [] h P := z_Ca_ent zm_145 rfl rfl
theorem zi_145_0 : z_ins 145 0 = some (.aload_n 0, 1) := by decide +kernel
theorem ze_145_0 : z_T g d 145 0 (.ref a :: ls) st h P = z_T g d 145 1 (.ref a :: ls) (.ref a :: st) h P := zt_aloadn zi_145_0 rfl rfl
theorem zi_145_1 : z_ins 145 1 = some (.getfield 22, 3) := by decide +kernel
theorem ze_145_1 : z_T g d 145 1 ls (.ref a :: st) h P = z_gR h.1 a 10 11 (fun x => z_T g d 145 4 ls (.ref x :: st) h P) := zt_getR zi_145_1 ((congrArg (fun o => z_fl o 22) zo_145).trans zf_LatinRectanglesModel_22)
theorem zi_145_4 : z_ins 145 4 = some (.iload_n 1, 1) := by decide +kernel
theorem ze_145_4 : z_T g d 145 4 (v0 :: .int x :: ls) st h P = z_T g d 145 5 (v0 :: .int x :: ls) (.int x :: st) h P := zt_iloadn zi_145_4 rfl rfl
theorem zi_145_5 : z_ins 145 5 = some (.iload_n 2, 1) := by decide +kernel
theorem ze_145_5 : z_T g d 145 5 (v0 :: v1 :: .int x :: ls) st h P = z_T g d 145 6 (v0 :: v1 :: .int x :: ls) (.int x :: st) h P := zt_iloadn zi_145_5 rfl rfl
theorem zi_145_6 : z_ins 145 6 = some (.invokestatic 151, 3) := by decide +kernel
theorem ze_145_6 : z_T g d 145 6 ls (.int x1 :: .int x0 :: st) h P = ((z_okS 8 st = true ∧ 0 < d) ∧ z_Ca g (d - 1) 127 [.int x0, .int x1] h (fun r => z_k r (fun v h' => z_T g d 145 9 ls (z_push v st) h' P) P)) := zt_callS0 (as := [.int x0, .int x1]) zi_145_6 ((congrArg (fun o => z_lookup z_prs (o, 151)) zo_145).trans zp_LatinRectanglesModel_151) ((congrArg (fun o => z_clk o 151) zo_145).trans zk_LatinRectanglesModel_151) zh_145 rfl rfl rfl
theorem zi_145_9 : z_ins 145 9 = some (.iaload, 1) := by decide +kernel
theorem ze_145_9 : z_T g d 145 9 ls (.int x :: .ref a :: st) h P = z_aL h.1 a z_tI x (fun v => z_T g d 145 10 ls (.int v :: st) h P) := zt_iaload zi_145_9
theorem zi_145_10 : z_ins 145 10 = some (.ireturn, 1) := by decide +kernel
theorem ze_145_10 : z_T g d 145 10 ls [.int x] h P = P (.inr (some (.int x)), h) := zt_ireturn zi_145_10 zr_145
-- LatinRectanglesModel.filled()I
theorem zo_146 : z_own 146 = "LatinRectanglesModel" := by decide +kernel
theorem zm_146 : z_maxL 146 = 3 := by decide +kernel
theorem zh_146 : z_hds 146 = [] := by decide +kernel
theorem zr_146 : z_rt 146 = (some .int) := by decide +kernel
theorem zn_146 : z_Ca g d 146 [.ref a0] h P = z_T g d 146 0 [.ref a0, z_un, z_un] [] h P := z_Ca_ent zm_146 rfl rfl
theorem zi_146_0 : z_ins 146 0 = some (.iconst 0, 1) := by decide +kernel
theorem ze_146_0 : z_T g d 146 0 ls st h P = z_T g d 146 1 ls (.int (nI 0) :: st) h P := zt_iconst zi_146_0 rfl
theorem zi_146_1 : z_ins 146 1 = some (.istore_n 1, 1) := by decide +kernel
theorem ze_146_1 : z_T g d 146 1 (v0 :: v1 :: ls) (.int x :: st) h P = z_T g d 146 2 (v0 :: .int x :: ls) st h P := zt_istoren zi_146_1 rfl (Nat.le_add_left 2 _)
theorem zi_146_2 : z_ins 146 2 = some (.iconst 0, 1) := by decide +kernel
theorem ze_146_2 : z_T g d 146 2 ls st h P = z_T g d 146 3 ls (.int (nI 0) :: st) h P := zt_iconst zi_146_2 rfl
theorem zi_146_3 : z_ins 146 3 = some (.istore_n 2, 1) := by decide +kernel
theorem ze_146_3 : z_T g d 146 3 (v0 :: v1 :: v2 :: ls) (.int x :: st) h P = z_T g d 146 4 (v0 :: v1 :: .int x :: ls) st h P := zt_istoren zi_146_3 rfl (Nat.le_add_left 3 _)
theorem zi_146_4 : z_ins 146 4 = some (.iload_n 2, 1) := by decide +kernel
theorem ze_146_4 : z_T g d 146 4 (v0 :: v1 :: .int x :: ls) st h P = z_T g d 146 5 (v0 :: v1 :: .int x :: ls) (.int x :: st) h P := zt_iloadn zi_146_4 rfl rfl
theorem zi_146_5 : z_ins 146 5 = some (.bipush 25, 2) := by decide +kernel
theorem ze_146_5 : z_T g d 146 5 ls st h P = z_T g d 146 7 ls (.int (nI 25) :: st) h P := zt_bipush zi_146_5 rfl
theorem zi_146_7 : z_ins 146 7 = some (.if_icmp .ge 27, 3) := by decide +kernel
theorem ze_146_7 : z_T g d 146 7 ls (.int y :: .int x :: st) h P = (if x < y then z_T g d 146 10 ls st h P else z_T g d 146 34 ls st h P) := zt_icmpge zi_146_7 (by decide)
theorem zi_146_10 : z_ins 146 10 = some (.iload_n 1, 1) := by decide +kernel
theorem ze_146_10 : z_T g d 146 10 (v0 :: .int x :: ls) st h P = z_T g d 146 11 (v0 :: .int x :: ls) (.int x :: st) h P := zt_iloadn zi_146_10 rfl rfl
theorem zi_146_11 : z_ins 146 11 = some (.aload_n 0, 1) := by decide +kernel
theorem ze_146_11 : z_T g d 146 11 (.ref a :: ls) st h P = z_T g d 146 12 (.ref a :: ls) (.ref a :: st) h P := zt_aloadn zi_146_11 rfl rfl
theorem zi_146_12 : z_ins 146 12 = some (.getfield 22, 3) := by decide +kernel
theorem ze_146_12 : z_T g d 146 12 ls (.ref a :: st) h P = z_gR h.1 a 10 11 (fun x => z_T g d 146 15 ls (.ref x :: st) h P) := zt_getR zi_146_12 ((congrArg (fun o => z_fl o 22) zo_146).trans zf_LatinRectanglesModel_22)
theorem zi_146_15 : z_ins 146 15 = some (.iload_n 2, 1) := by decide +kernel
theorem ze_146_15 : z_T g d 146 15 (v0 :: v1 :: .int x :: ls) st h P = z_T g d 146 16 (v0 :: v1 :: .int x :: ls) (.int x :: st) h P := zt_iloadn zi_146_15 rfl rfl
theorem zi_146_16 : z_ins 146 16 = some (.iaload, 1) := by decide +kernel
theorem ze_146_16 : z_T g d 146 16 ls (.int x :: .ref a :: st) h P = z_aL h.1 a z_tI x (fun v => z_T g d 146 17 ls (.int v :: st) h P) := zt_iaload zi_146_16
theorem zi_146_17 : z_ins 146 17 = some (.iconst (-1), 1) := by decide +kernel
theorem ze_146_17 : z_T g d 146 17 ls st h P = z_T g d 146 18 ls (.int (-1) :: st) h P := zt_iconst zi_146_17 rfl
theorem zi_146_18 : z_ins 146 18 = some (.if_icmp .ne 7, 3) := by decide +kernel
theorem ze_146_18 : z_T g d 146 18 ls (.int y :: .int x :: st) h P = (if x = y then z_T g d 146 21 ls st h P else z_T g d 146 25 ls st h P) := zt_icmpne zi_146_18 (by decide)
theorem zi_146_21 : z_ins 146 21 = some (.iconst 0, 1) := by decide +kernel
theorem ze_146_21 : z_T g d 146 21 ls st h P = z_T g d 146 22 ls (.int (nI 0) :: st) h P := zt_iconst zi_146_21 rfl
theorem zi_146_22 : z_ins 146 22 = some (.goto 4, 3) := by decide +kernel
theorem ze_146_22 : z_T g d 146 22 ls st h P = z_T g d 146 26 ls st h P := zt_goto zi_146_22 (by decide)
theorem zi_146_25 : z_ins 146 25 = some (.iconst 1, 1) := by decide +kernel
theorem ze_146_25 : z_T g d 146 25 ls st h P = z_T g d 146 26 ls (.int (nI 1) :: st) h P := zt_iconst zi_146_25 rfl
theorem zi_146_26 : z_ins 146 26 = some (.iadd, 1) := by decide +kernel
theorem ze_146_26 : z_T g d 146 26 ls (.int y :: .int x :: st) h P = z_T g d 146 27 ls (.int (x + y) :: st) h P := zt_bin (f := fun x y => x + y) zi_146_26 rfl (fun _ _ _ => rfl)
theorem zi_146_27 : z_ins 146 27 = some (.istore_n 1, 1) := by decide +kernel
theorem ze_146_27 : z_T g d 146 27 (v0 :: v1 :: ls) (.int x :: st) h P = z_T g d 146 28 (v0 :: .int x :: ls) st h P := zt_istoren zi_146_27 rfl (Nat.le_add_left 2 _)
theorem zi_146_28 : z_ins 146 28 = some (.iinc 2 1, 3) := by decide +kernel
theorem ze_146_28 : z_T g d 146 28 (v0 :: v1 :: .int x :: ls) st h P = z_T g d 146 31 (v0 :: v1 :: .int (x + (nI 1)) :: ls) st h P := zt_iinc zi_146_28 rfl rfl
theorem zi_146_31 : z_ins 146 31 = some (.goto (-27), 3) := by decide +kernel
theorem ze_146_31 : z_T g d 146 31 ls st h P = z_T g d 146 4 ls st h P := zt_goto zi_146_31 (by decide)
theorem zi_146_34 : z_ins 146 34 = some (.iload_n 1, 1) := by decide +kernel
theorem ze_146_34 : z_T g d 146 34 (v0 :: .int x :: ls) st h P = z_T g d 146 35 (v0 :: .int x :: ls) (.int x :: st) h P := zt_iloadn zi_146_34 rfl rfl
theorem zi_146_35 : z_ins 146 35 = some (.ireturn, 1) := by decide +kernel
theorem ze_146_35 : z_T g d 146 35 ls [.int x] h P = P (.inr (some (.int x)), h) := zt_ireturn zi_146_35 zr_146
-- LatinRectanglesModel.givenMany()I
theorem zo_147 : z_own 147 = "LatinRectanglesModel" := by decide +kernel
theorem zm_147 : z_maxL 147 = 3 := by decide +kernel
theorem zh_147 : z_hds 147 = [] := by decide +kernel
theorem zr_147 : z_rt 147 = (some .int) := by decide +kernel
theorem zn_147 : z_Ca g d 147 [.ref a0] h P = z_T g d 147 0 [.ref a0, z_un, z_un] [] h P := z_Ca_ent zm_147 rfl rfl
theorem zi_147_0 : z_ins 147 0 = some (.iconst 0, 1) := by decide +kernel
theorem ze_147_0 : z_T g d 147 0 ls st h P = z_T g d 147 1 ls (.int (nI 0) :: st) h P := zt_iconst zi_147_0 rfl
theorem zi_147_1 : z_ins 147 1 = some (.istore_n 1, 1) := by decide +kernel
theorem ze_147_1 : z_T g d 147 1 (v0 :: v1 :: ls) (.int x :: st) h P = z_T g d 147 2 (v0 :: .int x :: ls) st h P := zt_istoren zi_147_1 rfl (Nat.le_add_left 2 _)
theorem zi_147_2 : z_ins 147 2 = some (.iconst 0, 1) := by decide +kernel
theorem ze_147_2 : z_T g d 147 2 ls st h P = z_T g d 147 3 ls (.int (nI 0) :: st) h P := zt_iconst zi_147_2 rfl
theorem zi_147_3 : z_ins 147 3 = some (.istore_n 2, 1) := by decide +kernel
theorem ze_147_3 : z_T g d 147 3 (v0 :: v1 :: v2 :: ls) (.int x :: st) h P = z_T g d 147 4 (v0 :: v1 :: .int x :: ls) st h P := zt_istoren zi_147_3 rfl (Nat.le_add_left 3 _)
theorem zi_147_4 : z_ins 147 4 = some (.iload_n 2, 1) := by decide +kernel
theorem ze_147_4 : z_T g d 147 4 (v0 :: v1 :: .int x :: ls) st h P = z_T g d 147 5 (v0 :: v1 :: .int x :: ls) (.int x :: st) h P := zt_iloadn zi_147_4 rfl rfl
theorem zi_147_5 : z_ins 147 5 = some (.bipush 25, 2) := by decide +kernel
theorem ze_147_5 : z_T g d 147 5 ls st h P = z_T g d 147 7 ls (.int (nI 25) :: st) h P := zt_bipush zi_147_5 rfl
theorem zi_147_7 : z_ins 147 7 = some (.if_icmp .ge 27, 3) := by decide +kernel
theorem ze_147_7 : z_T g d 147 7 ls (.int y :: .int x :: st) h P = (if x < y then z_T g d 147 10 ls st h P else z_T g d 147 34 ls st h P) := zt_icmpge zi_147_7 (by decide)
theorem zi_147_10 : z_ins 147 10 = some (.iload_n 1, 1) := by decide +kernel
theorem ze_147_10 : z_T g d 147 10 (v0 :: .int x :: ls) st h P = z_T g d 147 11 (v0 :: .int x :: ls) (.int x :: st) h P := zt_iloadn zi_147_10 rfl rfl
theorem zi_147_11 : z_ins 147 11 = some (.aload_n 0, 1) := by decide +kernel
theorem ze_147_11 : z_T g d 147 11 (.ref a :: ls) st h P = z_T g d 147 12 (.ref a :: ls) (.ref a :: st) h P := zt_aloadn zi_147_11 rfl rfl
theorem zi_147_12 : z_ins 147 12 = some (.getfield 7, 3) := by decide +kernel
theorem ze_147_12 : z_T g d 147 12 ls (.ref a :: st) h P = z_gR h.1 a 10 7 (fun x => z_T g d 147 15 ls (.ref x :: st) h P) := zt_getR zi_147_12 ((congrArg (fun o => z_fl o 7) zo_147).trans zf_LatinRectanglesModel_7)
theorem zi_147_15 : z_ins 147 15 = some (.iload_n 2, 1) := by decide +kernel
theorem ze_147_15 : z_T g d 147 15 (v0 :: v1 :: .int x :: ls) st h P = z_T g d 147 16 (v0 :: v1 :: .int x :: ls) (.int x :: st) h P := zt_iloadn zi_147_15 rfl rfl
theorem zi_147_16 : z_ins 147 16 = some (.iaload, 1) := by decide +kernel
theorem ze_147_16 : z_T g d 147 16 ls (.int x :: .ref a :: st) h P = z_aL h.1 a z_tI x (fun v => z_T g d 147 17 ls (.int v :: st) h P) := zt_iaload zi_147_16
theorem zi_147_17 : z_ins 147 17 = some (.iconst (-1), 1) := by decide +kernel
theorem ze_147_17 : z_T g d 147 17 ls st h P = z_T g d 147 18 ls (.int (-1) :: st) h P := zt_iconst zi_147_17 rfl
theorem zi_147_18 : z_ins 147 18 = some (.if_icmp .ne 7, 3) := by decide +kernel
theorem ze_147_18 : z_T g d 147 18 ls (.int y :: .int x :: st) h P = (if x = y then z_T g d 147 21 ls st h P else z_T g d 147 25 ls st h P) := zt_icmpne zi_147_18 (by decide)
theorem zi_147_21 : z_ins 147 21 = some (.iconst 0, 1) := by decide +kernel
theorem ze_147_21 : z_T g d 147 21 ls st h P = z_T g d 147 22 ls (.int (nI 0) :: st) h P := zt_iconst zi_147_21 rfl
theorem zi_147_22 : z_ins 147 22 = some (.goto 4, 3) := by decide +kernel
theorem ze_147_22 : z_T g d 147 22 ls st h P = z_T g d 147 26 ls st h P := zt_goto zi_147_22 (by decide)
theorem zi_147_25 : z_ins 147 25 = some (.iconst 1, 1) := by decide +kernel
theorem ze_147_25 : z_T g d 147 25 ls st h P = z_T g d 147 26 ls (.int (nI 1) :: st) h P := zt_iconst zi_147_25 rfl
theorem zi_147_26 : z_ins 147 26 = some (.iadd, 1) := by decide +kernel
theorem ze_147_26 : z_T g d 147 26 ls (.int y :: .int x :: st) h P = z_T g d 147 27 ls (.int (x + y) :: st) h P := zt_bin (f := fun x y => x + y) zi_147_26 rfl (fun _ _ _ => rfl)
theorem zi_147_27 : z_ins 147 27 = some (.istore_n 1, 1) := by decide +kernel
theorem ze_147_27 : z_T g d 147 27 (v0 :: v1 :: ls) (.int x :: st) h P = z_T g d 147 28 (v0 :: .int x :: ls) st h P := zt_istoren zi_147_27 rfl (Nat.le_add_left 2 _)
theorem zi_147_28 : z_ins 147 28 = some (.iinc 2 1, 3) := by decide +kernel
theorem ze_147_28 : z_T g d 147 28 (v0 :: v1 :: .int x :: ls) st h P = z_T g d 147 31 (v0 :: v1 :: .int (x + (nI 1)) :: ls) st h P := zt_iinc zi_147_28 rfl rfl
theorem zi_147_31 : z_ins 147 31 = some (.goto (-27), 3) := by decide +kernel
theorem ze_147_31 : z_T g d 147 31 ls st h P = z_T g d 147 4 ls st h P := zt_goto zi_147_31 (by decide)
theorem zi_147_34 : z_ins 147 34 = some (.iload_n 1, 1) := by decide +kernel
theorem ze_147_34 : z_T g d 147 34 (v0 :: .int x :: ls) st h P = z_T g d 147 35 (v0 :: .int x :: ls) (.int x :: st) h P := zt_iloadn zi_147_34 rfl rfl
theorem zi_147_35 : z_ins 147 35 = some (.ireturn, 1) := by decide +kernel
theorem ze_147_35 : z_T g d 147 35 ls [.int x] h P = P (.inr (some (.int x)), h) := zt_ireturn zi_147_35 zr_147
-- LatinRectanglesModel.isFull(I)Z
theorem zo_148 : z_own 148 = "LatinRectanglesModel" := by decide +kernel
theorem zm_148 : z_maxL 148 = 4 := by decide +kernel
theorem zh_148 : z_hds 148 = [] := by decide +kernel
theorem zr_148 : z_rt 148 = (some .boolean) := by decide +kernel
theorem zn_148 : z_Ca g d 148 [.ref a0, .int x1] h P = z_T g d 148 0 [.ref a0, .int x1, z_un, z_un] [] h P := z_Ca_ent zm_148 rfl rfl
theorem zi_148_0 : z_ins 148 0 = some (.iconst 1, 1) := by decide +kernel
theorem ze_148_0 : z_T g d 148 0 ls st h P = z_T g d 148 1 ls (.int (nI 1) :: st) h P := zt_iconst zi_148_0 rfl
theorem zi_148_1 : z_ins 148 1 = some (.istore_n 2, 1) := by decide +kernel
theorem ze_148_1 : z_T g d 148 1 (v0 :: v1 :: v2 :: ls) (.int x :: st) h P = z_T g d 148 2 (v0 :: v1 :: .int x :: ls) st h P := zt_istoren zi_148_1 rfl (Nat.le_add_left 3 _)
theorem zi_148_2 : z_ins 148 2 = some (.iconst 0, 1) := by decide +kernel
theorem ze_148_2 : z_T g d 148 2 ls st h P = z_T g d 148 3 ls (.int (nI 0) :: st) h P := zt_iconst zi_148_2 rfl
theorem zi_148_3 : z_ins 148 3 = some (.istore_n 3, 1) := by decide +kernel
theorem ze_148_3 : z_T g d 148 3 (v0 :: v1 :: v2 :: v3 :: ls) (.int x :: st) h P = z_T g d 148 4 (v0 :: v1 :: v2 :: .int x :: ls) st h P := zt_istoren zi_148_3 rfl (Nat.le_add_left 4 _)
theorem zi_148_4 : z_ins 148 4 = some (.iload_n 3, 1) := by decide +kernel
theorem ze_148_4 : z_T g d 148 4 (v0 :: v1 :: v2 :: .int x :: ls) st h P = z_T g d 148 5 (v0 :: v1 :: v2 :: .int x :: ls) (.int x :: st) h P := zt_iloadn zi_148_4 rfl rfl
theorem zi_148_5 : z_ins 148 5 = some (.aload_n 0, 1) := by decide +kernel
theorem ze_148_5 : z_T g d 148 5 (.ref a :: ls) st h P = z_T g d 148 6 (.ref a :: ls) (.ref a :: st) h P := zt_aloadn zi_148_5 rfl rfl
theorem zi_148_6 : z_ins 148 6 = some (.getfield 76, 3) := by decide +kernel
theorem ze_148_6 : z_T g d 148 6 ls (.ref a :: st) h P = z_gI h.1 a 10 2 (fun x => z_T g d 148 9 ls (.int x :: st) h P) := zt_getI zi_148_6 ((congrArg (fun o => z_fl o 76) zo_148).trans zf_LatinRectanglesModel_76)
theorem zi_148_9 : z_ins 148 9 = some (.if_icmp .ge 29, 3) := by decide +kernel
theorem ze_148_9 : z_T g d 148 9 ls (.int y :: .int x :: st) h P = (if x < y then z_T g d 148 12 ls st h P else z_T g d 148 38 ls st h P) := zt_icmpge zi_148_9 (by decide)
theorem zi_148_12 : z_ins 148 12 = some (.iload_n 2, 1) := by decide +kernel
theorem ze_148_12 : z_T g d 148 12 (v0 :: v1 :: .int x :: ls) st h P = z_T g d 148 13 (v0 :: v1 :: .int x :: ls) (.int x :: st) h P := zt_iloadn zi_148_12 rfl rfl
theorem zi_148_13 : z_ins 148 13 = some (.ifCond .eq 17, 3) := by decide +kernel
theorem ze_148_13 : z_T g d 148 13 ls (.int x :: st) h P = (if x = nI 0 then z_T g d 148 30 ls st h P else z_T g d 148 16 ls st h P) := zt_ifeq zi_148_13 (by decide)
theorem zi_148_16 : z_ins 148 16 = some (.aload_n 0, 1) := by decide +kernel
theorem ze_148_16 : z_T g d 148 16 (.ref a :: ls) st h P = z_T g d 148 17 (.ref a :: ls) (.ref a :: st) h P := zt_aloadn zi_148_16 rfl rfl
theorem zi_148_17 : z_ins 148 17 = some (.iload_n 1, 1) := by decide +kernel
theorem ze_148_17 : z_T g d 148 17 (v0 :: .int x :: ls) st h P = z_T g d 148 18 (v0 :: .int x :: ls) (.int x :: st) h P := zt_iloadn zi_148_17 rfl rfl
theorem zi_148_18 : z_ins 148 18 = some (.iload_n 3, 1) := by decide +kernel
theorem ze_148_18 : z_T g d 148 18 (v0 :: v1 :: v2 :: .int x :: ls) st h P = z_T g d 148 19 (v0 :: v1 :: v2 :: .int x :: ls) (.int x :: st) h P := zt_iloadn zi_148_18 rfl rfl
theorem zi_148_19 : z_ins 148 19 = some (.invokevirtual 180, 3) := by decide +kernel
theorem ze_148_19 : z_T g d 148 19 ls (.int x1 :: .int x0 :: .ref a :: st) h P = ((z_okS 8 st = true ∧ z_gO h.1 a 10 ∧ 0 < d) ∧ z_Ca g (d - 1) 145 [.ref a, .int x0, .int x1] h (fun r => z_k r (fun v h' => z_T g d 148 22 ls (z_push v st) h' P) P)) := zt_callV (as := [.int x0, .int x1]) zi_148_19 ((congrArg (fun o => z_lookup z_prs (o, 180)) zo_148).trans zp_LatinRectanglesModel_180) ((congrArg (fun o => z_clk o 180) zo_148).trans zk_LatinRectanglesModel_180) zh_148 zc_145 rfl rfl rfl
theorem zi_148_22 : z_ins 148 22 = some (.iconst (-1), 1) := by decide +kernel
theorem ze_148_22 : z_T g d 148 22 ls st h P = z_T g d 148 23 ls (.int (-1) :: st) h P := zt_iconst zi_148_22 rfl
theorem zi_148_23 : z_ins 148 23 = some (.if_icmp .eq 7, 3) := by decide +kernel
theorem ze_148_23 : z_T g d 148 23 ls (.int y :: .int x :: st) h P = (if x = y then z_T g d 148 30 ls st h P else z_T g d 148 26 ls st h P) := zt_icmpeq zi_148_23 (by decide)
theorem zi_148_26 : z_ins 148 26 = some (.iconst 1, 1) := by decide +kernel
theorem ze_148_26 : z_T g d 148 26 ls st h P = z_T g d 148 27 ls (.int (nI 1) :: st) h P := zt_iconst zi_148_26 rfl
theorem zi_148_27 : z_ins 148 27 = some (.goto 4, 3) := by decide +kernel
theorem ze_148_27 : z_T g d 148 27 ls st h P = z_T g d 148 31 ls st h P := zt_goto zi_148_27 (by decide)
theorem zi_148_30 : z_ins 148 30 = some (.iconst 0, 1) := by decide +kernel
theorem ze_148_30 : z_T g d 148 30 ls st h P = z_T g d 148 31 ls (.int (nI 0) :: st) h P := zt_iconst zi_148_30 rfl
theorem zi_148_31 : z_ins 148 31 = some (.istore_n 2, 1) := by decide +kernel
theorem ze_148_31 : z_T g d 148 31 (v0 :: v1 :: v2 :: ls) (.int x :: st) h P = z_T g d 148 32 (v0 :: v1 :: .int x :: ls) st h P := zt_istoren zi_148_31 rfl (Nat.le_add_left 3 _)
theorem zi_148_32 : z_ins 148 32 = some (.iinc 3 1, 3) := by decide +kernel
theorem ze_148_32 : z_T g d 148 32 (v0 :: v1 :: v2 :: .int x :: ls) st h P = z_T g d 148 35 (v0 :: v1 :: v2 :: .int (x + (nI 1)) :: ls) st h P := zt_iinc zi_148_32 rfl rfl
theorem zi_148_35 : z_ins 148 35 = some (.goto (-31), 3) := by decide +kernel
theorem ze_148_35 : z_T g d 148 35 ls st h P = z_T g d 148 4 ls st h P := zt_goto zi_148_35 (by decide)
theorem zi_148_38 : z_ins 148 38 = some (.iload_n 2, 1) := by decide +kernel
theorem ze_148_38 : z_T g d 148 38 (v0 :: v1 :: .int x :: ls) st h P = z_T g d 148 39 (v0 :: v1 :: .int x :: ls) (.int x :: st) h P := zt_iloadn zi_148_38 rfl rfl
theorem zi_148_39 : z_ins 148 39 = some (.ireturn, 1) := by decide +kernel
theorem ze_148_39 : z_T g d 148 39 ls [.int x] h P = ((x = nI 0 ∨ x = nI 1) ∧ P (.inr (some (.int x)), h)) := zt_zreturn zi_148_39 zr_148
-- LatinRectanglesModel.candidatesOf(II)I
theorem zo_149 : z_own 149 = "LatinRectanglesModel" := by decide +kernel
theorem zm_149 : z_maxL 149 = 5 := by decide +kernel
theorem zh_149 : z_hds 149 = [] := by decide +kernel
theorem zr_149 : z_rt 149 = (some .int) := by decide +kernel
theorem zn_149 : z_Ca g d 149 [.ref a0, .int x1, .int x2] h P = z_T g d 149 0 [.ref a0, .int x1, .int x2, z_un, z_un] [] h P := z_Ca_ent zm_149 rfl rfl
theorem zi_149_0 : z_ins 149 0 = some (.aload_n 0, 1) := by decide +kernel
theorem ze_149_0 : z_T g d 149 0 (.ref a :: ls) st h P = z_T g d 149 1 (.ref a :: ls) (.ref a :: st) h P := zt_aloadn zi_149_0 rfl rfl
theorem zi_149_1 : z_ins 149 1 = some (.iload_n 1, 1) := by decide +kernel
theorem ze_149_1 : z_T g d 149 1 (v0 :: .int x :: ls) st h P = z_T g d 149 2 (v0 :: .int x :: ls) (.int x :: st) h P := zt_iloadn zi_149_1 rfl rfl
theorem zi_149_2 : z_ins 149 2 = some (.iload_n 2, 1) := by decide +kernel
theorem ze_149_2 : z_T g d 149 2 (v0 :: v1 :: .int x :: ls) st h P = z_T g d 149 3 (v0 :: v1 :: .int x :: ls) (.int x :: st) h P := zt_iloadn zi_149_2 rfl rfl
theorem zi_149_3 : z_ins 149 3 = some (.invokevirtual 180, 3) := by decide +kernel
theorem ze_149_3 : z_T g d 149 3 ls (.int x1 :: .int x0 :: .ref a :: st) h P = ((z_okS 8 st = true ∧ z_gO h.1 a 10 ∧ 0 < d) ∧ z_Ca g (d - 1) 145 [.ref a, .int x0, .int x1] h (fun r => z_k r (fun v h' => z_T g d 149 6 ls (z_push v st) h' P) P)) := zt_callV (as := [.int x0, .int x1]) zi_149_3 ((congrArg (fun o => z_lookup z_prs (o, 180)) zo_149).trans zp_LatinRectanglesModel_180) ((congrArg (fun o => z_clk o 180) zo_149).trans zk_LatinRectanglesModel_180) zh_149 zc_145 rfl rfl rfl
theorem zi_149_6 : z_ins 149 6 = some (.iconst (-1), 1) := by decide +kernel
theorem ze_149_6 : z_T g d 149 6 ls st h P = z_T g d 149 7 ls (.int (-1) :: st) h P := zt_iconst zi_149_6 rfl
theorem zi_149_7 : z_ins 149 7 = some (.if_icmp .eq 5, 3) := by decide +kernel
theorem ze_149_7 : z_T g d 149 7 ls (.int y :: .int x :: st) h P = (if x = y then z_T g d 149 12 ls st h P else z_T g d 149 10 ls st h P) := zt_icmpeq zi_149_7 (by decide)
theorem zi_149_10 : z_ins 149 10 = some (.iconst 0, 1) := by decide +kernel
theorem ze_149_10 : z_T g d 149 10 ls st h P = z_T g d 149 11 ls (.int (nI 0) :: st) h P := zt_iconst zi_149_10 rfl
theorem zi_149_11 : z_ins 149 11 = some (.ireturn, 1) := by decide +kernel
theorem ze_149_11 : z_T g d 149 11 ls [.int x] h P = P (.inr (some (.int x)), h) := zt_ireturn zi_149_11 zr_149
theorem zi_149_12 : z_ins 149 12 = some (.iconst 1, 1) := by decide +kernel
theorem ze_149_12 : z_T g d 149 12 ls st h P = z_T g d 149 13 ls (.int (nI 1) :: st) h P := zt_iconst zi_149_12 rfl
theorem zi_149_13 : z_ins 149 13 = some (.aload_n 0, 1) := by decide +kernel
theorem ze_149_13 : z_T g d 149 13 (.ref a :: ls) st h P = z_T g d 149 14 (.ref a :: ls) (.ref a :: st) h P := zt_aloadn zi_149_13 rfl rfl
theorem zi_149_14 : z_ins 149 14 = some (.getfield 76, 3) := by decide +kernel
theorem ze_149_14 : z_T g d 149 14 ls (.ref a :: st) h P = z_gI h.1 a 10 2 (fun x => z_T g d 149 17 ls (.int x :: st) h P) := zt_getI zi_149_14 ((congrArg (fun o => z_fl o 76) zo_149).trans zf_LatinRectanglesModel_76)
theorem zi_149_17 : z_ins 149 17 = some (.ishl, 1) := by decide +kernel
theorem ze_149_17 : z_T g d 149 17 ls (.int y :: .int x :: st) h P = z_T g d 149 18 ls (.int (x <<< (y &&& 31)) :: st) h P := zt_bin (f := fun x y => x <<< (y &&& 31)) zi_149_17 rfl (fun _ _ _ => rfl)
theorem zi_149_18 : z_ins 149 18 = some (.iconst 1, 1) := by decide +kernel
theorem ze_149_18 : z_T g d 149 18 ls st h P = z_T g d 149 19 ls (.int (nI 1) :: st) h P := zt_iconst zi_149_18 rfl
theorem zi_149_19 : z_ins 149 19 = some (.isub, 1) := by decide +kernel
theorem ze_149_19 : z_T g d 149 19 ls (.int y :: .int x :: st) h P = z_T g d 149 20 ls (.int (x - y) :: st) h P := zt_bin (f := fun x y => x - y) zi_149_19 rfl (fun _ _ _ => rfl)
theorem zi_149_20 : z_ins 149 20 = some (.aload_n 0, 1) := by decide +kernel
theorem ze_149_20 : z_T g d 149 20 (.ref a :: ls) st h P = z_T g d 149 21 (.ref a :: ls) (.ref a :: st) h P := zt_aloadn zi_149_20 rfl rfl
theorem zi_149_21 : z_ins 149 21 = some (.getfield 13, 3) := by decide +kernel
theorem ze_149_21 : z_T g d 149 21 ls (.ref a :: st) h P = z_gR h.1 a 10 8 (fun x => z_T g d 149 24 ls (.ref x :: st) h P) := zt_getR zi_149_21 ((congrArg (fun o => z_fl o 13) zo_149).trans zf_LatinRectanglesModel_13)
theorem zi_149_24 : z_ins 149 24 = some (.iload_n 1, 1) := by decide +kernel
theorem ze_149_24 : z_T g d 149 24 (v0 :: .int x :: ls) st h P = z_T g d 149 25 (v0 :: .int x :: ls) (.int x :: st) h P := zt_iloadn zi_149_24 rfl rfl
theorem zi_149_25 : z_ins 149 25 = some (.iload_n 2, 1) := by decide +kernel
theorem ze_149_25 : z_T g d 149 25 (v0 :: v1 :: .int x :: ls) st h P = z_T g d 149 26 (v0 :: v1 :: .int x :: ls) (.int x :: st) h P := zt_iloadn zi_149_25 rfl rfl
theorem zi_149_26 : z_ins 149 26 = some (.invokestatic 151, 3) := by decide +kernel
theorem ze_149_26 : z_T g d 149 26 ls (.int x1 :: .int x0 :: st) h P = ((z_okS 8 st = true ∧ 0 < d) ∧ z_Ca g (d - 1) 127 [.int x0, .int x1] h (fun r => z_k r (fun v h' => z_T g d 149 29 ls (z_push v st) h' P) P)) := zt_callS0 (as := [.int x0, .int x1]) zi_149_26 ((congrArg (fun o => z_lookup z_prs (o, 151)) zo_149).trans zp_LatinRectanglesModel_151) ((congrArg (fun o => z_clk o 151) zo_149).trans zk_LatinRectanglesModel_151) zh_149 rfl rfl rfl
theorem zi_149_29 : z_ins 149 29 = some (.iaload, 1) := by decide +kernel
theorem ze_149_29 : z_T g d 149 29 ls (.int x :: .ref a :: st) h P = z_aL h.1 a z_tI x (fun v => z_T g d 149 30 ls (.int v :: st) h P) := zt_iaload zi_149_29
theorem zi_149_30 : z_ins 149 30 = some (.iconst (-1), 1) := by decide +kernel
theorem ze_149_30 : z_T g d 149 30 ls st h P = z_T g d 149 31 ls (.int (-1) :: st) h P := zt_iconst zi_149_30 rfl
theorem zi_149_31 : z_ins 149 31 = some (.ixor, 1) := by decide +kernel
theorem ze_149_31 : z_T g d 149 31 ls (.int y :: .int x :: st) h P = z_T g d 149 32 ls (.int (x ^^^ y) :: st) h P := zt_bin (f := fun x y => x ^^^ y) zi_149_31 rfl (fun _ _ _ => rfl)
theorem zi_149_32 : z_ins 149 32 = some (.iand, 1) := by decide +kernel
theorem ze_149_32 : z_T g d 149 32 ls (.int y :: .int x :: st) h P = z_T g d 149 33 ls (.int (x &&& y) :: st) h P := zt_bin (f := fun x y => x &&& y) zi_149_32 rfl (fun _ _ _ => rfl)
theorem zi_149_33 : z_ins 149 33 = some (.istore_n 3, 1) := by decide +kernel
theorem ze_149_33 : z_T g d 149 33 (v0 :: v1 :: v2 :: v3 :: ls) (.int x :: st) h P = z_T g d 149 34 (v0 :: v1 :: v2 :: .int x :: ls) st h P := zt_istoren zi_149_33 rfl (Nat.le_add_left 4 _)
theorem zi_149_34 : z_ins 149 34 = some (.iconst 0, 1) := by decide +kernel
theorem ze_149_34 : z_T g d 149 34 ls st h P = z_T g d 149 35 ls (.int (nI 0) :: st) h P := zt_iconst zi_149_34 rfl
theorem zi_149_35 : z_ins 149 35 = some (.istore 4, 2) := by decide +kernel
theorem ze_149_35 : z_T g d 149 35 (v0 :: v1 :: v2 :: v3 :: v4 :: ls) (.int x :: st) h P = z_T g d 149 37 (v0 :: v1 :: v2 :: v3 :: .int x :: ls) st h P := zt_istore zi_149_35 (Nat.le_add_left 5 _)
theorem zi_149_37 : z_ins 149 37 = some (.iload 4, 2) := by decide +kernel
theorem ze_149_37 : z_T g d 149 37 (v0 :: v1 :: v2 :: v3 :: .int x :: ls) st h P = z_T g d 149 39 (v0 :: v1 :: v2 :: v3 :: .int x :: ls) (.int x :: st) h P := zt_iload zi_149_37 rfl
theorem zi_149_39 : z_ins 149 39 = some (.aload_n 0, 1) := by decide +kernel
theorem ze_149_39 : z_T g d 149 39 (.ref a :: ls) st h P = z_T g d 149 40 (.ref a :: ls) (.ref a :: st) h P := zt_aloadn zi_149_39 rfl rfl
theorem zi_149_40 : z_ins 149 40 = some (.getfield 76, 3) := by decide +kernel
theorem ze_149_40 : z_T g d 149 40 ls (.ref a :: st) h P = z_gI h.1 a 10 2 (fun x => z_T g d 149 43 ls (.int x :: st) h P) := zt_getI zi_149_40 ((congrArg (fun o => z_fl o 76) zo_149).trans zf_LatinRectanglesModel_76)
theorem zi_149_43 : z_ins 149 43 = some (.if_icmp .ge 38, 3) := by decide +kernel
theorem ze_149_43 : z_T g d 149 43 ls (.int y :: .int x :: st) h P = (if x < y then z_T g d 149 46 ls st h P else z_T g d 149 81 ls st h P) := zt_icmpge zi_149_43 (by decide)
theorem zi_149_46 : z_ins 149 46 = some (.iload_n 3, 1) := by decide +kernel
theorem ze_149_46 : z_T g d 149 46 (v0 :: v1 :: v2 :: .int x :: ls) st h P = z_T g d 149 47 (v0 :: v1 :: v2 :: .int x :: ls) (.int x :: st) h P := zt_iloadn zi_149_46 rfl rfl
theorem zi_149_47 : z_ins 149 47 = some (.aload_n 0, 1) := by decide +kernel
theorem ze_149_47 : z_T g d 149 47 (.ref a :: ls) st h P = z_T g d 149 48 (.ref a :: ls) (.ref a :: st) h P := zt_aloadn zi_149_47 rfl rfl
theorem zi_149_48 : z_ins 149 48 = some (.iload_n 1, 1) := by decide +kernel
theorem ze_149_48 : z_T g d 149 48 (v0 :: .int x :: ls) st h P = z_T g d 149 49 (v0 :: .int x :: ls) (.int x :: st) h P := zt_iloadn zi_149_48 rfl rfl
theorem zi_149_49 : z_ins 149 49 = some (.iload 4, 2) := by decide +kernel
theorem ze_149_49 : z_T g d 149 49 (v0 :: v1 :: v2 :: v3 :: .int x :: ls) st h P = z_T g d 149 51 (v0 :: v1 :: v2 :: v3 :: .int x :: ls) (.int x :: st) h P := zt_iload zi_149_49 rfl
theorem zi_149_51 : z_ins 149 51 = some (.invokevirtual 180, 3) := by decide +kernel
theorem ze_149_51 : z_T g d 149 51 ls (.int x1 :: .int x0 :: .ref a :: st) h P = ((z_okS 8 st = true ∧ z_gO h.1 a 10 ∧ 0 < d) ∧ z_Ca g (d - 1) 145 [.ref a, .int x0, .int x1] h (fun r => z_k r (fun v h' => z_T g d 149 54 ls (z_push v st) h' P) P)) := zt_callV (as := [.int x0, .int x1]) zi_149_51 ((congrArg (fun o => z_lookup z_prs (o, 180)) zo_149).trans zp_LatinRectanglesModel_180) ((congrArg (fun o => z_clk o 180) zo_149).trans zk_LatinRectanglesModel_180) zh_149 zc_145 rfl rfl rfl
theorem zi_149_54 : z_ins 149 54 = some (.iconst (-1), 1) := by decide +kernel
theorem ze_149_54 : z_T g d 149 54 ls st h P = z_T g d 149 55 ls (.int (-1) :: st) h P := zt_iconst zi_149_54 rfl
theorem zi_149_55 : z_ins 149 55 = some (.if_icmp .ne 7, 3) := by decide +kernel
theorem ze_149_55 : z_T g d 149 55 ls (.int y :: .int x :: st) h P = (if x = y then z_T g d 149 58 ls st h P else z_T g d 149 62 ls st h P) := zt_icmpne zi_149_55 (by decide)
theorem zi_149_58 : z_ins 149 58 = some (.iconst (-1), 1) := by decide +kernel
theorem ze_149_58 : z_T g d 149 58 ls st h P = z_T g d 149 59 ls (.int (-1) :: st) h P := zt_iconst zi_149_58 rfl
theorem zi_149_59 : z_ins 149 59 = some (.goto 14, 3) := by decide +kernel
theorem ze_149_59 : z_T g d 149 59 ls st h P = z_T g d 149 73 ls st h P := zt_goto zi_149_59 (by decide)
theorem zi_149_62 : z_ins 149 62 = some (.iconst 1, 1) := by decide +kernel
theorem ze_149_62 : z_T g d 149 62 ls st h P = z_T g d 149 63 ls (.int (nI 1) :: st) h P := zt_iconst zi_149_62 rfl
theorem zi_149_63 : z_ins 149 63 = some (.aload_n 0, 1) := by decide +kernel
theorem ze_149_63 : z_T g d 149 63 (.ref a :: ls) st h P = z_T g d 149 64 (.ref a :: ls) (.ref a :: st) h P := zt_aloadn zi_149_63 rfl rfl
theorem zi_149_64 : z_ins 149 64 = some (.iload_n 1, 1) := by decide +kernel
theorem ze_149_64 : z_T g d 149 64 (v0 :: .int x :: ls) st h P = z_T g d 149 65 (v0 :: .int x :: ls) (.int x :: st) h P := zt_iloadn zi_149_64 rfl rfl
theorem zi_149_65 : z_ins 149 65 = some (.iload 4, 2) := by decide +kernel
theorem ze_149_65 : z_T g d 149 65 (v0 :: v1 :: v2 :: v3 :: .int x :: ls) st h P = z_T g d 149 67 (v0 :: v1 :: v2 :: v3 :: .int x :: ls) (.int x :: st) h P := zt_iload zi_149_65 rfl
theorem zi_149_67 : z_ins 149 67 = some (.invokevirtual 180, 3) := by decide +kernel
theorem ze_149_67 : z_T g d 149 67 ls (.int x1 :: .int x0 :: .ref a :: st) h P = ((z_okS 8 st = true ∧ z_gO h.1 a 10 ∧ 0 < d) ∧ z_Ca g (d - 1) 145 [.ref a, .int x0, .int x1] h (fun r => z_k r (fun v h' => z_T g d 149 70 ls (z_push v st) h' P) P)) := zt_callV (as := [.int x0, .int x1]) zi_149_67 ((congrArg (fun o => z_lookup z_prs (o, 180)) zo_149).trans zp_LatinRectanglesModel_180) ((congrArg (fun o => z_clk o 180) zo_149).trans zk_LatinRectanglesModel_180) zh_149 zc_145 rfl rfl rfl
theorem zi_149_70 : z_ins 149 70 = some (.ishl, 1) := by decide +kernel
theorem ze_149_70 : z_T g d 149 70 ls (.int y :: .int x :: st) h P = z_T g d 149 71 ls (.int (x <<< (y &&& 31)) :: st) h P := zt_bin (f := fun x y => x <<< (y &&& 31)) zi_149_70 rfl (fun _ _ _ => rfl)
theorem zi_149_71 : z_ins 149 71 = some (.iconst (-1), 1) := by decide +kernel
theorem ze_149_71 : z_T g d 149 71 ls st h P = z_T g d 149 72 ls (.int (-1) :: st) h P := zt_iconst zi_149_71 rfl
theorem zi_149_72 : z_ins 149 72 = some (.ixor, 1) := by decide +kernel
theorem ze_149_72 : z_T g d 149 72 ls (.int y :: .int x :: st) h P = z_T g d 149 73 ls (.int (x ^^^ y) :: st) h P := zt_bin (f := fun x y => x ^^^ y) zi_149_72 rfl (fun _ _ _ => rfl)
theorem zi_149_73 : z_ins 149 73 = some (.iand, 1) := by decide +kernel
theorem ze_149_73 : z_T g d 149 73 ls (.int y :: .int x :: st) h P = z_T g d 149 74 ls (.int (x &&& y) :: st) h P := zt_bin (f := fun x y => x &&& y) zi_149_73 rfl (fun _ _ _ => rfl)
theorem zi_149_74 : z_ins 149 74 = some (.istore_n 3, 1) := by decide +kernel
theorem ze_149_74 : z_T g d 149 74 (v0 :: v1 :: v2 :: v3 :: ls) (.int x :: st) h P = z_T g d 149 75 (v0 :: v1 :: v2 :: .int x :: ls) st h P := zt_istoren zi_149_74 rfl (Nat.le_add_left 4 _)
theorem zi_149_75 : z_ins 149 75 = some (.iinc 4 1, 3) := by decide +kernel
theorem ze_149_75 : z_T g d 149 75 (v0 :: v1 :: v2 :: v3 :: .int x :: ls) st h P = z_T g d 149 78 (v0 :: v1 :: v2 :: v3 :: .int (x + (nI 1)) :: ls) st h P := zt_iinc zi_149_75 rfl rfl
theorem zi_149_78 : z_ins 149 78 = some (.goto (-41), 3) := by decide +kernel
theorem ze_149_78 : z_T g d 149 78 ls st h P = z_T g d 149 37 ls st h P := zt_goto zi_149_78 (by decide)
theorem zi_149_81 : z_ins 149 81 = some (.iconst 0, 1) := by decide +kernel
theorem ze_149_81 : z_T g d 149 81 ls st h P = z_T g d 149 82 ls (.int (nI 0) :: st) h P := zt_iconst zi_149_81 rfl
theorem zi_149_82 : z_ins 149 82 = some (.istore 4, 2) := by decide +kernel
theorem ze_149_82 : z_T g d 149 82 (v0 :: v1 :: v2 :: v3 :: v4 :: ls) (.int x :: st) h P = z_T g d 149 84 (v0 :: v1 :: v2 :: v3 :: .int x :: ls) st h P := zt_istore zi_149_82 (Nat.le_add_left 5 _)
theorem zi_149_84 : z_ins 149 84 = some (.iload 4, 2) := by decide +kernel
theorem ze_149_84 : z_T g d 149 84 (v0 :: v1 :: v2 :: v3 :: .int x :: ls) st h P = z_T g d 149 86 (v0 :: v1 :: v2 :: v3 :: .int x :: ls) (.int x :: st) h P := zt_iload zi_149_84 rfl
theorem zi_149_86 : z_ins 149 86 = some (.aload_n 0, 1) := by decide +kernel
theorem ze_149_86 : z_T g d 149 86 (.ref a :: ls) st h P = z_T g d 149 87 (.ref a :: ls) (.ref a :: st) h P := zt_aloadn zi_149_86 rfl rfl
theorem zi_149_87 : z_ins 149 87 = some (.getfield 73, 3) := by decide +kernel
theorem ze_149_87 : z_T g d 149 87 ls (.ref a :: st) h P = z_gI h.1 a 10 1 (fun x => z_T g d 149 90 ls (.int x :: st) h P) := zt_getI zi_149_87 ((congrArg (fun o => z_fl o 73) zo_149).trans zf_LatinRectanglesModel_73)
theorem zi_149_90 : z_ins 149 90 = some (.if_icmp .ge 38, 3) := by decide +kernel
theorem ze_149_90 : z_T g d 149 90 ls (.int y :: .int x :: st) h P = (if x < y then z_T g d 149 93 ls st h P else z_T g d 149 128 ls st h P) := zt_icmpge zi_149_90 (by decide)
theorem zi_149_93 : z_ins 149 93 = some (.iload_n 3, 1) := by decide +kernel
theorem ze_149_93 : z_T g d 149 93 (v0 :: v1 :: v2 :: .int x :: ls) st h P = z_T g d 149 94 (v0 :: v1 :: v2 :: .int x :: ls) (.int x :: st) h P := zt_iloadn zi_149_93 rfl rfl
theorem zi_149_94 : z_ins 149 94 = some (.aload_n 0, 1) := by decide +kernel
theorem ze_149_94 : z_T g d 149 94 (.ref a :: ls) st h P = z_T g d 149 95 (.ref a :: ls) (.ref a :: st) h P := zt_aloadn zi_149_94 rfl rfl
theorem zi_149_95 : z_ins 149 95 = some (.iload 4, 2) := by decide +kernel
theorem ze_149_95 : z_T g d 149 95 (v0 :: v1 :: v2 :: v3 :: .int x :: ls) st h P = z_T g d 149 97 (v0 :: v1 :: v2 :: v3 :: .int x :: ls) (.int x :: st) h P := zt_iload zi_149_95 rfl
theorem zi_149_97 : z_ins 149 97 = some (.iload_n 2, 1) := by decide +kernel
theorem ze_149_97 : z_T g d 149 97 (v0 :: v1 :: .int x :: ls) st h P = z_T g d 149 98 (v0 :: v1 :: .int x :: ls) (.int x :: st) h P := zt_iloadn zi_149_97 rfl rfl
theorem zi_149_98 : z_ins 149 98 = some (.invokevirtual 180, 3) := by decide +kernel
theorem ze_149_98 : z_T g d 149 98 ls (.int x1 :: .int x0 :: .ref a :: st) h P = ((z_okS 8 st = true ∧ z_gO h.1 a 10 ∧ 0 < d) ∧ z_Ca g (d - 1) 145 [.ref a, .int x0, .int x1] h (fun r => z_k r (fun v h' => z_T g d 149 101 ls (z_push v st) h' P) P)) := zt_callV (as := [.int x0, .int x1]) zi_149_98 ((congrArg (fun o => z_lookup z_prs (o, 180)) zo_149).trans zp_LatinRectanglesModel_180) ((congrArg (fun o => z_clk o 180) zo_149).trans zk_LatinRectanglesModel_180) zh_149 zc_145 rfl rfl rfl
theorem zi_149_101 : z_ins 149 101 = some (.iconst (-1), 1) := by decide +kernel
theorem ze_149_101 : z_T g d 149 101 ls st h P = z_T g d 149 102 ls (.int (-1) :: st) h P := zt_iconst zi_149_101 rfl
theorem zi_149_102 : z_ins 149 102 = some (.if_icmp .ne 7, 3) := by decide +kernel
theorem ze_149_102 : z_T g d 149 102 ls (.int y :: .int x :: st) h P = (if x = y then z_T g d 149 105 ls st h P else z_T g d 149 109 ls st h P) := zt_icmpne zi_149_102 (by decide)
theorem zi_149_105 : z_ins 149 105 = some (.iconst (-1), 1) := by decide +kernel
theorem ze_149_105 : z_T g d 149 105 ls st h P = z_T g d 149 106 ls (.int (-1) :: st) h P := zt_iconst zi_149_105 rfl
theorem zi_149_106 : z_ins 149 106 = some (.goto 14, 3) := by decide +kernel
theorem ze_149_106 : z_T g d 149 106 ls st h P = z_T g d 149 120 ls st h P := zt_goto zi_149_106 (by decide)
theorem zi_149_109 : z_ins 149 109 = some (.iconst 1, 1) := by decide +kernel
theorem ze_149_109 : z_T g d 149 109 ls st h P = z_T g d 149 110 ls (.int (nI 1) :: st) h P := zt_iconst zi_149_109 rfl
theorem zi_149_110 : z_ins 149 110 = some (.aload_n 0, 1) := by decide +kernel
theorem ze_149_110 : z_T g d 149 110 (.ref a :: ls) st h P = z_T g d 149 111 (.ref a :: ls) (.ref a :: st) h P := zt_aloadn zi_149_110 rfl rfl
theorem zi_149_111 : z_ins 149 111 = some (.iload 4, 2) := by decide +kernel
theorem ze_149_111 : z_T g d 149 111 (v0 :: v1 :: v2 :: v3 :: .int x :: ls) st h P = z_T g d 149 113 (v0 :: v1 :: v2 :: v3 :: .int x :: ls) (.int x :: st) h P := zt_iload zi_149_111 rfl
theorem zi_149_113 : z_ins 149 113 = some (.iload_n 2, 1) := by decide +kernel
theorem ze_149_113 : z_T g d 149 113 (v0 :: v1 :: .int x :: ls) st h P = z_T g d 149 114 (v0 :: v1 :: .int x :: ls) (.int x :: st) h P := zt_iloadn zi_149_113 rfl rfl
theorem zi_149_114 : z_ins 149 114 = some (.invokevirtual 180, 3) := by decide +kernel
theorem ze_149_114 : z_T g d 149 114 ls (.int x1 :: .int x0 :: .ref a :: st) h P = ((z_okS 8 st = true ∧ z_gO h.1 a 10 ∧ 0 < d) ∧ z_Ca g (d - 1) 145 [.ref a, .int x0, .int x1] h (fun r => z_k r (fun v h' => z_T g d 149 117 ls (z_push v st) h' P) P)) := zt_callV (as := [.int x0, .int x1]) zi_149_114 ((congrArg (fun o => z_lookup z_prs (o, 180)) zo_149).trans zp_LatinRectanglesModel_180) ((congrArg (fun o => z_clk o 180) zo_149).trans zk_LatinRectanglesModel_180) zh_149 zc_145 rfl rfl rfl
theorem zi_149_117 : z_ins 149 117 = some (.ishl, 1) := by decide +kernel
theorem ze_149_117 : z_T g d 149 117 ls (.int y :: .int x :: st) h P = z_T g d 149 118 ls (.int (x <<< (y &&& 31)) :: st) h P := zt_bin (f := fun x y => x <<< (y &&& 31)) zi_149_117 rfl (fun _ _ _ => rfl)
theorem zi_149_118 : z_ins 149 118 = some (.iconst (-1), 1) := by decide +kernel
theorem ze_149_118 : z_T g d 149 118 ls st h P = z_T g d 149 119 ls (.int (-1) :: st) h P := zt_iconst zi_149_118 rfl
theorem zi_149_119 : z_ins 149 119 = some (.ixor, 1) := by decide +kernel
theorem ze_149_119 : z_T g d 149 119 ls (.int y :: .int x :: st) h P = z_T g d 149 120 ls (.int (x ^^^ y) :: st) h P := zt_bin (f := fun x y => x ^^^ y) zi_149_119 rfl (fun _ _ _ => rfl)
theorem zi_149_120 : z_ins 149 120 = some (.iand, 1) := by decide +kernel
theorem ze_149_120 : z_T g d 149 120 ls (.int y :: .int x :: st) h P = z_T g d 149 121 ls (.int (x &&& y) :: st) h P := zt_bin (f := fun x y => x &&& y) zi_149_120 rfl (fun _ _ _ => rfl)
theorem zi_149_121 : z_ins 149 121 = some (.istore_n 3, 1) := by decide +kernel
theorem ze_149_121 : z_T g d 149 121 (v0 :: v1 :: v2 :: v3 :: ls) (.int x :: st) h P = z_T g d 149 122 (v0 :: v1 :: v2 :: .int x :: ls) st h P := zt_istoren zi_149_121 rfl (Nat.le_add_left 4 _)
theorem zi_149_122 : z_ins 149 122 = some (.iinc 4 1, 3) := by decide +kernel
theorem ze_149_122 : z_T g d 149 122 (v0 :: v1 :: v2 :: v3 :: .int x :: ls) st h P = z_T g d 149 125 (v0 :: v1 :: v2 :: v3 :: .int (x + (nI 1)) :: ls) st h P := zt_iinc zi_149_122 rfl rfl
theorem zi_149_125 : z_ins 149 125 = some (.goto (-41), 3) := by decide +kernel
theorem ze_149_125 : z_T g d 149 125 ls st h P = z_T g d 149 84 ls st h P := zt_goto zi_149_125 (by decide)
theorem zi_149_128 : z_ins 149 128 = some (.iload_n 3, 1) := by decide +kernel
theorem ze_149_128 : z_T g d 149 128 (v0 :: v1 :: v2 :: .int x :: ls) st h P = z_T g d 149 129 (v0 :: v1 :: v2 :: .int x :: ls) (.int x :: st) h P := zt_iloadn zi_149_128 rfl rfl
theorem zi_149_129 : z_ins 149 129 = some (.ireturn, 1) := by decide +kernel
theorem ze_149_129 : z_T g d 149 129 ls [.int x] h P = P (.inr (some (.int x)), h) := zt_ireturn zi_149_129 zr_149
-- LatinRectanglesModel.many(I)I
theorem zo_150 : z_own 150 = "LatinRectanglesModel" := by decide +kernel
theorem zm_150 : z_maxL 150 = 3 := by decide +kernel
theorem zh_150 : z_hds 150 = [] := by decide +kernel
theorem zr_150 : z_rt 150 = (some .int) := by decide +kernel
theorem zn_150 : z_Ca g d 150 [.int x0] h P = z_T g d 150 0 [.int x0, z_un, z_un] [] h P := z_Ca_ent zm_150 rfl rfl
theorem zi_150_0 : z_ins 150 0 = some (.iconst 0, 1) := by decide +kernel
theorem ze_150_0 : z_T g d 150 0 ls st h P = z_T g d 150 1 ls (.int (nI 0) :: st) h P := zt_iconst zi_150_0 rfl
theorem zi_150_1 : z_ins 150 1 = some (.istore_n 1, 1) := by decide +kernel
theorem ze_150_1 : z_T g d 150 1 (v0 :: v1 :: ls) (.int x :: st) h P = z_T g d 150 2 (v0 :: .int x :: ls) st h P := zt_istoren zi_150_1 rfl (Nat.le_add_left 2 _)
theorem zi_150_2 : z_ins 150 2 = some (.iload_n 0, 1) := by decide +kernel
theorem ze_150_2 : z_T g d 150 2 (.int x :: ls) st h P = z_T g d 150 3 (.int x :: ls) (.int x :: st) h P := zt_iloadn zi_150_2 rfl rfl
theorem zi_150_3 : z_ins 150 3 = some (.istore_n 2, 1) := by decide +kernel
theorem ze_150_3 : z_T g d 150 3 (v0 :: v1 :: v2 :: ls) (.int x :: st) h P = z_T g d 150 4 (v0 :: v1 :: .int x :: ls) st h P := zt_istoren zi_150_3 rfl (Nat.le_add_left 3 _)
theorem zi_150_4 : z_ins 150 4 = some (.iload_n 2, 1) := by decide +kernel
theorem ze_150_4 : z_T g d 150 4 (v0 :: v1 :: .int x :: ls) st h P = z_T g d 150 5 (v0 :: v1 :: .int x :: ls) (.int x :: st) h P := zt_iloadn zi_150_4 rfl rfl
theorem zi_150_5 : z_ins 150 5 = some (.ifCond .eq 15, 3) := by decide +kernel
theorem ze_150_5 : z_T g d 150 5 ls (.int x :: st) h P = (if x = nI 0 then z_T g d 150 20 ls st h P else z_T g d 150 8 ls st h P) := zt_ifeq zi_150_5 (by decide)
theorem zi_150_8 : z_ins 150 8 = some (.iinc 1 1, 3) := by decide +kernel
theorem ze_150_8 : z_T g d 150 8 (v0 :: .int x :: ls) st h P = z_T g d 150 11 (v0 :: .int (x + (nI 1)) :: ls) st h P := zt_iinc zi_150_8 rfl rfl
theorem zi_150_11 : z_ins 150 11 = some (.iload_n 2, 1) := by decide +kernel
theorem ze_150_11 : z_T g d 150 11 (v0 :: v1 :: .int x :: ls) st h P = z_T g d 150 12 (v0 :: v1 :: .int x :: ls) (.int x :: st) h P := zt_iloadn zi_150_11 rfl rfl
theorem zi_150_12 : z_ins 150 12 = some (.iload_n 2, 1) := by decide +kernel
theorem ze_150_12 : z_T g d 150 12 (v0 :: v1 :: .int x :: ls) st h P = z_T g d 150 13 (v0 :: v1 :: .int x :: ls) (.int x :: st) h P := zt_iloadn zi_150_12 rfl rfl
theorem zi_150_13 : z_ins 150 13 = some (.iconst 1, 1) := by decide +kernel
theorem ze_150_13 : z_T g d 150 13 ls st h P = z_T g d 150 14 ls (.int (nI 1) :: st) h P := zt_iconst zi_150_13 rfl
theorem zi_150_14 : z_ins 150 14 = some (.isub, 1) := by decide +kernel
theorem ze_150_14 : z_T g d 150 14 ls (.int y :: .int x :: st) h P = z_T g d 150 15 ls (.int (x - y) :: st) h P := zt_bin (f := fun x y => x - y) zi_150_14 rfl (fun _ _ _ => rfl)
theorem zi_150_15 : z_ins 150 15 = some (.iand, 1) := by decide +kernel
theorem ze_150_15 : z_T g d 150 15 ls (.int y :: .int x :: st) h P = z_T g d 150 16 ls (.int (x &&& y) :: st) h P := zt_bin (f := fun x y => x &&& y) zi_150_15 rfl (fun _ _ _ => rfl)
theorem zi_150_16 : z_ins 150 16 = some (.istore_n 2, 1) := by decide +kernel
theorem ze_150_16 : z_T g d 150 16 (v0 :: v1 :: v2 :: ls) (.int x :: st) h P = z_T g d 150 17 (v0 :: v1 :: .int x :: ls) st h P := zt_istoren zi_150_16 rfl (Nat.le_add_left 3 _)
theorem zi_150_17 : z_ins 150 17 = some (.goto (-13), 3) := by decide +kernel
theorem ze_150_17 : z_T g d 150 17 ls st h P = z_T g d 150 4 ls st h P := zt_goto zi_150_17 (by decide)
theorem zi_150_20 : z_ins 150 20 = some (.iload_n 1, 1) := by decide +kernel
theorem ze_150_20 : z_T g d 150 20 (v0 :: .int x :: ls) st h P = z_T g d 150 21 (v0 :: .int x :: ls) (.int x :: st) h P := zt_iloadn zi_150_20 rfl rfl
theorem zi_150_21 : z_ins 150 21 = some (.ireturn, 1) := by decide +kernel
theorem ze_150_21 : z_T g d 150 21 ls [.int x] h P = P (.inr (some (.int x)), h) := zt_ireturn zi_150_21 zr_150
-- LatinRectanglesModel.lowest(I)I
theorem zo_151 : z_own 151 = "LatinRectanglesModel" := by decide +kernel
theorem zm_151 : z_maxL 151 = 2 := by decide +kernel
theorem zh_151 : z_hds 151 = [] := by decide +kernel
theorem zr_151 : z_rt 151 = (some .int) := by decide +kernel
theorem zn_151 : z_Ca g d 151 [.int x0] h P = z_T g d 151 0 [.int x0, z_un] [] h P := z_Ca_ent zm_151 rfl rfl
theorem zi_151_0 : z_ins 151 0 = some (.iconst 0, 1) := by decide +kernel
theorem ze_151_0 : z_T g d 151 0 ls st h P = z_T g d 151 1 ls (.int (nI 0) :: st) h P := zt_iconst zi_151_0 rfl
theorem zi_151_1 : z_ins 151 1 = some (.istore_n 1, 1) := by decide +kernel
theorem ze_151_1 : z_T g d 151 1 (v0 :: v1 :: ls) (.int x :: st) h P = z_T g d 151 2 (v0 :: .int x :: ls) st h P := zt_istoren zi_151_1 rfl (Nat.le_add_left 2 _)
theorem zi_151_2 : z_ins 151 2 = some (.iload_n 0, 1) := by decide +kernel
theorem ze_151_2 : z_T g d 151 2 (.int x :: ls) st h P = z_T g d 151 3 (.int x :: ls) (.int x :: st) h P := zt_iloadn zi_151_2 rfl rfl
theorem zi_151_3 : z_ins 151 3 = some (.iload_n 1, 1) := by decide +kernel
theorem ze_151_3 : z_T g d 151 3 (v0 :: .int x :: ls) st h P = z_T g d 151 4 (v0 :: .int x :: ls) (.int x :: st) h P := zt_iloadn zi_151_3 rfl rfl
theorem zi_151_4 : z_ins 151 4 = some (.ishr, 1) := by decide +kernel
theorem ze_151_4 : z_T g d 151 4 ls (.int y :: .int x :: st) h P = z_T g d 151 5 ls (.int (x >>> (y &&& 31)) :: st) h P := zt_bin (f := fun x y => x >>> (y &&& 31)) zi_151_4 rfl (fun _ _ _ => rfl)
theorem zi_151_5 : z_ins 151 5 = some (.iconst 1, 1) := by decide +kernel
theorem ze_151_5 : z_T g d 151 5 ls st h P = z_T g d 151 6 ls (.int (nI 1) :: st) h P := zt_iconst zi_151_5 rfl
theorem zi_151_6 : z_ins 151 6 = some (.iand, 1) := by decide +kernel
theorem ze_151_6 : z_T g d 151 6 ls (.int y :: .int x :: st) h P = z_T g d 151 7 ls (.int (x &&& y) :: st) h P := zt_bin (f := fun x y => x &&& y) zi_151_6 rfl (fun _ _ _ => rfl)
theorem zi_151_7 : z_ins 151 7 = some (.ifCond .ne 9, 3) := by decide +kernel
theorem ze_151_7 : z_T g d 151 7 ls (.int x :: st) h P = (if x = nI 0 then z_T g d 151 10 ls st h P else z_T g d 151 16 ls st h P) := zt_ifne zi_151_7 (by decide)
theorem zi_151_10 : z_ins 151 10 = some (.iinc 1 1, 3) := by decide +kernel
theorem ze_151_10 : z_T g d 151 10 (v0 :: .int x :: ls) st h P = z_T g d 151 13 (v0 :: .int (x + (nI 1)) :: ls) st h P := zt_iinc zi_151_10 rfl rfl
theorem zi_151_13 : z_ins 151 13 = some (.goto (-11), 3) := by decide +kernel
theorem ze_151_13 : z_T g d 151 13 ls st h P = z_T g d 151 2 ls st h P := zt_goto zi_151_13 (by decide)
theorem zi_151_16 : z_ins 151 16 = some (.iload_n 1, 1) := by decide +kernel
theorem ze_151_16 : z_T g d 151 16 (v0 :: .int x :: ls) st h P = z_T g d 151 17 (v0 :: .int x :: ls) (.int x :: st) h P := zt_iloadn zi_151_16 rfl rfl
theorem zi_151_17 : z_ins 151 17 = some (.ireturn, 1) := by decide +kernel
theorem ze_151_17 : z_T g d 151 17 ls [.int x] h P = P (.inr (some (.int x)), h) := zt_ireturn zi_151_17 zr_151
-- LatinRectanglesModel.stuck()I
theorem zo_152 : z_own 152 = "LatinRectanglesModel" := by decide +kernel
theorem zm_152 : z_maxL 152 = 4 := by decide +kernel
theorem zh_152 : z_hds 152 = [] := by decide +kernel
theorem zr_152 : z_rt 152 = (some .int) := by decide +kernel
theorem zn_152 : z_Ca g d 152 [.ref a0] h P = z_T g d 152 0 [.ref a0, z_un, z_un, z_un] [] h P := z_Ca_ent zm_152 rfl rfl
theorem zi_152_0 : z_ins 152 0 = some (.iconst 0, 1) := by decide +kernel
theorem ze_152_0 : z_T g d 152 0 ls st h P = z_T g d 152 1 ls (.int (nI 0) :: st) h P := zt_iconst zi_152_0 rfl
theorem zi_152_1 : z_ins 152 1 = some (.istore_n 1, 1) := by decide +kernel
theorem ze_152_1 : z_T g d 152 1 (v0 :: v1 :: ls) (.int x :: st) h P = z_T g d 152 2 (v0 :: .int x :: ls) st h P := zt_istoren zi_152_1 rfl (Nat.le_add_left 2 _)
theorem zi_152_2 : z_ins 152 2 = some (.iconst 0, 1) := by decide +kernel
theorem ze_152_2 : z_T g d 152 2 ls st h P = z_T g d 152 3 ls (.int (nI 0) :: st) h P := zt_iconst zi_152_2 rfl
theorem zi_152_3 : z_ins 152 3 = some (.istore_n 2, 1) := by decide +kernel
theorem ze_152_3 : z_T g d 152 3 (v0 :: v1 :: v2 :: ls) (.int x :: st) h P = z_T g d 152 4 (v0 :: v1 :: .int x :: ls) st h P := zt_istoren zi_152_3 rfl (Nat.le_add_left 3 _)
theorem zi_152_4 : z_ins 152 4 = some (.iload_n 2, 1) := by decide +kernel
theorem ze_152_4 : z_T g d 152 4 (v0 :: v1 :: .int x :: ls) st h P = z_T g d 152 5 (v0 :: v1 :: .int x :: ls) (.int x :: st) h P := zt_iloadn zi_152_4 rfl rfl
theorem zi_152_5 : z_ins 152 5 = some (.aload_n 0, 1) := by decide +kernel
theorem ze_152_5 : z_T g d 152 5 (.ref a :: ls) st h P = z_T g d 152 6 (.ref a :: ls) (.ref a :: st) h P := zt_aloadn zi_152_5 rfl rfl
theorem zi_152_6 : z_ins 152 6 = some (.getfield 73, 3) := by decide +kernel
theorem ze_152_6 : z_T g d 152 6 ls (.ref a :: st) h P = z_gI h.1 a 10 1 (fun x => z_T g d 152 9 ls (.int x :: st) h P) := zt_getI zi_152_6 ((congrArg (fun o => z_fl o 73) zo_152).trans zf_LatinRectanglesModel_73)
theorem zi_152_9 : z_ins 152 9 = some (.if_icmp .ge 52, 3) := by decide +kernel
theorem ze_152_9 : z_T g d 152 9 ls (.int y :: .int x :: st) h P = (if x < y then z_T g d 152 12 ls st h P else z_T g d 152 61 ls st h P) := zt_icmpge zi_152_9 (by decide)
theorem zi_152_12 : z_ins 152 12 = some (.iconst 0, 1) := by decide +kernel
theorem ze_152_12 : z_T g d 152 12 ls st h P = z_T g d 152 13 ls (.int (nI 0) :: st) h P := zt_iconst zi_152_12 rfl
theorem zi_152_13 : z_ins 152 13 = some (.istore_n 3, 1) := by decide +kernel
theorem ze_152_13 : z_T g d 152 13 (v0 :: v1 :: v2 :: v3 :: ls) (.int x :: st) h P = z_T g d 152 14 (v0 :: v1 :: v2 :: .int x :: ls) st h P := zt_istoren zi_152_13 rfl (Nat.le_add_left 4 _)
theorem zi_152_14 : z_ins 152 14 = some (.iload_n 3, 1) := by decide +kernel
theorem ze_152_14 : z_T g d 152 14 (v0 :: v1 :: v2 :: .int x :: ls) st h P = z_T g d 152 15 (v0 :: v1 :: v2 :: .int x :: ls) (.int x :: st) h P := zt_iloadn zi_152_14 rfl rfl
theorem zi_152_15 : z_ins 152 15 = some (.aload_n 0, 1) := by decide +kernel
theorem ze_152_15 : z_T g d 152 15 (.ref a :: ls) st h P = z_T g d 152 16 (.ref a :: ls) (.ref a :: st) h P := zt_aloadn zi_152_15 rfl rfl
theorem zi_152_16 : z_ins 152 16 = some (.getfield 76, 3) := by decide +kernel
theorem ze_152_16 : z_T g d 152 16 ls (.ref a :: st) h P = z_gI h.1 a 10 2 (fun x => z_T g d 152 19 ls (.int x :: st) h P) := zt_getI zi_152_16 ((congrArg (fun o => z_fl o 76) zo_152).trans zf_LatinRectanglesModel_76)
theorem zi_152_19 : z_ins 152 19 = some (.if_icmp .ge 36, 3) := by decide +kernel
theorem ze_152_19 : z_T g d 152 19 ls (.int y :: .int x :: st) h P = (if x < y then z_T g d 152 22 ls st h P else z_T g d 152 55 ls st h P) := zt_icmpge zi_152_19 (by decide)
theorem zi_152_22 : z_ins 152 22 = some (.iload_n 1, 1) := by decide +kernel
theorem ze_152_22 : z_T g d 152 22 (v0 :: .int x :: ls) st h P = z_T g d 152 23 (v0 :: .int x :: ls) (.int x :: st) h P := zt_iloadn zi_152_22 rfl rfl
theorem zi_152_23 : z_ins 152 23 = some (.aload_n 0, 1) := by decide +kernel
theorem ze_152_23 : z_T g d 152 23 (.ref a :: ls) st h P = z_T g d 152 24 (.ref a :: ls) (.ref a :: st) h P := zt_aloadn zi_152_23 rfl rfl
theorem zi_152_24 : z_ins 152 24 = some (.iload_n 2, 1) := by decide +kernel
theorem ze_152_24 : z_T g d 152 24 (v0 :: v1 :: .int x :: ls) st h P = z_T g d 152 25 (v0 :: v1 :: .int x :: ls) (.int x :: st) h P := zt_iloadn zi_152_24 rfl rfl
theorem zi_152_25 : z_ins 152 25 = some (.iload_n 3, 1) := by decide +kernel
theorem ze_152_25 : z_T g d 152 25 (v0 :: v1 :: v2 :: .int x :: ls) st h P = z_T g d 152 26 (v0 :: v1 :: v2 :: .int x :: ls) (.int x :: st) h P := zt_iloadn zi_152_25 rfl rfl
theorem zi_152_26 : z_ins 152 26 = some (.invokevirtual 180, 3) := by decide +kernel
theorem ze_152_26 : z_T g d 152 26 ls (.int x1 :: .int x0 :: .ref a :: st) h P = ((z_okS 8 st = true ∧ z_gO h.1 a 10 ∧ 0 < d) ∧ z_Ca g (d - 1) 145 [.ref a, .int x0, .int x1] h (fun r => z_k r (fun v h' => z_T g d 152 29 ls (z_push v st) h' P) P)) := zt_callV (as := [.int x0, .int x1]) zi_152_26 ((congrArg (fun o => z_lookup z_prs (o, 180)) zo_152).trans zp_LatinRectanglesModel_180) ((congrArg (fun o => z_clk o 180) zo_152).trans zk_LatinRectanglesModel_180) zh_152 zc_145 rfl rfl rfl
theorem zi_152_29 : z_ins 152 29 = some (.iconst (-1), 1) := by decide +kernel
theorem ze_152_29 : z_T g d 152 29 ls st h P = z_T g d 152 30 ls (.int (-1) :: st) h P := zt_iconst zi_152_29 rfl
theorem zi_152_30 : z_ins 152 30 = some (.if_icmp .ne 16, 3) := by decide +kernel
theorem ze_152_30 : z_T g d 152 30 ls (.int y :: .int x :: st) h P = (if x = y then z_T g d 152 33 ls st h P else z_T g d 152 46 ls st h P) := zt_icmpne zi_152_30 (by decide)
theorem zi_152_33 : z_ins 152 33 = some (.aload_n 0, 1) := by decide +kernel
theorem ze_152_33 : z_T g d 152 33 (.ref a :: ls) st h P = z_T g d 152 34 (.ref a :: ls) (.ref a :: st) h P := zt_aloadn zi_152_33 rfl rfl
theorem zi_152_34 : z_ins 152 34 = some (.iload_n 2, 1) := by decide +kernel
theorem ze_152_34 : z_T g d 152 34 (v0 :: v1 :: .int x :: ls) st h P = z_T g d 152 35 (v0 :: v1 :: .int x :: ls) (.int x :: st) h P := zt_iloadn zi_152_34 rfl rfl
theorem zi_152_35 : z_ins 152 35 = some (.iload_n 3, 1) := by decide +kernel
theorem ze_152_35 : z_T g d 152 35 (v0 :: v1 :: v2 :: .int x :: ls) st h P = z_T g d 152 36 (v0 :: v1 :: v2 :: .int x :: ls) (.int x :: st) h P := zt_iloadn zi_152_35 rfl rfl
theorem zi_152_36 : z_ins 152 36 = some (.invokevirtual 183, 3) := by decide +kernel
theorem ze_152_36 : z_T g d 152 36 ls (.int x1 :: .int x0 :: .ref a :: st) h P = ((z_okS 8 st = true ∧ z_gO h.1 a 10 ∧ 0 < d) ∧ z_Ca g (d - 1) 149 [.ref a, .int x0, .int x1] h (fun r => z_k r (fun v h' => z_T g d 152 39 ls (z_push v st) h' P) P)) := zt_callV (as := [.int x0, .int x1]) zi_152_36 ((congrArg (fun o => z_lookup z_prs (o, 183)) zo_152).trans zp_LatinRectanglesModel_183) ((congrArg (fun o => z_clk o 183) zo_152).trans zk_LatinRectanglesModel_183) zh_152 zc_149 rfl rfl rfl
theorem zi_152_39 : z_ins 152 39 = some (.ifCond .ne 7, 3) := by decide +kernel
theorem ze_152_39 : z_T g d 152 39 ls (.int x :: st) h P = (if x = nI 0 then z_T g d 152 42 ls st h P else z_T g d 152 46 ls st h P) := zt_ifne zi_152_39 (by decide)
theorem zi_152_42 : z_ins 152 42 = some (.iconst 1, 1) := by decide +kernel
theorem ze_152_42 : z_T g d 152 42 ls st h P = z_T g d 152 43 ls (.int (nI 1) :: st) h P := zt_iconst zi_152_42 rfl
theorem zi_152_43 : z_ins 152 43 = some (.goto 4, 3) := by decide +kernel
theorem ze_152_43 : z_T g d 152 43 ls st h P = z_T g d 152 47 ls st h P := zt_goto zi_152_43 (by decide)
theorem zi_152_46 : z_ins 152 46 = some (.iconst 0, 1) := by decide +kernel
theorem ze_152_46 : z_T g d 152 46 ls st h P = z_T g d 152 47 ls (.int (nI 0) :: st) h P := zt_iconst zi_152_46 rfl
theorem zi_152_47 : z_ins 152 47 = some (.iadd, 1) := by decide +kernel
theorem ze_152_47 : z_T g d 152 47 ls (.int y :: .int x :: st) h P = z_T g d 152 48 ls (.int (x + y) :: st) h P := zt_bin (f := fun x y => x + y) zi_152_47 rfl (fun _ _ _ => rfl)
theorem zi_152_48 : z_ins 152 48 = some (.istore_n 1, 1) := by decide +kernel
theorem ze_152_48 : z_T g d 152 48 (v0 :: v1 :: ls) (.int x :: st) h P = z_T g d 152 49 (v0 :: .int x :: ls) st h P := zt_istoren zi_152_48 rfl (Nat.le_add_left 2 _)
theorem zi_152_49 : z_ins 152 49 = some (.iinc 3 1, 3) := by decide +kernel
theorem ze_152_49 : z_T g d 152 49 (v0 :: v1 :: v2 :: .int x :: ls) st h P = z_T g d 152 52 (v0 :: v1 :: v2 :: .int (x + (nI 1)) :: ls) st h P := zt_iinc zi_152_49 rfl rfl
theorem zi_152_52 : z_ins 152 52 = some (.goto (-38), 3) := by decide +kernel
theorem ze_152_52 : z_T g d 152 52 ls st h P = z_T g d 152 14 ls st h P := zt_goto zi_152_52 (by decide)
theorem zi_152_55 : z_ins 152 55 = some (.iinc 2 1, 3) := by decide +kernel
theorem ze_152_55 : z_T g d 152 55 (v0 :: v1 :: .int x :: ls) st h P = z_T g d 152 58 (v0 :: v1 :: .int (x + (nI 1)) :: ls) st h P := zt_iinc zi_152_55 rfl rfl
theorem zi_152_58 : z_ins 152 58 = some (.goto (-54), 3) := by decide +kernel
theorem ze_152_58 : z_T g d 152 58 ls st h P = z_T g d 152 4 ls st h P := zt_goto zi_152_58 (by decide)
theorem zi_152_61 : z_ins 152 61 = some (.iload_n 1, 1) := by decide +kernel
theorem ze_152_61 : z_T g d 152 61 (v0 :: .int x :: ls) st h P = z_T g d 152 62 (v0 :: .int x :: ls) (.int x :: st) h P := zt_iloadn zi_152_61 rfl rfl
theorem zi_152_62 : z_ins 152 62 = some (.ireturn, 1) := by decide +kernel
theorem ze_152_62 : z_T g d 152 62 ls [.int x] h P = P (.inr (some (.int x)), h) := zt_ireturn zi_152_62 zr_152
-- LatinRectanglesModel.fullRows()I
theorem zo_153 : z_own 153 = "LatinRectanglesModel" := by decide +kernel
theorem zm_153 : z_maxL 153 = 3 := by decide +kernel
theorem zh_153 : z_hds 153 = [] := by decide +kernel
theorem zr_153 : z_rt 153 = (some .int) := by decide +kernel
theorem zn_153 : z_Ca g d 153 [.ref a0] h P = z_T g d 153 0 [.ref a0, z_un, z_un] [] h P := z_Ca_ent zm_153 rfl rfl
theorem zi_153_0 : z_ins 153 0 = some (.iconst 0, 1) := by decide +kernel
theorem ze_153_0 : z_T g d 153 0 ls st h P = z_T g d 153 1 ls (.int (nI 0) :: st) h P := zt_iconst zi_153_0 rfl
theorem zi_153_1 : z_ins 153 1 = some (.istore_n 1, 1) := by decide +kernel
theorem ze_153_1 : z_T g d 153 1 (v0 :: v1 :: ls) (.int x :: st) h P = z_T g d 153 2 (v0 :: .int x :: ls) st h P := zt_istoren zi_153_1 rfl (Nat.le_add_left 2 _)
theorem zi_153_2 : z_ins 153 2 = some (.iconst 0, 1) := by decide +kernel
theorem ze_153_2 : z_T g d 153 2 ls st h P = z_T g d 153 3 ls (.int (nI 0) :: st) h P := zt_iconst zi_153_2 rfl
theorem zi_153_3 : z_ins 153 3 = some (.istore_n 2, 1) := by decide +kernel
theorem ze_153_3 : z_T g d 153 3 (v0 :: v1 :: v2 :: ls) (.int x :: st) h P = z_T g d 153 4 (v0 :: v1 :: .int x :: ls) st h P := zt_istoren zi_153_3 rfl (Nat.le_add_left 3 _)
theorem zi_153_4 : z_ins 153 4 = some (.iload_n 2, 1) := by decide +kernel
theorem ze_153_4 : z_T g d 153 4 (v0 :: v1 :: .int x :: ls) st h P = z_T g d 153 5 (v0 :: v1 :: .int x :: ls) (.int x :: st) h P := zt_iloadn zi_153_4 rfl rfl
theorem zi_153_5 : z_ins 153 5 = some (.aload_n 0, 1) := by decide +kernel
theorem ze_153_5 : z_T g d 153 5 (.ref a :: ls) st h P = z_T g d 153 6 (.ref a :: ls) (.ref a :: st) h P := zt_aloadn zi_153_5 rfl rfl
theorem zi_153_6 : z_ins 153 6 = some (.getfield 73, 3) := by decide +kernel
theorem ze_153_6 : z_T g d 153 6 ls (.ref a :: st) h P = z_gI h.1 a 10 1 (fun x => z_T g d 153 9 ls (.int x :: st) h P) := zt_getI zi_153_6 ((congrArg (fun o => z_fl o 73) zo_153).trans zf_LatinRectanglesModel_73)
theorem zi_153_9 : z_ins 153 9 = some (.if_icmp .ge 25, 3) := by decide +kernel
theorem ze_153_9 : z_T g d 153 9 ls (.int y :: .int x :: st) h P = (if x < y then z_T g d 153 12 ls st h P else z_T g d 153 34 ls st h P) := zt_icmpge zi_153_9 (by decide)
theorem zi_153_12 : z_ins 153 12 = some (.iload_n 1, 1) := by decide +kernel
theorem ze_153_12 : z_T g d 153 12 (v0 :: .int x :: ls) st h P = z_T g d 153 13 (v0 :: .int x :: ls) (.int x :: st) h P := zt_iloadn zi_153_12 rfl rfl
theorem zi_153_13 : z_ins 153 13 = some (.aload_n 0, 1) := by decide +kernel
theorem ze_153_13 : z_T g d 153 13 (.ref a :: ls) st h P = z_T g d 153 14 (.ref a :: ls) (.ref a :: st) h P := zt_aloadn zi_153_13 rfl rfl
theorem zi_153_14 : z_ins 153 14 = some (.iload_n 2, 1) := by decide +kernel
theorem ze_153_14 : z_T g d 153 14 (v0 :: v1 :: .int x :: ls) st h P = z_T g d 153 15 (v0 :: v1 :: .int x :: ls) (.int x :: st) h P := zt_iloadn zi_153_14 rfl rfl
theorem zi_153_15 : z_ins 153 15 = some (.invokevirtual 186, 3) := by decide +kernel
theorem ze_153_15 : z_T g d 153 15 ls (.int x0 :: .ref a :: st) h P = ((z_okS 8 st = true ∧ z_gO h.1 a 10 ∧ 0 < d) ∧ z_Ca g (d - 1) 148 [.ref a, .int x0] h (fun r => z_k r (fun v h' => z_T g d 153 18 ls (z_push v st) h' P) P)) := zt_callV (as := [.int x0]) zi_153_15 ((congrArg (fun o => z_lookup z_prs (o, 186)) zo_153).trans zp_LatinRectanglesModel_186) ((congrArg (fun o => z_clk o 186) zo_153).trans zk_LatinRectanglesModel_186) zh_153 zc_148 rfl rfl rfl
theorem zi_153_18 : z_ins 153 18 = some (.ifCond .eq 7, 3) := by decide +kernel
theorem ze_153_18 : z_T g d 153 18 ls (.int x :: st) h P = (if x = nI 0 then z_T g d 153 25 ls st h P else z_T g d 153 21 ls st h P) := zt_ifeq zi_153_18 (by decide)
theorem zi_153_21 : z_ins 153 21 = some (.iconst 1, 1) := by decide +kernel
theorem ze_153_21 : z_T g d 153 21 ls st h P = z_T g d 153 22 ls (.int (nI 1) :: st) h P := zt_iconst zi_153_21 rfl
theorem zi_153_22 : z_ins 153 22 = some (.goto 4, 3) := by decide +kernel
theorem ze_153_22 : z_T g d 153 22 ls st h P = z_T g d 153 26 ls st h P := zt_goto zi_153_22 (by decide)
theorem zi_153_25 : z_ins 153 25 = some (.iconst 0, 1) := by decide +kernel
theorem ze_153_25 : z_T g d 153 25 ls st h P = z_T g d 153 26 ls (.int (nI 0) :: st) h P := zt_iconst zi_153_25 rfl
theorem zi_153_26 : z_ins 153 26 = some (.iadd, 1) := by decide +kernel
theorem ze_153_26 : z_T g d 153 26 ls (.int y :: .int x :: st) h P = z_T g d 153 27 ls (.int (x + y) :: st) h P := zt_bin (f := fun x y => x + y) zi_153_26 rfl (fun _ _ _ => rfl)
theorem zi_153_27 : z_ins 153 27 = some (.istore_n 1, 1) := by decide +kernel
theorem ze_153_27 : z_T g d 153 27 (v0 :: v1 :: ls) (.int x :: st) h P = z_T g d 153 28 (v0 :: .int x :: ls) st h P := zt_istoren zi_153_27 rfl (Nat.le_add_left 2 _)
theorem zi_153_28 : z_ins 153 28 = some (.iinc 2 1, 3) := by decide +kernel
theorem ze_153_28 : z_T g d 153 28 (v0 :: v1 :: .int x :: ls) st h P = z_T g d 153 31 (v0 :: v1 :: .int (x + (nI 1)) :: ls) st h P := zt_iinc zi_153_28 rfl rfl
theorem zi_153_31 : z_ins 153 31 = some (.goto (-27), 3) := by decide +kernel
theorem ze_153_31 : z_T g d 153 31 ls st h P = z_T g d 153 4 ls st h P := zt_goto zi_153_31 (by decide)
theorem zi_153_34 : z_ins 153 34 = some (.iload_n 1, 1) := by decide +kernel
theorem ze_153_34 : z_T g d 153 34 (v0 :: .int x :: ls) st h P = z_T g d 153 35 (v0 :: .int x :: ls) (.int x :: st) h P := zt_iloadn zi_153_34 rfl rfl
theorem zi_153_35 : z_ins 153 35 = some (.ireturn, 1) := by decide +kernel
theorem ze_153_35 : z_T g d 153 35 ls [.int x] h P = P (.inr (some (.int x)), h) := zt_ireturn zi_153_35 zr_153
-- LatinRectanglesModel.size(I)I
theorem zo_154 : z_own 154 = "LatinRectanglesModel" := by decide +kernel
theorem zm_154 : z_maxL 154 = 2 := by decide +kernel
theorem zh_154 : z_hds 154 = [] := by decide +kernel
theorem zr_154 : z_rt 154 = (some .int) := by decide +kernel
theorem zn_154 : z_Ca g d 154 [.ref a0, .int x1] h P = z_T g d 154 0 [.ref a0, .int x1] [] h P := z_Ca_ent zm_154 rfl rfl
theorem zi_154_0 : z_ins 154 0 = some (.aload_n 0, 1) := by decide +kernel
theorem ze_154_0 : z_T g d 154 0 (.ref a :: ls) st h P = z_T g d 154 1 (.ref a :: ls) (.ref a :: st) h P := zt_aloadn zi_154_0 rfl rfl
theorem zi_154_1 : z_ins 154 1 = some (.iconst 0, 1) := by decide +kernel
theorem ze_154_1 : z_T g d 154 1 ls st h P = z_T g d 154 2 ls (.int (nI 0) :: st) h P := zt_iconst zi_154_1 rfl
theorem zi_154_2 : z_ins 154 2 = some (.putfield 67, 3) := by decide +kernel
theorem ze_154_2 : z_T g d 154 2 ls (.int x :: .ref a :: st) h P = z_pF h.1 a 10 0 (.int x) (fun f => z_T g d 154 5 ls st (f, h.2) P) := zt_putI zi_154_2 ((congrArg (fun o => z_fl o 67) zo_154).trans zf_LatinRectanglesModel_67)
theorem zi_154_5 : z_ins 154 5 = some (.aload_n 0, 1) := by decide +kernel
theorem ze_154_5 : z_T g d 154 5 (.ref a :: ls) st h P = z_T g d 154 6 (.ref a :: ls) (.ref a :: st) h P := zt_aloadn zi_154_5 rfl rfl
theorem zi_154_6 : z_ins 154 6 = some (.iload_n 1, 1) := by decide +kernel
theorem ze_154_6 : z_T g d 154 6 (v0 :: .int x :: ls) st h P = z_T g d 154 7 (v0 :: .int x :: ls) (.int x :: st) h P := zt_iloadn zi_154_6 rfl rfl
theorem zi_154_7 : z_ins 154 7 = some (.iconst 0, 1) := by decide +kernel
theorem ze_154_7 : z_T g d 154 7 ls st h P = z_T g d 154 8 ls (.int (nI 0) :: st) h P := zt_iconst zi_154_7 rfl
theorem zi_154_8 : z_ins 154 8 = some (.bipush 6, 2) := by decide +kernel
theorem ze_154_8 : z_T g d 154 8 ls st h P = z_T g d 154 10 ls (.int (nI 6) :: st) h P := zt_bipush zi_154_8 rfl
theorem zi_154_10 : z_ins 154 10 = some (.invokestatic 111, 3) := by decide +kernel
theorem ze_154_10 : z_T g d 154 10 ls (.int x2 :: .int x1 :: .int x0 :: st) h P = ((z_okS 8 st = true ∧ 0 < d) ∧ z_Ca g (d - 1) 122 [.int x0, .int x1, .int x2] h (fun r => z_k r (fun v h' => z_T g d 154 13 ls (z_push v st) h' P) P)) := zt_callS0 (as := [.int x0, .int x1, .int x2]) zi_154_10 ((congrArg (fun o => z_lookup z_prs (o, 111)) zo_154).trans zp_LatinRectanglesModel_111) ((congrArg (fun o => z_clk o 111) zo_154).trans zk_LatinRectanglesModel_111) zh_154 rfl rfl rfl
theorem zi_154_13 : z_ins 154 13 = some (.ifCond .ne 7, 3) := by decide +kernel
theorem ze_154_13 : z_T g d 154 13 ls (.int x :: st) h P = (if x = nI 0 then z_T g d 154 16 ls st h P else z_T g d 154 20 ls st h P) := zt_ifne zi_154_13 (by decide)
theorem zi_154_16 : z_ins 154 16 = some (.iconst 1, 1) := by decide +kernel
theorem ze_154_16 : z_T g d 154 16 ls st h P = z_T g d 154 17 ls (.int (nI 1) :: st) h P := zt_iconst zi_154_16 rfl
theorem zi_154_17 : z_ins 154 17 = some (.goto 4, 3) := by decide +kernel
theorem ze_154_17 : z_T g d 154 17 ls st h P = z_T g d 154 21 ls st h P := zt_goto zi_154_17 (by decide)
theorem zi_154_20 : z_ins 154 20 = some (.iconst 0, 1) := by decide +kernel
theorem ze_154_20 : z_T g d 154 20 ls st h P = z_T g d 154 21 ls (.int (nI 0) :: st) h P := zt_iconst zi_154_20 rfl
theorem zi_154_21 : z_ins 154 21 = some (.iconst 1, 1) := by decide +kernel
theorem ze_154_21 : z_T g d 154 21 ls st h P = z_T g d 154 22 ls (.int (nI 1) :: st) h P := zt_iconst zi_154_21 rfl
theorem zi_154_22 : z_ins 154 22 = some (.invokevirtual 167, 3) := by decide +kernel
theorem ze_154_22 : z_T g d 154 22 ls (.int x1 :: .int x0 :: .ref a :: st) h P = ((z_okS 8 st = true ∧ z_gO h.1 a 10 ∧ 0 < d) ∧ z_Ca g (d - 1) 123 [.ref a, .int x0, .int x1] h (fun r => z_k r (fun v h' => z_T g d 154 25 ls (z_push v st) h' P) P)) := zt_callV (as := [.int x0, .int x1]) zi_154_22 ((congrArg (fun o => z_lookup z_prs (o, 167)) zo_154).trans zp_LatinRectanglesModel_167) ((congrArg (fun o => z_clk o 167) zo_154).trans zk_LatinRectanglesModel_167) zh_154 zc_123 rfl rfl rfl
theorem zi_154_25 : z_ins 154 25 = some (.ifCond .eq 5, 3) := by decide +kernel
theorem ze_154_25 : z_T g d 154 25 ls (.int x :: st) h P = (if x = nI 0 then z_T g d 154 30 ls st h P else z_T g d 154 28 ls st h P) := zt_ifeq zi_154_25 (by decide)
theorem zi_154_28 : z_ins 154 28 = some (.iconst 0, 1) := by decide +kernel
theorem ze_154_28 : z_T g d 154 28 ls st h P = z_T g d 154 29 ls (.int (nI 0) :: st) h P := zt_iconst zi_154_28 rfl
theorem zi_154_29 : z_ins 154 29 = some (.ireturn, 1) := by decide +kernel
theorem ze_154_29 : z_T g d 154 29 ls [.int x] h P = P (.inr (some (.int x)), h) := zt_ireturn zi_154_29 zr_154
theorem zi_154_30 : z_ins 154 30 = some (.iload_n 1, 1) := by decide +kernel
theorem ze_154_30 : z_T g d 154 30 (v0 :: .int x :: ls) st h P = z_T g d 154 31 (v0 :: .int x :: ls) (.int x :: st) h P := zt_iloadn zi_154_30 rfl rfl
theorem zi_154_31 : z_ins 154 31 = some (.tableswitch 67 0 5 #[37, 42, 47, 52, 57, 62], 37) := by decide +kernel
theorem ze_154_31_0 : z_T g d 154 31 ls (.int (nI 0) :: st) h P = z_T g d 154 68 ls st h P := zt_swIn zi_154_31 (by decide) (by decide) rfl (by decide)
theorem ze_154_31_1 : z_T g d 154 31 ls (.int (nI 1) :: st) h P = z_T g d 154 73 ls st h P := zt_swIn zi_154_31 (by decide) (by decide) rfl (by decide)
theorem ze_154_31_2 : z_T g d 154 31 ls (.int (nI 2) :: st) h P = z_T g d 154 78 ls st h P := zt_swIn zi_154_31 (by decide) (by decide) rfl (by decide)
theorem ze_154_31_3 : z_T g d 154 31 ls (.int (nI 3) :: st) h P = z_T g d 154 83 ls st h P := zt_swIn zi_154_31 (by decide) (by decide) rfl (by decide)
theorem ze_154_31_4 : z_T g d 154 31 ls (.int (nI 4) :: st) h P = z_T g d 154 88 ls st h P := zt_swIn zi_154_31 (by decide) (by decide) rfl (by decide)
theorem ze_154_31_5 : z_T g d 154 31 ls (.int (nI 5) :: st) h P = z_T g d 154 93 ls st h P := zt_swIn zi_154_31 (by decide) (by decide) rfl (by decide)
theorem ze_154_31_6 : z_T g d 154 31 ls (.int (nI 6) :: st) h P = z_T g d 154 98 ls st h P := zt_swOut zi_154_31 (by decide) (by decide)
theorem zi_154_68 : z_ins 154 68 = some (.aload_n 0, 1) := by decide +kernel
theorem ze_154_68 : z_T g d 154 68 (.ref a :: ls) st h P = z_T g d 154 69 (.ref a :: ls) (.ref a :: st) h P := zt_aloadn zi_154_68 rfl rfl
theorem zi_154_69 : z_ins 154 69 = some (.getfield 73, 3) := by decide +kernel
theorem ze_154_69 : z_T g d 154 69 ls (.ref a :: st) h P = z_gI h.1 a 10 1 (fun x => z_T g d 154 72 ls (.int x :: st) h P) := zt_getI zi_154_69 ((congrArg (fun o => z_fl o 73) zo_154).trans zf_LatinRectanglesModel_73)
theorem zi_154_72 : z_ins 154 72 = some (.ireturn, 1) := by decide +kernel
theorem ze_154_72 : z_T g d 154 72 ls [.int x] h P = P (.inr (some (.int x)), h) := zt_ireturn zi_154_72 zr_154
theorem zi_154_73 : z_ins 154 73 = some (.aload_n 0, 1) := by decide +kernel
theorem ze_154_73 : z_T g d 154 73 (.ref a :: ls) st h P = z_T g d 154 74 (.ref a :: ls) (.ref a :: st) h P := zt_aloadn zi_154_73 rfl rfl
theorem zi_154_74 : z_ins 154 74 = some (.getfield 76, 3) := by decide +kernel
theorem ze_154_74 : z_T g d 154 74 ls (.ref a :: st) h P = z_gI h.1 a 10 2 (fun x => z_T g d 154 77 ls (.int x :: st) h P) := zt_getI zi_154_74 ((congrArg (fun o => z_fl o 76) zo_154).trans zf_LatinRectanglesModel_76)
theorem zi_154_77 : z_ins 154 77 = some (.ireturn, 1) := by decide +kernel
theorem ze_154_77 : z_T g d 154 77 ls [.int x] h P = P (.inr (some (.int x)), h) := zt_ireturn zi_154_77 zr_154
theorem zi_154_78 : z_ins 154 78 = some (.aload_n 0, 1) := by decide +kernel
theorem ze_154_78 : z_T g d 154 78 (.ref a :: ls) st h P = z_T g d 154 79 (.ref a :: ls) (.ref a :: st) h P := zt_aloadn zi_154_78 rfl rfl
theorem zi_154_79 : z_ins 154 79 = some (.invokevirtual 189, 3) := by decide +kernel
theorem ze_154_79 : z_T g d 154 79 ls (.ref a :: st) h P = ((z_okS 8 st = true ∧ z_gO h.1 a 10 ∧ 0 < d) ∧ z_Ca g (d - 1) 146 [.ref a] h (fun r => z_k r (fun v h' => z_T g d 154 82 ls (z_push v st) h' P) P)) := zt_callV (as := []) zi_154_79 ((congrArg (fun o => z_lookup z_prs (o, 189)) zo_154).trans zp_LatinRectanglesModel_189) ((congrArg (fun o => z_clk o 189) zo_154).trans zk_LatinRectanglesModel_189) zh_154 zc_146 rfl rfl rfl
theorem zi_154_82 : z_ins 154 82 = some (.ireturn, 1) := by decide +kernel
theorem ze_154_82 : z_T g d 154 82 ls [.int x] h P = P (.inr (some (.int x)), h) := zt_ireturn zi_154_82 zr_154
theorem zi_154_83 : z_ins 154 83 = some (.aload_n 0, 1) := by decide +kernel
theorem ze_154_83 : z_T g d 154 83 (.ref a :: ls) st h P = z_T g d 154 84 (.ref a :: ls) (.ref a :: st) h P := zt_aloadn zi_154_83 rfl rfl
theorem zi_154_84 : z_ins 154 84 = some (.invokevirtual 192, 3) := by decide +kernel
theorem ze_154_84 : z_T g d 154 84 ls (.ref a :: st) h P = ((z_okS 8 st = true ∧ z_gO h.1 a 10 ∧ 0 < d) ∧ z_Ca g (d - 1) 147 [.ref a] h (fun r => z_k r (fun v h' => z_T g d 154 87 ls (z_push v st) h' P) P)) := zt_callV (as := []) zi_154_84 ((congrArg (fun o => z_lookup z_prs (o, 192)) zo_154).trans zp_LatinRectanglesModel_192) ((congrArg (fun o => z_clk o 192) zo_154).trans zk_LatinRectanglesModel_192) zh_154 zc_147 rfl rfl rfl
theorem zi_154_87 : z_ins 154 87 = some (.ireturn, 1) := by decide +kernel
theorem ze_154_87 : z_T g d 154 87 ls [.int x] h P = P (.inr (some (.int x)), h) := zt_ireturn zi_154_87 zr_154
theorem zi_154_88 : z_ins 154 88 = some (.aload_n 0, 1) := by decide +kernel
theorem ze_154_88 : z_T g d 154 88 (.ref a :: ls) st h P = z_T g d 154 89 (.ref a :: ls) (.ref a :: st) h P := zt_aloadn zi_154_88 rfl rfl
theorem zi_154_89 : z_ins 154 89 = some (.getfield 79, 3) := by decide +kernel
theorem ze_154_89 : z_T g d 154 89 ls (.ref a :: st) h P = z_gI h.1 a 10 3 (fun x => z_T g d 154 92 ls (.int x :: st) h P) := zt_getI zi_154_89 ((congrArg (fun o => z_fl o 79) zo_154).trans zf_LatinRectanglesModel_79)
theorem zi_154_92 : z_ins 154 92 = some (.ireturn, 1) := by decide +kernel
theorem ze_154_92 : z_T g d 154 92 ls [.int x] h P = P (.inr (some (.int x)), h) := zt_ireturn zi_154_92 zr_154
theorem zi_154_93 : z_ins 154 93 = some (.aload_n 0, 1) := by decide +kernel
theorem ze_154_93 : z_T g d 154 93 (.ref a :: ls) st h P = z_T g d 154 94 (.ref a :: ls) (.ref a :: st) h P := zt_aloadn zi_154_93 rfl rfl
theorem zi_154_94 : z_ins 154 94 = some (.invokevirtual 195, 3) := by decide +kernel
theorem ze_154_94 : z_T g d 154 94 ls (.ref a :: st) h P = ((z_okS 8 st = true ∧ z_gO h.1 a 10 ∧ 0 < d) ∧ z_Ca g (d - 1) 152 [.ref a] h (fun r => z_k r (fun v h' => z_T g d 154 97 ls (z_push v st) h' P) P)) := zt_callV (as := []) zi_154_94 ((congrArg (fun o => z_lookup z_prs (o, 195)) zo_154).trans zp_LatinRectanglesModel_195) ((congrArg (fun o => z_clk o 195) zo_154).trans zk_LatinRectanglesModel_195) zh_154 zc_152 rfl rfl rfl
theorem zi_154_97 : z_ins 154 97 = some (.ireturn, 1) := by decide +kernel
theorem ze_154_97 : z_T g d 154 97 ls [.int x] h P = P (.inr (some (.int x)), h) := zt_ireturn zi_154_97 zr_154
theorem zi_154_98 : z_ins 154 98 = some (.aload_n 0, 1) := by decide +kernel
theorem ze_154_98 : z_T g d 154 98 (.ref a :: ls) st h P = z_T g d 154 99 (.ref a :: ls) (.ref a :: st) h P := zt_aloadn zi_154_98 rfl rfl
theorem zi_154_99 : z_ins 154 99 = some (.invokevirtual 198, 3) := by decide +kernel
theorem ze_154_99 : z_T g d 154 99 ls (.ref a :: st) h P = ((z_okS 8 st = true ∧ z_gO h.1 a 10 ∧ 0 < d) ∧ z_Ca g (d - 1) 153 [.ref a] h (fun r => z_k r (fun v h' => z_T g d 154 102 ls (z_push v st) h' P) P)) := zt_callV (as := []) zi_154_99 ((congrArg (fun o => z_lookup z_prs (o, 198)) zo_154).trans zp_LatinRectanglesModel_198) ((congrArg (fun o => z_clk o 198) zo_154).trans zk_LatinRectanglesModel_198) zh_154 zc_153 rfl rfl rfl
theorem zi_154_102 : z_ins 154 102 = some (.ireturn, 1) := by decide +kernel
theorem ze_154_102 : z_T g d 154 102 ls [.int x] h P = P (.inr (some (.int x)), h) := zt_ireturn zi_154_102 zr_154
-- LatinRectanglesModel.symbol(II)I
theorem zo_155 : z_own 155 = "LatinRectanglesModel" := by decide +kernel
theorem zm_155 : z_maxL 155 = 3 := by decide +kernel
theorem zh_155 : z_hds 155 = [] := by decide +kernel
theorem zr_155 : z_rt 155 = (some .int) := by decide +kernel
theorem zn_155 : z_Ca g d 155 [.ref a0, .int x1, .int x2] h P = z_T g d 155 0 [.ref a0, .int x1, .int x2] [] h P := z_Ca_ent zm_155 rfl rfl
theorem zi_155_0 : z_ins 155 0 = some (.aload_n 0, 1) := by decide +kernel
theorem ze_155_0 : z_T g d 155 0 (.ref a :: ls) st h P = z_T g d 155 1 (.ref a :: ls) (.ref a :: st) h P := zt_aloadn zi_155_0 rfl rfl
theorem zi_155_1 : z_ins 155 1 = some (.iload_n 1, 1) := by decide +kernel
theorem ze_155_1 : z_T g d 155 1 (v0 :: .int x :: ls) st h P = z_T g d 155 2 (v0 :: .int x :: ls) (.int x :: st) h P := zt_iloadn zi_155_1 rfl rfl
theorem zi_155_2 : z_ins 155 2 = some (.iload_n 2, 1) := by decide +kernel
theorem ze_155_2 : z_T g d 155 2 (v0 :: v1 :: .int x :: ls) st h P = z_T g d 155 3 (v0 :: v1 :: .int x :: ls) (.int x :: st) h P := zt_iloadn zi_155_2 rfl rfl
theorem zi_155_3 : z_ins 155 3 = some (.invokevirtual 201, 3) := by decide +kernel
theorem ze_155_3 : z_T g d 155 3 ls (.int x1 :: .int x0 :: .ref a :: st) h P = ((z_okS 8 st = true ∧ z_gO h.1 a 10 ∧ 0 < d) ∧ z_Ca g (d - 1) 144 [.ref a, .int x0, .int x1] h (fun r => z_k r (fun v h' => z_T g d 155 6 ls (z_push v st) h' P) P)) := zt_callV (as := [.int x0, .int x1]) zi_155_3 ((congrArg (fun o => z_lookup z_prs (o, 201)) zo_155).trans zp_LatinRectanglesModel_201) ((congrArg (fun o => z_clk o 201) zo_155).trans zk_LatinRectanglesModel_201) zh_155 zc_144 rfl rfl rfl
theorem zi_155_6 : z_ins 155 6 = some (.ifCond .eq 7, 3) := by decide +kernel
theorem ze_155_6 : z_T g d 155 6 ls (.int x :: st) h P = (if x = nI 0 then z_T g d 155 13 ls st h P else z_T g d 155 9 ls st h P) := zt_ifeq zi_155_6 (by decide)
theorem zi_155_9 : z_ins 155 9 = some (.iconst 0, 1) := by decide +kernel
theorem ze_155_9 : z_T g d 155 9 ls st h P = z_T g d 155 10 ls (.int (nI 0) :: st) h P := zt_iconst zi_155_9 rfl
theorem zi_155_10 : z_ins 155 10 = some (.goto 9, 3) := by decide +kernel
theorem ze_155_10 : z_T g d 155 10 ls st h P = z_T g d 155 19 ls st h P := zt_goto zi_155_10 (by decide)
theorem zi_155_13 : z_ins 155 13 = some (.aload_n 0, 1) := by decide +kernel
theorem ze_155_13 : z_T g d 155 13 (.ref a :: ls) st h P = z_T g d 155 14 (.ref a :: ls) (.ref a :: st) h P := zt_aloadn zi_155_13 rfl rfl
theorem zi_155_14 : z_ins 155 14 = some (.iload_n 1, 1) := by decide +kernel
theorem ze_155_14 : z_T g d 155 14 (v0 :: .int x :: ls) st h P = z_T g d 155 15 (v0 :: .int x :: ls) (.int x :: st) h P := zt_iloadn zi_155_14 rfl rfl
theorem zi_155_15 : z_ins 155 15 = some (.iload_n 2, 1) := by decide +kernel
theorem ze_155_15 : z_T g d 155 15 (v0 :: v1 :: .int x :: ls) st h P = z_T g d 155 16 (v0 :: v1 :: .int x :: ls) (.int x :: st) h P := zt_iloadn zi_155_15 rfl rfl
theorem zi_155_16 : z_ins 155 16 = some (.invokevirtual 180, 3) := by decide +kernel
theorem ze_155_16 : z_T g d 155 16 ls (.int x1 :: .int x0 :: .ref a :: st) h P = ((z_okS 8 st = true ∧ z_gO h.1 a 10 ∧ 0 < d) ∧ z_Ca g (d - 1) 145 [.ref a, .int x0, .int x1] h (fun r => z_k r (fun v h' => z_T g d 155 19 ls (z_push v st) h' P) P)) := zt_callV (as := [.int x0, .int x1]) zi_155_16 ((congrArg (fun o => z_lookup z_prs (o, 180)) zo_155).trans zp_LatinRectanglesModel_180) ((congrArg (fun o => z_clk o 180) zo_155).trans zk_LatinRectanglesModel_180) zh_155 zc_145 rfl rfl rfl
theorem zi_155_19 : z_ins 155 19 = some (.ireturn, 1) := by decide +kernel
theorem ze_155_19 : z_T g d 155 19 ls [.int x] h P = P (.inr (some (.int x)), h) := zt_ireturn zi_155_19 zr_155
-- LatinRectanglesModel.isGiven(II)Z
theorem zo_156 : z_own 156 = "LatinRectanglesModel" := by decide +kernel
theorem zm_156 : z_maxL 156 = 3 := by decide +kernel
theorem zh_156 : z_hds 156 = [] := by decide +kernel
theorem zr_156 : z_rt 156 = (some .boolean) := by decide +kernel
theorem zn_156 : z_Ca g d 156 [.ref a0, .int x1, .int x2] h P = z_T g d 156 0 [.ref a0, .int x1, .int x2] [] h P := z_Ca_ent zm_156 rfl rfl
theorem zi_156_0 : z_ins 156 0 = some (.aload_n 0, 1) := by decide +kernel
theorem ze_156_0 : z_T g d 156 0 (.ref a :: ls) st h P = z_T g d 156 1 (.ref a :: ls) (.ref a :: st) h P := zt_aloadn zi_156_0 rfl rfl
theorem zi_156_1 : z_ins 156 1 = some (.iload_n 1, 1) := by decide +kernel
theorem ze_156_1 : z_T g d 156 1 (v0 :: .int x :: ls) st h P = z_T g d 156 2 (v0 :: .int x :: ls) (.int x :: st) h P := zt_iloadn zi_156_1 rfl rfl
theorem zi_156_2 : z_ins 156 2 = some (.iload_n 2, 1) := by decide +kernel
theorem ze_156_2 : z_T g d 156 2 (v0 :: v1 :: .int x :: ls) st h P = z_T g d 156 3 (v0 :: v1 :: .int x :: ls) (.int x :: st) h P := zt_iloadn zi_156_2 rfl rfl
theorem zi_156_3 : z_ins 156 3 = some (.invokevirtual 201, 3) := by decide +kernel
theorem ze_156_3 : z_T g d 156 3 ls (.int x1 :: .int x0 :: .ref a :: st) h P = ((z_okS 8 st = true ∧ z_gO h.1 a 10 ∧ 0 < d) ∧ z_Ca g (d - 1) 144 [.ref a, .int x0, .int x1] h (fun r => z_k r (fun v h' => z_T g d 156 6 ls (z_push v st) h' P) P)) := zt_callV (as := [.int x0, .int x1]) zi_156_3 ((congrArg (fun o => z_lookup z_prs (o, 201)) zo_156).trans zp_LatinRectanglesModel_201) ((congrArg (fun o => z_clk o 201) zo_156).trans zk_LatinRectanglesModel_201) zh_156 zc_144 rfl rfl rfl
theorem zi_156_6 : z_ins 156 6 = some (.ifCond .ne 21, 3) := by decide +kernel
theorem ze_156_6 : z_T g d 156 6 ls (.int x :: st) h P = (if x = nI 0 then z_T g d 156 9 ls st h P else z_T g d 156 27 ls st h P) := zt_ifne zi_156_6 (by decide)
theorem zi_156_9 : z_ins 156 9 = some (.aload_n 0, 1) := by decide +kernel
theorem ze_156_9 : z_T g d 156 9 (.ref a :: ls) st h P = z_T g d 156 10 (.ref a :: ls) (.ref a :: st) h P := zt_aloadn zi_156_9 rfl rfl
theorem zi_156_10 : z_ins 156 10 = some (.getfield 7, 3) := by decide +kernel
theorem ze_156_10 : z_T g d 156 10 ls (.ref a :: st) h P = z_gR h.1 a 10 7 (fun x => z_T g d 156 13 ls (.ref x :: st) h P) := zt_getR zi_156_10 ((congrArg (fun o => z_fl o 7) zo_156).trans zf_LatinRectanglesModel_7)
theorem zi_156_13 : z_ins 156 13 = some (.iload_n 1, 1) := by decide +kernel
theorem ze_156_13 : z_T g d 156 13 (v0 :: .int x :: ls) st h P = z_T g d 156 14 (v0 :: .int x :: ls) (.int x :: st) h P := zt_iloadn zi_156_13 rfl rfl
theorem zi_156_14 : z_ins 156 14 = some (.iload_n 2, 1) := by decide +kernel
theorem ze_156_14 : z_T g d 156 14 (v0 :: v1 :: .int x :: ls) st h P = z_T g d 156 15 (v0 :: v1 :: .int x :: ls) (.int x :: st) h P := zt_iloadn zi_156_14 rfl rfl
theorem zi_156_15 : z_ins 156 15 = some (.invokestatic 151, 3) := by decide +kernel
theorem ze_156_15 : z_T g d 156 15 ls (.int x1 :: .int x0 :: st) h P = ((z_okS 8 st = true ∧ 0 < d) ∧ z_Ca g (d - 1) 127 [.int x0, .int x1] h (fun r => z_k r (fun v h' => z_T g d 156 18 ls (z_push v st) h' P) P)) := zt_callS0 (as := [.int x0, .int x1]) zi_156_15 ((congrArg (fun o => z_lookup z_prs (o, 151)) zo_156).trans zp_LatinRectanglesModel_151) ((congrArg (fun o => z_clk o 151) zo_156).trans zk_LatinRectanglesModel_151) zh_156 rfl rfl rfl
theorem zi_156_18 : z_ins 156 18 = some (.iaload, 1) := by decide +kernel
theorem ze_156_18 : z_T g d 156 18 ls (.int x :: .ref a :: st) h P = z_aL h.1 a z_tI x (fun v => z_T g d 156 19 ls (.int v :: st) h P) := zt_iaload zi_156_18
theorem zi_156_19 : z_ins 156 19 = some (.iconst (-1), 1) := by decide +kernel
theorem ze_156_19 : z_T g d 156 19 ls st h P = z_T g d 156 20 ls (.int (-1) :: st) h P := zt_iconst zi_156_19 rfl
theorem zi_156_20 : z_ins 156 20 = some (.if_icmp .eq 7, 3) := by decide +kernel
theorem ze_156_20 : z_T g d 156 20 ls (.int y :: .int x :: st) h P = (if x = y then z_T g d 156 27 ls st h P else z_T g d 156 23 ls st h P) := zt_icmpeq zi_156_20 (by decide)
theorem zi_156_23 : z_ins 156 23 = some (.iconst 1, 1) := by decide +kernel
theorem ze_156_23 : z_T g d 156 23 ls st h P = z_T g d 156 24 ls (.int (nI 1) :: st) h P := zt_iconst zi_156_23 rfl
theorem zi_156_24 : z_ins 156 24 = some (.goto 4, 3) := by decide +kernel
theorem ze_156_24 : z_T g d 156 24 ls st h P = z_T g d 156 28 ls st h P := zt_goto zi_156_24 (by decide)
theorem zi_156_27 : z_ins 156 27 = some (.iconst 0, 1) := by decide +kernel
theorem ze_156_27 : z_T g d 156 27 ls st h P = z_T g d 156 28 ls (.int (nI 0) :: st) h P := zt_iconst zi_156_27 rfl
theorem zi_156_28 : z_ins 156 28 = some (.ireturn, 1) := by decide +kernel
theorem ze_156_28 : z_T g d 156 28 ls [.int x] h P = ((x = nI 0 ∨ x = nI 1) ∧ P (.inr (some (.int x)), h)) := zt_zreturn zi_156_28 zr_156
-- LatinRectanglesModel.candidates(II)I
theorem zo_157 : z_own 157 = "LatinRectanglesModel" := by decide +kernel
theorem zm_157 : z_maxL 157 = 3 := by decide +kernel
theorem zh_157 : z_hds 157 = [] := by decide +kernel
theorem zr_157 : z_rt 157 = (some .int) := by decide +kernel
theorem zn_157 : z_Ca g d 157 [.ref a0, .int x1, .int x2] h P = z_T g d 157 0 [.ref a0, .int x1, .int x2] [] h P := z_Ca_ent zm_157 rfl rfl
theorem zi_157_0 : z_ins 157 0 = some (.aload_n 0, 1) := by decide +kernel
theorem ze_157_0 : z_T g d 157 0 (.ref a :: ls) st h P = z_T g d 157 1 (.ref a :: ls) (.ref a :: st) h P := zt_aloadn zi_157_0 rfl rfl
theorem zi_157_1 : z_ins 157 1 = some (.iload_n 1, 1) := by decide +kernel
theorem ze_157_1 : z_T g d 157 1 (v0 :: .int x :: ls) st h P = z_T g d 157 2 (v0 :: .int x :: ls) (.int x :: st) h P := zt_iloadn zi_157_1 rfl rfl
theorem zi_157_2 : z_ins 157 2 = some (.iload_n 2, 1) := by decide +kernel
theorem ze_157_2 : z_T g d 157 2 (v0 :: v1 :: .int x :: ls) st h P = z_T g d 157 3 (v0 :: v1 :: .int x :: ls) (.int x :: st) h P := zt_iloadn zi_157_2 rfl rfl
theorem zi_157_3 : z_ins 157 3 = some (.invokevirtual 201, 3) := by decide +kernel
theorem ze_157_3 : z_T g d 157 3 ls (.int x1 :: .int x0 :: .ref a :: st) h P = ((z_okS 8 st = true ∧ z_gO h.1 a 10 ∧ 0 < d) ∧ z_Ca g (d - 1) 144 [.ref a, .int x0, .int x1] h (fun r => z_k r (fun v h' => z_T g d 157 6 ls (z_push v st) h' P) P)) := zt_callV (as := [.int x0, .int x1]) zi_157_3 ((congrArg (fun o => z_lookup z_prs (o, 201)) zo_157).trans zp_LatinRectanglesModel_201) ((congrArg (fun o => z_clk o 201) zo_157).trans zk_LatinRectanglesModel_201) zh_157 zc_144 rfl rfl rfl
theorem zi_157_6 : z_ins 157 6 = some (.ifCond .eq 7, 3) := by decide +kernel
theorem ze_157_6 : z_T g d 157 6 ls (.int x :: st) h P = (if x = nI 0 then z_T g d 157 13 ls st h P else z_T g d 157 9 ls st h P) := zt_ifeq zi_157_6 (by decide)
theorem zi_157_9 : z_ins 157 9 = some (.iconst 0, 1) := by decide +kernel
theorem ze_157_9 : z_T g d 157 9 ls st h P = z_T g d 157 10 ls (.int (nI 0) :: st) h P := zt_iconst zi_157_9 rfl
theorem zi_157_10 : z_ins 157 10 = some (.goto 9, 3) := by decide +kernel
theorem ze_157_10 : z_T g d 157 10 ls st h P = z_T g d 157 19 ls st h P := zt_goto zi_157_10 (by decide)
theorem zi_157_13 : z_ins 157 13 = some (.aload_n 0, 1) := by decide +kernel
theorem ze_157_13 : z_T g d 157 13 (.ref a :: ls) st h P = z_T g d 157 14 (.ref a :: ls) (.ref a :: st) h P := zt_aloadn zi_157_13 rfl rfl
theorem zi_157_14 : z_ins 157 14 = some (.iload_n 1, 1) := by decide +kernel
theorem ze_157_14 : z_T g d 157 14 (v0 :: .int x :: ls) st h P = z_T g d 157 15 (v0 :: .int x :: ls) (.int x :: st) h P := zt_iloadn zi_157_14 rfl rfl
theorem zi_157_15 : z_ins 157 15 = some (.iload_n 2, 1) := by decide +kernel
theorem ze_157_15 : z_T g d 157 15 (v0 :: v1 :: .int x :: ls) st h P = z_T g d 157 16 (v0 :: v1 :: .int x :: ls) (.int x :: st) h P := zt_iloadn zi_157_15 rfl rfl
theorem zi_157_16 : z_ins 157 16 = some (.invokevirtual 183, 3) := by decide +kernel
theorem ze_157_16 : z_T g d 157 16 ls (.int x1 :: .int x0 :: .ref a :: st) h P = ((z_okS 8 st = true ∧ z_gO h.1 a 10 ∧ 0 < d) ∧ z_Ca g (d - 1) 149 [.ref a, .int x0, .int x1] h (fun r => z_k r (fun v h' => z_T g d 157 19 ls (z_push v st) h' P) P)) := zt_callV (as := [.int x0, .int x1]) zi_157_16 ((congrArg (fun o => z_lookup z_prs (o, 183)) zo_157).trans zp_LatinRectanglesModel_183) ((congrArg (fun o => z_clk o 183) zo_157).trans zk_LatinRectanglesModel_183) zh_157 zc_149 rfl rfl rfl
theorem zi_157_19 : z_ins 157 19 = some (.ireturn, 1) := by decide +kernel
theorem ze_157_19 : z_T g d 157 19 ls [.int x] h P = P (.inr (some (.int x)), h) := zt_ireturn zi_157_19 zr_157
-- LatinRectanglesModel.alone(IIZ)I
theorem zo_158 : z_own 158 = "LatinRectanglesModel" := by decide +kernel
theorem zm_158 : z_maxL 158 = 7 := by decide +kernel
theorem zh_158 : z_hds 158 = [] := by decide +kernel
theorem zr_158 : z_rt 158 = (some .int) := by decide +kernel
theorem zn_158 : z_Ca g d 158 [.ref a0, .int x1, .int x2, .int x3] h P = z_T g d 158 0 [.ref a0, .int x1, .int x2, .int x3, z_un, z_un, z_un] [] h P := z_Ca_ent zm_158 rfl rfl
theorem zi_158_0 : z_ins 158 0 = some (.aload_n 0, 1) := by decide +kernel
theorem ze_158_0 : z_T g d 158 0 (.ref a :: ls) st h P = z_T g d 158 1 (.ref a :: ls) (.ref a :: st) h P := zt_aloadn zi_158_0 rfl rfl
theorem zi_158_1 : z_ins 158 1 = some (.iload_n 1, 1) := by decide +kernel
theorem ze_158_1 : z_T g d 158 1 (v0 :: .int x :: ls) st h P = z_T g d 158 2 (v0 :: .int x :: ls) (.int x :: st) h P := zt_iloadn zi_158_1 rfl rfl
theorem zi_158_2 : z_ins 158 2 = some (.iload_n 2, 1) := by decide +kernel
theorem ze_158_2 : z_T g d 158 2 (v0 :: v1 :: .int x :: ls) st h P = z_T g d 158 3 (v0 :: v1 :: .int x :: ls) (.int x :: st) h P := zt_iloadn zi_158_2 rfl rfl
theorem zi_158_3 : z_ins 158 3 = some (.invokevirtual 183, 3) := by decide +kernel
theorem ze_158_3 : z_T g d 158 3 ls (.int x1 :: .int x0 :: .ref a :: st) h P = ((z_okS 8 st = true ∧ z_gO h.1 a 10 ∧ 0 < d) ∧ z_Ca g (d - 1) 149 [.ref a, .int x0, .int x1] h (fun r => z_k r (fun v h' => z_T g d 158 6 ls (z_push v st) h' P) P)) := zt_callV (as := [.int x0, .int x1]) zi_158_3 ((congrArg (fun o => z_lookup z_prs (o, 183)) zo_158).trans zp_LatinRectanglesModel_183) ((congrArg (fun o => z_clk o 183) zo_158).trans zk_LatinRectanglesModel_183) zh_158 zc_149 rfl rfl rfl
theorem zi_158_6 : z_ins 158 6 = some (.istore 4, 2) := by decide +kernel
theorem ze_158_6 : z_T g d 158 6 (v0 :: v1 :: v2 :: v3 :: v4 :: ls) (.int x :: st) h P = z_T g d 158 8 (v0 :: v1 :: v2 :: v3 :: .int x :: ls) st h P := zt_istore zi_158_6 (Nat.le_add_left 5 _)
theorem zi_158_8 : z_ins 158 8 = some (.iconst 0, 1) := by decide +kernel
theorem ze_158_8 : z_T g d 158 8 ls st h P = z_T g d 158 9 ls (.int (nI 0) :: st) h P := zt_iconst zi_158_8 rfl
theorem zi_158_9 : z_ins 158 9 = some (.istore 5, 2) := by decide +kernel
theorem ze_158_9 : z_T g d 158 9 (v0 :: v1 :: v2 :: v3 :: v4 :: v5 :: ls) (.int x :: st) h P = z_T g d 158 11 (v0 :: v1 :: v2 :: v3 :: v4 :: .int x :: ls) st h P := zt_istore zi_158_9 (Nat.le_add_left 6 _)
theorem zi_158_11 : z_ins 158 11 = some (.iload 5, 2) := by decide +kernel
theorem ze_158_11 : z_T g d 158 11 (v0 :: v1 :: v2 :: v3 :: v4 :: .int x :: ls) st h P = z_T g d 158 13 (v0 :: v1 :: v2 :: v3 :: v4 :: .int x :: ls) (.int x :: st) h P := zt_iload zi_158_11 rfl
theorem zi_158_13 : z_ins 158 13 = some (.iload_n 3, 1) := by decide +kernel
theorem ze_158_13 : z_T g d 158 13 (v0 :: v1 :: v2 :: .int x :: ls) st h P = z_T g d 158 14 (v0 :: v1 :: v2 :: .int x :: ls) (.int x :: st) h P := zt_iloadn zi_158_13 rfl rfl
theorem zi_158_14 : z_ins 158 14 = some (.ifCond .eq 10, 3) := by decide +kernel
theorem ze_158_14 : z_T g d 158 14 ls (.int x :: st) h P = (if x = nI 0 then z_T g d 158 24 ls st h P else z_T g d 158 17 ls st h P) := zt_ifeq zi_158_14 (by decide)
theorem zi_158_17 : z_ins 158 17 = some (.aload_n 0, 1) := by decide +kernel
theorem ze_158_17 : z_T g d 158 17 (.ref a :: ls) st h P = z_T g d 158 18 (.ref a :: ls) (.ref a :: st) h P := zt_aloadn zi_158_17 rfl rfl
theorem zi_158_18 : z_ins 158 18 = some (.getfield 76, 3) := by decide +kernel
theorem ze_158_18 : z_T g d 158 18 ls (.ref a :: st) h P = z_gI h.1 a 10 2 (fun x => z_T g d 158 21 ls (.int x :: st) h P) := zt_getI zi_158_18 ((congrArg (fun o => z_fl o 76) zo_158).trans zf_LatinRectanglesModel_76)
theorem zi_158_21 : z_ins 158 21 = some (.goto 7, 3) := by decide +kernel
theorem ze_158_21 : z_T g d 158 21 ls st h P = z_T g d 158 28 ls st h P := zt_goto zi_158_21 (by decide)
theorem zi_158_24 : z_ins 158 24 = some (.aload_n 0, 1) := by decide +kernel
theorem ze_158_24 : z_T g d 158 24 (.ref a :: ls) st h P = z_T g d 158 25 (.ref a :: ls) (.ref a :: st) h P := zt_aloadn zi_158_24 rfl rfl
theorem zi_158_25 : z_ins 158 25 = some (.getfield 73, 3) := by decide +kernel
theorem ze_158_25 : z_T g d 158 25 ls (.ref a :: st) h P = z_gI h.1 a 10 1 (fun x => z_T g d 158 28 ls (.int x :: st) h P) := zt_getI zi_158_25 ((congrArg (fun o => z_fl o 73) zo_158).trans zf_LatinRectanglesModel_73)
theorem zi_158_28 : z_ins 158 28 = some (.if_icmp .ge 67, 3) := by decide +kernel
theorem ze_158_28 : z_T g d 158 28 ls (.int y :: .int x :: st) h P = (if x < y then z_T g d 158 31 ls st h P else z_T g d 158 95 ls st h P) := zt_icmpge zi_158_28 (by decide)
theorem zi_158_31 : z_ins 158 31 = some (.iload 5, 2) := by decide +kernel
theorem ze_158_31 : z_T g d 158 31 (v0 :: v1 :: v2 :: v3 :: v4 :: .int x :: ls) st h P = z_T g d 158 33 (v0 :: v1 :: v2 :: v3 :: v4 :: .int x :: ls) (.int x :: st) h P := zt_iload zi_158_31 rfl
theorem zi_158_33 : z_ins 158 33 = some (.iload_n 3, 1) := by decide +kernel
theorem ze_158_33 : z_T g d 158 33 (v0 :: v1 :: v2 :: .int x :: ls) st h P = z_T g d 158 34 (v0 :: v1 :: v2 :: .int x :: ls) (.int x :: st) h P := zt_iloadn zi_158_33 rfl rfl
theorem zi_158_34 : z_ins 158 34 = some (.ifCond .eq 7, 3) := by decide +kernel
theorem ze_158_34 : z_T g d 158 34 ls (.int x :: st) h P = (if x = nI 0 then z_T g d 158 41 ls st h P else z_T g d 158 37 ls st h P) := zt_ifeq zi_158_34 (by decide)
theorem zi_158_37 : z_ins 158 37 = some (.iload_n 2, 1) := by decide +kernel
theorem ze_158_37 : z_T g d 158 37 (v0 :: v1 :: .int x :: ls) st h P = z_T g d 158 38 (v0 :: v1 :: .int x :: ls) (.int x :: st) h P := zt_iloadn zi_158_37 rfl rfl
theorem zi_158_38 : z_ins 158 38 = some (.goto 4, 3) := by decide +kernel
theorem ze_158_38 : z_T g d 158 38 ls st h P = z_T g d 158 42 ls st h P := zt_goto zi_158_38 (by decide)
theorem zi_158_41 : z_ins 158 41 = some (.iload_n 1, 1) := by decide +kernel
theorem ze_158_41 : z_T g d 158 41 (v0 :: .int x :: ls) st h P = z_T g d 158 42 (v0 :: .int x :: ls) (.int x :: st) h P := zt_iloadn zi_158_41 rfl rfl
theorem zi_158_42 : z_ins 158 42 = some (.if_icmp .eq 7, 3) := by decide +kernel
theorem ze_158_42 : z_T g d 158 42 ls (.int y :: .int x :: st) h P = (if x = y then z_T g d 158 49 ls st h P else z_T g d 158 45 ls st h P) := zt_icmpeq zi_158_42 (by decide)
theorem zi_158_45 : z_ins 158 45 = some (.iconst 1, 1) := by decide +kernel
theorem ze_158_45 : z_T g d 158 45 ls st h P = z_T g d 158 46 ls (.int (nI 1) :: st) h P := zt_iconst zi_158_45 rfl
theorem zi_158_46 : z_ins 158 46 = some (.goto 4, 3) := by decide +kernel
theorem ze_158_46 : z_T g d 158 46 ls st h P = z_T g d 158 50 ls st h P := zt_goto zi_158_46 (by decide)
theorem zi_158_49 : z_ins 158 49 = some (.iconst 0, 1) := by decide +kernel
theorem ze_158_49 : z_T g d 158 49 ls st h P = z_T g d 158 50 ls (.int (nI 0) :: st) h P := zt_iconst zi_158_49 rfl
theorem zi_158_50 : z_ins 158 50 = some (.istore 6, 2) := by decide +kernel
theorem ze_158_50 : z_T g d 158 50 (v0 :: v1 :: v2 :: v3 :: v4 :: v5 :: v6 :: ls) (.int x :: st) h P = z_T g d 158 52 (v0 :: v1 :: v2 :: v3 :: v4 :: v5 :: .int x :: ls) st h P := zt_istore zi_158_50 (Nat.le_add_left 7 _)
theorem zi_158_52 : z_ins 158 52 = some (.iload 4, 2) := by decide +kernel
theorem ze_158_52 : z_T g d 158 52 (v0 :: v1 :: v2 :: v3 :: .int x :: ls) st h P = z_T g d 158 54 (v0 :: v1 :: v2 :: v3 :: .int x :: ls) (.int x :: st) h P := zt_iload zi_158_52 rfl
theorem zi_158_54 : z_ins 158 54 = some (.iload 6, 2) := by decide +kernel
theorem ze_158_54 : z_T g d 158 54 (v0 :: v1 :: v2 :: v3 :: v4 :: v5 :: .int x :: ls) st h P = z_T g d 158 56 (v0 :: v1 :: v2 :: v3 :: v4 :: v5 :: .int x :: ls) (.int x :: st) h P := zt_iload zi_158_54 rfl
theorem zi_158_56 : z_ins 158 56 = some (.ifCond .eq 29, 3) := by decide +kernel
theorem ze_158_56 : z_T g d 158 56 ls (.int x :: st) h P = (if x = nI 0 then z_T g d 158 85 ls st h P else z_T g d 158 59 ls st h P) := zt_ifeq zi_158_56 (by decide)
theorem zi_158_59 : z_ins 158 59 = some (.iload_n 3, 1) := by decide +kernel
theorem ze_158_59 : z_T g d 158 59 (v0 :: v1 :: v2 :: .int x :: ls) st h P = z_T g d 158 60 (v0 :: v1 :: v2 :: .int x :: ls) (.int x :: st) h P := zt_iloadn zi_158_59 rfl rfl
theorem zi_158_60 : z_ins 158 60 = some (.ifCond .eq 13, 3) := by decide +kernel
theorem ze_158_60 : z_T g d 158 60 ls (.int x :: st) h P = (if x = nI 0 then z_T g d 158 73 ls st h P else z_T g d 158 63 ls st h P) := zt_ifeq zi_158_60 (by decide)
theorem zi_158_63 : z_ins 158 63 = some (.aload_n 0, 1) := by decide +kernel
theorem ze_158_63 : z_T g d 158 63 (.ref a :: ls) st h P = z_T g d 158 64 (.ref a :: ls) (.ref a :: st) h P := zt_aloadn zi_158_63 rfl rfl
theorem zi_158_64 : z_ins 158 64 = some (.iload_n 1, 1) := by decide +kernel
theorem ze_158_64 : z_T g d 158 64 (v0 :: .int x :: ls) st h P = z_T g d 158 65 (v0 :: .int x :: ls) (.int x :: st) h P := zt_iloadn zi_158_64 rfl rfl
theorem zi_158_65 : z_ins 158 65 = some (.iload 5, 2) := by decide +kernel
theorem ze_158_65 : z_T g d 158 65 (v0 :: v1 :: v2 :: v3 :: v4 :: .int x :: ls) st h P = z_T g d 158 67 (v0 :: v1 :: v2 :: v3 :: v4 :: .int x :: ls) (.int x :: st) h P := zt_iload zi_158_65 rfl
theorem zi_158_67 : z_ins 158 67 = some (.invokevirtual 183, 3) := by decide +kernel
theorem ze_158_67 : z_T g d 158 67 ls (.int x1 :: .int x0 :: .ref a :: st) h P = ((z_okS 8 st = true ∧ z_gO h.1 a 10 ∧ 0 < d) ∧ z_Ca g (d - 1) 149 [.ref a, .int x0, .int x1] h (fun r => z_k r (fun v h' => z_T g d 158 70 ls (z_push v st) h' P) P)) := zt_callV (as := [.int x0, .int x1]) zi_158_67 ((congrArg (fun o => z_lookup z_prs (o, 183)) zo_158).trans zp_LatinRectanglesModel_183) ((congrArg (fun o => z_clk o 183) zo_158).trans zk_LatinRectanglesModel_183) zh_158 zc_149 rfl rfl rfl
theorem zi_158_70 : z_ins 158 70 = some (.goto 10, 3) := by decide +kernel
theorem ze_158_70 : z_T g d 158 70 ls st h P = z_T g d 158 80 ls st h P := zt_goto zi_158_70 (by decide)
theorem zi_158_73 : z_ins 158 73 = some (.aload_n 0, 1) := by decide +kernel
theorem ze_158_73 : z_T g d 158 73 (.ref a :: ls) st h P = z_T g d 158 74 (.ref a :: ls) (.ref a :: st) h P := zt_aloadn zi_158_73 rfl rfl
theorem zi_158_74 : z_ins 158 74 = some (.iload 5, 2) := by decide +kernel
theorem ze_158_74 : z_T g d 158 74 (v0 :: v1 :: v2 :: v3 :: v4 :: .int x :: ls) st h P = z_T g d 158 76 (v0 :: v1 :: v2 :: v3 :: v4 :: .int x :: ls) (.int x :: st) h P := zt_iload zi_158_74 rfl
theorem zi_158_76 : z_ins 158 76 = some (.iload_n 2, 1) := by decide +kernel
theorem ze_158_76 : z_T g d 158 76 (v0 :: v1 :: .int x :: ls) st h P = z_T g d 158 77 (v0 :: v1 :: .int x :: ls) (.int x :: st) h P := zt_iloadn zi_158_76 rfl rfl
theorem zi_158_77 : z_ins 158 77 = some (.invokevirtual 183, 3) := by decide +kernel
theorem ze_158_77 : z_T g d 158 77 ls (.int x1 :: .int x0 :: .ref a :: st) h P = ((z_okS 8 st = true ∧ z_gO h.1 a 10 ∧ 0 < d) ∧ z_Ca g (d - 1) 149 [.ref a, .int x0, .int x1] h (fun r => z_k r (fun v h' => z_T g d 158 80 ls (z_push v st) h' P) P)) := zt_callV (as := [.int x0, .int x1]) zi_158_77 ((congrArg (fun o => z_lookup z_prs (o, 183)) zo_158).trans zp_LatinRectanglesModel_183) ((congrArg (fun o => z_clk o 183) zo_158).trans zk_LatinRectanglesModel_183) zh_158 zc_149 rfl rfl rfl
theorem zi_158_80 : z_ins 158 80 = some (.iconst (-1), 1) := by decide +kernel
theorem ze_158_80 : z_T g d 158 80 ls st h P = z_T g d 158 81 ls (.int (-1) :: st) h P := zt_iconst zi_158_80 rfl
theorem zi_158_81 : z_ins 158 81 = some (.ixor, 1) := by decide +kernel
theorem ze_158_81 : z_T g d 158 81 ls (.int y :: .int x :: st) h P = z_T g d 158 82 ls (.int (x ^^^ y) :: st) h P := zt_bin (f := fun x y => x ^^^ y) zi_158_81 rfl (fun _ _ _ => rfl)
theorem zi_158_82 : z_ins 158 82 = some (.goto 4, 3) := by decide +kernel
theorem ze_158_82 : z_T g d 158 82 ls st h P = z_T g d 158 86 ls st h P := zt_goto zi_158_82 (by decide)
theorem zi_158_85 : z_ins 158 85 = some (.iconst (-1), 1) := by decide +kernel
theorem ze_158_85 : z_T g d 158 85 ls st h P = z_T g d 158 86 ls (.int (-1) :: st) h P := zt_iconst zi_158_85 rfl
theorem zi_158_86 : z_ins 158 86 = some (.iand, 1) := by decide +kernel
theorem ze_158_86 : z_T g d 158 86 ls (.int y :: .int x :: st) h P = z_T g d 158 87 ls (.int (x &&& y) :: st) h P := zt_bin (f := fun x y => x &&& y) zi_158_86 rfl (fun _ _ _ => rfl)
theorem zi_158_87 : z_ins 158 87 = some (.istore 4, 2) := by decide +kernel
theorem ze_158_87 : z_T g d 158 87 (v0 :: v1 :: v2 :: v3 :: v4 :: ls) (.int x :: st) h P = z_T g d 158 89 (v0 :: v1 :: v2 :: v3 :: .int x :: ls) st h P := zt_istore zi_158_87 (Nat.le_add_left 5 _)
theorem zi_158_89 : z_ins 158 89 = some (.iinc 5 1, 3) := by decide +kernel
theorem ze_158_89 : z_T g d 158 89 (v0 :: v1 :: v2 :: v3 :: v4 :: .int x :: ls) st h P = z_T g d 158 92 (v0 :: v1 :: v2 :: v3 :: v4 :: .int (x + (nI 1)) :: ls) st h P := zt_iinc zi_158_89 rfl rfl
theorem zi_158_92 : z_ins 158 92 = some (.goto (-81), 3) := by decide +kernel
theorem ze_158_92 : z_T g d 158 92 ls st h P = z_T g d 158 11 ls st h P := zt_goto zi_158_92 (by decide)
theorem zi_158_95 : z_ins 158 95 = some (.iload 4, 2) := by decide +kernel
theorem ze_158_95 : z_T g d 158 95 (v0 :: v1 :: v2 :: v3 :: .int x :: ls) st h P = z_T g d 158 97 (v0 :: v1 :: v2 :: v3 :: .int x :: ls) (.int x :: st) h P := zt_iload zi_158_95 rfl
theorem zi_158_97 : z_ins 158 97 = some (.ireturn, 1) := by decide +kernel
theorem ze_158_97 : z_T g d 158 97 ls [.int x] h P = P (.inr (some (.int x)), h) := zt_ireturn zi_158_97 zr_158
-- LatinRectanglesModel.forcedTo(II)I
theorem zo_159 : z_own 159 = "LatinRectanglesModel" := by decide +kernel
theorem zm_159 : z_maxL 159 = 6 := by decide +kernel
theorem zh_159 : z_hds 159 = [] := by decide +kernel
theorem zr_159 : z_rt 159 = (some .int) := by decide +kernel
theorem zn_159 : z_Ca g d 159 [.ref a0, .int x1, .int x2] h P = z_T g d 159 0 [.ref a0, .int x1, .int x2, z_un, z_un, z_un] [] h P := z_Ca_ent zm_159 rfl rfl
theorem zi_159_0 : z_ins 159 0 = some (.aload_n 0, 1) := by decide +kernel
theorem ze_159_0 : z_T g d 159 0 (.ref a :: ls) st h P = z_T g d 159 1 (.ref a :: ls) (.ref a :: st) h P := zt_aloadn zi_159_0 rfl rfl
theorem zi_159_1 : z_ins 159 1 = some (.iload_n 1, 1) := by decide +kernel
theorem ze_159_1 : z_T g d 159 1 (v0 :: .int x :: ls) st h P = z_T g d 159 2 (v0 :: .int x :: ls) (.int x :: st) h P := zt_iloadn zi_159_1 rfl rfl
theorem zi_159_2 : z_ins 159 2 = some (.iload_n 2, 1) := by decide +kernel
theorem ze_159_2 : z_T g d 159 2 (v0 :: v1 :: .int x :: ls) st h P = z_T g d 159 3 (v0 :: v1 :: .int x :: ls) (.int x :: st) h P := zt_iloadn zi_159_2 rfl rfl
theorem zi_159_3 : z_ins 159 3 = some (.invokevirtual 183, 3) := by decide +kernel
theorem ze_159_3 : z_T g d 159 3 ls (.int x1 :: .int x0 :: .ref a :: st) h P = ((z_okS 8 st = true ∧ z_gO h.1 a 10 ∧ 0 < d) ∧ z_Ca g (d - 1) 149 [.ref a, .int x0, .int x1] h (fun r => z_k r (fun v h' => z_T g d 159 6 ls (z_push v st) h' P) P)) := zt_callV (as := [.int x0, .int x1]) zi_159_3 ((congrArg (fun o => z_lookup z_prs (o, 183)) zo_159).trans zp_LatinRectanglesModel_183) ((congrArg (fun o => z_clk o 183) zo_159).trans zk_LatinRectanglesModel_183) zh_159 zc_149 rfl rfl rfl
theorem zi_159_6 : z_ins 159 6 = some (.istore_n 3, 1) := by decide +kernel
theorem ze_159_6 : z_T g d 159 6 (v0 :: v1 :: v2 :: v3 :: ls) (.int x :: st) h P = z_T g d 159 7 (v0 :: v1 :: v2 :: .int x :: ls) st h P := zt_istoren zi_159_6 rfl (Nat.le_add_left 4 _)
theorem zi_159_7 : z_ins 159 7 = some (.iload_n 3, 1) := by decide +kernel
theorem ze_159_7 : z_T g d 159 7 (v0 :: v1 :: v2 :: .int x :: ls) st h P = z_T g d 159 8 (v0 :: v1 :: v2 :: .int x :: ls) (.int x :: st) h P := zt_iloadn zi_159_7 rfl rfl
theorem zi_159_8 : z_ins 159 8 = some (.invokestatic 204, 3) := by decide +kernel
theorem ze_159_8 : z_T g d 159 8 ls (.int x0 :: st) h P = ((z_okS 8 st = true ∧ 0 < d) ∧ z_Ca g (d - 1) 150 [.int x0] h (fun r => z_k r (fun v h' => z_T g d 159 11 ls (z_push v st) h' P) P)) := zt_callS0 (as := [.int x0]) zi_159_8 ((congrArg (fun o => z_lookup z_prs (o, 204)) zo_159).trans zp_LatinRectanglesModel_204) ((congrArg (fun o => z_clk o 204) zo_159).trans zk_LatinRectanglesModel_204) zh_159 rfl rfl rfl
theorem zi_159_11 : z_ins 159 11 = some (.iconst 1, 1) := by decide +kernel
theorem ze_159_11 : z_T g d 159 11 ls st h P = z_T g d 159 12 ls (.int (nI 1) :: st) h P := zt_iconst zi_159_11 rfl
theorem zi_159_12 : z_ins 159 12 = some (.if_icmp .ne 13, 3) := by decide +kernel
theorem ze_159_12 : z_T g d 159 12 ls (.int y :: .int x :: st) h P = (if x = y then z_T g d 159 15 ls st h P else z_T g d 159 25 ls st h P) := zt_icmpne zi_159_12 (by decide)
theorem zi_159_15 : z_ins 159 15 = some (.bipush 8, 2) := by decide +kernel
theorem ze_159_15 : z_T g d 159 15 ls st h P = z_T g d 159 17 ls (.int (nI 8) :: st) h P := zt_bipush zi_159_15 rfl
theorem zi_159_17 : z_ins 159 17 = some (.iload_n 3, 1) := by decide +kernel
theorem ze_159_17 : z_T g d 159 17 (v0 :: v1 :: v2 :: .int x :: ls) st h P = z_T g d 159 18 (v0 :: v1 :: v2 :: .int x :: ls) (.int x :: st) h P := zt_iloadn zi_159_17 rfl rfl
theorem zi_159_18 : z_ins 159 18 = some (.invokestatic 207, 3) := by decide +kernel
theorem ze_159_18 : z_T g d 159 18 ls (.int x0 :: st) h P = ((z_okS 8 st = true ∧ 0 < d) ∧ z_Ca g (d - 1) 151 [.int x0] h (fun r => z_k r (fun v h' => z_T g d 159 21 ls (z_push v st) h' P) P)) := zt_callS0 (as := [.int x0]) zi_159_18 ((congrArg (fun o => z_lookup z_prs (o, 207)) zo_159).trans zp_LatinRectanglesModel_207) ((congrArg (fun o => z_clk o 207) zo_159).trans zk_LatinRectanglesModel_207) zh_159 rfl rfl rfl
theorem zi_159_21 : z_ins 159 21 = some (.imul, 1) := by decide +kernel
theorem ze_159_21 : z_T g d 159 21 ls (.int y :: .int x :: st) h P = z_T g d 159 22 ls (.int (x * y) :: st) h P := zt_bin (f := fun x y => x * y) zi_159_21 rfl (fun _ _ _ => rfl)
theorem zi_159_22 : z_ins 159 22 = some (.iconst 1, 1) := by decide +kernel
theorem ze_159_22 : z_T g d 159 22 ls st h P = z_T g d 159 23 ls (.int (nI 1) :: st) h P := zt_iconst zi_159_22 rfl
theorem zi_159_23 : z_ins 159 23 = some (.iadd, 1) := by decide +kernel
theorem ze_159_23 : z_T g d 159 23 ls (.int y :: .int x :: st) h P = z_T g d 159 24 ls (.int (x + y) :: st) h P := zt_bin (f := fun x y => x + y) zi_159_23 rfl (fun _ _ _ => rfl)
theorem zi_159_24 : z_ins 159 24 = some (.ireturn, 1) := by decide +kernel
theorem ze_159_24 : z_T g d 159 24 ls [.int x] h P = P (.inr (some (.int x)), h) := zt_ireturn zi_159_24 zr_159
theorem zi_159_25 : z_ins 159 25 = some (.aload_n 0, 1) := by decide +kernel
theorem ze_159_25 : z_T g d 159 25 (.ref a :: ls) st h P = z_T g d 159 26 (.ref a :: ls) (.ref a :: st) h P := zt_aloadn zi_159_25 rfl rfl
theorem zi_159_26 : z_ins 159 26 = some (.iload_n 1, 1) := by decide +kernel
theorem ze_159_26 : z_T g d 159 26 (v0 :: .int x :: ls) st h P = z_T g d 159 27 (v0 :: .int x :: ls) (.int x :: st) h P := zt_iloadn zi_159_26 rfl rfl
theorem zi_159_27 : z_ins 159 27 = some (.iload_n 2, 1) := by decide +kernel
theorem ze_159_27 : z_T g d 159 27 (v0 :: v1 :: .int x :: ls) st h P = z_T g d 159 28 (v0 :: v1 :: .int x :: ls) (.int x :: st) h P := zt_iloadn zi_159_27 rfl rfl
theorem zi_159_28 : z_ins 159 28 = some (.iconst 1, 1) := by decide +kernel
theorem ze_159_28 : z_T g d 159 28 ls st h P = z_T g d 159 29 ls (.int (nI 1) :: st) h P := zt_iconst zi_159_28 rfl
theorem zi_159_29 : z_ins 159 29 = some (.invokevirtual 210, 3) := by decide +kernel
theorem ze_159_29 : z_T g d 159 29 ls (.int x2 :: .int x1 :: .int x0 :: .ref a :: st) h P = ((z_okS 8 st = true ∧ z_gO h.1 a 10 ∧ 0 < d) ∧ z_Ca g (d - 1) 158 [.ref a, .int x0, .int x1, .int x2] h (fun r => z_k r (fun v h' => z_T g d 159 32 ls (z_push v st) h' P) P)) := zt_callV (as := [.int x0, .int x1, .int x2]) zi_159_29 ((congrArg (fun o => z_lookup z_prs (o, 210)) zo_159).trans zp_LatinRectanglesModel_210) ((congrArg (fun o => z_clk o 210) zo_159).trans zk_LatinRectanglesModel_210) zh_159 zc_158 rfl rfl rfl
theorem zi_159_32 : z_ins 159 32 = some (.istore 4, 2) := by decide +kernel
theorem ze_159_32 : z_T g d 159 32 (v0 :: v1 :: v2 :: v3 :: v4 :: ls) (.int x :: st) h P = z_T g d 159 34 (v0 :: v1 :: v2 :: v3 :: .int x :: ls) st h P := zt_istore zi_159_32 (Nat.le_add_left 5 _)
theorem zi_159_34 : z_ins 159 34 = some (.iload 4, 2) := by decide +kernel
theorem ze_159_34 : z_T g d 159 34 (v0 :: v1 :: v2 :: v3 :: .int x :: ls) st h P = z_T g d 159 36 (v0 :: v1 :: v2 :: v3 :: .int x :: ls) (.int x :: st) h P := zt_iload zi_159_34 rfl
theorem zi_159_36 : z_ins 159 36 = some (.ifCond .eq 14, 3) := by decide +kernel
theorem ze_159_36 : z_T g d 159 36 ls (.int x :: st) h P = (if x = nI 0 then z_T g d 159 50 ls st h P else z_T g d 159 39 ls st h P) := zt_ifeq zi_159_36 (by decide)
theorem zi_159_39 : z_ins 159 39 = some (.bipush 8, 2) := by decide +kernel
theorem ze_159_39 : z_T g d 159 39 ls st h P = z_T g d 159 41 ls (.int (nI 8) :: st) h P := zt_bipush zi_159_39 rfl
theorem zi_159_41 : z_ins 159 41 = some (.iload 4, 2) := by decide +kernel
theorem ze_159_41 : z_T g d 159 41 (v0 :: v1 :: v2 :: v3 :: .int x :: ls) st h P = z_T g d 159 43 (v0 :: v1 :: v2 :: v3 :: .int x :: ls) (.int x :: st) h P := zt_iload zi_159_41 rfl
theorem zi_159_43 : z_ins 159 43 = some (.invokestatic 207, 3) := by decide +kernel
theorem ze_159_43 : z_T g d 159 43 ls (.int x0 :: st) h P = ((z_okS 8 st = true ∧ 0 < d) ∧ z_Ca g (d - 1) 151 [.int x0] h (fun r => z_k r (fun v h' => z_T g d 159 46 ls (z_push v st) h' P) P)) := zt_callS0 (as := [.int x0]) zi_159_43 ((congrArg (fun o => z_lookup z_prs (o, 207)) zo_159).trans zp_LatinRectanglesModel_207) ((congrArg (fun o => z_clk o 207) zo_159).trans zk_LatinRectanglesModel_207) zh_159 rfl rfl rfl
theorem zi_159_46 : z_ins 159 46 = some (.imul, 1) := by decide +kernel
theorem ze_159_46 : z_T g d 159 46 ls (.int y :: .int x :: st) h P = z_T g d 159 47 ls (.int (x * y) :: st) h P := zt_bin (f := fun x y => x * y) zi_159_46 rfl (fun _ _ _ => rfl)
theorem zi_159_47 : z_ins 159 47 = some (.iconst 2, 1) := by decide +kernel
theorem ze_159_47 : z_T g d 159 47 ls st h P = z_T g d 159 48 ls (.int (nI 2) :: st) h P := zt_iconst zi_159_47 rfl
theorem zi_159_48 : z_ins 159 48 = some (.iadd, 1) := by decide +kernel
theorem ze_159_48 : z_T g d 159 48 ls (.int y :: .int x :: st) h P = z_T g d 159 49 ls (.int (x + y) :: st) h P := zt_bin (f := fun x y => x + y) zi_159_48 rfl (fun _ _ _ => rfl)
theorem zi_159_49 : z_ins 159 49 = some (.ireturn, 1) := by decide +kernel
theorem ze_159_49 : z_T g d 159 49 ls [.int x] h P = P (.inr (some (.int x)), h) := zt_ireturn zi_159_49 zr_159
theorem zi_159_50 : z_ins 159 50 = some (.aload_n 0, 1) := by decide +kernel
theorem ze_159_50 : z_T g d 159 50 (.ref a :: ls) st h P = z_T g d 159 51 (.ref a :: ls) (.ref a :: st) h P := zt_aloadn zi_159_50 rfl rfl
theorem zi_159_51 : z_ins 159 51 = some (.getfield 73, 3) := by decide +kernel
theorem ze_159_51 : z_T g d 159 51 ls (.ref a :: st) h P = z_gI h.1 a 10 1 (fun x => z_T g d 159 54 ls (.int x :: st) h P) := zt_getI zi_159_51 ((congrArg (fun o => z_fl o 73) zo_159).trans zf_LatinRectanglesModel_73)
theorem zi_159_54 : z_ins 159 54 = some (.aload_n 0, 1) := by decide +kernel
theorem ze_159_54 : z_T g d 159 54 (.ref a :: ls) st h P = z_T g d 159 55 (.ref a :: ls) (.ref a :: st) h P := zt_aloadn zi_159_54 rfl rfl
theorem zi_159_55 : z_ins 159 55 = some (.getfield 76, 3) := by decide +kernel
theorem ze_159_55 : z_T g d 159 55 ls (.ref a :: st) h P = z_gI h.1 a 10 2 (fun x => z_T g d 159 58 ls (.int x :: st) h P) := zt_getI zi_159_55 ((congrArg (fun o => z_fl o 76) zo_159).trans zf_LatinRectanglesModel_76)
theorem zi_159_58 : z_ins 159 58 = some (.if_icmp .ne 13, 3) := by decide +kernel
theorem ze_159_58 : z_T g d 159 58 ls (.int y :: .int x :: st) h P = (if x = y then z_T g d 159 61 ls st h P else z_T g d 159 71 ls st h P) := zt_icmpne zi_159_58 (by decide)
theorem zi_159_61 : z_ins 159 61 = some (.aload_n 0, 1) := by decide +kernel
theorem ze_159_61 : z_T g d 159 61 (.ref a :: ls) st h P = z_T g d 159 62 (.ref a :: ls) (.ref a :: st) h P := zt_aloadn zi_159_61 rfl rfl
theorem zi_159_62 : z_ins 159 62 = some (.iload_n 1, 1) := by decide +kernel
theorem ze_159_62 : z_T g d 159 62 (v0 :: .int x :: ls) st h P = z_T g d 159 63 (v0 :: .int x :: ls) (.int x :: st) h P := zt_iloadn zi_159_62 rfl rfl
theorem zi_159_63 : z_ins 159 63 = some (.iload_n 2, 1) := by decide +kernel
theorem ze_159_63 : z_T g d 159 63 (v0 :: v1 :: .int x :: ls) st h P = z_T g d 159 64 (v0 :: v1 :: .int x :: ls) (.int x :: st) h P := zt_iloadn zi_159_63 rfl rfl
theorem zi_159_64 : z_ins 159 64 = some (.iconst 0, 1) := by decide +kernel
theorem ze_159_64 : z_T g d 159 64 ls st h P = z_T g d 159 65 ls (.int (nI 0) :: st) h P := zt_iconst zi_159_64 rfl
theorem zi_159_65 : z_ins 159 65 = some (.invokevirtual 210, 3) := by decide +kernel
theorem ze_159_65 : z_T g d 159 65 ls (.int x2 :: .int x1 :: .int x0 :: .ref a :: st) h P = ((z_okS 8 st = true ∧ z_gO h.1 a 10 ∧ 0 < d) ∧ z_Ca g (d - 1) 158 [.ref a, .int x0, .int x1, .int x2] h (fun r => z_k r (fun v h' => z_T g d 159 68 ls (z_push v st) h' P) P)) := zt_callV (as := [.int x0, .int x1, .int x2]) zi_159_65 ((congrArg (fun o => z_lookup z_prs (o, 210)) zo_159).trans zp_LatinRectanglesModel_210) ((congrArg (fun o => z_clk o 210) zo_159).trans zk_LatinRectanglesModel_210) zh_159 zc_158 rfl rfl rfl
theorem zi_159_68 : z_ins 159 68 = some (.goto 4, 3) := by decide +kernel
theorem ze_159_68 : z_T g d 159 68 ls st h P = z_T g d 159 72 ls st h P := zt_goto zi_159_68 (by decide)
theorem zi_159_71 : z_ins 159 71 = some (.iconst 0, 1) := by decide +kernel
theorem ze_159_71 : z_T g d 159 71 ls st h P = z_T g d 159 72 ls (.int (nI 0) :: st) h P := zt_iconst zi_159_71 rfl
theorem zi_159_72 : z_ins 159 72 = some (.istore 5, 2) := by decide +kernel
theorem ze_159_72 : z_T g d 159 72 (v0 :: v1 :: v2 :: v3 :: v4 :: v5 :: ls) (.int x :: st) h P = z_T g d 159 74 (v0 :: v1 :: v2 :: v3 :: v4 :: .int x :: ls) st h P := zt_istore zi_159_72 (Nat.le_add_left 6 _)
theorem zi_159_74 : z_ins 159 74 = some (.iload 5, 2) := by decide +kernel
theorem ze_159_74 : z_T g d 159 74 (v0 :: v1 :: v2 :: v3 :: v4 :: .int x :: ls) st h P = z_T g d 159 76 (v0 :: v1 :: v2 :: v3 :: v4 :: .int x :: ls) (.int x :: st) h P := zt_iload zi_159_74 rfl
theorem zi_159_76 : z_ins 159 76 = some (.ifCond .ne 7, 3) := by decide +kernel
theorem ze_159_76 : z_T g d 159 76 ls (.int x :: st) h P = (if x = nI 0 then z_T g d 159 79 ls st h P else z_T g d 159 83 ls st h P) := zt_ifne zi_159_76 (by decide)
theorem zi_159_79 : z_ins 159 79 = some (.iconst 0, 1) := by decide +kernel
theorem ze_159_79 : z_T g d 159 79 ls st h P = z_T g d 159 80 ls (.int (nI 0) :: st) h P := zt_iconst zi_159_79 rfl
theorem zi_159_80 : z_ins 159 80 = some (.goto 13, 3) := by decide +kernel
theorem ze_159_80 : z_T g d 159 80 ls st h P = z_T g d 159 93 ls st h P := zt_goto zi_159_80 (by decide)
theorem zi_159_83 : z_ins 159 83 = some (.bipush 8, 2) := by decide +kernel
theorem ze_159_83 : z_T g d 159 83 ls st h P = z_T g d 159 85 ls (.int (nI 8) :: st) h P := zt_bipush zi_159_83 rfl
theorem zi_159_85 : z_ins 159 85 = some (.iload 5, 2) := by decide +kernel
theorem ze_159_85 : z_T g d 159 85 (v0 :: v1 :: v2 :: v3 :: v4 :: .int x :: ls) st h P = z_T g d 159 87 (v0 :: v1 :: v2 :: v3 :: v4 :: .int x :: ls) (.int x :: st) h P := zt_iload zi_159_85 rfl
theorem zi_159_87 : z_ins 159 87 = some (.invokestatic 207, 3) := by decide +kernel
theorem ze_159_87 : z_T g d 159 87 ls (.int x0 :: st) h P = ((z_okS 8 st = true ∧ 0 < d) ∧ z_Ca g (d - 1) 151 [.int x0] h (fun r => z_k r (fun v h' => z_T g d 159 90 ls (z_push v st) h' P) P)) := zt_callS0 (as := [.int x0]) zi_159_87 ((congrArg (fun o => z_lookup z_prs (o, 207)) zo_159).trans zp_LatinRectanglesModel_207) ((congrArg (fun o => z_clk o 207) zo_159).trans zk_LatinRectanglesModel_207) zh_159 rfl rfl rfl
theorem zi_159_90 : z_ins 159 90 = some (.imul, 1) := by decide +kernel
theorem ze_159_90 : z_T g d 159 90 ls (.int y :: .int x :: st) h P = z_T g d 159 91 ls (.int (x * y) :: st) h P := zt_bin (f := fun x y => x * y) zi_159_90 rfl (fun _ _ _ => rfl)
theorem zi_159_91 : z_ins 159 91 = some (.iconst 3, 1) := by decide +kernel
theorem ze_159_91 : z_T g d 159 91 ls st h P = z_T g d 159 92 ls (.int (nI 3) :: st) h P := zt_iconst zi_159_91 rfl
theorem zi_159_92 : z_ins 159 92 = some (.iadd, 1) := by decide +kernel
theorem ze_159_92 : z_T g d 159 92 ls (.int y :: .int x :: st) h P = z_T g d 159 93 ls (.int (x + y) :: st) h P := zt_bin (f := fun x y => x + y) zi_159_92 rfl (fun _ _ _ => rfl)
theorem zi_159_93 : z_ins 159 93 = some (.ireturn, 1) := by decide +kernel
theorem ze_159_93 : z_T g d 159 93 ls [.int x] h P = P (.inr (some (.int x)), h) := zt_ireturn zi_159_93 zr_159
-- LatinRectanglesModel.forcedAt(I)I
theorem zo_160 : z_own 160 = "LatinRectanglesModel" := by decide +kernel
theorem zm_160 : z_maxL 160 = 5 := by decide +kernel
theorem zh_160 : z_hds 160 = [] := by decide +kernel
theorem zr_160 : z_rt 160 = (some .int) := by decide +kernel
theorem zn_160 : z_Ca g d 160 [.ref a0, .int x1] h P = z_T g d 160 0 [.ref a0, .int x1, z_un, z_un, z_un] [] h P := z_Ca_ent zm_160 rfl rfl
theorem zi_160_0 : z_ins 160 0 = some (.iload_n 1, 1) := by decide +kernel
theorem ze_160_0 : z_T g d 160 0 (v0 :: .int x :: ls) st h P = z_T g d 160 1 (v0 :: .int x :: ls) (.int x :: st) h P := zt_iloadn zi_160_0 rfl rfl
theorem zi_160_1 : z_ins 160 1 = some (.istore_n 2, 1) := by decide +kernel
theorem ze_160_1 : z_T g d 160 1 (v0 :: v1 :: v2 :: ls) (.int x :: st) h P = z_T g d 160 2 (v0 :: v1 :: .int x :: ls) st h P := zt_istoren zi_160_1 rfl (Nat.le_add_left 3 _)
theorem zi_160_2 : z_ins 160 2 = some (.iconst 0, 1) := by decide +kernel
theorem ze_160_2 : z_T g d 160 2 ls st h P = z_T g d 160 3 ls (.int (nI 0) :: st) h P := zt_iconst zi_160_2 rfl
theorem zi_160_3 : z_ins 160 3 = some (.istore_n 3, 1) := by decide +kernel
theorem ze_160_3 : z_T g d 160 3 (v0 :: v1 :: v2 :: v3 :: ls) (.int x :: st) h P = z_T g d 160 4 (v0 :: v1 :: v2 :: .int x :: ls) st h P := zt_istoren zi_160_3 rfl (Nat.le_add_left 4 _)
theorem zi_160_4 : z_ins 160 4 = some (.iload_n 3, 1) := by decide +kernel
theorem ze_160_4 : z_T g d 160 4 (v0 :: v1 :: v2 :: .int x :: ls) st h P = z_T g d 160 5 (v0 :: v1 :: v2 :: .int x :: ls) (.int x :: st) h P := zt_iloadn zi_160_4 rfl rfl
theorem zi_160_5 : z_ins 160 5 = some (.aload_n 0, 1) := by decide +kernel
theorem ze_160_5 : z_T g d 160 5 (.ref a :: ls) st h P = z_T g d 160 6 (.ref a :: ls) (.ref a :: st) h P := zt_aloadn zi_160_5 rfl rfl
theorem zi_160_6 : z_ins 160 6 = some (.getfield 73, 3) := by decide +kernel
theorem ze_160_6 : z_T g d 160 6 ls (.ref a :: st) h P = z_gI h.1 a 10 1 (fun x => z_T g d 160 9 ls (.int x :: st) h P) := zt_getI zi_160_6 ((congrArg (fun o => z_fl o 73) zo_160).trans zf_LatinRectanglesModel_73)
theorem zi_160_9 : z_ins 160 9 = some (.if_icmp .ge 54, 3) := by decide +kernel
theorem ze_160_9 : z_T g d 160 9 ls (.int y :: .int x :: st) h P = (if x < y then z_T g d 160 12 ls st h P else z_T g d 160 63 ls st h P) := zt_icmpge zi_160_9 (by decide)
theorem zi_160_12 : z_ins 160 12 = some (.iconst 0, 1) := by decide +kernel
theorem ze_160_12 : z_T g d 160 12 ls st h P = z_T g d 160 13 ls (.int (nI 0) :: st) h P := zt_iconst zi_160_12 rfl
theorem zi_160_13 : z_ins 160 13 = some (.istore 4, 2) := by decide +kernel
theorem ze_160_13 : z_T g d 160 13 (v0 :: v1 :: v2 :: v3 :: v4 :: ls) (.int x :: st) h P = z_T g d 160 15 (v0 :: v1 :: v2 :: v3 :: .int x :: ls) st h P := zt_istore zi_160_13 (Nat.le_add_left 5 _)
theorem zi_160_15 : z_ins 160 15 = some (.iload 4, 2) := by decide +kernel
theorem ze_160_15 : z_T g d 160 15 (v0 :: v1 :: v2 :: v3 :: .int x :: ls) st h P = z_T g d 160 17 (v0 :: v1 :: v2 :: v3 :: .int x :: ls) (.int x :: st) h P := zt_iload zi_160_15 rfl
theorem zi_160_17 : z_ins 160 17 = some (.aload_n 0, 1) := by decide +kernel
theorem ze_160_17 : z_T g d 160 17 (.ref a :: ls) st h P = z_T g d 160 18 (.ref a :: ls) (.ref a :: st) h P := zt_aloadn zi_160_17 rfl rfl
theorem zi_160_18 : z_ins 160 18 = some (.getfield 76, 3) := by decide +kernel
theorem ze_160_18 : z_T g d 160 18 ls (.ref a :: st) h P = z_gI h.1 a 10 2 (fun x => z_T g d 160 21 ls (.int x :: st) h P) := zt_getI zi_160_18 ((congrArg (fun o => z_fl o 76) zo_160).trans zf_LatinRectanglesModel_76)
theorem zi_160_21 : z_ins 160 21 = some (.if_icmp .ge 36, 3) := by decide +kernel
theorem ze_160_21 : z_T g d 160 21 ls (.int y :: .int x :: st) h P = (if x < y then z_T g d 160 24 ls st h P else z_T g d 160 57 ls st h P) := zt_icmpge zi_160_21 (by decide)
theorem zi_160_24 : z_ins 160 24 = some (.aload_n 0, 1) := by decide +kernel
theorem ze_160_24 : z_T g d 160 24 (.ref a :: ls) st h P = z_T g d 160 25 (.ref a :: ls) (.ref a :: st) h P := zt_aloadn zi_160_24 rfl rfl
theorem zi_160_25 : z_ins 160 25 = some (.iload_n 3, 1) := by decide +kernel
theorem ze_160_25 : z_T g d 160 25 (v0 :: v1 :: v2 :: .int x :: ls) st h P = z_T g d 160 26 (v0 :: v1 :: v2 :: .int x :: ls) (.int x :: st) h P := zt_iloadn zi_160_25 rfl rfl
theorem zi_160_26 : z_ins 160 26 = some (.iload 4, 2) := by decide +kernel
theorem ze_160_26 : z_T g d 160 26 (v0 :: v1 :: v2 :: v3 :: .int x :: ls) st h P = z_T g d 160 28 (v0 :: v1 :: v2 :: v3 :: .int x :: ls) (.int x :: st) h P := zt_iload zi_160_26 rfl
theorem zi_160_28 : z_ins 160 28 = some (.invokevirtual 214, 3) := by decide +kernel
theorem ze_160_28 : z_T g d 160 28 ls (.int x1 :: .int x0 :: .ref a :: st) h P = ((z_okS 8 st = true ∧ z_gO h.1 a 10 ∧ 0 < d) ∧ z_Ca g (d - 1) 159 [.ref a, .int x0, .int x1] h (fun r => z_k r (fun v h' => z_T g d 160 31 ls (z_push v st) h' P) P)) := zt_callV (as := [.int x0, .int x1]) zi_160_28 ((congrArg (fun o => z_lookup z_prs (o, 214)) zo_160).trans zp_LatinRectanglesModel_214) ((congrArg (fun o => z_clk o 214) zo_160).trans zk_LatinRectanglesModel_214) zh_160 zc_159 rfl rfl rfl
theorem zi_160_31 : z_ins 160 31 = some (.ifCond .ne 6, 3) := by decide +kernel
theorem ze_160_31 : z_T g d 160 31 ls (.int x :: st) h P = (if x = nI 0 then z_T g d 160 34 ls st h P else z_T g d 160 37 ls st h P) := zt_ifne zi_160_31 (by decide)
theorem zi_160_34 : z_ins 160 34 = some (.goto 17, 3) := by decide +kernel
theorem ze_160_34 : z_T g d 160 34 ls st h P = z_T g d 160 51 ls st h P := zt_goto zi_160_34 (by decide)
theorem zi_160_37 : z_ins 160 37 = some (.iload_n 2, 1) := by decide +kernel
theorem ze_160_37 : z_T g d 160 37 (v0 :: v1 :: .int x :: ls) st h P = z_T g d 160 38 (v0 :: v1 :: .int x :: ls) (.int x :: st) h P := zt_iloadn zi_160_37 rfl rfl
theorem zi_160_38 : z_ins 160 38 = some (.ifCond .ne 10, 3) := by decide +kernel
theorem ze_160_38 : z_T g d 160 38 ls (.int x :: st) h P = (if x = nI 0 then z_T g d 160 41 ls st h P else z_T g d 160 48 ls st h P) := zt_ifne zi_160_38 (by decide)
theorem zi_160_41 : z_ins 160 41 = some (.iload_n 3, 1) := by decide +kernel
theorem ze_160_41 : z_T g d 160 41 (v0 :: v1 :: v2 :: .int x :: ls) st h P = z_T g d 160 42 (v0 :: v1 :: v2 :: .int x :: ls) (.int x :: st) h P := zt_iloadn zi_160_41 rfl rfl
theorem zi_160_42 : z_ins 160 42 = some (.iload 4, 2) := by decide +kernel
theorem ze_160_42 : z_T g d 160 42 (v0 :: v1 :: v2 :: v3 :: .int x :: ls) st h P = z_T g d 160 44 (v0 :: v1 :: v2 :: v3 :: .int x :: ls) (.int x :: st) h P := zt_iload zi_160_42 rfl
theorem zi_160_44 : z_ins 160 44 = some (.invokestatic 151, 3) := by decide +kernel
theorem ze_160_44 : z_T g d 160 44 ls (.int x1 :: .int x0 :: st) h P = ((z_okS 8 st = true ∧ 0 < d) ∧ z_Ca g (d - 1) 127 [.int x0, .int x1] h (fun r => z_k r (fun v h' => z_T g d 160 47 ls (z_push v st) h' P) P)) := zt_callS0 (as := [.int x0, .int x1]) zi_160_44 ((congrArg (fun o => z_lookup z_prs (o, 151)) zo_160).trans zp_LatinRectanglesModel_151) ((congrArg (fun o => z_clk o 151) zo_160).trans zk_LatinRectanglesModel_151) zh_160 rfl rfl rfl
theorem zi_160_47 : z_ins 160 47 = some (.ireturn, 1) := by decide +kernel
theorem ze_160_47 : z_T g d 160 47 ls [.int x] h P = P (.inr (some (.int x)), h) := zt_ireturn zi_160_47 zr_160
theorem zi_160_48 : z_ins 160 48 = some (.iinc 2 (-1), 3) := by decide +kernel
theorem ze_160_48 : z_T g d 160 48 (v0 :: v1 :: .int x :: ls) st h P = z_T g d 160 51 (v0 :: v1 :: .int (x + (-1)) :: ls) st h P := zt_iinc zi_160_48 rfl rfl
theorem zi_160_51 : z_ins 160 51 = some (.iinc 4 1, 3) := by decide +kernel
theorem ze_160_51 : z_T g d 160 51 (v0 :: v1 :: v2 :: v3 :: .int x :: ls) st h P = z_T g d 160 54 (v0 :: v1 :: v2 :: v3 :: .int (x + (nI 1)) :: ls) st h P := zt_iinc zi_160_51 rfl rfl
theorem zi_160_54 : z_ins 160 54 = some (.goto (-39), 3) := by decide +kernel
theorem ze_160_54 : z_T g d 160 54 ls st h P = z_T g d 160 15 ls st h P := zt_goto zi_160_54 (by decide)
theorem zi_160_57 : z_ins 160 57 = some (.iinc 3 1, 3) := by decide +kernel
theorem ze_160_57 : z_T g d 160 57 (v0 :: v1 :: v2 :: .int x :: ls) st h P = z_T g d 160 60 (v0 :: v1 :: v2 :: .int (x + (nI 1)) :: ls) st h P := zt_iinc zi_160_57 rfl rfl
theorem zi_160_60 : z_ins 160 60 = some (.goto (-56), 3) := by decide +kernel
theorem ze_160_60 : z_T g d 160 60 ls st h P = z_T g d 160 4 ls st h P := zt_goto zi_160_60 (by decide)
theorem zi_160_63 : z_ins 160 63 = some (.iconst (-1), 1) := by decide +kernel
theorem ze_160_63 : z_T g d 160 63 ls st h P = z_T g d 160 64 ls (.int (-1) :: st) h P := zt_iconst zi_160_63 rfl
theorem zi_160_64 : z_ins 160 64 = some (.ireturn, 1) := by decide +kernel
theorem ze_160_64 : z_T g d 160 64 ls [.int x] h P = P (.inr (some (.int x)), h) := zt_ireturn zi_160_64 zr_160
-- LatinRectanglesModel.forcedCells()I
theorem zo_161 : z_own 161 = "LatinRectanglesModel" := by decide +kernel
theorem zm_161 : z_maxL 161 = 2 := by decide +kernel
theorem zh_161 : z_hds 161 = [] := by decide +kernel
theorem zr_161 : z_rt 161 = (some .int) := by decide +kernel
theorem zn_161 : z_Ca g d 161 [.ref a0] h P = z_T g d 161 0 [.ref a0, z_un] [] h P := z_Ca_ent zm_161 rfl rfl
theorem zi_161_0 : z_ins 161 0 = some (.aload_n 0, 1) := by decide +kernel
theorem ze_161_0 : z_T g d 161 0 (.ref a :: ls) st h P = z_T g d 161 1 (.ref a :: ls) (.ref a :: st) h P := zt_aloadn zi_161_0 rfl rfl
theorem zi_161_1 : z_ins 161 1 = some (.iconst 0, 1) := by decide +kernel
theorem ze_161_1 : z_T g d 161 1 ls st h P = z_T g d 161 2 ls (.int (nI 0) :: st) h P := zt_iconst zi_161_1 rfl
theorem zi_161_2 : z_ins 161 2 = some (.putfield 67, 3) := by decide +kernel
theorem ze_161_2 : z_T g d 161 2 ls (.int x :: .ref a :: st) h P = z_pF h.1 a 10 0 (.int x) (fun f => z_T g d 161 5 ls st (f, h.2) P) := zt_putI zi_161_2 ((congrArg (fun o => z_fl o 67) zo_161).trans zf_LatinRectanglesModel_67)
theorem zi_161_5 : z_ins 161 5 = some (.iconst 0, 1) := by decide +kernel
theorem ze_161_5 : z_T g d 161 5 ls st h P = z_T g d 161 6 ls (.int (nI 0) :: st) h P := zt_iconst zi_161_5 rfl
theorem zi_161_6 : z_ins 161 6 = some (.istore_n 1, 1) := by decide +kernel
theorem ze_161_6 : z_T g d 161 6 (v0 :: v1 :: ls) (.int x :: st) h P = z_T g d 161 7 (v0 :: .int x :: ls) st h P := zt_istoren zi_161_6 rfl (Nat.le_add_left 2 _)
theorem zi_161_7 : z_ins 161 7 = some (.aload_n 0, 1) := by decide +kernel
theorem ze_161_7 : z_T g d 161 7 (.ref a :: ls) st h P = z_T g d 161 8 (.ref a :: ls) (.ref a :: st) h P := zt_aloadn zi_161_7 rfl rfl
theorem zi_161_8 : z_ins 161 8 = some (.iload_n 1, 1) := by decide +kernel
theorem ze_161_8 : z_T g d 161 8 (v0 :: .int x :: ls) st h P = z_T g d 161 9 (v0 :: .int x :: ls) (.int x :: st) h P := zt_iloadn zi_161_8 rfl rfl
theorem zi_161_9 : z_ins 161 9 = some (.invokevirtual 217, 3) := by decide +kernel
theorem ze_161_9 : z_T g d 161 9 ls (.int x0 :: .ref a :: st) h P = ((z_okS 8 st = true ∧ z_gO h.1 a 10 ∧ 0 < d) ∧ z_Ca g (d - 1) 160 [.ref a, .int x0] h (fun r => z_k r (fun v h' => z_T g d 161 12 ls (z_push v st) h' P) P)) := zt_callV (as := [.int x0]) zi_161_9 ((congrArg (fun o => z_lookup z_prs (o, 217)) zo_161).trans zp_LatinRectanglesModel_217) ((congrArg (fun o => z_clk o 217) zo_161).trans zk_LatinRectanglesModel_217) zh_161 zc_160 rfl rfl rfl
theorem zi_161_12 : z_ins 161 12 = some (.iconst (-1), 1) := by decide +kernel
theorem ze_161_12 : z_T g d 161 12 ls st h P = z_T g d 161 13 ls (.int (-1) :: st) h P := zt_iconst zi_161_12 rfl
theorem zi_161_13 : z_ins 161 13 = some (.if_icmp .eq 9, 3) := by decide +kernel
theorem ze_161_13 : z_T g d 161 13 ls (.int y :: .int x :: st) h P = (if x = y then z_T g d 161 22 ls st h P else z_T g d 161 16 ls st h P) := zt_icmpeq zi_161_13 (by decide)
theorem zi_161_16 : z_ins 161 16 = some (.iinc 1 1, 3) := by decide +kernel
theorem ze_161_16 : z_T g d 161 16 (v0 :: .int x :: ls) st h P = z_T g d 161 19 (v0 :: .int (x + (nI 1)) :: ls) st h P := zt_iinc zi_161_16 rfl rfl
theorem zi_161_19 : z_ins 161 19 = some (.goto (-12), 3) := by decide +kernel
theorem ze_161_19 : z_T g d 161 19 ls st h P = z_T g d 161 7 ls st h P := zt_goto zi_161_19 (by decide)
theorem zi_161_22 : z_ins 161 22 = some (.iload_n 1, 1) := by decide +kernel
theorem ze_161_22 : z_T g d 161 22 (v0 :: .int x :: ls) st h P = z_T g d 161 23 (v0 :: .int x :: ls) (.int x :: st) h P := zt_iloadn zi_161_22 rfl rfl
theorem zi_161_23 : z_ins 161 23 = some (.ireturn, 1) := by decide +kernel
theorem ze_161_23 : z_T g d 161 23 ls [.int x] h P = P (.inr (some (.int x)), h) := zt_ireturn zi_161_23 zr_161
-- LatinRectanglesModel.forced(II)I
theorem zo_162 : z_own 162 = "LatinRectanglesModel" := by decide +kernel
theorem zm_162 : z_maxL 162 = 5 := by decide +kernel
theorem zh_162 : z_hds 162 = [] := by decide +kernel
theorem zr_162 : z_rt 162 = (some .int) := by decide +kernel
theorem zn_162 : z_Ca g d 162 [.ref a0, .int x1, .int x2] h P = z_T g d 162 0 [.ref a0, .int x1, .int x2, z_un, z_un] [] h P := z_Ca_ent zm_162 rfl rfl
theorem zi_162_0 : z_ins 162 0 = some (.aload_n 0, 1) := by decide +kernel
theorem ze_162_0 : z_T g d 162 0 (.ref a :: ls) st h P = z_T g d 162 1 (.ref a :: ls) (.ref a :: st) h P := zt_aloadn zi_162_0 rfl rfl
theorem zi_162_1 : z_ins 162 1 = some (.iconst 0, 1) := by decide +kernel
theorem ze_162_1 : z_T g d 162 1 ls st h P = z_T g d 162 2 ls (.int (nI 0) :: st) h P := zt_iconst zi_162_1 rfl
theorem zi_162_2 : z_ins 162 2 = some (.putfield 67, 3) := by decide +kernel
theorem ze_162_2 : z_T g d 162 2 ls (.int x :: .ref a :: st) h P = z_pF h.1 a 10 0 (.int x) (fun f => z_T g d 162 5 ls st (f, h.2) P) := zt_putI zi_162_2 ((congrArg (fun o => z_fl o 67) zo_162).trans zf_LatinRectanglesModel_67)
theorem zi_162_5 : z_ins 162 5 = some (.aload_n 0, 1) := by decide +kernel
theorem ze_162_5 : z_T g d 162 5 (.ref a :: ls) st h P = z_T g d 162 6 (.ref a :: ls) (.ref a :: st) h P := zt_aloadn zi_162_5 rfl rfl
theorem zi_162_6 : z_ins 162 6 = some (.iload_n 2, 1) := by decide +kernel
theorem ze_162_6 : z_T g d 162 6 (v0 :: v1 :: .int x :: ls) st h P = z_T g d 162 7 (v0 :: v1 :: .int x :: ls) (.int x :: st) h P := zt_iloadn zi_162_6 rfl rfl
theorem zi_162_7 : z_ins 162 7 = some (.iconst 0, 1) := by decide +kernel
theorem ze_162_7 : z_T g d 162 7 ls st h P = z_T g d 162 8 ls (.int (nI 0) :: st) h P := zt_iconst zi_162_7 rfl
theorem zi_162_8 : z_ins 162 8 = some (.iconst 3, 1) := by decide +kernel
theorem ze_162_8 : z_T g d 162 8 ls st h P = z_T g d 162 9 ls (.int (nI 3) :: st) h P := zt_iconst zi_162_8 rfl
theorem zi_162_9 : z_ins 162 9 = some (.invokestatic 111, 3) := by decide +kernel
theorem ze_162_9 : z_T g d 162 9 ls (.int x2 :: .int x1 :: .int x0 :: st) h P = ((z_okS 8 st = true ∧ 0 < d) ∧ z_Ca g (d - 1) 122 [.int x0, .int x1, .int x2] h (fun r => z_k r (fun v h' => z_T g d 162 12 ls (z_push v st) h' P) P)) := zt_callS0 (as := [.int x0, .int x1, .int x2]) zi_162_9 ((congrArg (fun o => z_lookup z_prs (o, 111)) zo_162).trans zp_LatinRectanglesModel_111) ((congrArg (fun o => z_clk o 111) zo_162).trans zk_LatinRectanglesModel_111) zh_162 rfl rfl rfl
theorem zi_162_12 : z_ins 162 12 = some (.ifCond .ne 7, 3) := by decide +kernel
theorem ze_162_12 : z_T g d 162 12 ls (.int x :: st) h P = (if x = nI 0 then z_T g d 162 15 ls st h P else z_T g d 162 19 ls st h P) := zt_ifne zi_162_12 (by decide)
theorem zi_162_15 : z_ins 162 15 = some (.iconst 1, 1) := by decide +kernel
theorem ze_162_15 : z_T g d 162 15 ls st h P = z_T g d 162 16 ls (.int (nI 1) :: st) h P := zt_iconst zi_162_15 rfl
theorem zi_162_16 : z_ins 162 16 = some (.goto 4, 3) := by decide +kernel
theorem ze_162_16 : z_T g d 162 16 ls st h P = z_T g d 162 20 ls st h P := zt_goto zi_162_16 (by decide)
theorem zi_162_19 : z_ins 162 19 = some (.iconst 0, 1) := by decide +kernel
theorem ze_162_19 : z_T g d 162 19 ls st h P = z_T g d 162 20 ls (.int (nI 0) :: st) h P := zt_iconst zi_162_19 rfl
theorem zi_162_20 : z_ins 162 20 = some (.iconst 1, 1) := by decide +kernel
theorem ze_162_20 : z_T g d 162 20 ls st h P = z_T g d 162 21 ls (.int (nI 1) :: st) h P := zt_iconst zi_162_20 rfl
theorem zi_162_21 : z_ins 162 21 = some (.invokevirtual 167, 3) := by decide +kernel
theorem ze_162_21 : z_T g d 162 21 ls (.int x1 :: .int x0 :: .ref a :: st) h P = ((z_okS 8 st = true ∧ z_gO h.1 a 10 ∧ 0 < d) ∧ z_Ca g (d - 1) 123 [.ref a, .int x0, .int x1] h (fun r => z_k r (fun v h' => z_T g d 162 24 ls (z_push v st) h' P) P)) := zt_callV (as := [.int x0, .int x1]) zi_162_21 ((congrArg (fun o => z_lookup z_prs (o, 167)) zo_162).trans zp_LatinRectanglesModel_167) ((congrArg (fun o => z_clk o 167) zo_162).trans zk_LatinRectanglesModel_167) zh_162 zc_123 rfl rfl rfl
theorem zi_162_24 : z_ins 162 24 = some (.ifCond .eq 5, 3) := by decide +kernel
theorem ze_162_24 : z_T g d 162 24 ls (.int x :: st) h P = (if x = nI 0 then z_T g d 162 29 ls st h P else z_T g d 162 27 ls st h P) := zt_ifeq zi_162_24 (by decide)
theorem zi_162_27 : z_ins 162 27 = some (.iconst 0, 1) := by decide +kernel
theorem ze_162_27 : z_T g d 162 27 ls st h P = z_T g d 162 28 ls (.int (nI 0) :: st) h P := zt_iconst zi_162_27 rfl
theorem zi_162_28 : z_ins 162 28 = some (.ireturn, 1) := by decide +kernel
theorem ze_162_28 : z_T g d 162 28 ls [.int x] h P = P (.inr (some (.int x)), h) := zt_ireturn zi_162_28 zr_162
theorem zi_162_29 : z_ins 162 29 = some (.iload_n 1, 1) := by decide +kernel
theorem ze_162_29 : z_T g d 162 29 (v0 :: .int x :: ls) st h P = z_T g d 162 30 (v0 :: .int x :: ls) (.int x :: st) h P := zt_iloadn zi_162_29 rfl rfl
theorem zi_162_30 : z_ins 162 30 = some (.iconst 0, 1) := by decide +kernel
theorem ze_162_30 : z_T g d 162 30 ls st h P = z_T g d 162 31 ls (.int (nI 0) :: st) h P := zt_iconst zi_162_30 rfl
theorem zi_162_31 : z_ins 162 31 = some (.bipush 25, 2) := by decide +kernel
theorem ze_162_31 : z_T g d 162 31 ls st h P = z_T g d 162 33 ls (.int (nI 25) :: st) h P := zt_bipush zi_162_31 rfl
theorem zi_162_33 : z_ins 162 33 = some (.invokestatic 111, 3) := by decide +kernel
theorem ze_162_33 : z_T g d 162 33 ls (.int x2 :: .int x1 :: .int x0 :: st) h P = ((z_okS 8 st = true ∧ 0 < d) ∧ z_Ca g (d - 1) 122 [.int x0, .int x1, .int x2] h (fun r => z_k r (fun v h' => z_T g d 162 36 ls (z_push v st) h' P) P)) := zt_callS0 (as := [.int x0, .int x1, .int x2]) zi_162_33 ((congrArg (fun o => z_lookup z_prs (o, 111)) zo_162).trans zp_LatinRectanglesModel_111) ((congrArg (fun o => z_clk o 111) zo_162).trans zk_LatinRectanglesModel_111) zh_162 rfl rfl rfl
theorem zi_162_36 : z_ins 162 36 = some (.ifCond .eq 11, 3) := by decide +kernel
theorem ze_162_36 : z_T g d 162 36 ls (.int x :: st) h P = (if x = nI 0 then z_T g d 162 47 ls st h P else z_T g d 162 39 ls st h P) := zt_ifeq zi_162_36 (by decide)
theorem zi_162_39 : z_ins 162 39 = some (.aload_n 0, 1) := by decide +kernel
theorem ze_162_39 : z_T g d 162 39 (.ref a :: ls) st h P = z_T g d 162 40 (.ref a :: ls) (.ref a :: st) h P := zt_aloadn zi_162_39 rfl rfl
theorem zi_162_40 : z_ins 162 40 = some (.iload_n 1, 1) := by decide +kernel
theorem ze_162_40 : z_T g d 162 40 (v0 :: .int x :: ls) st h P = z_T g d 162 41 (v0 :: .int x :: ls) (.int x :: st) h P := zt_iloadn zi_162_40 rfl rfl
theorem zi_162_41 : z_ins 162 41 = some (.invokevirtual 217, 3) := by decide +kernel
theorem ze_162_41 : z_T g d 162 41 ls (.int x0 :: .ref a :: st) h P = ((z_okS 8 st = true ∧ z_gO h.1 a 10 ∧ 0 < d) ∧ z_Ca g (d - 1) 160 [.ref a, .int x0] h (fun r => z_k r (fun v h' => z_T g d 162 44 ls (z_push v st) h' P) P)) := zt_callV (as := [.int x0]) zi_162_41 ((congrArg (fun o => z_lookup z_prs (o, 217)) zo_162).trans zp_LatinRectanglesModel_217) ((congrArg (fun o => z_clk o 217) zo_162).trans zk_LatinRectanglesModel_217) zh_162 zc_160 rfl rfl rfl
theorem zi_162_44 : z_ins 162 44 = some (.goto 4, 3) := by decide +kernel
theorem ze_162_44 : z_T g d 162 44 ls st h P = z_T g d 162 48 ls st h P := zt_goto zi_162_44 (by decide)
theorem zi_162_47 : z_ins 162 47 = some (.iconst (-1), 1) := by decide +kernel
theorem ze_162_47 : z_T g d 162 47 ls st h P = z_T g d 162 48 ls (.int (-1) :: st) h P := zt_iconst zi_162_47 rfl
theorem zi_162_48 : z_ins 162 48 = some (.istore_n 3, 1) := by decide +kernel
theorem ze_162_48 : z_T g d 162 48 (v0 :: v1 :: v2 :: v3 :: ls) (.int x :: st) h P = z_T g d 162 49 (v0 :: v1 :: v2 :: .int x :: ls) st h P := zt_istoren zi_162_48 rfl (Nat.le_add_left 4 _)
theorem zi_162_49 : z_ins 162 49 = some (.iload_n 3, 1) := by decide +kernel
theorem ze_162_49 : z_T g d 162 49 (v0 :: v1 :: v2 :: .int x :: ls) st h P = z_T g d 162 50 (v0 :: v1 :: v2 :: .int x :: ls) (.int x :: st) h P := zt_iloadn zi_162_49 rfl rfl
theorem zi_162_50 : z_ins 162 50 = some (.iconst (-1), 1) := by decide +kernel
theorem ze_162_50 : z_T g d 162 50 ls st h P = z_T g d 162 51 ls (.int (-1) :: st) h P := zt_iconst zi_162_50 rfl
theorem zi_162_51 : z_ins 162 51 = some (.if_icmp .eq 8, 3) := by decide +kernel
theorem ze_162_51 : z_T g d 162 51 ls (.int y :: .int x :: st) h P = (if x = y then z_T g d 162 59 ls st h P else z_T g d 162 54 ls st h P) := zt_icmpeq zi_162_51 (by decide)
theorem zi_162_54 : z_ins 162 54 = some (.iload_n 2, 1) := by decide +kernel
theorem ze_162_54 : z_T g d 162 54 (v0 :: v1 :: .int x :: ls) st h P = z_T g d 162 55 (v0 :: v1 :: .int x :: ls) (.int x :: st) h P := zt_iloadn zi_162_54 rfl rfl
theorem zi_162_55 : z_ins 162 55 = some (.iconst 2, 1) := by decide +kernel
theorem ze_162_55 : z_T g d 162 55 ls st h P = z_T g d 162 56 ls (.int (nI 2) :: st) h P := zt_iconst zi_162_55 rfl
theorem zi_162_56 : z_ins 162 56 = some (.if_icmp .ge 26, 3) := by decide +kernel
theorem ze_162_56 : z_T g d 162 56 ls (.int y :: .int x :: st) h P = (if x < y then z_T g d 162 59 ls st h P else z_T g d 162 82 ls st h P) := zt_icmpge zi_162_56 (by decide)
theorem zi_162_59 : z_ins 162 59 = some (.iload_n 3, 1) := by decide +kernel
theorem ze_162_59 : z_T g d 162 59 (v0 :: v1 :: v2 :: .int x :: ls) st h P = z_T g d 162 60 (v0 :: v1 :: v2 :: .int x :: ls) (.int x :: st) h P := zt_iloadn zi_162_59 rfl rfl
theorem zi_162_60 : z_ins 162 60 = some (.iconst (-1), 1) := by decide +kernel
theorem ze_162_60 : z_T g d 162 60 ls st h P = z_T g d 162 61 ls (.int (-1) :: st) h P := zt_iconst zi_162_60 rfl
theorem zi_162_61 : z_ins 162 61 = some (.if_icmp .ne 7, 3) := by decide +kernel
theorem ze_162_61 : z_T g d 162 61 ls (.int y :: .int x :: st) h P = (if x = y then z_T g d 162 64 ls st h P else z_T g d 162 68 ls st h P) := zt_icmpne zi_162_61 (by decide)
theorem zi_162_64 : z_ins 162 64 = some (.iconst (-1), 1) := by decide +kernel
theorem ze_162_64 : z_T g d 162 64 ls st h P = z_T g d 162 65 ls (.int (-1) :: st) h P := zt_iconst zi_162_64 rfl
theorem zi_162_65 : z_ins 162 65 = some (.goto 16, 3) := by decide +kernel
theorem ze_162_65 : z_T g d 162 65 ls st h P = z_T g d 162 81 ls st h P := zt_goto zi_162_65 (by decide)
theorem zi_162_68 : z_ins 162 68 = some (.iload_n 2, 1) := by decide +kernel
theorem ze_162_68 : z_T g d 162 68 (v0 :: v1 :: .int x :: ls) st h P = z_T g d 162 69 (v0 :: v1 :: .int x :: ls) (.int x :: st) h P := zt_iloadn zi_162_68 rfl rfl
theorem zi_162_69 : z_ins 162 69 = some (.ifCond .ne 9, 3) := by decide +kernel
theorem ze_162_69 : z_T g d 162 69 ls (.int x :: st) h P = (if x = nI 0 then z_T g d 162 72 ls st h P else z_T g d 162 78 ls st h P) := zt_ifne zi_162_69 (by decide)
theorem zi_162_72 : z_ins 162 72 = some (.iload_n 3, 1) := by decide +kernel
theorem ze_162_72 : z_T g d 162 72 (v0 :: v1 :: v2 :: .int x :: ls) st h P = z_T g d 162 73 (v0 :: v1 :: v2 :: .int x :: ls) (.int x :: st) h P := zt_iloadn zi_162_72 rfl rfl
theorem zi_162_73 : z_ins 162 73 = some (.iconst 5, 1) := by decide +kernel
theorem ze_162_73 : z_T g d 162 73 ls st h P = z_T g d 162 74 ls (.int (nI 5) :: st) h P := zt_iconst zi_162_73 rfl
theorem zi_162_74 : z_ins 162 74 = some (.idiv, 1) := by decide +kernel
theorem ze_162_74 : z_T g d 162 74 ls (.int y :: .int x :: st) h P = (¬ y = nI 0 ∧ z_T g d 162 75 ls (.int (x / y) :: st) h P) := zt_idiv zi_162_74
theorem zi_162_75 : z_ins 162 75 = some (.goto 6, 3) := by decide +kernel
theorem ze_162_75 : z_T g d 162 75 ls st h P = z_T g d 162 81 ls st h P := zt_goto zi_162_75 (by decide)
theorem zi_162_78 : z_ins 162 78 = some (.iload_n 3, 1) := by decide +kernel
theorem ze_162_78 : z_T g d 162 78 (v0 :: v1 :: v2 :: .int x :: ls) st h P = z_T g d 162 79 (v0 :: v1 :: v2 :: .int x :: ls) (.int x :: st) h P := zt_iloadn zi_162_78 rfl rfl
theorem zi_162_79 : z_ins 162 79 = some (.iconst 5, 1) := by decide +kernel
theorem ze_162_79 : z_T g d 162 79 ls st h P = z_T g d 162 80 ls (.int (nI 5) :: st) h P := zt_iconst zi_162_79 rfl
theorem zi_162_80 : z_ins 162 80 = some (.irem, 1) := by decide +kernel
theorem ze_162_80 : z_T g d 162 80 ls (.int y :: .int x :: st) h P = (¬ y = nI 0 ∧ z_T g d 162 81 ls (.int (x - x / y * y) :: st) h P) := zt_irem zi_162_80
theorem zi_162_81 : z_ins 162 81 = some (.ireturn, 1) := by decide +kernel
theorem ze_162_81 : z_T g d 162 81 ls [.int x] h P = P (.inr (some (.int x)), h) := zt_ireturn zi_162_81 zr_162
theorem zi_162_82 : z_ins 162 82 = some (.aload_n 0, 1) := by decide +kernel
theorem ze_162_82 : z_T g d 162 82 (.ref a :: ls) st h P = z_T g d 162 83 (.ref a :: ls) (.ref a :: st) h P := zt_aloadn zi_162_82 rfl rfl
theorem zi_162_83 : z_ins 162 83 = some (.iload_n 3, 1) := by decide +kernel
theorem ze_162_83 : z_T g d 162 83 (v0 :: v1 :: v2 :: .int x :: ls) st h P = z_T g d 162 84 (v0 :: v1 :: v2 :: .int x :: ls) (.int x :: st) h P := zt_iloadn zi_162_83 rfl rfl
theorem zi_162_84 : z_ins 162 84 = some (.iconst 5, 1) := by decide +kernel
theorem ze_162_84 : z_T g d 162 84 ls st h P = z_T g d 162 85 ls (.int (nI 5) :: st) h P := zt_iconst zi_162_84 rfl
theorem zi_162_85 : z_ins 162 85 = some (.idiv, 1) := by decide +kernel
theorem ze_162_85 : z_T g d 162 85 ls (.int y :: .int x :: st) h P = (¬ y = nI 0 ∧ z_T g d 162 86 ls (.int (x / y) :: st) h P) := zt_idiv zi_162_85
theorem zi_162_86 : z_ins 162 86 = some (.iload_n 3, 1) := by decide +kernel
theorem ze_162_86 : z_T g d 162 86 (v0 :: v1 :: v2 :: .int x :: ls) st h P = z_T g d 162 87 (v0 :: v1 :: v2 :: .int x :: ls) (.int x :: st) h P := zt_iloadn zi_162_86 rfl rfl
theorem zi_162_87 : z_ins 162 87 = some (.iconst 5, 1) := by decide +kernel
theorem ze_162_87 : z_T g d 162 87 ls st h P = z_T g d 162 88 ls (.int (nI 5) :: st) h P := zt_iconst zi_162_87 rfl
theorem zi_162_88 : z_ins 162 88 = some (.irem, 1) := by decide +kernel
theorem ze_162_88 : z_T g d 162 88 ls (.int y :: .int x :: st) h P = (¬ y = nI 0 ∧ z_T g d 162 89 ls (.int (x - x / y * y) :: st) h P) := zt_irem zi_162_88
theorem zi_162_89 : z_ins 162 89 = some (.invokevirtual 214, 3) := by decide +kernel
theorem ze_162_89 : z_T g d 162 89 ls (.int x1 :: .int x0 :: .ref a :: st) h P = ((z_okS 8 st = true ∧ z_gO h.1 a 10 ∧ 0 < d) ∧ z_Ca g (d - 1) 159 [.ref a, .int x0, .int x1] h (fun r => z_k r (fun v h' => z_T g d 162 92 ls (z_push v st) h' P) P)) := zt_callV (as := [.int x0, .int x1]) zi_162_89 ((congrArg (fun o => z_lookup z_prs (o, 214)) zo_162).trans zp_LatinRectanglesModel_214) ((congrArg (fun o => z_clk o 214) zo_162).trans zk_LatinRectanglesModel_214) zh_162 zc_159 rfl rfl rfl
theorem zi_162_92 : z_ins 162 92 = some (.istore 4, 2) := by decide +kernel
theorem ze_162_92 : z_T g d 162 92 (v0 :: v1 :: v2 :: v3 :: v4 :: ls) (.int x :: st) h P = z_T g d 162 94 (v0 :: v1 :: v2 :: v3 :: .int x :: ls) st h P := zt_istore zi_162_92 (Nat.le_add_left 5 _)
theorem zi_162_94 : z_ins 162 94 = some (.iload_n 2, 1) := by decide +kernel
theorem ze_162_94 : z_T g d 162 94 (v0 :: v1 :: .int x :: ls) st h P = z_T g d 162 95 (v0 :: v1 :: .int x :: ls) (.int x :: st) h P := zt_iloadn zi_162_94 rfl rfl
theorem zi_162_95 : z_ins 162 95 = some (.iconst 2, 1) := by decide +kernel
theorem ze_162_95 : z_T g d 162 95 ls st h P = z_T g d 162 96 ls (.int (nI 2) :: st) h P := zt_iconst zi_162_95 rfl
theorem zi_162_96 : z_ins 162 96 = some (.if_icmp .ne 11, 3) := by decide +kernel
theorem ze_162_96 : z_T g d 162 96 ls (.int y :: .int x :: st) h P = (if x = y then z_T g d 162 99 ls st h P else z_T g d 162 107 ls st h P) := zt_icmpne zi_162_96 (by decide)
theorem zi_162_99 : z_ins 162 99 = some (.iload 4, 2) := by decide +kernel
theorem ze_162_99 : z_T g d 162 99 (v0 :: v1 :: v2 :: v3 :: .int x :: ls) st h P = z_T g d 162 101 (v0 :: v1 :: v2 :: v3 :: .int x :: ls) (.int x :: st) h P := zt_iload zi_162_99 rfl
theorem zi_162_101 : z_ins 162 101 = some (.bipush 8, 2) := by decide +kernel
theorem ze_162_101 : z_T g d 162 101 ls st h P = z_T g d 162 103 ls (.int (nI 8) :: st) h P := zt_bipush zi_162_101 rfl
theorem zi_162_103 : z_ins 162 103 = some (.idiv, 1) := by decide +kernel
theorem ze_162_103 : z_T g d 162 103 ls (.int y :: .int x :: st) h P = (¬ y = nI 0 ∧ z_T g d 162 104 ls (.int (x / y) :: st) h P) := zt_idiv zi_162_103
theorem zi_162_104 : z_ins 162 104 = some (.goto 8, 3) := by decide +kernel
theorem ze_162_104 : z_T g d 162 104 ls st h P = z_T g d 162 112 ls st h P := zt_goto zi_162_104 (by decide)
theorem zi_162_107 : z_ins 162 107 = some (.iload 4, 2) := by decide +kernel
theorem ze_162_107 : z_T g d 162 107 (v0 :: v1 :: v2 :: v3 :: .int x :: ls) st h P = z_T g d 162 109 (v0 :: v1 :: v2 :: v3 :: .int x :: ls) (.int x :: st) h P := zt_iload zi_162_107 rfl
theorem zi_162_109 : z_ins 162 109 = some (.bipush 8, 2) := by decide +kernel
theorem ze_162_109 : z_T g d 162 109 ls st h P = z_T g d 162 111 ls (.int (nI 8) :: st) h P := zt_bipush zi_162_109 rfl
theorem zi_162_111 : z_ins 162 111 = some (.irem, 1) := by decide +kernel
theorem ze_162_111 : z_T g d 162 111 ls (.int y :: .int x :: st) h P = (¬ y = nI 0 ∧ z_T g d 162 112 ls (.int (x - x / y * y) :: st) h P) := zt_irem zi_162_111
theorem zi_162_112 : z_ins 162 112 = some (.ireturn, 1) := by decide +kernel
theorem ze_162_112 : z_T g d 162 112 ls [.int x] h P = P (.inr (some (.int x)), h) := zt_ireturn zi_162_112 zr_162
-- LatinRectanglesModel.emptyCell(II)I
theorem zo_163 : z_own 163 = "LatinRectanglesModel" := by decide +kernel
theorem zm_163 : z_maxL 163 = 8 := by decide +kernel
theorem zh_163 : z_hds 163 = [] := by decide +kernel
theorem zr_163 : z_rt 163 = (some .int) := by decide +kernel
theorem zn_163 : z_Ca g d 163 [.ref a0, .int x1, .int x2] h P = z_T g d 163 0 [.ref a0, .int x1, .int x2, z_un, z_un, z_un, z_un, z_un] [] h P := z_Ca_ent zm_163 rfl rfl
theorem zi_163_0 : z_ins 163 0 = some (.aload_n 0, 1) := by decide +kernel
theorem ze_163_0 : z_T g d 163 0 (.ref a :: ls) st h P = z_T g d 163 1 (.ref a :: ls) (.ref a :: st) h P := zt_aloadn zi_163_0 rfl rfl
theorem zi_163_1 : z_ins 163 1 = some (.iconst 0, 1) := by decide +kernel
theorem ze_163_1 : z_T g d 163 1 ls st h P = z_T g d 163 2 ls (.int (nI 0) :: st) h P := zt_iconst zi_163_1 rfl
theorem zi_163_2 : z_ins 163 2 = some (.putfield 67, 3) := by decide +kernel
theorem ze_163_2 : z_T g d 163 2 ls (.int x :: .ref a :: st) h P = z_pF h.1 a 10 0 (.int x) (fun f => z_T g d 163 5 ls st (f, h.2) P) := zt_putI zi_163_2 ((congrArg (fun o => z_fl o 67) zo_163).trans zf_LatinRectanglesModel_67)
theorem zi_163_5 : z_ins 163 5 = some (.aload_n 0, 1) := by decide +kernel
theorem ze_163_5 : z_T g d 163 5 (.ref a :: ls) st h P = z_T g d 163 6 (.ref a :: ls) (.ref a :: st) h P := zt_aloadn zi_163_5 rfl rfl
theorem zi_163_6 : z_ins 163 6 = some (.iload_n 2, 1) := by decide +kernel
theorem ze_163_6 : z_T g d 163 6 (v0 :: v1 :: .int x :: ls) st h P = z_T g d 163 7 (v0 :: v1 :: .int x :: ls) (.int x :: st) h P := zt_iloadn zi_163_6 rfl rfl
theorem zi_163_7 : z_ins 163 7 = some (.iconst 0, 1) := by decide +kernel
theorem ze_163_7 : z_T g d 163 7 ls st h P = z_T g d 163 8 ls (.int (nI 0) :: st) h P := zt_iconst zi_163_7 rfl
theorem zi_163_8 : z_ins 163 8 = some (.iconst 2, 1) := by decide +kernel
theorem ze_163_8 : z_T g d 163 8 ls st h P = z_T g d 163 9 ls (.int (nI 2) :: st) h P := zt_iconst zi_163_8 rfl
theorem zi_163_9 : z_ins 163 9 = some (.invokestatic 111, 3) := by decide +kernel
theorem ze_163_9 : z_T g d 163 9 ls (.int x2 :: .int x1 :: .int x0 :: st) h P = ((z_okS 8 st = true ∧ 0 < d) ∧ z_Ca g (d - 1) 122 [.int x0, .int x1, .int x2] h (fun r => z_k r (fun v h' => z_T g d 163 12 ls (z_push v st) h' P) P)) := zt_callS0 (as := [.int x0, .int x1, .int x2]) zi_163_9 ((congrArg (fun o => z_lookup z_prs (o, 111)) zo_163).trans zp_LatinRectanglesModel_111) ((congrArg (fun o => z_clk o 111) zo_163).trans zk_LatinRectanglesModel_111) zh_163 rfl rfl rfl
theorem zi_163_12 : z_ins 163 12 = some (.ifCond .ne 7, 3) := by decide +kernel
theorem ze_163_12 : z_T g d 163 12 ls (.int x :: st) h P = (if x = nI 0 then z_T g d 163 15 ls st h P else z_T g d 163 19 ls st h P) := zt_ifne zi_163_12 (by decide)
theorem zi_163_15 : z_ins 163 15 = some (.iconst 1, 1) := by decide +kernel
theorem ze_163_15 : z_T g d 163 15 ls st h P = z_T g d 163 16 ls (.int (nI 1) :: st) h P := zt_iconst zi_163_15 rfl
theorem zi_163_16 : z_ins 163 16 = some (.goto 4, 3) := by decide +kernel
theorem ze_163_16 : z_T g d 163 16 ls st h P = z_T g d 163 20 ls st h P := zt_goto zi_163_16 (by decide)
theorem zi_163_19 : z_ins 163 19 = some (.iconst 0, 1) := by decide +kernel
theorem ze_163_19 : z_T g d 163 19 ls st h P = z_T g d 163 20 ls (.int (nI 0) :: st) h P := zt_iconst zi_163_19 rfl
theorem zi_163_20 : z_ins 163 20 = some (.iconst 1, 1) := by decide +kernel
theorem ze_163_20 : z_T g d 163 20 ls st h P = z_T g d 163 21 ls (.int (nI 1) :: st) h P := zt_iconst zi_163_20 rfl
theorem zi_163_21 : z_ins 163 21 = some (.invokevirtual 167, 3) := by decide +kernel
theorem ze_163_21 : z_T g d 163 21 ls (.int x1 :: .int x0 :: .ref a :: st) h P = ((z_okS 8 st = true ∧ z_gO h.1 a 10 ∧ 0 < d) ∧ z_Ca g (d - 1) 123 [.ref a, .int x0, .int x1] h (fun r => z_k r (fun v h' => z_T g d 163 24 ls (z_push v st) h' P) P)) := zt_callV (as := [.int x0, .int x1]) zi_163_21 ((congrArg (fun o => z_lookup z_prs (o, 167)) zo_163).trans zp_LatinRectanglesModel_167) ((congrArg (fun o => z_clk o 167) zo_163).trans zk_LatinRectanglesModel_167) zh_163 zc_123 rfl rfl rfl
theorem zi_163_24 : z_ins 163 24 = some (.ifCond .eq 5, 3) := by decide +kernel
theorem ze_163_24 : z_T g d 163 24 ls (.int x :: st) h P = (if x = nI 0 then z_T g d 163 29 ls st h P else z_T g d 163 27 ls st h P) := zt_ifeq zi_163_24 (by decide)
theorem zi_163_27 : z_ins 163 27 = some (.iconst 0, 1) := by decide +kernel
theorem ze_163_27 : z_T g d 163 27 ls st h P = z_T g d 163 28 ls (.int (nI 0) :: st) h P := zt_iconst zi_163_27 rfl
theorem zi_163_28 : z_ins 163 28 = some (.ireturn, 1) := by decide +kernel
theorem ze_163_28 : z_T g d 163 28 ls [.int x] h P = P (.inr (some (.int x)), h) := zt_ireturn zi_163_28 zr_163
theorem zi_163_29 : z_ins 163 29 = some (.iload_n 1, 1) := by decide +kernel
theorem ze_163_29 : z_T g d 163 29 (v0 :: .int x :: ls) st h P = z_T g d 163 30 (v0 :: .int x :: ls) (.int x :: st) h P := zt_iloadn zi_163_29 rfl rfl
theorem zi_163_30 : z_ins 163 30 = some (.istore_n 3, 1) := by decide +kernel
theorem ze_163_30 : z_T g d 163 30 (v0 :: v1 :: v2 :: v3 :: ls) (.int x :: st) h P = z_T g d 163 31 (v0 :: v1 :: v2 :: .int x :: ls) st h P := zt_istoren zi_163_30 rfl (Nat.le_add_left 4 _)
theorem zi_163_31 : z_ins 163 31 = some (.iconst 0, 1) := by decide +kernel
theorem ze_163_31 : z_T g d 163 31 ls st h P = z_T g d 163 32 ls (.int (nI 0) :: st) h P := zt_iconst zi_163_31 rfl
theorem zi_163_32 : z_ins 163 32 = some (.istore 4, 2) := by decide +kernel
theorem ze_163_32 : z_T g d 163 32 (v0 :: v1 :: v2 :: v3 :: v4 :: ls) (.int x :: st) h P = z_T g d 163 34 (v0 :: v1 :: v2 :: v3 :: .int x :: ls) st h P := zt_istore zi_163_32 (Nat.le_add_left 5 _)
theorem zi_163_34 : z_ins 163 34 = some (.iload 4, 2) := by decide +kernel
theorem ze_163_34 : z_T g d 163 34 (v0 :: v1 :: v2 :: v3 :: .int x :: ls) st h P = z_T g d 163 36 (v0 :: v1 :: v2 :: v3 :: .int x :: ls) (.int x :: st) h P := zt_iload zi_163_34 rfl
theorem zi_163_36 : z_ins 163 36 = some (.aload_n 0, 1) := by decide +kernel
theorem ze_163_36 : z_T g d 163 36 (.ref a :: ls) st h P = z_T g d 163 37 (.ref a :: ls) (.ref a :: st) h P := zt_aloadn zi_163_36 rfl rfl
theorem zi_163_37 : z_ins 163 37 = some (.getfield 76, 3) := by decide +kernel
theorem ze_163_37 : z_T g d 163 37 ls (.ref a :: st) h P = z_gI h.1 a 10 2 (fun x => z_T g d 163 40 ls (.int x :: st) h P) := zt_getI zi_163_37 ((congrArg (fun o => z_fl o 76) zo_163).trans zf_LatinRectanglesModel_76)
theorem zi_163_40 : z_ins 163 40 = some (.if_icmp .gt 118, 3) := by decide +kernel
theorem ze_163_40 : z_T g d 163 40 ls (.int y :: .int x :: st) h P = (if y < x then z_T g d 163 158 ls st h P else z_T g d 163 43 ls st h P) := zt_icmpgt zi_163_40 (by decide)
theorem zi_163_43 : z_ins 163 43 = some (.iload_n 1, 1) := by decide +kernel
theorem ze_163_43 : z_T g d 163 43 (v0 :: .int x :: ls) st h P = z_T g d 163 44 (v0 :: .int x :: ls) (.int x :: st) h P := zt_iloadn zi_163_43 rfl rfl
theorem zi_163_44 : z_ins 163 44 = some (.ifCond .lt 114, 3) := by decide +kernel
theorem ze_163_44 : z_T g d 163 44 ls (.int x :: st) h P = (if x < nI 0 then z_T g d 163 158 ls st h P else z_T g d 163 47 ls st h P) := zt_iflt zi_163_44 (by decide)
theorem zi_163_47 : z_ins 163 47 = some (.iconst 0, 1) := by decide +kernel
theorem ze_163_47 : z_T g d 163 47 ls st h P = z_T g d 163 48 ls (.int (nI 0) :: st) h P := zt_iconst zi_163_47 rfl
theorem zi_163_48 : z_ins 163 48 = some (.istore 5, 2) := by decide +kernel
theorem ze_163_48 : z_T g d 163 48 (v0 :: v1 :: v2 :: v3 :: v4 :: v5 :: ls) (.int x :: st) h P = z_T g d 163 50 (v0 :: v1 :: v2 :: v3 :: v4 :: .int x :: ls) st h P := zt_istore zi_163_48 (Nat.le_add_left 6 _)
theorem zi_163_50 : z_ins 163 50 = some (.iload 5, 2) := by decide +kernel
theorem ze_163_50 : z_T g d 163 50 (v0 :: v1 :: v2 :: v3 :: v4 :: .int x :: ls) st h P = z_T g d 163 52 (v0 :: v1 :: v2 :: v3 :: v4 :: .int x :: ls) (.int x :: st) h P := zt_iload zi_163_50 rfl
theorem zi_163_52 : z_ins 163 52 = some (.bipush 25, 2) := by decide +kernel
theorem ze_163_52 : z_T g d 163 52 ls st h P = z_T g d 163 54 ls (.int (nI 25) :: st) h P := zt_bipush zi_163_52 rfl
theorem zi_163_54 : z_ins 163 54 = some (.if_icmp .ge 98, 3) := by decide +kernel
theorem ze_163_54 : z_T g d 163 54 ls (.int y :: .int x :: st) h P = (if x < y then z_T g d 163 57 ls st h P else z_T g d 163 152 ls st h P) := zt_icmpge zi_163_54 (by decide)
theorem zi_163_57 : z_ins 163 57 = some (.iload 5, 2) := by decide +kernel
theorem ze_163_57 : z_T g d 163 57 (v0 :: v1 :: v2 :: v3 :: v4 :: .int x :: ls) st h P = z_T g d 163 59 (v0 :: v1 :: v2 :: v3 :: v4 :: .int x :: ls) (.int x :: st) h P := zt_iload zi_163_57 rfl
theorem zi_163_59 : z_ins 163 59 = some (.iconst 5, 1) := by decide +kernel
theorem ze_163_59 : z_T g d 163 59 ls st h P = z_T g d 163 60 ls (.int (nI 5) :: st) h P := zt_iconst zi_163_59 rfl
theorem zi_163_60 : z_ins 163 60 = some (.idiv, 1) := by decide +kernel
theorem ze_163_60 : z_T g d 163 60 ls (.int y :: .int x :: st) h P = (¬ y = nI 0 ∧ z_T g d 163 61 ls (.int (x / y) :: st) h P) := zt_idiv zi_163_60
theorem zi_163_61 : z_ins 163 61 = some (.istore 6, 2) := by decide +kernel
theorem ze_163_61 : z_T g d 163 61 (v0 :: v1 :: v2 :: v3 :: v4 :: v5 :: v6 :: ls) (.int x :: st) h P = z_T g d 163 63 (v0 :: v1 :: v2 :: v3 :: v4 :: v5 :: .int x :: ls) st h P := zt_istore zi_163_61 (Nat.le_add_left 7 _)
theorem zi_163_63 : z_ins 163 63 = some (.iload 5, 2) := by decide +kernel
theorem ze_163_63 : z_T g d 163 63 (v0 :: v1 :: v2 :: v3 :: v4 :: .int x :: ls) st h P = z_T g d 163 65 (v0 :: v1 :: v2 :: v3 :: v4 :: .int x :: ls) (.int x :: st) h P := zt_iload zi_163_63 rfl
theorem zi_163_65 : z_ins 163 65 = some (.iconst 5, 1) := by decide +kernel
theorem ze_163_65 : z_T g d 163 65 ls st h P = z_T g d 163 66 ls (.int (nI 5) :: st) h P := zt_iconst zi_163_65 rfl
theorem zi_163_66 : z_ins 163 66 = some (.irem, 1) := by decide +kernel
theorem ze_163_66 : z_T g d 163 66 ls (.int y :: .int x :: st) h P = (¬ y = nI 0 ∧ z_T g d 163 67 ls (.int (x - x / y * y) :: st) h P) := zt_irem zi_163_66
theorem zi_163_67 : z_ins 163 67 = some (.istore 7, 2) := by decide +kernel
theorem ze_163_67 : z_T g d 163 67 (v0 :: v1 :: v2 :: v3 :: v4 :: v5 :: v6 :: v7 :: ls) (.int x :: st) h P = z_T g d 163 69 (v0 :: v1 :: v2 :: v3 :: v4 :: v5 :: v6 :: .int x :: ls) st h P := zt_istore zi_163_67 (Nat.le_add_left 8 _)
theorem zi_163_69 : z_ins 163 69 = some (.iload 6, 2) := by decide +kernel
theorem ze_163_69 : z_T g d 163 69 (v0 :: v1 :: v2 :: v3 :: v4 :: v5 :: .int x :: ls) st h P = z_T g d 163 71 (v0 :: v1 :: v2 :: v3 :: v4 :: v5 :: .int x :: ls) (.int x :: st) h P := zt_iload zi_163_69 rfl
theorem zi_163_71 : z_ins 163 71 = some (.aload_n 0, 1) := by decide +kernel
theorem ze_163_71 : z_T g d 163 71 (.ref a :: ls) st h P = z_T g d 163 72 (.ref a :: ls) (.ref a :: st) h P := zt_aloadn zi_163_71 rfl rfl
theorem zi_163_72 : z_ins 163 72 = some (.getfield 73, 3) := by decide +kernel
theorem ze_163_72 : z_T g d 163 72 ls (.ref a :: st) h P = z_gI h.1 a 10 1 (fun x => z_T g d 163 75 ls (.int x :: st) h P) := zt_getI zi_163_72 ((congrArg (fun o => z_fl o 73) zo_163).trans zf_LatinRectanglesModel_73)
theorem zi_163_75 : z_ins 163 75 = some (.if_icmp .ge 71, 3) := by decide +kernel
theorem ze_163_75 : z_T g d 163 75 ls (.int y :: .int x :: st) h P = (if x < y then z_T g d 163 78 ls st h P else z_T g d 163 146 ls st h P) := zt_icmpge zi_163_75 (by decide)
theorem zi_163_78 : z_ins 163 78 = some (.iload 7, 2) := by decide +kernel
theorem ze_163_78 : z_T g d 163 78 (v0 :: v1 :: v2 :: v3 :: v4 :: v5 :: v6 :: .int x :: ls) st h P = z_T g d 163 80 (v0 :: v1 :: v2 :: v3 :: v4 :: v5 :: v6 :: .int x :: ls) (.int x :: st) h P := zt_iload zi_163_78 rfl
theorem zi_163_80 : z_ins 163 80 = some (.aload_n 0, 1) := by decide +kernel
theorem ze_163_80 : z_T g d 163 80 (.ref a :: ls) st h P = z_T g d 163 81 (.ref a :: ls) (.ref a :: st) h P := zt_aloadn zi_163_80 rfl rfl
theorem zi_163_81 : z_ins 163 81 = some (.getfield 76, 3) := by decide +kernel
theorem ze_163_81 : z_T g d 163 81 ls (.ref a :: st) h P = z_gI h.1 a 10 2 (fun x => z_T g d 163 84 ls (.int x :: st) h P) := zt_getI zi_163_81 ((congrArg (fun o => z_fl o 76) zo_163).trans zf_LatinRectanglesModel_76)
theorem zi_163_84 : z_ins 163 84 = some (.if_icmp .ge 62, 3) := by decide +kernel
theorem ze_163_84 : z_T g d 163 84 ls (.int y :: .int x :: st) h P = (if x < y then z_T g d 163 87 ls st h P else z_T g d 163 146 ls st h P) := zt_icmpge zi_163_84 (by decide)
theorem zi_163_87 : z_ins 163 87 = some (.aload_n 0, 1) := by decide +kernel
theorem ze_163_87 : z_T g d 163 87 (.ref a :: ls) st h P = z_T g d 163 88 (.ref a :: ls) (.ref a :: st) h P := zt_aloadn zi_163_87 rfl rfl
theorem zi_163_88 : z_ins 163 88 = some (.getfield 22, 3) := by decide +kernel
theorem ze_163_88 : z_T g d 163 88 ls (.ref a :: st) h P = z_gR h.1 a 10 11 (fun x => z_T g d 163 91 ls (.ref x :: st) h P) := zt_getR zi_163_88 ((congrArg (fun o => z_fl o 22) zo_163).trans zf_LatinRectanglesModel_22)
theorem zi_163_91 : z_ins 163 91 = some (.iload 5, 2) := by decide +kernel
theorem ze_163_91 : z_T g d 163 91 (v0 :: v1 :: v2 :: v3 :: v4 :: .int x :: ls) st h P = z_T g d 163 93 (v0 :: v1 :: v2 :: v3 :: v4 :: .int x :: ls) (.int x :: st) h P := zt_iload zi_163_91 rfl
theorem zi_163_93 : z_ins 163 93 = some (.iaload, 1) := by decide +kernel
theorem ze_163_93 : z_T g d 163 93 ls (.int x :: .ref a :: st) h P = z_aL h.1 a z_tI x (fun v => z_T g d 163 94 ls (.int v :: st) h P) := zt_iaload zi_163_93
theorem zi_163_94 : z_ins 163 94 = some (.iconst (-1), 1) := by decide +kernel
theorem ze_163_94 : z_T g d 163 94 ls st h P = z_T g d 163 95 ls (.int (-1) :: st) h P := zt_iconst zi_163_94 rfl
theorem zi_163_95 : z_ins 163 95 = some (.if_icmp .ne 51, 3) := by decide +kernel
theorem ze_163_95 : z_T g d 163 95 ls (.int y :: .int x :: st) h P = (if x = y then z_T g d 163 98 ls st h P else z_T g d 163 146 ls st h P) := zt_icmpne zi_163_95 (by decide)
theorem zi_163_98 : z_ins 163 98 = some (.aload_n 0, 1) := by decide +kernel
theorem ze_163_98 : z_T g d 163 98 (.ref a :: ls) st h P = z_T g d 163 99 (.ref a :: ls) (.ref a :: st) h P := zt_aloadn zi_163_98 rfl rfl
theorem zi_163_99 : z_ins 163 99 = some (.iload 6, 2) := by decide +kernel
theorem ze_163_99 : z_T g d 163 99 (v0 :: v1 :: v2 :: v3 :: v4 :: v5 :: .int x :: ls) st h P = z_T g d 163 101 (v0 :: v1 :: v2 :: v3 :: v4 :: v5 :: .int x :: ls) (.int x :: st) h P := zt_iload zi_163_99 rfl
theorem zi_163_101 : z_ins 163 101 = some (.iload 7, 2) := by decide +kernel
theorem ze_163_101 : z_T g d 163 101 (v0 :: v1 :: v2 :: v3 :: v4 :: v5 :: v6 :: .int x :: ls) st h P = z_T g d 163 103 (v0 :: v1 :: v2 :: v3 :: v4 :: v5 :: v6 :: .int x :: ls) (.int x :: st) h P := zt_iload zi_163_101 rfl
theorem zi_163_103 : z_ins 163 103 = some (.invokevirtual 183, 3) := by decide +kernel
theorem ze_163_103 : z_T g d 163 103 ls (.int x1 :: .int x0 :: .ref a :: st) h P = ((z_okS 8 st = true ∧ z_gO h.1 a 10 ∧ 0 < d) ∧ z_Ca g (d - 1) 149 [.ref a, .int x0, .int x1] h (fun r => z_k r (fun v h' => z_T g d 163 106 ls (z_push v st) h' P) P)) := zt_callV (as := [.int x0, .int x1]) zi_163_103 ((congrArg (fun o => z_lookup z_prs (o, 183)) zo_163).trans zp_LatinRectanglesModel_183) ((congrArg (fun o => z_clk o 183) zo_163).trans zk_LatinRectanglesModel_183) zh_163 zc_149 rfl rfl rfl
theorem zi_163_106 : z_ins 163 106 = some (.invokestatic 204, 3) := by decide +kernel
theorem ze_163_106 : z_T g d 163 106 ls (.int x0 :: st) h P = ((z_okS 8 st = true ∧ 0 < d) ∧ z_Ca g (d - 1) 150 [.int x0] h (fun r => z_k r (fun v h' => z_T g d 163 109 ls (z_push v st) h' P) P)) := zt_callS0 (as := [.int x0]) zi_163_106 ((congrArg (fun o => z_lookup z_prs (o, 204)) zo_163).trans zp_LatinRectanglesModel_204) ((congrArg (fun o => z_clk o 204) zo_163).trans zk_LatinRectanglesModel_204) zh_163 rfl rfl rfl
theorem zi_163_109 : z_ins 163 109 = some (.iload 4, 2) := by decide +kernel
theorem ze_163_109 : z_T g d 163 109 (v0 :: v1 :: v2 :: v3 :: .int x :: ls) st h P = z_T g d 163 111 (v0 :: v1 :: v2 :: v3 :: .int x :: ls) (.int x :: st) h P := zt_iload zi_163_109 rfl
theorem zi_163_111 : z_ins 163 111 = some (.if_icmp .eq 6, 3) := by decide +kernel
theorem ze_163_111 : z_T g d 163 111 ls (.int y :: .int x :: st) h P = (if x = y then z_T g d 163 117 ls st h P else z_T g d 163 114 ls st h P) := zt_icmpeq zi_163_111 (by decide)
theorem zi_163_114 : z_ins 163 114 = some (.goto 32, 3) := by decide +kernel
theorem ze_163_114 : z_T g d 163 114 ls st h P = z_T g d 163 146 ls st h P := zt_goto zi_163_114 (by decide)
theorem zi_163_117 : z_ins 163 117 = some (.iload_n 3, 1) := by decide +kernel
theorem ze_163_117 : z_T g d 163 117 (v0 :: v1 :: v2 :: .int x :: ls) st h P = z_T g d 163 118 (v0 :: v1 :: v2 :: .int x :: ls) (.int x :: st) h P := zt_iloadn zi_163_117 rfl rfl
theorem zi_163_118 : z_ins 163 118 = some (.ifCond .ne 25, 3) := by decide +kernel
theorem ze_163_118 : z_T g d 163 118 ls (.int x :: st) h P = (if x = nI 0 then z_T g d 163 121 ls st h P else z_T g d 163 143 ls st h P) := zt_ifne zi_163_118 (by decide)
theorem zi_163_121 : z_ins 163 121 = some (.iload_n 2, 1) := by decide +kernel
theorem ze_163_121 : z_T g d 163 121 (v0 :: v1 :: .int x :: ls) st h P = z_T g d 163 122 (v0 :: v1 :: .int x :: ls) (.int x :: st) h P := zt_iloadn zi_163_121 rfl rfl
theorem zi_163_122 : z_ins 163 122 = some (.ifCond .ne 8, 3) := by decide +kernel
theorem ze_163_122 : z_T g d 163 122 ls (.int x :: st) h P = (if x = nI 0 then z_T g d 163 125 ls st h P else z_T g d 163 130 ls st h P) := zt_ifne zi_163_122 (by decide)
theorem zi_163_125 : z_ins 163 125 = some (.iload 6, 2) := by decide +kernel
theorem ze_163_125 : z_T g d 163 125 (v0 :: v1 :: v2 :: v3 :: v4 :: v5 :: .int x :: ls) st h P = z_T g d 163 127 (v0 :: v1 :: v2 :: v3 :: v4 :: v5 :: .int x :: ls) (.int x :: st) h P := zt_iload zi_163_125 rfl
theorem zi_163_127 : z_ins 163 127 = some (.goto 15, 3) := by decide +kernel
theorem ze_163_127 : z_T g d 163 127 ls st h P = z_T g d 163 142 ls st h P := zt_goto zi_163_127 (by decide)
theorem zi_163_130 : z_ins 163 130 = some (.iload_n 2, 1) := by decide +kernel
theorem ze_163_130 : z_T g d 163 130 (v0 :: v1 :: .int x :: ls) st h P = z_T g d 163 131 (v0 :: v1 :: .int x :: ls) (.int x :: st) h P := zt_iloadn zi_163_130 rfl rfl
theorem zi_163_131 : z_ins 163 131 = some (.iconst 1, 1) := by decide +kernel
theorem ze_163_131 : z_T g d 163 131 ls st h P = z_T g d 163 132 ls (.int (nI 1) :: st) h P := zt_iconst zi_163_131 rfl
theorem zi_163_132 : z_ins 163 132 = some (.if_icmp .ne 8, 3) := by decide +kernel
theorem ze_163_132 : z_T g d 163 132 ls (.int y :: .int x :: st) h P = (if x = y then z_T g d 163 135 ls st h P else z_T g d 163 140 ls st h P) := zt_icmpne zi_163_132 (by decide)
theorem zi_163_135 : z_ins 163 135 = some (.iload 7, 2) := by decide +kernel
theorem ze_163_135 : z_T g d 163 135 (v0 :: v1 :: v2 :: v3 :: v4 :: v5 :: v6 :: .int x :: ls) st h P = z_T g d 163 137 (v0 :: v1 :: v2 :: v3 :: v4 :: v5 :: v6 :: .int x :: ls) (.int x :: st) h P := zt_iload zi_163_135 rfl
theorem zi_163_137 : z_ins 163 137 = some (.goto 5, 3) := by decide +kernel
theorem ze_163_137 : z_T g d 163 137 ls st h P = z_T g d 163 142 ls st h P := zt_goto zi_163_137 (by decide)
theorem zi_163_140 : z_ins 163 140 = some (.iload 4, 2) := by decide +kernel
theorem ze_163_140 : z_T g d 163 140 (v0 :: v1 :: v2 :: v3 :: .int x :: ls) st h P = z_T g d 163 142 (v0 :: v1 :: v2 :: v3 :: .int x :: ls) (.int x :: st) h P := zt_iload zi_163_140 rfl
theorem zi_163_142 : z_ins 163 142 = some (.ireturn, 1) := by decide +kernel
theorem ze_163_142 : z_T g d 163 142 ls [.int x] h P = P (.inr (some (.int x)), h) := zt_ireturn zi_163_142 zr_163
theorem zi_163_143 : z_ins 163 143 = some (.iinc 3 (-1), 3) := by decide +kernel
theorem ze_163_143 : z_T g d 163 143 (v0 :: v1 :: v2 :: .int x :: ls) st h P = z_T g d 163 146 (v0 :: v1 :: v2 :: .int (x + (-1)) :: ls) st h P := zt_iinc zi_163_143 rfl rfl
theorem zi_163_146 : z_ins 163 146 = some (.iinc 5 1, 3) := by decide +kernel
theorem ze_163_146 : z_T g d 163 146 (v0 :: v1 :: v2 :: v3 :: v4 :: .int x :: ls) st h P = z_T g d 163 149 (v0 :: v1 :: v2 :: v3 :: v4 :: .int (x + (nI 1)) :: ls) st h P := zt_iinc zi_163_146 rfl rfl
theorem zi_163_149 : z_ins 163 149 = some (.goto (-99), 3) := by decide +kernel
theorem ze_163_149 : z_T g d 163 149 ls st h P = z_T g d 163 50 ls st h P := zt_goto zi_163_149 (by decide)
theorem zi_163_152 : z_ins 163 152 = some (.iinc 4 1, 3) := by decide +kernel
theorem ze_163_152 : z_T g d 163 152 (v0 :: v1 :: v2 :: v3 :: .int x :: ls) st h P = z_T g d 163 155 (v0 :: v1 :: v2 :: v3 :: .int (x + (nI 1)) :: ls) st h P := zt_iinc zi_163_152 rfl rfl
theorem zi_163_155 : z_ins 163 155 = some (.goto (-121), 3) := by decide +kernel
theorem ze_163_155 : z_T g d 163 155 ls st h P = z_T g d 163 34 ls st h P := zt_goto zi_163_155 (by decide)
theorem zi_163_158 : z_ins 163 158 = some (.iconst (-1), 1) := by decide +kernel
theorem ze_163_158 : z_T g d 163 158 ls st h P = z_T g d 163 159 ls (.int (-1) :: st) h P := zt_iconst zi_163_158 rfl
theorem zi_163_159 : z_ins 163 159 = some (.ireturn, 1) := by decide +kernel
theorem ze_163_159 : z_T g d 163 159 ls [.int x] h P = P (.inr (some (.int x)), h) := zt_ireturn zi_163_159 zr_163
-- LatinRectanglesModel.usesOf(I)I
theorem zo_164 : z_own 164 = "LatinRectanglesModel" := by decide +kernel
theorem zm_164 : z_maxL 164 = 4 := by decide +kernel
theorem zh_164 : z_hds 164 = [] := by decide +kernel
theorem zr_164 : z_rt 164 = (some .int) := by decide +kernel
theorem zn_164 : z_Ca g d 164 [.ref a0, .int x1] h P = z_T g d 164 0 [.ref a0, .int x1, z_un, z_un] [] h P := z_Ca_ent zm_164 rfl rfl
theorem zi_164_0 : z_ins 164 0 = some (.iconst 0, 1) := by decide +kernel
theorem ze_164_0 : z_T g d 164 0 ls st h P = z_T g d 164 1 ls (.int (nI 0) :: st) h P := zt_iconst zi_164_0 rfl
theorem zi_164_1 : z_ins 164 1 = some (.istore_n 2, 1) := by decide +kernel
theorem ze_164_1 : z_T g d 164 1 (v0 :: v1 :: v2 :: ls) (.int x :: st) h P = z_T g d 164 2 (v0 :: v1 :: .int x :: ls) st h P := zt_istoren zi_164_1 rfl (Nat.le_add_left 3 _)
theorem zi_164_2 : z_ins 164 2 = some (.iconst 0, 1) := by decide +kernel
theorem ze_164_2 : z_T g d 164 2 ls st h P = z_T g d 164 3 ls (.int (nI 0) :: st) h P := zt_iconst zi_164_2 rfl
theorem zi_164_3 : z_ins 164 3 = some (.istore_n 3, 1) := by decide +kernel
theorem ze_164_3 : z_T g d 164 3 (v0 :: v1 :: v2 :: v3 :: ls) (.int x :: st) h P = z_T g d 164 4 (v0 :: v1 :: v2 :: .int x :: ls) st h P := zt_istoren zi_164_3 rfl (Nat.le_add_left 4 _)
theorem zi_164_4 : z_ins 164 4 = some (.iload_n 3, 1) := by decide +kernel
theorem ze_164_4 : z_T g d 164 4 (v0 :: v1 :: v2 :: .int x :: ls) st h P = z_T g d 164 5 (v0 :: v1 :: v2 :: .int x :: ls) (.int x :: st) h P := zt_iloadn zi_164_4 rfl rfl
theorem zi_164_5 : z_ins 164 5 = some (.bipush 25, 2) := by decide +kernel
theorem ze_164_5 : z_T g d 164 5 ls st h P = z_T g d 164 7 ls (.int (nI 25) :: st) h P := zt_bipush zi_164_5 rfl
theorem zi_164_7 : z_ins 164 7 = some (.if_icmp .ge 27, 3) := by decide +kernel
theorem ze_164_7 : z_T g d 164 7 ls (.int y :: .int x :: st) h P = (if x < y then z_T g d 164 10 ls st h P else z_T g d 164 34 ls st h P) := zt_icmpge zi_164_7 (by decide)
theorem zi_164_10 : z_ins 164 10 = some (.iload_n 2, 1) := by decide +kernel
theorem ze_164_10 : z_T g d 164 10 (v0 :: v1 :: .int x :: ls) st h P = z_T g d 164 11 (v0 :: v1 :: .int x :: ls) (.int x :: st) h P := zt_iloadn zi_164_10 rfl rfl
theorem zi_164_11 : z_ins 164 11 = some (.aload_n 0, 1) := by decide +kernel
theorem ze_164_11 : z_T g d 164 11 (.ref a :: ls) st h P = z_T g d 164 12 (.ref a :: ls) (.ref a :: st) h P := zt_aloadn zi_164_11 rfl rfl
theorem zi_164_12 : z_ins 164 12 = some (.getfield 22, 3) := by decide +kernel
theorem ze_164_12 : z_T g d 164 12 ls (.ref a :: st) h P = z_gR h.1 a 10 11 (fun x => z_T g d 164 15 ls (.ref x :: st) h P) := zt_getR zi_164_12 ((congrArg (fun o => z_fl o 22) zo_164).trans zf_LatinRectanglesModel_22)
theorem zi_164_15 : z_ins 164 15 = some (.iload_n 3, 1) := by decide +kernel
theorem ze_164_15 : z_T g d 164 15 (v0 :: v1 :: v2 :: .int x :: ls) st h P = z_T g d 164 16 (v0 :: v1 :: v2 :: .int x :: ls) (.int x :: st) h P := zt_iloadn zi_164_15 rfl rfl
theorem zi_164_16 : z_ins 164 16 = some (.iaload, 1) := by decide +kernel
theorem ze_164_16 : z_T g d 164 16 ls (.int x :: .ref a :: st) h P = z_aL h.1 a z_tI x (fun v => z_T g d 164 17 ls (.int v :: st) h P) := zt_iaload zi_164_16
theorem zi_164_17 : z_ins 164 17 = some (.iload_n 1, 1) := by decide +kernel
theorem ze_164_17 : z_T g d 164 17 (v0 :: .int x :: ls) st h P = z_T g d 164 18 (v0 :: .int x :: ls) (.int x :: st) h P := zt_iloadn zi_164_17 rfl rfl
theorem zi_164_18 : z_ins 164 18 = some (.if_icmp .ne 7, 3) := by decide +kernel
theorem ze_164_18 : z_T g d 164 18 ls (.int y :: .int x :: st) h P = (if x = y then z_T g d 164 21 ls st h P else z_T g d 164 25 ls st h P) := zt_icmpne zi_164_18 (by decide)
theorem zi_164_21 : z_ins 164 21 = some (.iconst 1, 1) := by decide +kernel
theorem ze_164_21 : z_T g d 164 21 ls st h P = z_T g d 164 22 ls (.int (nI 1) :: st) h P := zt_iconst zi_164_21 rfl
theorem zi_164_22 : z_ins 164 22 = some (.goto 4, 3) := by decide +kernel
theorem ze_164_22 : z_T g d 164 22 ls st h P = z_T g d 164 26 ls st h P := zt_goto zi_164_22 (by decide)
theorem zi_164_25 : z_ins 164 25 = some (.iconst 0, 1) := by decide +kernel
theorem ze_164_25 : z_T g d 164 25 ls st h P = z_T g d 164 26 ls (.int (nI 0) :: st) h P := zt_iconst zi_164_25 rfl
theorem zi_164_26 : z_ins 164 26 = some (.iadd, 1) := by decide +kernel
theorem ze_164_26 : z_T g d 164 26 ls (.int y :: .int x :: st) h P = z_T g d 164 27 ls (.int (x + y) :: st) h P := zt_bin (f := fun x y => x + y) zi_164_26 rfl (fun _ _ _ => rfl)
theorem zi_164_27 : z_ins 164 27 = some (.istore_n 2, 1) := by decide +kernel
theorem ze_164_27 : z_T g d 164 27 (v0 :: v1 :: v2 :: ls) (.int x :: st) h P = z_T g d 164 28 (v0 :: v1 :: .int x :: ls) st h P := zt_istoren zi_164_27 rfl (Nat.le_add_left 3 _)
theorem zi_164_28 : z_ins 164 28 = some (.iinc 3 1, 3) := by decide +kernel
theorem ze_164_28 : z_T g d 164 28 (v0 :: v1 :: v2 :: .int x :: ls) st h P = z_T g d 164 31 (v0 :: v1 :: v2 :: .int (x + (nI 1)) :: ls) st h P := zt_iinc zi_164_28 rfl rfl
theorem zi_164_31 : z_ins 164 31 = some (.goto (-27), 3) := by decide +kernel
theorem ze_164_31 : z_T g d 164 31 ls st h P = z_T g d 164 4 ls st h P := zt_goto zi_164_31 (by decide)
theorem zi_164_34 : z_ins 164 34 = some (.iload_n 2, 1) := by decide +kernel
theorem ze_164_34 : z_T g d 164 34 (v0 :: v1 :: .int x :: ls) st h P = z_T g d 164 35 (v0 :: v1 :: .int x :: ls) (.int x :: st) h P := zt_iloadn zi_164_34 rfl rfl
theorem zi_164_35 : z_ins 164 35 = some (.ireturn, 1) := by decide +kernel
theorem ze_164_35 : z_T g d 164 35 ls [.int x] h P = P (.inr (some (.int x)), h) := zt_ireturn zi_164_35 zr_164
-- LatinRectanglesModel.uses(I)I
theorem zo_165 : z_own 165 = "LatinRectanglesModel" := by decide +kernel
theorem zm_165 : z_maxL 165 = 2 := by decide +kernel
theorem zh_165 : z_hds 165 = [] := by decide +kernel
theorem zr_165 : z_rt 165 = (some .int) := by decide +kernel
theorem zn_165 : z_Ca g d 165 [.ref a0, .int x1] h P = z_T g d 165 0 [.ref a0, .int x1] [] h P := z_Ca_ent zm_165 rfl rfl
theorem zi_165_0 : z_ins 165 0 = some (.aload_n 0, 1) := by decide +kernel
theorem ze_165_0 : z_T g d 165 0 (.ref a :: ls) st h P = z_T g d 165 1 (.ref a :: ls) (.ref a :: st) h P := zt_aloadn zi_165_0 rfl rfl
theorem zi_165_1 : z_ins 165 1 = some (.iconst 0, 1) := by decide +kernel
theorem ze_165_1 : z_T g d 165 1 ls st h P = z_T g d 165 2 ls (.int (nI 0) :: st) h P := zt_iconst zi_165_1 rfl
theorem zi_165_2 : z_ins 165 2 = some (.putfield 67, 3) := by decide +kernel
theorem ze_165_2 : z_T g d 165 2 ls (.int x :: .ref a :: st) h P = z_pF h.1 a 10 0 (.int x) (fun f => z_T g d 165 5 ls st (f, h.2) P) := zt_putI zi_165_2 ((congrArg (fun o => z_fl o 67) zo_165).trans zf_LatinRectanglesModel_67)
theorem zi_165_5 : z_ins 165 5 = some (.iload_n 1, 1) := by decide +kernel
theorem ze_165_5 : z_T g d 165 5 (v0 :: .int x :: ls) st h P = z_T g d 165 6 (v0 :: .int x :: ls) (.int x :: st) h P := zt_iloadn zi_165_5 rfl rfl
theorem zi_165_6 : z_ins 165 6 = some (.iconst 0, 1) := by decide +kernel
theorem ze_165_6 : z_T g d 165 6 ls st h P = z_T g d 165 7 ls (.int (nI 0) :: st) h P := zt_iconst zi_165_6 rfl
theorem zi_165_7 : z_ins 165 7 = some (.aload_n 0, 1) := by decide +kernel
theorem ze_165_7 : z_T g d 165 7 (.ref a :: ls) st h P = z_T g d 165 8 (.ref a :: ls) (.ref a :: st) h P := zt_aloadn zi_165_7 rfl rfl
theorem zi_165_8 : z_ins 165 8 = some (.getfield 76, 3) := by decide +kernel
theorem ze_165_8 : z_T g d 165 8 ls (.ref a :: st) h P = z_gI h.1 a 10 2 (fun x => z_T g d 165 11 ls (.int x :: st) h P) := zt_getI zi_165_8 ((congrArg (fun o => z_fl o 76) zo_165).trans zf_LatinRectanglesModel_76)
theorem zi_165_11 : z_ins 165 11 = some (.iconst 1, 1) := by decide +kernel
theorem ze_165_11 : z_T g d 165 11 ls st h P = z_T g d 165 12 ls (.int (nI 1) :: st) h P := zt_iconst zi_165_11 rfl
theorem zi_165_12 : z_ins 165 12 = some (.isub, 1) := by decide +kernel
theorem ze_165_12 : z_T g d 165 12 ls (.int y :: .int x :: st) h P = z_T g d 165 13 ls (.int (x - y) :: st) h P := zt_bin (f := fun x y => x - y) zi_165_12 rfl (fun _ _ _ => rfl)
theorem zi_165_13 : z_ins 165 13 = some (.invokestatic 111, 3) := by decide +kernel
theorem ze_165_13 : z_T g d 165 13 ls (.int x2 :: .int x1 :: .int x0 :: st) h P = ((z_okS 8 st = true ∧ 0 < d) ∧ z_Ca g (d - 1) 122 [.int x0, .int x1, .int x2] h (fun r => z_k r (fun v h' => z_T g d 165 16 ls (z_push v st) h' P) P)) := zt_callS0 (as := [.int x0, .int x1, .int x2]) zi_165_13 ((congrArg (fun o => z_lookup z_prs (o, 111)) zo_165).trans zp_LatinRectanglesModel_111) ((congrArg (fun o => z_clk o 111) zo_165).trans zk_LatinRectanglesModel_111) zh_165 rfl rfl rfl
theorem zi_165_16 : z_ins 165 16 = some (.ifCond .eq 11, 3) := by decide +kernel
theorem ze_165_16 : z_T g d 165 16 ls (.int x :: st) h P = (if x = nI 0 then z_T g d 165 27 ls st h P else z_T g d 165 19 ls st h P) := zt_ifeq zi_165_16 (by decide)
theorem zi_165_19 : z_ins 165 19 = some (.aload_n 0, 1) := by decide +kernel
theorem ze_165_19 : z_T g d 165 19 (.ref a :: ls) st h P = z_T g d 165 20 (.ref a :: ls) (.ref a :: st) h P := zt_aloadn zi_165_19 rfl rfl
theorem zi_165_20 : z_ins 165 20 = some (.iload_n 1, 1) := by decide +kernel
theorem ze_165_20 : z_T g d 165 20 (v0 :: .int x :: ls) st h P = z_T g d 165 21 (v0 :: .int x :: ls) (.int x :: st) h P := zt_iloadn zi_165_20 rfl rfl
theorem zi_165_21 : z_ins 165 21 = some (.invokevirtual 220, 3) := by decide +kernel
theorem ze_165_21 : z_T g d 165 21 ls (.int x0 :: .ref a :: st) h P = ((z_okS 8 st = true ∧ z_gO h.1 a 10 ∧ 0 < d) ∧ z_Ca g (d - 1) 164 [.ref a, .int x0] h (fun r => z_k r (fun v h' => z_T g d 165 24 ls (z_push v st) h' P) P)) := zt_callV (as := [.int x0]) zi_165_21 ((congrArg (fun o => z_lookup z_prs (o, 220)) zo_165).trans zp_LatinRectanglesModel_220) ((congrArg (fun o => z_clk o 220) zo_165).trans zk_LatinRectanglesModel_220) zh_165 zc_164 rfl rfl rfl
theorem zi_165_24 : z_ins 165 24 = some (.goto 4, 3) := by decide +kernel
theorem ze_165_24 : z_T g d 165 24 ls st h P = z_T g d 165 28 ls st h P := zt_goto zi_165_24 (by decide)
theorem zi_165_27 : z_ins 165 27 = some (.iconst 0, 1) := by decide +kernel
theorem ze_165_27 : z_T g d 165 27 ls st h P = z_T g d 165 28 ls (.int (nI 0) :: st) h P := zt_iconst zi_165_27 rfl
theorem zi_165_28 : z_ins 165 28 = some (.ireturn, 1) := by decide +kernel
theorem ze_165_28 : z_T g d 165 28 ls [.int x] h P = P (.inr (some (.int x)), h) := zt_ireturn zi_165_28 zr_165
-- LatinRectanglesModel.symbolByUse(I)I
theorem zo_166 : z_own 166 = "LatinRectanglesModel" := by decide +kernel
theorem zm_166 : z_maxL 166 = 5 := by decide +kernel
theorem zh_166 : z_hds 166 = [] := by decide +kernel
theorem zr_166 : z_rt 166 = (some .int) := by decide +kernel
theorem zn_166 : z_Ca g d 166 [.ref a0, .int x1] h P = z_T g d 166 0 [.ref a0, .int x1, z_un, z_un, z_un] [] h P := z_Ca_ent zm_166 rfl rfl
theorem zi_166_0 : z_ins 166 0 = some (.aload_n 0, 1) := by decide +kernel
theorem ze_166_0 : z_T g d 166 0 (.ref a :: ls) st h P = z_T g d 166 1 (.ref a :: ls) (.ref a :: st) h P := zt_aloadn zi_166_0 rfl rfl
theorem zi_166_1 : z_ins 166 1 = some (.iconst 0, 1) := by decide +kernel
theorem ze_166_1 : z_T g d 166 1 ls st h P = z_T g d 166 2 ls (.int (nI 0) :: st) h P := zt_iconst zi_166_1 rfl
theorem zi_166_2 : z_ins 166 2 = some (.putfield 67, 3) := by decide +kernel
theorem ze_166_2 : z_T g d 166 2 ls (.int x :: .ref a :: st) h P = z_pF h.1 a 10 0 (.int x) (fun f => z_T g d 166 5 ls st (f, h.2) P) := zt_putI zi_166_2 ((congrArg (fun o => z_fl o 67) zo_166).trans zf_LatinRectanglesModel_67)
theorem zi_166_5 : z_ins 166 5 = some (.iconst 0, 1) := by decide +kernel
theorem ze_166_5 : z_T g d 166 5 ls st h P = z_T g d 166 6 ls (.int (nI 0) :: st) h P := zt_iconst zi_166_5 rfl
theorem zi_166_6 : z_ins 166 6 = some (.istore_n 2, 1) := by decide +kernel
theorem ze_166_6 : z_T g d 166 6 (v0 :: v1 :: v2 :: ls) (.int x :: st) h P = z_T g d 166 7 (v0 :: v1 :: .int x :: ls) st h P := zt_istoren zi_166_6 rfl (Nat.le_add_left 3 _)
theorem zi_166_7 : z_ins 166 7 = some (.iload_n 2, 1) := by decide +kernel
theorem ze_166_7 : z_T g d 166 7 (v0 :: v1 :: .int x :: ls) st h P = z_T g d 166 8 (v0 :: v1 :: .int x :: ls) (.int x :: st) h P := zt_iloadn zi_166_7 rfl rfl
theorem zi_166_8 : z_ins 166 8 = some (.aload_n 0, 1) := by decide +kernel
theorem ze_166_8 : z_T g d 166 8 (.ref a :: ls) st h P = z_T g d 166 9 (.ref a :: ls) (.ref a :: st) h P := zt_aloadn zi_166_8 rfl rfl
theorem zi_166_9 : z_ins 166 9 = some (.getfield 76, 3) := by decide +kernel
theorem ze_166_9 : z_T g d 166 9 ls (.ref a :: st) h P = z_gI h.1 a 10 2 (fun x => z_T g d 166 12 ls (.int x :: st) h P) := zt_getI zi_166_9 ((congrArg (fun o => z_fl o 76) zo_166).trans zf_LatinRectanglesModel_76)
theorem zi_166_12 : z_ins 166 12 = some (.if_icmp .ge 78, 3) := by decide +kernel
theorem ze_166_12 : z_T g d 166 12 ls (.int y :: .int x :: st) h P = (if x < y then z_T g d 166 15 ls st h P else z_T g d 166 90 ls st h P) := zt_icmpge zi_166_12 (by decide)
theorem zi_166_15 : z_ins 166 15 = some (.iconst 0, 1) := by decide +kernel
theorem ze_166_15 : z_T g d 166 15 ls st h P = z_T g d 166 16 ls (.int (nI 0) :: st) h P := zt_iconst zi_166_15 rfl
theorem zi_166_16 : z_ins 166 16 = some (.istore_n 3, 1) := by decide +kernel
theorem ze_166_16 : z_T g d 166 16 (v0 :: v1 :: v2 :: v3 :: ls) (.int x :: st) h P = z_T g d 166 17 (v0 :: v1 :: v2 :: .int x :: ls) st h P := zt_istoren zi_166_16 rfl (Nat.le_add_left 4 _)
theorem zi_166_17 : z_ins 166 17 = some (.iconst 0, 1) := by decide +kernel
theorem ze_166_17 : z_T g d 166 17 ls st h P = z_T g d 166 18 ls (.int (nI 0) :: st) h P := zt_iconst zi_166_17 rfl
theorem zi_166_18 : z_ins 166 18 = some (.istore 4, 2) := by decide +kernel
theorem ze_166_18 : z_T g d 166 18 (v0 :: v1 :: v2 :: v3 :: v4 :: ls) (.int x :: st) h P = z_T g d 166 20 (v0 :: v1 :: v2 :: v3 :: .int x :: ls) st h P := zt_istore zi_166_18 (Nat.le_add_left 5 _)
theorem zi_166_20 : z_ins 166 20 = some (.iload 4, 2) := by decide +kernel
theorem ze_166_20 : z_T g d 166 20 (v0 :: v1 :: v2 :: v3 :: .int x :: ls) st h P = z_T g d 166 22 (v0 :: v1 :: v2 :: v3 :: .int x :: ls) (.int x :: st) h P := zt_iload zi_166_20 rfl
theorem zi_166_22 : z_ins 166 22 = some (.aload_n 0, 1) := by decide +kernel
theorem ze_166_22 : z_T g d 166 22 (.ref a :: ls) st h P = z_T g d 166 23 (.ref a :: ls) (.ref a :: st) h P := zt_aloadn zi_166_22 rfl rfl
theorem zi_166_23 : z_ins 166 23 = some (.getfield 76, 3) := by decide +kernel
theorem ze_166_23 : z_T g d 166 23 ls (.ref a :: st) h P = z_gI h.1 a 10 2 (fun x => z_T g d 166 26 ls (.int x :: st) h P) := zt_getI zi_166_23 ((congrArg (fun o => z_fl o 76) zo_166).trans zf_LatinRectanglesModel_76)
theorem zi_166_26 : z_ins 166 26 = some (.if_icmp .ge 51, 3) := by decide +kernel
theorem ze_166_26 : z_T g d 166 26 ls (.int y :: .int x :: st) h P = (if x < y then z_T g d 166 29 ls st h P else z_T g d 166 77 ls st h P) := zt_icmpge zi_166_26 (by decide)
theorem zi_166_29 : z_ins 166 29 = some (.iload_n 3, 1) := by decide +kernel
theorem ze_166_29 : z_T g d 166 29 (v0 :: v1 :: v2 :: .int x :: ls) st h P = z_T g d 166 30 (v0 :: v1 :: v2 :: .int x :: ls) (.int x :: st) h P := zt_iloadn zi_166_29 rfl rfl
theorem zi_166_30 : z_ins 166 30 = some (.aload_n 0, 1) := by decide +kernel
theorem ze_166_30 : z_T g d 166 30 (.ref a :: ls) st h P = z_T g d 166 31 (.ref a :: ls) (.ref a :: st) h P := zt_aloadn zi_166_30 rfl rfl
theorem zi_166_31 : z_ins 166 31 = some (.iload 4, 2) := by decide +kernel
theorem ze_166_31 : z_T g d 166 31 (v0 :: v1 :: v2 :: v3 :: .int x :: ls) st h P = z_T g d 166 33 (v0 :: v1 :: v2 :: v3 :: .int x :: ls) (.int x :: st) h P := zt_iload zi_166_31 rfl
theorem zi_166_33 : z_ins 166 33 = some (.invokevirtual 220, 3) := by decide +kernel
theorem ze_166_33 : z_T g d 166 33 ls (.int x0 :: .ref a :: st) h P = ((z_okS 8 st = true ∧ z_gO h.1 a 10 ∧ 0 < d) ∧ z_Ca g (d - 1) 164 [.ref a, .int x0] h (fun r => z_k r (fun v h' => z_T g d 166 36 ls (z_push v st) h' P) P)) := zt_callV (as := [.int x0]) zi_166_33 ((congrArg (fun o => z_lookup z_prs (o, 220)) zo_166).trans zp_LatinRectanglesModel_220) ((congrArg (fun o => z_clk o 220) zo_166).trans zk_LatinRectanglesModel_220) zh_166 zc_164 rfl rfl rfl
theorem zi_166_36 : z_ins 166 36 = some (.aload_n 0, 1) := by decide +kernel
theorem ze_166_36 : z_T g d 166 36 (.ref a :: ls) st h P = z_T g d 166 37 (.ref a :: ls) (.ref a :: st) h P := zt_aloadn zi_166_36 rfl rfl
theorem zi_166_37 : z_ins 166 37 = some (.iload_n 2, 1) := by decide +kernel
theorem ze_166_37 : z_T g d 166 37 (v0 :: v1 :: .int x :: ls) st h P = z_T g d 166 38 (v0 :: v1 :: .int x :: ls) (.int x :: st) h P := zt_iloadn zi_166_37 rfl rfl
theorem zi_166_38 : z_ins 166 38 = some (.invokevirtual 220, 3) := by decide +kernel
theorem ze_166_38 : z_T g d 166 38 ls (.int x0 :: .ref a :: st) h P = ((z_okS 8 st = true ∧ z_gO h.1 a 10 ∧ 0 < d) ∧ z_Ca g (d - 1) 164 [.ref a, .int x0] h (fun r => z_k r (fun v h' => z_T g d 166 41 ls (z_push v st) h' P) P)) := zt_callV (as := [.int x0]) zi_166_38 ((congrArg (fun o => z_lookup z_prs (o, 220)) zo_166).trans zp_LatinRectanglesModel_220) ((congrArg (fun o => z_clk o 220) zo_166).trans zk_LatinRectanglesModel_220) zh_166 zc_164 rfl rfl rfl
theorem zi_166_41 : z_ins 166 41 = some (.if_icmp .gt 23, 3) := by decide +kernel
theorem ze_166_41 : z_T g d 166 41 ls (.int y :: .int x :: st) h P = (if y < x then z_T g d 166 64 ls st h P else z_T g d 166 44 ls st h P) := zt_icmpgt zi_166_41 (by decide)
theorem zi_166_44 : z_ins 166 44 = some (.aload_n 0, 1) := by decide +kernel
theorem ze_166_44 : z_T g d 166 44 (.ref a :: ls) st h P = z_T g d 166 45 (.ref a :: ls) (.ref a :: st) h P := zt_aloadn zi_166_44 rfl rfl
theorem zi_166_45 : z_ins 166 45 = some (.iload 4, 2) := by decide +kernel
theorem ze_166_45 : z_T g d 166 45 (v0 :: v1 :: v2 :: v3 :: .int x :: ls) st h P = z_T g d 166 47 (v0 :: v1 :: v2 :: v3 :: .int x :: ls) (.int x :: st) h P := zt_iload zi_166_45 rfl
theorem zi_166_47 : z_ins 166 47 = some (.invokevirtual 220, 3) := by decide +kernel
theorem ze_166_47 : z_T g d 166 47 ls (.int x0 :: .ref a :: st) h P = ((z_okS 8 st = true ∧ z_gO h.1 a 10 ∧ 0 < d) ∧ z_Ca g (d - 1) 164 [.ref a, .int x0] h (fun r => z_k r (fun v h' => z_T g d 166 50 ls (z_push v st) h' P) P)) := zt_callV (as := [.int x0]) zi_166_47 ((congrArg (fun o => z_lookup z_prs (o, 220)) zo_166).trans zp_LatinRectanglesModel_220) ((congrArg (fun o => z_clk o 220) zo_166).trans zk_LatinRectanglesModel_220) zh_166 zc_164 rfl rfl rfl
theorem zi_166_50 : z_ins 166 50 = some (.aload_n 0, 1) := by decide +kernel
theorem ze_166_50 : z_T g d 166 50 (.ref a :: ls) st h P = z_T g d 166 51 (.ref a :: ls) (.ref a :: st) h P := zt_aloadn zi_166_50 rfl rfl
theorem zi_166_51 : z_ins 166 51 = some (.iload_n 2, 1) := by decide +kernel
theorem ze_166_51 : z_T g d 166 51 (v0 :: v1 :: .int x :: ls) st h P = z_T g d 166 52 (v0 :: v1 :: .int x :: ls) (.int x :: st) h P := zt_iloadn zi_166_51 rfl rfl
theorem zi_166_52 : z_ins 166 52 = some (.invokevirtual 220, 3) := by decide +kernel
theorem ze_166_52 : z_T g d 166 52 ls (.int x0 :: .ref a :: st) h P = ((z_okS 8 st = true ∧ z_gO h.1 a 10 ∧ 0 < d) ∧ z_Ca g (d - 1) 164 [.ref a, .int x0] h (fun r => z_k r (fun v h' => z_T g d 166 55 ls (z_push v st) h' P) P)) := zt_callV (as := [.int x0]) zi_166_52 ((congrArg (fun o => z_lookup z_prs (o, 220)) zo_166).trans zp_LatinRectanglesModel_220) ((congrArg (fun o => z_clk o 220) zo_166).trans zk_LatinRectanglesModel_220) zh_166 zc_164 rfl rfl rfl
theorem zi_166_55 : z_ins 166 55 = some (.if_icmp .ne 13, 3) := by decide +kernel
theorem ze_166_55 : z_T g d 166 55 ls (.int y :: .int x :: st) h P = (if x = y then z_T g d 166 58 ls st h P else z_T g d 166 68 ls st h P) := zt_icmpne zi_166_55 (by decide)
theorem zi_166_58 : z_ins 166 58 = some (.iload 4, 2) := by decide +kernel
theorem ze_166_58 : z_T g d 166 58 (v0 :: v1 :: v2 :: v3 :: .int x :: ls) st h P = z_T g d 166 60 (v0 :: v1 :: v2 :: v3 :: .int x :: ls) (.int x :: st) h P := zt_iload zi_166_58 rfl
theorem zi_166_60 : z_ins 166 60 = some (.iload_n 2, 1) := by decide +kernel
theorem ze_166_60 : z_T g d 166 60 (v0 :: v1 :: .int x :: ls) st h P = z_T g d 166 61 (v0 :: v1 :: .int x :: ls) (.int x :: st) h P := zt_iloadn zi_166_60 rfl rfl
theorem zi_166_61 : z_ins 166 61 = some (.if_icmp .ge 7, 3) := by decide +kernel
theorem ze_166_61 : z_T g d 166 61 ls (.int y :: .int x :: st) h P = (if x < y then z_T g d 166 64 ls st h P else z_T g d 166 68 ls st h P) := zt_icmpge zi_166_61 (by decide)
theorem zi_166_64 : z_ins 166 64 = some (.iconst 1, 1) := by decide +kernel
theorem ze_166_64 : z_T g d 166 64 ls st h P = z_T g d 166 65 ls (.int (nI 1) :: st) h P := zt_iconst zi_166_64 rfl
theorem zi_166_65 : z_ins 166 65 = some (.goto 4, 3) := by decide +kernel
theorem ze_166_65 : z_T g d 166 65 ls st h P = z_T g d 166 69 ls st h P := zt_goto zi_166_65 (by decide)
theorem zi_166_68 : z_ins 166 68 = some (.iconst 0, 1) := by decide +kernel
theorem ze_166_68 : z_T g d 166 68 ls st h P = z_T g d 166 69 ls (.int (nI 0) :: st) h P := zt_iconst zi_166_68 rfl
theorem zi_166_69 : z_ins 166 69 = some (.iadd, 1) := by decide +kernel
theorem ze_166_69 : z_T g d 166 69 ls (.int y :: .int x :: st) h P = z_T g d 166 70 ls (.int (x + y) :: st) h P := zt_bin (f := fun x y => x + y) zi_166_69 rfl (fun _ _ _ => rfl)
theorem zi_166_70 : z_ins 166 70 = some (.istore_n 3, 1) := by decide +kernel
theorem ze_166_70 : z_T g d 166 70 (v0 :: v1 :: v2 :: v3 :: ls) (.int x :: st) h P = z_T g d 166 71 (v0 :: v1 :: v2 :: .int x :: ls) st h P := zt_istoren zi_166_70 rfl (Nat.le_add_left 4 _)
theorem zi_166_71 : z_ins 166 71 = some (.iinc 4 1, 3) := by decide +kernel
theorem ze_166_71 : z_T g d 166 71 (v0 :: v1 :: v2 :: v3 :: .int x :: ls) st h P = z_T g d 166 74 (v0 :: v1 :: v2 :: v3 :: .int (x + (nI 1)) :: ls) st h P := zt_iinc zi_166_71 rfl rfl
theorem zi_166_74 : z_ins 166 74 = some (.goto (-54), 3) := by decide +kernel
theorem ze_166_74 : z_T g d 166 74 ls st h P = z_T g d 166 20 ls st h P := zt_goto zi_166_74 (by decide)
theorem zi_166_77 : z_ins 166 77 = some (.iload_n 3, 1) := by decide +kernel
theorem ze_166_77 : z_T g d 166 77 (v0 :: v1 :: v2 :: .int x :: ls) st h P = z_T g d 166 78 (v0 :: v1 :: v2 :: .int x :: ls) (.int x :: st) h P := zt_iloadn zi_166_77 rfl rfl
theorem zi_166_78 : z_ins 166 78 = some (.iload_n 1, 1) := by decide +kernel
theorem ze_166_78 : z_T g d 166 78 (v0 :: .int x :: ls) st h P = z_T g d 166 79 (v0 :: .int x :: ls) (.int x :: st) h P := zt_iloadn zi_166_78 rfl rfl
theorem zi_166_79 : z_ins 166 79 = some (.if_icmp .ne 5, 3) := by decide +kernel
theorem ze_166_79 : z_T g d 166 79 ls (.int y :: .int x :: st) h P = (if x = y then z_T g d 166 82 ls st h P else z_T g d 166 84 ls st h P) := zt_icmpne zi_166_79 (by decide)
theorem zi_166_82 : z_ins 166 82 = some (.iload_n 2, 1) := by decide +kernel
theorem ze_166_82 : z_T g d 166 82 (v0 :: v1 :: .int x :: ls) st h P = z_T g d 166 83 (v0 :: v1 :: .int x :: ls) (.int x :: st) h P := zt_iloadn zi_166_82 rfl rfl
theorem zi_166_83 : z_ins 166 83 = some (.ireturn, 1) := by decide +kernel
theorem ze_166_83 : z_T g d 166 83 ls [.int x] h P = P (.inr (some (.int x)), h) := zt_ireturn zi_166_83 zr_166
theorem zi_166_84 : z_ins 166 84 = some (.iinc 2 1, 3) := by decide +kernel
theorem ze_166_84 : z_T g d 166 84 (v0 :: v1 :: .int x :: ls) st h P = z_T g d 166 87 (v0 :: v1 :: .int (x + (nI 1)) :: ls) st h P := zt_iinc zi_166_84 rfl rfl
theorem zi_166_87 : z_ins 166 87 = some (.goto (-80), 3) := by decide +kernel
theorem ze_166_87 : z_T g d 166 87 ls st h P = z_T g d 166 7 ls st h P := zt_goto zi_166_87 (by decide)
theorem zi_166_90 : z_ins 166 90 = some (.iconst (-1), 1) := by decide +kernel
theorem ze_166_90 : z_T g d 166 90 ls st h P = z_T g d 166 91 ls (.int (-1) :: st) h P := zt_iconst zi_166_90 rfl
theorem zi_166_91 : z_ins 166 91 = some (.ireturn, 1) := by decide +kernel
theorem ze_166_91 : z_T g d 166 91 ls [.int x] h P = P (.inr (some (.int x)), h) := zt_ireturn zi_166_91 zr_166
-- LatinRectanglesModel.complete(IIZ)I
theorem zo_167 : z_own 167 = "LatinRectanglesModel" := by decide +kernel
theorem zm_167 : z_maxL 167 = 8 := by decide +kernel
theorem zh_167 : z_hds 167 = [] := by decide +kernel
theorem zr_167 : z_rt 167 = (some .int) := by decide +kernel
theorem zn_167 : z_Ca g d 167 [.ref a0, .int x1, .int x2, .int x3] h P = z_T g d 167 0 [.ref a0, .int x1, .int x2, .int x3, z_un, z_un, z_un, z_un] [] h P := z_Ca_ent zm_167 rfl rfl
theorem zi_167_0 : z_ins 167 0 = some (.iload_n 1, 1) := by decide +kernel
theorem ze_167_0 : z_T g d 167 0 (v0 :: .int x :: ls) st h P = z_T g d 167 1 (v0 :: .int x :: ls) (.int x :: st) h P := zt_iloadn zi_167_0 rfl rfl
theorem zi_167_1 : z_ins 167 1 = some (.istore 4, 2) := by decide +kernel
theorem ze_167_1 : z_T g d 167 1 (v0 :: v1 :: v2 :: v3 :: v4 :: ls) (.int x :: st) h P = z_T g d 167 3 (v0 :: v1 :: v2 :: v3 :: .int x :: ls) st h P := zt_istore zi_167_1 (Nat.le_add_left 5 _)
theorem zi_167_3 : z_ins 167 3 = some (.iload 4, 2) := by decide +kernel
theorem ze_167_3 : z_T g d 167 3 (v0 :: v1 :: v2 :: v3 :: .int x :: ls) st h P = z_T g d 167 5 (v0 :: v1 :: v2 :: v3 :: .int x :: ls) (.int x :: st) h P := zt_iload zi_167_3 rfl
theorem zi_167_5 : z_ins 167 5 = some (.bipush 25, 2) := by decide +kernel
theorem ze_167_5 : z_T g d 167 5 ls st h P = z_T g d 167 7 ls (.int (nI 25) :: st) h P := zt_bipush zi_167_5 rfl
theorem zi_167_7 : z_ins 167 7 = some (.if_icmp .ge 42, 3) := by decide +kernel
theorem ze_167_7 : z_T g d 167 7 ls (.int y :: .int x :: st) h P = (if x < y then z_T g d 167 10 ls st h P else z_T g d 167 49 ls st h P) := zt_icmpge zi_167_7 (by decide)
theorem zi_167_10 : z_ins 167 10 = some (.iload 4, 2) := by decide +kernel
theorem ze_167_10 : z_T g d 167 10 (v0 :: v1 :: v2 :: v3 :: .int x :: ls) st h P = z_T g d 167 12 (v0 :: v1 :: v2 :: v3 :: .int x :: ls) (.int x :: st) h P := zt_iload zi_167_10 rfl
theorem zi_167_12 : z_ins 167 12 = some (.iconst 5, 1) := by decide +kernel
theorem ze_167_12 : z_T g d 167 12 ls st h P = z_T g d 167 13 ls (.int (nI 5) :: st) h P := zt_iconst zi_167_12 rfl
theorem zi_167_13 : z_ins 167 13 = some (.idiv, 1) := by decide +kernel
theorem ze_167_13 : z_T g d 167 13 ls (.int y :: .int x :: st) h P = (¬ y = nI 0 ∧ z_T g d 167 14 ls (.int (x / y) :: st) h P) := zt_idiv zi_167_13
theorem zi_167_14 : z_ins 167 14 = some (.aload_n 0, 1) := by decide +kernel
theorem ze_167_14 : z_T g d 167 14 (.ref a :: ls) st h P = z_T g d 167 15 (.ref a :: ls) (.ref a :: st) h P := zt_aloadn zi_167_14 rfl rfl
theorem zi_167_15 : z_ins 167 15 = some (.getfield 73, 3) := by decide +kernel
theorem ze_167_15 : z_T g d 167 15 ls (.ref a :: st) h P = z_gI h.1 a 10 1 (fun x => z_T g d 167 18 ls (.int x :: st) h P) := zt_getI zi_167_15 ((congrArg (fun o => z_fl o 73) zo_167).trans zf_LatinRectanglesModel_73)
theorem zi_167_18 : z_ins 167 18 = some (.if_icmp .ge 25, 3) := by decide +kernel
theorem ze_167_18 : z_T g d 167 18 ls (.int y :: .int x :: st) h P = (if x < y then z_T g d 167 21 ls st h P else z_T g d 167 43 ls st h P) := zt_icmpge zi_167_18 (by decide)
theorem zi_167_21 : z_ins 167 21 = some (.iload 4, 2) := by decide +kernel
theorem ze_167_21 : z_T g d 167 21 (v0 :: v1 :: v2 :: v3 :: .int x :: ls) st h P = z_T g d 167 23 (v0 :: v1 :: v2 :: v3 :: .int x :: ls) (.int x :: st) h P := zt_iload zi_167_21 rfl
theorem zi_167_23 : z_ins 167 23 = some (.iconst 5, 1) := by decide +kernel
theorem ze_167_23 : z_T g d 167 23 ls st h P = z_T g d 167 24 ls (.int (nI 5) :: st) h P := zt_iconst zi_167_23 rfl
theorem zi_167_24 : z_ins 167 24 = some (.irem, 1) := by decide +kernel
theorem ze_167_24 : z_T g d 167 24 ls (.int y :: .int x :: st) h P = (¬ y = nI 0 ∧ z_T g d 167 25 ls (.int (x - x / y * y) :: st) h P) := zt_irem zi_167_24
theorem zi_167_25 : z_ins 167 25 = some (.aload_n 0, 1) := by decide +kernel
theorem ze_167_25 : z_T g d 167 25 (.ref a :: ls) st h P = z_T g d 167 26 (.ref a :: ls) (.ref a :: st) h P := zt_aloadn zi_167_25 rfl rfl
theorem zi_167_26 : z_ins 167 26 = some (.getfield 76, 3) := by decide +kernel
theorem ze_167_26 : z_T g d 167 26 ls (.ref a :: st) h P = z_gI h.1 a 10 2 (fun x => z_T g d 167 29 ls (.int x :: st) h P) := zt_getI zi_167_26 ((congrArg (fun o => z_fl o 76) zo_167).trans zf_LatinRectanglesModel_76)
theorem zi_167_29 : z_ins 167 29 = some (.if_icmp .ge 14, 3) := by decide +kernel
theorem ze_167_29 : z_T g d 167 29 ls (.int y :: .int x :: st) h P = (if x < y then z_T g d 167 32 ls st h P else z_T g d 167 43 ls st h P) := zt_icmpge zi_167_29 (by decide)
theorem zi_167_32 : z_ins 167 32 = some (.aload_n 0, 1) := by decide +kernel
theorem ze_167_32 : z_T g d 167 32 (.ref a :: ls) st h P = z_T g d 167 33 (.ref a :: ls) (.ref a :: st) h P := zt_aloadn zi_167_32 rfl rfl
theorem zi_167_33 : z_ins 167 33 = some (.getfield 22, 3) := by decide +kernel
theorem ze_167_33 : z_T g d 167 33 ls (.ref a :: st) h P = z_gR h.1 a 10 11 (fun x => z_T g d 167 36 ls (.ref x :: st) h P) := zt_getR zi_167_33 ((congrArg (fun o => z_fl o 22) zo_167).trans zf_LatinRectanglesModel_22)
theorem zi_167_36 : z_ins 167 36 = some (.iload 4, 2) := by decide +kernel
theorem ze_167_36 : z_T g d 167 36 (v0 :: v1 :: v2 :: v3 :: .int x :: ls) st h P = z_T g d 167 38 (v0 :: v1 :: v2 :: v3 :: .int x :: ls) (.int x :: st) h P := zt_iload zi_167_36 rfl
theorem zi_167_38 : z_ins 167 38 = some (.iaload, 1) := by decide +kernel
theorem ze_167_38 : z_T g d 167 38 ls (.int x :: .ref a :: st) h P = z_aL h.1 a z_tI x (fun v => z_T g d 167 39 ls (.int v :: st) h P) := zt_iaload zi_167_38
theorem zi_167_39 : z_ins 167 39 = some (.iconst (-1), 1) := by decide +kernel
theorem ze_167_39 : z_T g d 167 39 ls st h P = z_T g d 167 40 ls (.int (-1) :: st) h P := zt_iconst zi_167_39 rfl
theorem zi_167_40 : z_ins 167 40 = some (.if_icmp .eq 9, 3) := by decide +kernel
theorem ze_167_40 : z_T g d 167 40 ls (.int y :: .int x :: st) h P = (if x = y then z_T g d 167 49 ls st h P else z_T g d 167 43 ls st h P) := zt_icmpeq zi_167_40 (by decide)
theorem zi_167_43 : z_ins 167 43 = some (.iinc 4 1, 3) := by decide +kernel
theorem ze_167_43 : z_T g d 167 43 (v0 :: v1 :: v2 :: v3 :: .int x :: ls) st h P = z_T g d 167 46 (v0 :: v1 :: v2 :: v3 :: .int (x + (nI 1)) :: ls) st h P := zt_iinc zi_167_43 rfl rfl
theorem zi_167_46 : z_ins 167 46 = some (.goto (-43), 3) := by decide +kernel
theorem ze_167_46 : z_T g d 167 46 ls st h P = z_T g d 167 3 ls st h P := zt_goto zi_167_46 (by decide)
theorem zi_167_49 : z_ins 167 49 = some (.iload 4, 2) := by decide +kernel
theorem ze_167_49 : z_T g d 167 49 (v0 :: v1 :: v2 :: v3 :: .int x :: ls) st h P = z_T g d 167 51 (v0 :: v1 :: v2 :: v3 :: .int x :: ls) (.int x :: st) h P := zt_iload zi_167_49 rfl
theorem zi_167_51 : z_ins 167 51 = some (.bipush 25, 2) := by decide +kernel
theorem ze_167_51 : z_T g d 167 51 ls st h P = z_T g d 167 53 ls (.int (nI 25) :: st) h P := zt_bipush zi_167_51 rfl
theorem zi_167_53 : z_ins 167 53 = some (.if_icmp .ne 39, 3) := by decide +kernel
theorem ze_167_53 : z_T g d 167 53 ls (.int y :: .int x :: st) h P = (if x = y then z_T g d 167 56 ls st h P else z_T g d 167 92 ls st h P) := zt_icmpne zi_167_53 (by decide)
theorem zi_167_56 : z_ins 167 56 = some (.iconst 0, 1) := by decide +kernel
theorem ze_167_56 : z_T g d 167 56 ls st h P = z_T g d 167 57 ls (.int (nI 0) :: st) h P := zt_iconst zi_167_56 rfl
theorem zi_167_57 : z_ins 167 57 = some (.istore 5, 2) := by decide +kernel
theorem ze_167_57 : z_T g d 167 57 (v0 :: v1 :: v2 :: v3 :: v4 :: v5 :: ls) (.int x :: st) h P = z_T g d 167 59 (v0 :: v1 :: v2 :: v3 :: v4 :: .int x :: ls) st h P := zt_istore zi_167_57 (Nat.le_add_left 6 _)
theorem zi_167_59 : z_ins 167 59 = some (.iload 5, 2) := by decide +kernel
theorem ze_167_59 : z_T g d 167 59 (v0 :: v1 :: v2 :: v3 :: v4 :: .int x :: ls) st h P = z_T g d 167 61 (v0 :: v1 :: v2 :: v3 :: v4 :: .int x :: ls) (.int x :: st) h P := zt_iload zi_167_59 rfl
theorem zi_167_61 : z_ins 167 61 = some (.bipush 25, 2) := by decide +kernel
theorem ze_167_61 : z_T g d 167 61 ls st h P = z_T g d 167 63 ls (.int (nI 25) :: st) h P := zt_bipush zi_167_61 rfl
theorem zi_167_63 : z_ins 167 63 = some (.if_icmp .ge 27, 3) := by decide +kernel
theorem ze_167_63 : z_T g d 167 63 ls (.int y :: .int x :: st) h P = (if x < y then z_T g d 167 66 ls st h P else z_T g d 167 90 ls st h P) := zt_icmpge zi_167_63 (by decide)
theorem zi_167_66 : z_ins 167 66 = some (.iload_n 3, 1) := by decide +kernel
theorem ze_167_66 : z_T g d 167 66 (v0 :: v1 :: v2 :: .int x :: ls) st h P = z_T g d 167 67 (v0 :: v1 :: v2 :: .int x :: ls) (.int x :: st) h P := zt_iloadn zi_167_66 rfl rfl
theorem zi_167_67 : z_ins 167 67 = some (.ifCond .eq 23, 3) := by decide +kernel
theorem ze_167_67 : z_T g d 167 67 ls (.int x :: st) h P = (if x = nI 0 then z_T g d 167 90 ls st h P else z_T g d 167 70 ls st h P) := zt_ifeq zi_167_67 (by decide)
theorem zi_167_70 : z_ins 167 70 = some (.aload_n 0, 1) := by decide +kernel
theorem ze_167_70 : z_T g d 167 70 (.ref a :: ls) st h P = z_T g d 167 71 (.ref a :: ls) (.ref a :: st) h P := zt_aloadn zi_167_70 rfl rfl
theorem zi_167_71 : z_ins 167 71 = some (.getfield 33, 3) := by decide +kernel
theorem ze_167_71 : z_T g d 167 71 ls (.ref a :: st) h P = z_gR h.1 a 10 22 (fun x => z_T g d 167 74 ls (.ref x :: st) h P) := zt_getR zi_167_71 ((congrArg (fun o => z_fl o 33) zo_167).trans zf_LatinRectanglesModel_33)
theorem zi_167_74 : z_ins 167 74 = some (.iload 5, 2) := by decide +kernel
theorem ze_167_74 : z_T g d 167 74 (v0 :: v1 :: v2 :: v3 :: v4 :: .int x :: ls) st h P = z_T g d 167 76 (v0 :: v1 :: v2 :: v3 :: v4 :: .int x :: ls) (.int x :: st) h P := zt_iload zi_167_74 rfl
theorem zi_167_76 : z_ins 167 76 = some (.aload_n 0, 1) := by decide +kernel
theorem ze_167_76 : z_T g d 167 76 (.ref a :: ls) st h P = z_T g d 167 77 (.ref a :: ls) (.ref a :: st) h P := zt_aloadn zi_167_76 rfl rfl
theorem zi_167_77 : z_ins 167 77 = some (.getfield 22, 3) := by decide +kernel
theorem ze_167_77 : z_T g d 167 77 ls (.ref a :: st) h P = z_gR h.1 a 10 11 (fun x => z_T g d 167 80 ls (.ref x :: st) h P) := zt_getR zi_167_77 ((congrArg (fun o => z_fl o 22) zo_167).trans zf_LatinRectanglesModel_22)
theorem zi_167_80 : z_ins 167 80 = some (.iload 5, 2) := by decide +kernel
theorem ze_167_80 : z_T g d 167 80 (v0 :: v1 :: v2 :: v3 :: v4 :: .int x :: ls) st h P = z_T g d 167 82 (v0 :: v1 :: v2 :: v3 :: v4 :: .int x :: ls) (.int x :: st) h P := zt_iload zi_167_80 rfl
theorem zi_167_82 : z_ins 167 82 = some (.iaload, 1) := by decide +kernel
theorem ze_167_82 : z_T g d 167 82 ls (.int x :: .ref a :: st) h P = z_aL h.1 a z_tI x (fun v => z_T g d 167 83 ls (.int v :: st) h P) := zt_iaload zi_167_82
theorem zi_167_83 : z_ins 167 83 = some (.iastore, 1) := by decide +kernel
theorem ze_167_83 : z_T g d 167 83 ls (.int y :: .int x :: .ref a :: st) h P = z_aS h.1 a z_tI x y (fun f => z_T g d 167 84 ls st (f, h.2) P) := zt_iastore zi_167_83
theorem zi_167_84 : z_ins 167 84 = some (.iinc 5 1, 3) := by decide +kernel
theorem ze_167_84 : z_T g d 167 84 (v0 :: v1 :: v2 :: v3 :: v4 :: .int x :: ls) st h P = z_T g d 167 87 (v0 :: v1 :: v2 :: v3 :: v4 :: .int (x + (nI 1)) :: ls) st h P := zt_iinc zi_167_84 rfl rfl
theorem zi_167_87 : z_ins 167 87 = some (.goto (-28), 3) := by decide +kernel
theorem ze_167_87 : z_T g d 167 87 ls st h P = z_T g d 167 59 ls st h P := zt_goto zi_167_87 (by decide)
theorem zi_167_90 : z_ins 167 90 = some (.iconst 1, 1) := by decide +kernel
theorem ze_167_90 : z_T g d 167 90 ls st h P = z_T g d 167 91 ls (.int (nI 1) :: st) h P := zt_iconst zi_167_90 rfl
theorem zi_167_91 : z_ins 167 91 = some (.ireturn, 1) := by decide +kernel
theorem ze_167_91 : z_T g d 167 91 ls [.int x] h P = P (.inr (some (.int x)), h) := zt_ireturn zi_167_91 zr_167
theorem zi_167_92 : z_ins 167 92 = some (.iconst 0, 1) := by decide +kernel
theorem ze_167_92 : z_T g d 167 92 ls st h P = z_T g d 167 93 ls (.int (nI 0) :: st) h P := zt_iconst zi_167_92 rfl
theorem zi_167_93 : z_ins 167 93 = some (.istore 5, 2) := by decide +kernel
theorem ze_167_93 : z_T g d 167 93 (v0 :: v1 :: v2 :: v3 :: v4 :: v5 :: ls) (.int x :: st) h P = z_T g d 167 95 (v0 :: v1 :: v2 :: v3 :: v4 :: .int x :: ls) st h P := zt_istore zi_167_93 (Nat.le_add_left 6 _)
theorem zi_167_95 : z_ins 167 95 = some (.aload_n 0, 1) := by decide +kernel
theorem ze_167_95 : z_T g d 167 95 (.ref a :: ls) st h P = z_T g d 167 96 (.ref a :: ls) (.ref a :: st) h P := zt_aloadn zi_167_95 rfl rfl
theorem zi_167_96 : z_ins 167 96 = some (.iload 4, 2) := by decide +kernel
theorem ze_167_96 : z_T g d 167 96 (v0 :: v1 :: v2 :: v3 :: .int x :: ls) st h P = z_T g d 167 98 (v0 :: v1 :: v2 :: v3 :: .int x :: ls) (.int x :: st) h P := zt_iload zi_167_96 rfl
theorem zi_167_98 : z_ins 167 98 = some (.iconst 5, 1) := by decide +kernel
theorem ze_167_98 : z_T g d 167 98 ls st h P = z_T g d 167 99 ls (.int (nI 5) :: st) h P := zt_iconst zi_167_98 rfl
theorem zi_167_99 : z_ins 167 99 = some (.idiv, 1) := by decide +kernel
theorem ze_167_99 : z_T g d 167 99 ls (.int y :: .int x :: st) h P = (¬ y = nI 0 ∧ z_T g d 167 100 ls (.int (x / y) :: st) h P) := zt_idiv zi_167_99
theorem zi_167_100 : z_ins 167 100 = some (.iload 4, 2) := by decide +kernel
theorem ze_167_100 : z_T g d 167 100 (v0 :: v1 :: v2 :: v3 :: .int x :: ls) st h P = z_T g d 167 102 (v0 :: v1 :: v2 :: v3 :: .int x :: ls) (.int x :: st) h P := zt_iload zi_167_100 rfl
theorem zi_167_102 : z_ins 167 102 = some (.iconst 5, 1) := by decide +kernel
theorem ze_167_102 : z_T g d 167 102 ls st h P = z_T g d 167 103 ls (.int (nI 5) :: st) h P := zt_iconst zi_167_102 rfl
theorem zi_167_103 : z_ins 167 103 = some (.irem, 1) := by decide +kernel
theorem ze_167_103 : z_T g d 167 103 ls (.int y :: .int x :: st) h P = (¬ y = nI 0 ∧ z_T g d 167 104 ls (.int (x - x / y * y) :: st) h P) := zt_irem zi_167_103
theorem zi_167_104 : z_ins 167 104 = some (.invokevirtual 183, 3) := by decide +kernel
theorem ze_167_104 : z_T g d 167 104 ls (.int x1 :: .int x0 :: .ref a :: st) h P = ((z_okS 8 st = true ∧ z_gO h.1 a 10 ∧ 0 < d) ∧ z_Ca g (d - 1) 149 [.ref a, .int x0, .int x1] h (fun r => z_k r (fun v h' => z_T g d 167 107 ls (z_push v st) h' P) P)) := zt_callV (as := [.int x0, .int x1]) zi_167_104 ((congrArg (fun o => z_lookup z_prs (o, 183)) zo_167).trans zp_LatinRectanglesModel_183) ((congrArg (fun o => z_clk o 183) zo_167).trans zk_LatinRectanglesModel_183) zh_167 zc_149 rfl rfl rfl
theorem zi_167_107 : z_ins 167 107 = some (.istore 6, 2) := by decide +kernel
theorem ze_167_107 : z_T g d 167 107 (v0 :: v1 :: v2 :: v3 :: v4 :: v5 :: v6 :: ls) (.int x :: st) h P = z_T g d 167 109 (v0 :: v1 :: v2 :: v3 :: v4 :: v5 :: .int x :: ls) st h P := zt_istore zi_167_107 (Nat.le_add_left 7 _)
theorem zi_167_109 : z_ins 167 109 = some (.iconst 0, 1) := by decide +kernel
theorem ze_167_109 : z_T g d 167 109 ls st h P = z_T g d 167 110 ls (.int (nI 0) :: st) h P := zt_iconst zi_167_109 rfl
theorem zi_167_110 : z_ins 167 110 = some (.istore 7, 2) := by decide +kernel
theorem ze_167_110 : z_T g d 167 110 (v0 :: v1 :: v2 :: v3 :: v4 :: v5 :: v6 :: v7 :: ls) (.int x :: st) h P = z_T g d 167 112 (v0 :: v1 :: v2 :: v3 :: v4 :: v5 :: v6 :: .int x :: ls) st h P := zt_istore zi_167_110 (Nat.le_add_left 8 _)
theorem zi_167_112 : z_ins 167 112 = some (.iload 7, 2) := by decide +kernel
theorem ze_167_112 : z_T g d 167 112 (v0 :: v1 :: v2 :: v3 :: v4 :: v5 :: v6 :: .int x :: ls) st h P = z_T g d 167 114 (v0 :: v1 :: v2 :: v3 :: v4 :: v5 :: v6 :: .int x :: ls) (.int x :: st) h P := zt_iload zi_167_112 rfl
theorem zi_167_114 : z_ins 167 114 = some (.aload_n 0, 1) := by decide +kernel
theorem ze_167_114 : z_T g d 167 114 (.ref a :: ls) st h P = z_T g d 167 115 (.ref a :: ls) (.ref a :: st) h P := zt_aloadn zi_167_114 rfl rfl
theorem zi_167_115 : z_ins 167 115 = some (.getfield 76, 3) := by decide +kernel
theorem ze_167_115 : z_T g d 167 115 ls (.ref a :: st) h P = z_gI h.1 a 10 2 (fun x => z_T g d 167 118 ls (.int x :: st) h P) := zt_getI zi_167_115 ((congrArg (fun o => z_fl o 76) zo_167).trans zf_LatinRectanglesModel_76)
theorem zi_167_118 : z_ins 167 118 = some (.if_icmp .ge 74, 3) := by decide +kernel
theorem ze_167_118 : z_T g d 167 118 ls (.int y :: .int x :: st) h P = (if x < y then z_T g d 167 121 ls st h P else z_T g d 167 192 ls st h P) := zt_icmpge zi_167_118 (by decide)
theorem zi_167_121 : z_ins 167 121 = some (.iload 5, 2) := by decide +kernel
theorem ze_167_121 : z_T g d 167 121 (v0 :: v1 :: v2 :: v3 :: v4 :: .int x :: ls) st h P = z_T g d 167 123 (v0 :: v1 :: v2 :: v3 :: v4 :: .int x :: ls) (.int x :: st) h P := zt_iload zi_167_121 rfl
theorem zi_167_123 : z_ins 167 123 = some (.iload_n 2, 1) := by decide +kernel
theorem ze_167_123 : z_T g d 167 123 (v0 :: v1 :: .int x :: ls) st h P = z_T g d 167 124 (v0 :: v1 :: .int x :: ls) (.int x :: st) h P := zt_iloadn zi_167_123 rfl rfl
theorem zi_167_124 : z_ins 167 124 = some (.if_icmp .ge 68, 3) := by decide +kernel
theorem ze_167_124 : z_T g d 167 124 ls (.int y :: .int x :: st) h P = (if x < y then z_T g d 167 127 ls st h P else z_T g d 167 192 ls st h P) := zt_icmpge zi_167_124 (by decide)
theorem zi_167_127 : z_ins 167 127 = some (.iload 6, 2) := by decide +kernel
theorem ze_167_127 : z_T g d 167 127 (v0 :: v1 :: v2 :: v3 :: v4 :: v5 :: .int x :: ls) st h P = z_T g d 167 129 (v0 :: v1 :: v2 :: v3 :: v4 :: v5 :: .int x :: ls) (.int x :: st) h P := zt_iload zi_167_127 rfl
theorem zi_167_129 : z_ins 167 129 = some (.iload 7, 2) := by decide +kernel
theorem ze_167_129 : z_T g d 167 129 (v0 :: v1 :: v2 :: v3 :: v4 :: v5 :: v6 :: .int x :: ls) st h P = z_T g d 167 131 (v0 :: v1 :: v2 :: v3 :: v4 :: v5 :: v6 :: .int x :: ls) (.int x :: st) h P := zt_iload zi_167_129 rfl
theorem zi_167_131 : z_ins 167 131 = some (.ishr, 1) := by decide +kernel
theorem ze_167_131 : z_T g d 167 131 ls (.int y :: .int x :: st) h P = z_T g d 167 132 ls (.int (x >>> (y &&& 31)) :: st) h P := zt_bin (f := fun x y => x >>> (y &&& 31)) zi_167_131 rfl (fun _ _ _ => rfl)
theorem zi_167_132 : z_ins 167 132 = some (.iconst 1, 1) := by decide +kernel
theorem ze_167_132 : z_T g d 167 132 ls st h P = z_T g d 167 133 ls (.int (nI 1) :: st) h P := zt_iconst zi_167_132 rfl
theorem zi_167_133 : z_ins 167 133 = some (.iand, 1) := by decide +kernel
theorem ze_167_133 : z_T g d 167 133 ls (.int y :: .int x :: st) h P = z_T g d 167 134 ls (.int (x &&& y) :: st) h P := zt_bin (f := fun x y => x &&& y) zi_167_133 rfl (fun _ _ _ => rfl)
theorem zi_167_134 : z_ins 167 134 = some (.iconst 1, 1) := by decide +kernel
theorem ze_167_134 : z_T g d 167 134 ls st h P = z_T g d 167 135 ls (.int (nI 1) :: st) h P := zt_iconst zi_167_134 rfl
theorem zi_167_135 : z_ins 167 135 = some (.if_icmp .ne 51, 3) := by decide +kernel
theorem ze_167_135 : z_T g d 167 135 ls (.int y :: .int x :: st) h P = (if x = y then z_T g d 167 138 ls st h P else z_T g d 167 186 ls st h P) := zt_icmpne zi_167_135 (by decide)
theorem zi_167_138 : z_ins 167 138 = some (.aload_n 0, 1) := by decide +kernel
theorem ze_167_138 : z_T g d 167 138 (.ref a :: ls) st h P = z_T g d 167 139 (.ref a :: ls) (.ref a :: st) h P := zt_aloadn zi_167_138 rfl rfl
theorem zi_167_139 : z_ins 167 139 = some (.getfield 22, 3) := by decide +kernel
theorem ze_167_139 : z_T g d 167 139 ls (.ref a :: st) h P = z_gR h.1 a 10 11 (fun x => z_T g d 167 142 ls (.ref x :: st) h P) := zt_getR zi_167_139 ((congrArg (fun o => z_fl o 22) zo_167).trans zf_LatinRectanglesModel_22)
theorem zi_167_142 : z_ins 167 142 = some (.iload 4, 2) := by decide +kernel
theorem ze_167_142 : z_T g d 167 142 (v0 :: v1 :: v2 :: v3 :: .int x :: ls) st h P = z_T g d 167 144 (v0 :: v1 :: v2 :: v3 :: .int x :: ls) (.int x :: st) h P := zt_iload zi_167_142 rfl
theorem zi_167_144 : z_ins 167 144 = some (.iload 7, 2) := by decide +kernel
theorem ze_167_144 : z_T g d 167 144 (v0 :: v1 :: v2 :: v3 :: v4 :: v5 :: v6 :: .int x :: ls) st h P = z_T g d 167 146 (v0 :: v1 :: v2 :: v3 :: v4 :: v5 :: v6 :: .int x :: ls) (.int x :: st) h P := zt_iload zi_167_144 rfl
theorem zi_167_146 : z_ins 167 146 = some (.iastore, 1) := by decide +kernel
theorem ze_167_146 : z_T g d 167 146 ls (.int y :: .int x :: .ref a :: st) h P = z_aS h.1 a z_tI x y (fun f => z_T g d 167 147 ls st (f, h.2) P) := zt_iastore zi_167_146
theorem zi_167_147 : z_ins 167 147 = some (.iload 5, 2) := by decide +kernel
theorem ze_167_147 : z_T g d 167 147 (v0 :: v1 :: v2 :: v3 :: v4 :: .int x :: ls) st h P = z_T g d 167 149 (v0 :: v1 :: v2 :: v3 :: v4 :: .int x :: ls) (.int x :: st) h P := zt_iload zi_167_147 rfl
theorem zi_167_149 : z_ins 167 149 = some (.aload_n 0, 1) := by decide +kernel
theorem ze_167_149 : z_T g d 167 149 (.ref a :: ls) st h P = z_T g d 167 150 (.ref a :: ls) (.ref a :: st) h P := zt_aloadn zi_167_149 rfl rfl
theorem zi_167_150 : z_ins 167 150 = some (.iload 4, 2) := by decide +kernel
theorem ze_167_150 : z_T g d 167 150 (v0 :: v1 :: v2 :: v3 :: .int x :: ls) st h P = z_T g d 167 152 (v0 :: v1 :: v2 :: v3 :: .int x :: ls) (.int x :: st) h P := zt_iload zi_167_150 rfl
theorem zi_167_152 : z_ins 167 152 = some (.iconst 1, 1) := by decide +kernel
theorem ze_167_152 : z_T g d 167 152 ls st h P = z_T g d 167 153 ls (.int (nI 1) :: st) h P := zt_iconst zi_167_152 rfl
theorem zi_167_153 : z_ins 167 153 = some (.iadd, 1) := by decide +kernel
theorem ze_167_153 : z_T g d 167 153 ls (.int y :: .int x :: st) h P = z_T g d 167 154 ls (.int (x + y) :: st) h P := zt_bin (f := fun x y => x + y) zi_167_153 rfl (fun _ _ _ => rfl)
theorem zi_167_154 : z_ins 167 154 = some (.iload_n 2, 1) := by decide +kernel
theorem ze_167_154 : z_T g d 167 154 (v0 :: v1 :: .int x :: ls) st h P = z_T g d 167 155 (v0 :: v1 :: .int x :: ls) (.int x :: st) h P := zt_iloadn zi_167_154 rfl rfl
theorem zi_167_155 : z_ins 167 155 = some (.iload 5, 2) := by decide +kernel
theorem ze_167_155 : z_T g d 167 155 (v0 :: v1 :: v2 :: v3 :: v4 :: .int x :: ls) st h P = z_T g d 167 157 (v0 :: v1 :: v2 :: v3 :: v4 :: .int x :: ls) (.int x :: st) h P := zt_iload zi_167_155 rfl
theorem zi_167_157 : z_ins 167 157 = some (.isub, 1) := by decide +kernel
theorem ze_167_157 : z_T g d 167 157 ls (.int y :: .int x :: st) h P = z_T g d 167 158 ls (.int (x - y) :: st) h P := zt_bin (f := fun x y => x - y) zi_167_157 rfl (fun _ _ _ => rfl)
theorem zi_167_158 : z_ins 167 158 = some (.iload_n 3, 1) := by decide +kernel
theorem ze_167_158 : z_T g d 167 158 (v0 :: v1 :: v2 :: .int x :: ls) st h P = z_T g d 167 159 (v0 :: v1 :: v2 :: .int x :: ls) (.int x :: st) h P := zt_iloadn zi_167_158 rfl rfl
theorem zi_167_159 : z_ins 167 159 = some (.ifCond .eq 12, 3) := by decide +kernel
theorem ze_167_159 : z_T g d 167 159 ls (.int x :: st) h P = (if x = nI 0 then z_T g d 167 171 ls st h P else z_T g d 167 162 ls st h P) := zt_ifeq zi_167_159 (by decide)
theorem zi_167_162 : z_ins 167 162 = some (.iload 5, 2) := by decide +kernel
theorem ze_167_162 : z_T g d 167 162 (v0 :: v1 :: v2 :: v3 :: v4 :: .int x :: ls) st h P = z_T g d 167 164 (v0 :: v1 :: v2 :: v3 :: v4 :: .int x :: ls) (.int x :: st) h P := zt_iload zi_167_162 rfl
theorem zi_167_164 : z_ins 167 164 = some (.ifCond .ne 7, 3) := by decide +kernel
theorem ze_167_164 : z_T g d 167 164 ls (.int x :: st) h P = (if x = nI 0 then z_T g d 167 167 ls st h P else z_T g d 167 171 ls st h P) := zt_ifne zi_167_164 (by decide)
theorem zi_167_167 : z_ins 167 167 = some (.iconst 1, 1) := by decide +kernel
theorem ze_167_167 : z_T g d 167 167 ls st h P = z_T g d 167 168 ls (.int (nI 1) :: st) h P := zt_iconst zi_167_167 rfl
theorem zi_167_168 : z_ins 167 168 = some (.goto 4, 3) := by decide +kernel
theorem ze_167_168 : z_T g d 167 168 ls st h P = z_T g d 167 172 ls st h P := zt_goto zi_167_168 (by decide)
theorem zi_167_171 : z_ins 167 171 = some (.iconst 0, 1) := by decide +kernel
theorem ze_167_171 : z_T g d 167 171 ls st h P = z_T g d 167 172 ls (.int (nI 0) :: st) h P := zt_iconst zi_167_171 rfl
theorem zi_167_172 : z_ins 167 172 = some (.invokevirtual 223, 3) := by decide +kernel
theorem ze_167_172 : z_T g d 167 172 ls (.int x2 :: .int x1 :: .int x0 :: .ref a :: st) h P = ((z_okS 8 st = true ∧ z_gO h.1 a 10 ∧ 0 < d) ∧ z_Ca g (d - 1) 167 [.ref a, .int x0, .int x1, .int x2] h (fun r => z_k r (fun v h' => z_T g d 167 175 ls (z_push v st) h' P) P)) := zt_callV (as := [.int x0, .int x1, .int x2]) zi_167_172 ((congrArg (fun o => z_lookup z_prs (o, 223)) zo_167).trans zp_LatinRectanglesModel_223) ((congrArg (fun o => z_clk o 223) zo_167).trans zk_LatinRectanglesModel_223) zh_167 zc_167 rfl rfl rfl
theorem zi_167_175 : z_ins 167 175 = some (.iadd, 1) := by decide +kernel
theorem ze_167_175 : z_T g d 167 175 ls (.int y :: .int x :: st) h P = z_T g d 167 176 ls (.int (x + y) :: st) h P := zt_bin (f := fun x y => x + y) zi_167_175 rfl (fun _ _ _ => rfl)
theorem zi_167_176 : z_ins 167 176 = some (.istore 5, 2) := by decide +kernel
theorem ze_167_176 : z_T g d 167 176 (v0 :: v1 :: v2 :: v3 :: v4 :: v5 :: ls) (.int x :: st) h P = z_T g d 167 178 (v0 :: v1 :: v2 :: v3 :: v4 :: .int x :: ls) st h P := zt_istore zi_167_176 (Nat.le_add_left 6 _)
theorem zi_167_178 : z_ins 167 178 = some (.aload_n 0, 1) := by decide +kernel
theorem ze_167_178 : z_T g d 167 178 (.ref a :: ls) st h P = z_T g d 167 179 (.ref a :: ls) (.ref a :: st) h P := zt_aloadn zi_167_178 rfl rfl
theorem zi_167_179 : z_ins 167 179 = some (.getfield 22, 3) := by decide +kernel
theorem ze_167_179 : z_T g d 167 179 ls (.ref a :: st) h P = z_gR h.1 a 10 11 (fun x => z_T g d 167 182 ls (.ref x :: st) h P) := zt_getR zi_167_179 ((congrArg (fun o => z_fl o 22) zo_167).trans zf_LatinRectanglesModel_22)
theorem zi_167_182 : z_ins 167 182 = some (.iload 4, 2) := by decide +kernel
theorem ze_167_182 : z_T g d 167 182 (v0 :: v1 :: v2 :: v3 :: .int x :: ls) st h P = z_T g d 167 184 (v0 :: v1 :: v2 :: v3 :: .int x :: ls) (.int x :: st) h P := zt_iload zi_167_182 rfl
theorem zi_167_184 : z_ins 167 184 = some (.iconst (-1), 1) := by decide +kernel
theorem ze_167_184 : z_T g d 167 184 ls st h P = z_T g d 167 185 ls (.int (-1) :: st) h P := zt_iconst zi_167_184 rfl
theorem zi_167_185 : z_ins 167 185 = some (.iastore, 1) := by decide +kernel
theorem ze_167_185 : z_T g d 167 185 ls (.int y :: .int x :: .ref a :: st) h P = z_aS h.1 a z_tI x y (fun f => z_T g d 167 186 ls st (f, h.2) P) := zt_iastore zi_167_185
theorem zi_167_186 : z_ins 167 186 = some (.iinc 7 1, 3) := by decide +kernel
theorem ze_167_186 : z_T g d 167 186 (v0 :: v1 :: v2 :: v3 :: v4 :: v5 :: v6 :: .int x :: ls) st h P = z_T g d 167 189 (v0 :: v1 :: v2 :: v3 :: v4 :: v5 :: v6 :: .int (x + (nI 1)) :: ls) st h P := zt_iinc zi_167_186 rfl rfl
theorem zi_167_189 : z_ins 167 189 = some (.goto (-77), 3) := by decide +kernel
theorem ze_167_189 : z_T g d 167 189 ls st h P = z_T g d 167 112 ls st h P := zt_goto zi_167_189 (by decide)
theorem zi_167_192 : z_ins 167 192 = some (.iload 5, 2) := by decide +kernel
theorem ze_167_192 : z_T g d 167 192 (v0 :: v1 :: v2 :: v3 :: v4 :: .int x :: ls) st h P = z_T g d 167 194 (v0 :: v1 :: v2 :: v3 :: v4 :: .int x :: ls) (.int x :: st) h P := zt_iload zi_167_192 rfl
theorem zi_167_194 : z_ins 167 194 = some (.ireturn, 1) := by decide +kernel
theorem ze_167_194 : z_T g d 167 194 ls [.int x] h P = P (.inr (some (.int x)), h) := zt_ireturn zi_167_194 zr_167
-- LatinRectanglesModel.completions(I)I
theorem zo_168 : z_own 168 = "LatinRectanglesModel" := by decide +kernel
theorem zm_168 : z_maxL 168 = 2 := by decide +kernel
theorem zh_168 : z_hds 168 = [] := by decide +kernel
theorem zr_168 : z_rt 168 = (some .int) := by decide +kernel
theorem zn_168 : z_Ca g d 168 [.ref a0, .int x1] h P = z_T g d 168 0 [.ref a0, .int x1] [] h P := z_Ca_ent zm_168 rfl rfl
theorem zi_168_0 : z_ins 168 0 = some (.aload_n 0, 1) := by decide +kernel
theorem ze_168_0 : z_T g d 168 0 (.ref a :: ls) st h P = z_T g d 168 1 (.ref a :: ls) (.ref a :: st) h P := zt_aloadn zi_168_0 rfl rfl
theorem zi_168_1 : z_ins 168 1 = some (.iconst 0, 1) := by decide +kernel
theorem ze_168_1 : z_T g d 168 1 ls st h P = z_T g d 168 2 ls (.int (nI 0) :: st) h P := zt_iconst zi_168_1 rfl
theorem zi_168_2 : z_ins 168 2 = some (.putfield 67, 3) := by decide +kernel
theorem ze_168_2 : z_T g d 168 2 ls (.int x :: .ref a :: st) h P = z_pF h.1 a 10 0 (.int x) (fun f => z_T g d 168 5 ls st (f, h.2) P) := zt_putI zi_168_2 ((congrArg (fun o => z_fl o 67) zo_168).trans zf_LatinRectanglesModel_67)
theorem zi_168_5 : z_ins 168 5 = some (.aload_n 0, 1) := by decide +kernel
theorem ze_168_5 : z_T g d 168 5 (.ref a :: ls) st h P = z_T g d 168 6 (.ref a :: ls) (.ref a :: st) h P := zt_aloadn zi_168_5 rfl rfl
theorem zi_168_6 : z_ins 168 6 = some (.iload_n 1, 1) := by decide +kernel
theorem ze_168_6 : z_T g d 168 6 (v0 :: .int x :: ls) st h P = z_T g d 168 7 (v0 :: .int x :: ls) (.int x :: st) h P := zt_iloadn zi_168_6 rfl rfl
theorem zi_168_7 : z_ins 168 7 = some (.iconst 1, 1) := by decide +kernel
theorem ze_168_7 : z_T g d 168 7 ls st h P = z_T g d 168 8 ls (.int (nI 1) :: st) h P := zt_iconst zi_168_7 rfl
theorem zi_168_8 : z_ins 168 8 = some (.sipush 1000, 3) := by decide +kernel
theorem ze_168_8 : z_T g d 168 8 ls st h P = z_T g d 168 11 ls (.int (nI 1000) :: st) h P := zt_sipush zi_168_8 rfl
theorem zi_168_11 : z_ins 168 11 = some (.invokestatic 111, 3) := by decide +kernel
theorem ze_168_11 : z_T g d 168 11 ls (.int x2 :: .int x1 :: .int x0 :: st) h P = ((z_okS 8 st = true ∧ 0 < d) ∧ z_Ca g (d - 1) 122 [.int x0, .int x1, .int x2] h (fun r => z_k r (fun v h' => z_T g d 168 14 ls (z_push v st) h' P) P)) := zt_callS0 (as := [.int x0, .int x1, .int x2]) zi_168_11 ((congrArg (fun o => z_lookup z_prs (o, 111)) zo_168).trans zp_LatinRectanglesModel_111) ((congrArg (fun o => z_clk o 111) zo_168).trans zk_LatinRectanglesModel_111) zh_168 rfl rfl rfl
theorem zi_168_14 : z_ins 168 14 = some (.ifCond .ne 7, 3) := by decide +kernel
theorem ze_168_14 : z_T g d 168 14 ls (.int x :: st) h P = (if x = nI 0 then z_T g d 168 17 ls st h P else z_T g d 168 21 ls st h P) := zt_ifne zi_168_14 (by decide)
theorem zi_168_17 : z_ins 168 17 = some (.iconst 1, 1) := by decide +kernel
theorem ze_168_17 : z_T g d 168 17 ls st h P = z_T g d 168 18 ls (.int (nI 1) :: st) h P := zt_iconst zi_168_17 rfl
theorem zi_168_18 : z_ins 168 18 = some (.goto 4, 3) := by decide +kernel
theorem ze_168_18 : z_T g d 168 18 ls st h P = z_T g d 168 22 ls st h P := zt_goto zi_168_18 (by decide)
theorem zi_168_21 : z_ins 168 21 = some (.iconst 0, 1) := by decide +kernel
theorem ze_168_21 : z_T g d 168 21 ls st h P = z_T g d 168 22 ls (.int (nI 0) :: st) h P := zt_iconst zi_168_21 rfl
theorem zi_168_22 : z_ins 168 22 = some (.iconst 1, 1) := by decide +kernel
theorem ze_168_22 : z_T g d 168 22 ls st h P = z_T g d 168 23 ls (.int (nI 1) :: st) h P := zt_iconst zi_168_22 rfl
theorem zi_168_23 : z_ins 168 23 = some (.invokevirtual 167, 3) := by decide +kernel
theorem ze_168_23 : z_T g d 168 23 ls (.int x1 :: .int x0 :: .ref a :: st) h P = ((z_okS 8 st = true ∧ z_gO h.1 a 10 ∧ 0 < d) ∧ z_Ca g (d - 1) 123 [.ref a, .int x0, .int x1] h (fun r => z_k r (fun v h' => z_T g d 168 26 ls (z_push v st) h' P) P)) := zt_callV (as := [.int x0, .int x1]) zi_168_23 ((congrArg (fun o => z_lookup z_prs (o, 167)) zo_168).trans zp_LatinRectanglesModel_167) ((congrArg (fun o => z_clk o 167) zo_168).trans zk_LatinRectanglesModel_167) zh_168 zc_123 rfl rfl rfl
theorem zi_168_26 : z_ins 168 26 = some (.ifCond .eq 7, 3) := by decide +kernel
theorem ze_168_26 : z_T g d 168 26 ls (.int x :: st) h P = (if x = nI 0 then z_T g d 168 33 ls st h P else z_T g d 168 29 ls st h P) := zt_ifeq zi_168_26 (by decide)
theorem zi_168_29 : z_ins 168 29 = some (.iconst 0, 1) := by decide +kernel
theorem ze_168_29 : z_T g d 168 29 ls st h P = z_T g d 168 30 ls (.int (nI 0) :: st) h P := zt_iconst zi_168_29 rfl
theorem zi_168_30 : z_ins 168 30 = some (.goto 10, 3) := by decide +kernel
theorem ze_168_30 : z_T g d 168 30 ls st h P = z_T g d 168 40 ls st h P := zt_goto zi_168_30 (by decide)
theorem zi_168_33 : z_ins 168 33 = some (.aload_n 0, 1) := by decide +kernel
theorem ze_168_33 : z_T g d 168 33 (.ref a :: ls) st h P = z_T g d 168 34 (.ref a :: ls) (.ref a :: st) h P := zt_aloadn zi_168_33 rfl rfl
theorem zi_168_34 : z_ins 168 34 = some (.iconst 0, 1) := by decide +kernel
theorem ze_168_34 : z_T g d 168 34 ls st h P = z_T g d 168 35 ls (.int (nI 0) :: st) h P := zt_iconst zi_168_34 rfl
theorem zi_168_35 : z_ins 168 35 = some (.iload_n 1, 1) := by decide +kernel
theorem ze_168_35 : z_T g d 168 35 (v0 :: .int x :: ls) st h P = z_T g d 168 36 (v0 :: .int x :: ls) (.int x :: st) h P := zt_iloadn zi_168_35 rfl rfl
theorem zi_168_36 : z_ins 168 36 = some (.iconst 0, 1) := by decide +kernel
theorem ze_168_36 : z_T g d 168 36 ls st h P = z_T g d 168 37 ls (.int (nI 0) :: st) h P := zt_iconst zi_168_36 rfl
theorem zi_168_37 : z_ins 168 37 = some (.invokevirtual 223, 3) := by decide +kernel
theorem ze_168_37 : z_T g d 168 37 ls (.int x2 :: .int x1 :: .int x0 :: .ref a :: st) h P = ((z_okS 8 st = true ∧ z_gO h.1 a 10 ∧ 0 < d) ∧ z_Ca g (d - 1) 167 [.ref a, .int x0, .int x1, .int x2] h (fun r => z_k r (fun v h' => z_T g d 168 40 ls (z_push v st) h' P) P)) := zt_callV (as := [.int x0, .int x1, .int x2]) zi_168_37 ((congrArg (fun o => z_lookup z_prs (o, 223)) zo_168).trans zp_LatinRectanglesModel_223) ((congrArg (fun o => z_clk o 223) zo_168).trans zk_LatinRectanglesModel_223) zh_168 zc_167 rfl rfl rfl
theorem zi_168_40 : z_ins 168 40 = some (.ireturn, 1) := by decide +kernel
theorem ze_168_40 : z_T g d 168 40 ls [.int x] h P = P (.inr (some (.int x)), h) := zt_ireturn zi_168_40 zr_168
-- LatinRectanglesModel.completed(II)I
theorem zo_169 : z_own 169 = "LatinRectanglesModel" := by decide +kernel
theorem zm_169 : z_maxL 169 = 3 := by decide +kernel
theorem zh_169 : z_hds 169 = [] := by decide +kernel
theorem zr_169 : z_rt 169 = (some .int) := by decide +kernel
theorem zn_169 : z_Ca g d 169 [.ref a0, .int x1, .int x2] h P = z_T g d 169 0 [.ref a0, .int x1, .int x2] [] h P := z_Ca_ent zm_169 rfl rfl
theorem zi_169_0 : z_ins 169 0 = some (.aload_n 0, 1) := by decide +kernel
theorem ze_169_0 : z_T g d 169 0 (.ref a :: ls) st h P = z_T g d 169 1 (.ref a :: ls) (.ref a :: st) h P := zt_aloadn zi_169_0 rfl rfl
theorem zi_169_1 : z_ins 169 1 = some (.iload_n 1, 1) := by decide +kernel
theorem ze_169_1 : z_T g d 169 1 (v0 :: .int x :: ls) st h P = z_T g d 169 2 (v0 :: .int x :: ls) (.int x :: st) h P := zt_iloadn zi_169_1 rfl rfl
theorem zi_169_2 : z_ins 169 2 = some (.iload_n 2, 1) := by decide +kernel
theorem ze_169_2 : z_T g d 169 2 (v0 :: v1 :: .int x :: ls) st h P = z_T g d 169 3 (v0 :: v1 :: .int x :: ls) (.int x :: st) h P := zt_iloadn zi_169_2 rfl rfl
theorem zi_169_3 : z_ins 169 3 = some (.invokevirtual 201, 3) := by decide +kernel
theorem ze_169_3 : z_T g d 169 3 ls (.int x1 :: .int x0 :: .ref a :: st) h P = ((z_okS 8 st = true ∧ z_gO h.1 a 10 ∧ 0 < d) ∧ z_Ca g (d - 1) 144 [.ref a, .int x0, .int x1] h (fun r => z_k r (fun v h' => z_T g d 169 6 ls (z_push v st) h' P) P)) := zt_callV (as := [.int x0, .int x1]) zi_169_3 ((congrArg (fun o => z_lookup z_prs (o, 201)) zo_169).trans zp_LatinRectanglesModel_201) ((congrArg (fun o => z_clk o 201) zo_169).trans zk_LatinRectanglesModel_201) zh_169 zc_144 rfl rfl rfl
theorem zi_169_6 : z_ins 169 6 = some (.ifCond .eq 5, 3) := by decide +kernel
theorem ze_169_6 : z_T g d 169 6 ls (.int x :: st) h P = (if x = nI 0 then z_T g d 169 11 ls st h P else z_T g d 169 9 ls st h P) := zt_ifeq zi_169_6 (by decide)
theorem zi_169_9 : z_ins 169 9 = some (.iconst 0, 1) := by decide +kernel
theorem ze_169_9 : z_T g d 169 9 ls st h P = z_T g d 169 10 ls (.int (nI 0) :: st) h P := zt_iconst zi_169_9 rfl
theorem zi_169_10 : z_ins 169 10 = some (.ireturn, 1) := by decide +kernel
theorem ze_169_10 : z_T g d 169 10 ls [.int x] h P = P (.inr (some (.int x)), h) := zt_ireturn zi_169_10 zr_169
theorem zi_169_11 : z_ins 169 11 = some (.aload_n 0, 1) := by decide +kernel
theorem ze_169_11 : z_T g d 169 11 (.ref a :: ls) st h P = z_T g d 169 12 (.ref a :: ls) (.ref a :: st) h P := zt_aloadn zi_169_11 rfl rfl
theorem zi_169_12 : z_ins 169 12 = some (.iconst 0, 1) := by decide +kernel
theorem ze_169_12 : z_T g d 169 12 ls st h P = z_T g d 169 13 ls (.int (nI 0) :: st) h P := zt_iconst zi_169_12 rfl
theorem zi_169_13 : z_ins 169 13 = some (.iconst 1, 1) := by decide +kernel
theorem ze_169_13 : z_T g d 169 13 ls st h P = z_T g d 169 14 ls (.int (nI 1) :: st) h P := zt_iconst zi_169_13 rfl
theorem zi_169_14 : z_ins 169 14 = some (.iconst 1, 1) := by decide +kernel
theorem ze_169_14 : z_T g d 169 14 ls st h P = z_T g d 169 15 ls (.int (nI 1) :: st) h P := zt_iconst zi_169_14 rfl
theorem zi_169_15 : z_ins 169 15 = some (.invokevirtual 223, 3) := by decide +kernel
theorem ze_169_15 : z_T g d 169 15 ls (.int x2 :: .int x1 :: .int x0 :: .ref a :: st) h P = ((z_okS 8 st = true ∧ z_gO h.1 a 10 ∧ 0 < d) ∧ z_Ca g (d - 1) 167 [.ref a, .int x0, .int x1, .int x2] h (fun r => z_k r (fun v h' => z_T g d 169 18 ls (z_push v st) h' P) P)) := zt_callV (as := [.int x0, .int x1, .int x2]) zi_169_15 ((congrArg (fun o => z_lookup z_prs (o, 223)) zo_169).trans zp_LatinRectanglesModel_223) ((congrArg (fun o => z_clk o 223) zo_169).trans zk_LatinRectanglesModel_223) zh_169 zc_167 rfl rfl rfl
theorem zi_169_18 : z_ins 169 18 = some (.ifCond .ne 7, 3) := by decide +kernel
theorem ze_169_18 : z_T g d 169 18 ls (.int x :: st) h P = (if x = nI 0 then z_T g d 169 21 ls st h P else z_T g d 169 25 ls st h P) := zt_ifne zi_169_18 (by decide)
theorem zi_169_21 : z_ins 169 21 = some (.iconst (-1), 1) := by decide +kernel
theorem ze_169_21 : z_T g d 169 21 ls st h P = z_T g d 169 22 ls (.int (-1) :: st) h P := zt_iconst zi_169_21 rfl
theorem zi_169_22 : z_ins 169 22 = some (.goto 13, 3) := by decide +kernel
theorem ze_169_22 : z_T g d 169 22 ls st h P = z_T g d 169 35 ls st h P := zt_goto zi_169_22 (by decide)
theorem zi_169_25 : z_ins 169 25 = some (.aload_n 0, 1) := by decide +kernel
theorem ze_169_25 : z_T g d 169 25 (.ref a :: ls) st h P = z_T g d 169 26 (.ref a :: ls) (.ref a :: st) h P := zt_aloadn zi_169_25 rfl rfl
theorem zi_169_26 : z_ins 169 26 = some (.getfield 33, 3) := by decide +kernel
theorem ze_169_26 : z_T g d 169 26 ls (.ref a :: st) h P = z_gR h.1 a 10 22 (fun x => z_T g d 169 29 ls (.ref x :: st) h P) := zt_getR zi_169_26 ((congrArg (fun o => z_fl o 33) zo_169).trans zf_LatinRectanglesModel_33)
theorem zi_169_29 : z_ins 169 29 = some (.iload_n 1, 1) := by decide +kernel
theorem ze_169_29 : z_T g d 169 29 (v0 :: .int x :: ls) st h P = z_T g d 169 30 (v0 :: .int x :: ls) (.int x :: st) h P := zt_iloadn zi_169_29 rfl rfl
theorem zi_169_30 : z_ins 169 30 = some (.iload_n 2, 1) := by decide +kernel
theorem ze_169_30 : z_T g d 169 30 (v0 :: v1 :: .int x :: ls) st h P = z_T g d 169 31 (v0 :: v1 :: .int x :: ls) (.int x :: st) h P := zt_iloadn zi_169_30 rfl rfl
theorem zi_169_31 : z_ins 169 31 = some (.invokestatic 151, 3) := by decide +kernel
theorem ze_169_31 : z_T g d 169 31 ls (.int x1 :: .int x0 :: st) h P = ((z_okS 8 st = true ∧ 0 < d) ∧ z_Ca g (d - 1) 127 [.int x0, .int x1] h (fun r => z_k r (fun v h' => z_T g d 169 34 ls (z_push v st) h' P) P)) := zt_callS0 (as := [.int x0, .int x1]) zi_169_31 ((congrArg (fun o => z_lookup z_prs (o, 151)) zo_169).trans zp_LatinRectanglesModel_151) ((congrArg (fun o => z_clk o 151) zo_169).trans zk_LatinRectanglesModel_151) zh_169 rfl rfl rfl
theorem zi_169_34 : z_ins 169 34 = some (.iaload, 1) := by decide +kernel
theorem ze_169_34 : z_T g d 169 34 ls (.int x :: .ref a :: st) h P = z_aL h.1 a z_tI x (fun v => z_T g d 169 35 ls (.int v :: st) h P) := zt_iaload zi_169_34
theorem zi_169_35 : z_ins 169 35 = some (.ireturn, 1) := by decide +kernel
theorem ze_169_35 : z_T g d 169 35 ls [.int x] h P = P (.inr (some (.int x)), h) := zt_ireturn zi_169_35 zr_169
-- LatinRectanglesModel.possible(II)I
theorem zo_170 : z_own 170 = "LatinRectanglesModel" := by decide +kernel
theorem zm_170 : z_maxL 170 = 7 := by decide +kernel
theorem zh_170 : z_hds 170 = [] := by decide +kernel
theorem zr_170 : z_rt 170 = (some .int) := by decide +kernel
theorem zn_170 : z_Ca g d 170 [.ref a0, .int x1, .int x2] h P = z_T g d 170 0 [.ref a0, .int x1, .int x2, z_un, z_un, z_un, z_un] [] h P := z_Ca_ent zm_170 rfl rfl
theorem zi_170_0 : z_ins 170 0 = some (.aload_n 0, 1) := by decide +kernel
theorem ze_170_0 : z_T g d 170 0 (.ref a :: ls) st h P = z_T g d 170 1 (.ref a :: ls) (.ref a :: st) h P := zt_aloadn zi_170_0 rfl rfl
theorem zi_170_1 : z_ins 170 1 = some (.iload_n 1, 1) := by decide +kernel
theorem ze_170_1 : z_T g d 170 1 (v0 :: .int x :: ls) st h P = z_T g d 170 2 (v0 :: .int x :: ls) (.int x :: st) h P := zt_iloadn zi_170_1 rfl rfl
theorem zi_170_2 : z_ins 170 2 = some (.iload_n 2, 1) := by decide +kernel
theorem ze_170_2 : z_T g d 170 2 (v0 :: v1 :: .int x :: ls) st h P = z_T g d 170 3 (v0 :: v1 :: .int x :: ls) (.int x :: st) h P := zt_iloadn zi_170_2 rfl rfl
theorem zi_170_3 : z_ins 170 3 = some (.invokevirtual 201, 3) := by decide +kernel
theorem ze_170_3 : z_T g d 170 3 ls (.int x1 :: .int x0 :: .ref a :: st) h P = ((z_okS 8 st = true ∧ z_gO h.1 a 10 ∧ 0 < d) ∧ z_Ca g (d - 1) 144 [.ref a, .int x0, .int x1] h (fun r => z_k r (fun v h' => z_T g d 170 6 ls (z_push v st) h' P) P)) := zt_callV (as := [.int x0, .int x1]) zi_170_3 ((congrArg (fun o => z_lookup z_prs (o, 201)) zo_170).trans zp_LatinRectanglesModel_201) ((congrArg (fun o => z_clk o 201) zo_170).trans zk_LatinRectanglesModel_201) zh_170 zc_144 rfl rfl rfl
theorem zi_170_6 : z_ins 170 6 = some (.ifCond .eq 5, 3) := by decide +kernel
theorem ze_170_6 : z_T g d 170 6 ls (.int x :: st) h P = (if x = nI 0 then z_T g d 170 11 ls st h P else z_T g d 170 9 ls st h P) := zt_ifeq zi_170_6 (by decide)
theorem zi_170_9 : z_ins 170 9 = some (.iconst 0, 1) := by decide +kernel
theorem ze_170_9 : z_T g d 170 9 ls st h P = z_T g d 170 10 ls (.int (nI 0) :: st) h P := zt_iconst zi_170_9 rfl
theorem zi_170_10 : z_ins 170 10 = some (.ireturn, 1) := by decide +kernel
theorem ze_170_10 : z_T g d 170 10 ls [.int x] h P = P (.inr (some (.int x)), h) := zt_ireturn zi_170_10 zr_170
theorem zi_170_11 : z_ins 170 11 = some (.iload_n 1, 1) := by decide +kernel
theorem ze_170_11 : z_T g d 170 11 (v0 :: .int x :: ls) st h P = z_T g d 170 12 (v0 :: .int x :: ls) (.int x :: st) h P := zt_iloadn zi_170_11 rfl rfl
theorem zi_170_12 : z_ins 170 12 = some (.iload_n 2, 1) := by decide +kernel
theorem ze_170_12 : z_T g d 170 12 (v0 :: v1 :: .int x :: ls) st h P = z_T g d 170 13 (v0 :: v1 :: .int x :: ls) (.int x :: st) h P := zt_iloadn zi_170_12 rfl rfl
theorem zi_170_13 : z_ins 170 13 = some (.invokestatic 151, 3) := by decide +kernel
theorem ze_170_13 : z_T g d 170 13 ls (.int x1 :: .int x0 :: st) h P = ((z_okS 8 st = true ∧ 0 < d) ∧ z_Ca g (d - 1) 127 [.int x0, .int x1] h (fun r => z_k r (fun v h' => z_T g d 170 16 ls (z_push v st) h' P) P)) := zt_callS0 (as := [.int x0, .int x1]) zi_170_13 ((congrArg (fun o => z_lookup z_prs (o, 151)) zo_170).trans zp_LatinRectanglesModel_151) ((congrArg (fun o => z_clk o 151) zo_170).trans zk_LatinRectanglesModel_151) zh_170 rfl rfl rfl
theorem zi_170_16 : z_ins 170 16 = some (.istore_n 3, 1) := by decide +kernel
theorem ze_170_16 : z_T g d 170 16 (v0 :: v1 :: v2 :: v3 :: ls) (.int x :: st) h P = z_T g d 170 17 (v0 :: v1 :: v2 :: .int x :: ls) st h P := zt_istoren zi_170_16 rfl (Nat.le_add_left 4 _)
theorem zi_170_17 : z_ins 170 17 = some (.aload_n 0, 1) := by decide +kernel
theorem ze_170_17 : z_T g d 170 17 (.ref a :: ls) st h P = z_T g d 170 18 (.ref a :: ls) (.ref a :: st) h P := zt_aloadn zi_170_17 rfl rfl
theorem zi_170_18 : z_ins 170 18 = some (.getfield 22, 3) := by decide +kernel
theorem ze_170_18 : z_T g d 170 18 ls (.ref a :: st) h P = z_gR h.1 a 10 11 (fun x => z_T g d 170 21 ls (.ref x :: st) h P) := zt_getR zi_170_18 ((congrArg (fun o => z_fl o 22) zo_170).trans zf_LatinRectanglesModel_22)
theorem zi_170_21 : z_ins 170 21 = some (.iload_n 3, 1) := by decide +kernel
theorem ze_170_21 : z_T g d 170 21 (v0 :: v1 :: v2 :: .int x :: ls) st h P = z_T g d 170 22 (v0 :: v1 :: v2 :: .int x :: ls) (.int x :: st) h P := zt_iloadn zi_170_21 rfl rfl
theorem zi_170_22 : z_ins 170 22 = some (.iaload, 1) := by decide +kernel
theorem ze_170_22 : z_T g d 170 22 ls (.int x :: .ref a :: st) h P = z_aL h.1 a z_tI x (fun v => z_T g d 170 23 ls (.int v :: st) h P) := zt_iaload zi_170_22
theorem zi_170_23 : z_ins 170 23 = some (.iconst (-1), 1) := by decide +kernel
theorem ze_170_23 : z_T g d 170 23 ls st h P = z_T g d 170 24 ls (.int (-1) :: st) h P := zt_iconst zi_170_23 rfl
theorem zi_170_24 : z_ins 170 24 = some (.if_icmp .eq 26, 3) := by decide +kernel
theorem ze_170_24 : z_T g d 170 24 ls (.int y :: .int x :: st) h P = (if x = y then z_T g d 170 50 ls st h P else z_T g d 170 27 ls st h P) := zt_icmpeq zi_170_24 (by decide)
theorem zi_170_27 : z_ins 170 27 = some (.aload_n 0, 1) := by decide +kernel
theorem ze_170_27 : z_T g d 170 27 (.ref a :: ls) st h P = z_T g d 170 28 (.ref a :: ls) (.ref a :: st) h P := zt_aloadn zi_170_27 rfl rfl
theorem zi_170_28 : z_ins 170 28 = some (.iconst 0, 1) := by decide +kernel
theorem ze_170_28 : z_T g d 170 28 ls st h P = z_T g d 170 29 ls (.int (nI 0) :: st) h P := zt_iconst zi_170_28 rfl
theorem zi_170_29 : z_ins 170 29 = some (.iconst 1, 1) := by decide +kernel
theorem ze_170_29 : z_T g d 170 29 ls st h P = z_T g d 170 30 ls (.int (nI 1) :: st) h P := zt_iconst zi_170_29 rfl
theorem zi_170_30 : z_ins 170 30 = some (.iconst 0, 1) := by decide +kernel
theorem ze_170_30 : z_T g d 170 30 ls st h P = z_T g d 170 31 ls (.int (nI 0) :: st) h P := zt_iconst zi_170_30 rfl
theorem zi_170_31 : z_ins 170 31 = some (.invokevirtual 223, 3) := by decide +kernel
theorem ze_170_31 : z_T g d 170 31 ls (.int x2 :: .int x1 :: .int x0 :: .ref a :: st) h P = ((z_okS 8 st = true ∧ z_gO h.1 a 10 ∧ 0 < d) ∧ z_Ca g (d - 1) 167 [.ref a, .int x0, .int x1, .int x2] h (fun r => z_k r (fun v h' => z_T g d 170 34 ls (z_push v st) h' P) P)) := zt_callV (as := [.int x0, .int x1, .int x2]) zi_170_31 ((congrArg (fun o => z_lookup z_prs (o, 223)) zo_170).trans zp_LatinRectanglesModel_223) ((congrArg (fun o => z_clk o 223) zo_170).trans zk_LatinRectanglesModel_223) zh_170 zc_167 rfl rfl rfl
theorem zi_170_34 : z_ins 170 34 = some (.ifCond .ne 7, 3) := by decide +kernel
theorem ze_170_34 : z_T g d 170 34 ls (.int x :: st) h P = (if x = nI 0 then z_T g d 170 37 ls st h P else z_T g d 170 41 ls st h P) := zt_ifne zi_170_34 (by decide)
theorem zi_170_37 : z_ins 170 37 = some (.iconst 0, 1) := by decide +kernel
theorem ze_170_37 : z_T g d 170 37 ls st h P = z_T g d 170 38 ls (.int (nI 0) :: st) h P := zt_iconst zi_170_37 rfl
theorem zi_170_38 : z_ins 170 38 = some (.goto 11, 3) := by decide +kernel
theorem ze_170_38 : z_T g d 170 38 ls st h P = z_T g d 170 49 ls st h P := zt_goto zi_170_38 (by decide)
theorem zi_170_41 : z_ins 170 41 = some (.iconst 1, 1) := by decide +kernel
theorem ze_170_41 : z_T g d 170 41 ls st h P = z_T g d 170 42 ls (.int (nI 1) :: st) h P := zt_iconst zi_170_41 rfl
theorem zi_170_42 : z_ins 170 42 = some (.aload_n 0, 1) := by decide +kernel
theorem ze_170_42 : z_T g d 170 42 (.ref a :: ls) st h P = z_T g d 170 43 (.ref a :: ls) (.ref a :: st) h P := zt_aloadn zi_170_42 rfl rfl
theorem zi_170_43 : z_ins 170 43 = some (.getfield 22, 3) := by decide +kernel
theorem ze_170_43 : z_T g d 170 43 ls (.ref a :: st) h P = z_gR h.1 a 10 11 (fun x => z_T g d 170 46 ls (.ref x :: st) h P) := zt_getR zi_170_43 ((congrArg (fun o => z_fl o 22) zo_170).trans zf_LatinRectanglesModel_22)
theorem zi_170_46 : z_ins 170 46 = some (.iload_n 3, 1) := by decide +kernel
theorem ze_170_46 : z_T g d 170 46 (v0 :: v1 :: v2 :: .int x :: ls) st h P = z_T g d 170 47 (v0 :: v1 :: v2 :: .int x :: ls) (.int x :: st) h P := zt_iloadn zi_170_46 rfl rfl
theorem zi_170_47 : z_ins 170 47 = some (.iaload, 1) := by decide +kernel
theorem ze_170_47 : z_T g d 170 47 ls (.int x :: .ref a :: st) h P = z_aL h.1 a z_tI x (fun v => z_T g d 170 48 ls (.int v :: st) h P) := zt_iaload zi_170_47
theorem zi_170_48 : z_ins 170 48 = some (.ishl, 1) := by decide +kernel
theorem ze_170_48 : z_T g d 170 48 ls (.int y :: .int x :: st) h P = z_T g d 170 49 ls (.int (x <<< (y &&& 31)) :: st) h P := zt_bin (f := fun x y => x <<< (y &&& 31)) zi_170_48 rfl (fun _ _ _ => rfl)
theorem zi_170_49 : z_ins 170 49 = some (.ireturn, 1) := by decide +kernel
theorem ze_170_49 : z_T g d 170 49 ls [.int x] h P = P (.inr (some (.int x)), h) := zt_ireturn zi_170_49 zr_170
theorem zi_170_50 : z_ins 170 50 = some (.aload_n 0, 1) := by decide +kernel
theorem ze_170_50 : z_T g d 170 50 (.ref a :: ls) st h P = z_T g d 170 51 (.ref a :: ls) (.ref a :: st) h P := zt_aloadn zi_170_50 rfl rfl
theorem zi_170_51 : z_ins 170 51 = some (.iload_n 1, 1) := by decide +kernel
theorem ze_170_51 : z_T g d 170 51 (v0 :: .int x :: ls) st h P = z_T g d 170 52 (v0 :: .int x :: ls) (.int x :: st) h P := zt_iloadn zi_170_51 rfl rfl
theorem zi_170_52 : z_ins 170 52 = some (.iload_n 2, 1) := by decide +kernel
theorem ze_170_52 : z_T g d 170 52 (v0 :: v1 :: .int x :: ls) st h P = z_T g d 170 53 (v0 :: v1 :: .int x :: ls) (.int x :: st) h P := zt_iloadn zi_170_52 rfl rfl
theorem zi_170_53 : z_ins 170 53 = some (.invokevirtual 183, 3) := by decide +kernel
theorem ze_170_53 : z_T g d 170 53 ls (.int x1 :: .int x0 :: .ref a :: st) h P = ((z_okS 8 st = true ∧ z_gO h.1 a 10 ∧ 0 < d) ∧ z_Ca g (d - 1) 149 [.ref a, .int x0, .int x1] h (fun r => z_k r (fun v h' => z_T g d 170 56 ls (z_push v st) h' P) P)) := zt_callV (as := [.int x0, .int x1]) zi_170_53 ((congrArg (fun o => z_lookup z_prs (o, 183)) zo_170).trans zp_LatinRectanglesModel_183) ((congrArg (fun o => z_clk o 183) zo_170).trans zk_LatinRectanglesModel_183) zh_170 zc_149 rfl rfl rfl
theorem zi_170_56 : z_ins 170 56 = some (.istore 4, 2) := by decide +kernel
theorem ze_170_56 : z_T g d 170 56 (v0 :: v1 :: v2 :: v3 :: v4 :: ls) (.int x :: st) h P = z_T g d 170 58 (v0 :: v1 :: v2 :: v3 :: .int x :: ls) st h P := zt_istore zi_170_56 (Nat.le_add_left 5 _)
theorem zi_170_58 : z_ins 170 58 = some (.iconst 0, 1) := by decide +kernel
theorem ze_170_58 : z_T g d 170 58 ls st h P = z_T g d 170 59 ls (.int (nI 0) :: st) h P := zt_iconst zi_170_58 rfl
theorem zi_170_59 : z_ins 170 59 = some (.istore 5, 2) := by decide +kernel
theorem ze_170_59 : z_T g d 170 59 (v0 :: v1 :: v2 :: v3 :: v4 :: v5 :: ls) (.int x :: st) h P = z_T g d 170 61 (v0 :: v1 :: v2 :: v3 :: v4 :: .int x :: ls) st h P := zt_istore zi_170_59 (Nat.le_add_left 6 _)
theorem zi_170_61 : z_ins 170 61 = some (.iconst 0, 1) := by decide +kernel
theorem ze_170_61 : z_T g d 170 61 ls st h P = z_T g d 170 62 ls (.int (nI 0) :: st) h P := zt_iconst zi_170_61 rfl
theorem zi_170_62 : z_ins 170 62 = some (.istore 6, 2) := by decide +kernel
theorem ze_170_62 : z_T g d 170 62 (v0 :: v1 :: v2 :: v3 :: v4 :: v5 :: v6 :: ls) (.int x :: st) h P = z_T g d 170 64 (v0 :: v1 :: v2 :: v3 :: v4 :: v5 :: .int x :: ls) st h P := zt_istore zi_170_62 (Nat.le_add_left 7 _)
theorem zi_170_64 : z_ins 170 64 = some (.iload 6, 2) := by decide +kernel
theorem ze_170_64 : z_T g d 170 64 (v0 :: v1 :: v2 :: v3 :: v4 :: v5 :: .int x :: ls) st h P = z_T g d 170 66 (v0 :: v1 :: v2 :: v3 :: v4 :: v5 :: .int x :: ls) (.int x :: st) h P := zt_iload zi_170_64 rfl
theorem zi_170_66 : z_ins 170 66 = some (.aload_n 0, 1) := by decide +kernel
theorem ze_170_66 : z_T g d 170 66 (.ref a :: ls) st h P = z_T g d 170 67 (.ref a :: ls) (.ref a :: st) h P := zt_aloadn zi_170_66 rfl rfl
theorem zi_170_67 : z_ins 170 67 = some (.getfield 76, 3) := by decide +kernel
theorem ze_170_67 : z_T g d 170 67 ls (.ref a :: st) h P = z_gI h.1 a 10 2 (fun x => z_T g d 170 70 ls (.int x :: st) h P) := zt_getI zi_170_67 ((congrArg (fun o => z_fl o 76) zo_170).trans zf_LatinRectanglesModel_76)
theorem zi_170_70 : z_ins 170 70 = some (.if_icmp .ge 58, 3) := by decide +kernel
theorem ze_170_70 : z_T g d 170 70 ls (.int y :: .int x :: st) h P = (if x < y then z_T g d 170 73 ls st h P else z_T g d 170 128 ls st h P) := zt_icmpge zi_170_70 (by decide)
theorem zi_170_73 : z_ins 170 73 = some (.iload 4, 2) := by decide +kernel
theorem ze_170_73 : z_T g d 170 73 (v0 :: v1 :: v2 :: v3 :: .int x :: ls) st h P = z_T g d 170 75 (v0 :: v1 :: v2 :: v3 :: .int x :: ls) (.int x :: st) h P := zt_iload zi_170_73 rfl
theorem zi_170_75 : z_ins 170 75 = some (.iload 6, 2) := by decide +kernel
theorem ze_170_75 : z_T g d 170 75 (v0 :: v1 :: v2 :: v3 :: v4 :: v5 :: .int x :: ls) st h P = z_T g d 170 77 (v0 :: v1 :: v2 :: v3 :: v4 :: v5 :: .int x :: ls) (.int x :: st) h P := zt_iload zi_170_75 rfl
theorem zi_170_77 : z_ins 170 77 = some (.ishr, 1) := by decide +kernel
theorem ze_170_77 : z_T g d 170 77 ls (.int y :: .int x :: st) h P = z_T g d 170 78 ls (.int (x >>> (y &&& 31)) :: st) h P := zt_bin (f := fun x y => x >>> (y &&& 31)) zi_170_77 rfl (fun _ _ _ => rfl)
theorem zi_170_78 : z_ins 170 78 = some (.iconst 1, 1) := by decide +kernel
theorem ze_170_78 : z_T g d 170 78 ls st h P = z_T g d 170 79 ls (.int (nI 1) :: st) h P := zt_iconst zi_170_78 rfl
theorem zi_170_79 : z_ins 170 79 = some (.iand, 1) := by decide +kernel
theorem ze_170_79 : z_T g d 170 79 ls (.int y :: .int x :: st) h P = z_T g d 170 80 ls (.int (x &&& y) :: st) h P := zt_bin (f := fun x y => x &&& y) zi_170_79 rfl (fun _ _ _ => rfl)
theorem zi_170_80 : z_ins 170 80 = some (.iconst 1, 1) := by decide +kernel
theorem ze_170_80 : z_T g d 170 80 ls st h P = z_T g d 170 81 ls (.int (nI 1) :: st) h P := zt_iconst zi_170_80 rfl
theorem zi_170_81 : z_ins 170 81 = some (.if_icmp .ne 41, 3) := by decide +kernel
theorem ze_170_81 : z_T g d 170 81 ls (.int y :: .int x :: st) h P = (if x = y then z_T g d 170 84 ls st h P else z_T g d 170 122 ls st h P) := zt_icmpne zi_170_81 (by decide)
theorem zi_170_84 : z_ins 170 84 = some (.aload_n 0, 1) := by decide +kernel
theorem ze_170_84 : z_T g d 170 84 (.ref a :: ls) st h P = z_T g d 170 85 (.ref a :: ls) (.ref a :: st) h P := zt_aloadn zi_170_84 rfl rfl
theorem zi_170_85 : z_ins 170 85 = some (.getfield 22, 3) := by decide +kernel
theorem ze_170_85 : z_T g d 170 85 ls (.ref a :: st) h P = z_gR h.1 a 10 11 (fun x => z_T g d 170 88 ls (.ref x :: st) h P) := zt_getR zi_170_85 ((congrArg (fun o => z_fl o 22) zo_170).trans zf_LatinRectanglesModel_22)
theorem zi_170_88 : z_ins 170 88 = some (.iload_n 3, 1) := by decide +kernel
theorem ze_170_88 : z_T g d 170 88 (v0 :: v1 :: v2 :: .int x :: ls) st h P = z_T g d 170 89 (v0 :: v1 :: v2 :: .int x :: ls) (.int x :: st) h P := zt_iloadn zi_170_88 rfl rfl
theorem zi_170_89 : z_ins 170 89 = some (.iload 6, 2) := by decide +kernel
theorem ze_170_89 : z_T g d 170 89 (v0 :: v1 :: v2 :: v3 :: v4 :: v5 :: .int x :: ls) st h P = z_T g d 170 91 (v0 :: v1 :: v2 :: v3 :: v4 :: v5 :: .int x :: ls) (.int x :: st) h P := zt_iload zi_170_89 rfl
theorem zi_170_91 : z_ins 170 91 = some (.iastore, 1) := by decide +kernel
theorem ze_170_91 : z_T g d 170 91 ls (.int y :: .int x :: .ref a :: st) h P = z_aS h.1 a z_tI x y (fun f => z_T g d 170 92 ls st (f, h.2) P) := zt_iastore zi_170_91
theorem zi_170_92 : z_ins 170 92 = some (.iload 5, 2) := by decide +kernel
theorem ze_170_92 : z_T g d 170 92 (v0 :: v1 :: v2 :: v3 :: v4 :: .int x :: ls) st h P = z_T g d 170 94 (v0 :: v1 :: v2 :: v3 :: v4 :: .int x :: ls) (.int x :: st) h P := zt_iload zi_170_92 rfl
theorem zi_170_94 : z_ins 170 94 = some (.aload_n 0, 1) := by decide +kernel
theorem ze_170_94 : z_T g d 170 94 (.ref a :: ls) st h P = z_T g d 170 95 (.ref a :: ls) (.ref a :: st) h P := zt_aloadn zi_170_94 rfl rfl
theorem zi_170_95 : z_ins 170 95 = some (.iconst 0, 1) := by decide +kernel
theorem ze_170_95 : z_T g d 170 95 ls st h P = z_T g d 170 96 ls (.int (nI 0) :: st) h P := zt_iconst zi_170_95 rfl
theorem zi_170_96 : z_ins 170 96 = some (.iconst 1, 1) := by decide +kernel
theorem ze_170_96 : z_T g d 170 96 ls st h P = z_T g d 170 97 ls (.int (nI 1) :: st) h P := zt_iconst zi_170_96 rfl
theorem zi_170_97 : z_ins 170 97 = some (.iconst 0, 1) := by decide +kernel
theorem ze_170_97 : z_T g d 170 97 ls st h P = z_T g d 170 98 ls (.int (nI 0) :: st) h P := zt_iconst zi_170_97 rfl
theorem zi_170_98 : z_ins 170 98 = some (.invokevirtual 223, 3) := by decide +kernel
theorem ze_170_98 : z_T g d 170 98 ls (.int x2 :: .int x1 :: .int x0 :: .ref a :: st) h P = ((z_okS 8 st = true ∧ z_gO h.1 a 10 ∧ 0 < d) ∧ z_Ca g (d - 1) 167 [.ref a, .int x0, .int x1, .int x2] h (fun r => z_k r (fun v h' => z_T g d 170 101 ls (z_push v st) h' P) P)) := zt_callV (as := [.int x0, .int x1, .int x2]) zi_170_98 ((congrArg (fun o => z_lookup z_prs (o, 223)) zo_170).trans zp_LatinRectanglesModel_223) ((congrArg (fun o => z_clk o 223) zo_170).trans zk_LatinRectanglesModel_223) zh_170 zc_167 rfl rfl rfl
theorem zi_170_101 : z_ins 170 101 = some (.ifCond .ne 7, 3) := by decide +kernel
theorem ze_170_101 : z_T g d 170 101 ls (.int x :: st) h P = (if x = nI 0 then z_T g d 170 104 ls st h P else z_T g d 170 108 ls st h P) := zt_ifne zi_170_101 (by decide)
theorem zi_170_104 : z_ins 170 104 = some (.iconst 0, 1) := by decide +kernel
theorem ze_170_104 : z_T g d 170 104 ls st h P = z_T g d 170 105 ls (.int (nI 0) :: st) h P := zt_iconst zi_170_104 rfl
theorem zi_170_105 : z_ins 170 105 = some (.goto 7, 3) := by decide +kernel
theorem ze_170_105 : z_T g d 170 105 ls st h P = z_T g d 170 112 ls st h P := zt_goto zi_170_105 (by decide)
theorem zi_170_108 : z_ins 170 108 = some (.iconst 1, 1) := by decide +kernel
theorem ze_170_108 : z_T g d 170 108 ls st h P = z_T g d 170 109 ls (.int (nI 1) :: st) h P := zt_iconst zi_170_108 rfl
theorem zi_170_109 : z_ins 170 109 = some (.iload 6, 2) := by decide +kernel
theorem ze_170_109 : z_T g d 170 109 (v0 :: v1 :: v2 :: v3 :: v4 :: v5 :: .int x :: ls) st h P = z_T g d 170 111 (v0 :: v1 :: v2 :: v3 :: v4 :: v5 :: .int x :: ls) (.int x :: st) h P := zt_iload zi_170_109 rfl
theorem zi_170_111 : z_ins 170 111 = some (.ishl, 1) := by decide +kernel
theorem ze_170_111 : z_T g d 170 111 ls (.int y :: .int x :: st) h P = z_T g d 170 112 ls (.int (x <<< (y &&& 31)) :: st) h P := zt_bin (f := fun x y => x <<< (y &&& 31)) zi_170_111 rfl (fun _ _ _ => rfl)
theorem zi_170_112 : z_ins 170 112 = some (.ior, 1) := by decide +kernel
theorem ze_170_112 : z_T g d 170 112 ls (.int y :: .int x :: st) h P = z_T g d 170 113 ls (.int (x ||| y) :: st) h P := zt_bin (f := fun x y => x ||| y) zi_170_112 rfl (fun _ _ _ => rfl)
theorem zi_170_113 : z_ins 170 113 = some (.istore 5, 2) := by decide +kernel
theorem ze_170_113 : z_T g d 170 113 (v0 :: v1 :: v2 :: v3 :: v4 :: v5 :: ls) (.int x :: st) h P = z_T g d 170 115 (v0 :: v1 :: v2 :: v3 :: v4 :: .int x :: ls) st h P := zt_istore zi_170_113 (Nat.le_add_left 6 _)
theorem zi_170_115 : z_ins 170 115 = some (.aload_n 0, 1) := by decide +kernel
theorem ze_170_115 : z_T g d 170 115 (.ref a :: ls) st h P = z_T g d 170 116 (.ref a :: ls) (.ref a :: st) h P := zt_aloadn zi_170_115 rfl rfl
theorem zi_170_116 : z_ins 170 116 = some (.getfield 22, 3) := by decide +kernel
theorem ze_170_116 : z_T g d 170 116 ls (.ref a :: st) h P = z_gR h.1 a 10 11 (fun x => z_T g d 170 119 ls (.ref x :: st) h P) := zt_getR zi_170_116 ((congrArg (fun o => z_fl o 22) zo_170).trans zf_LatinRectanglesModel_22)
theorem zi_170_119 : z_ins 170 119 = some (.iload_n 3, 1) := by decide +kernel
theorem ze_170_119 : z_T g d 170 119 (v0 :: v1 :: v2 :: .int x :: ls) st h P = z_T g d 170 120 (v0 :: v1 :: v2 :: .int x :: ls) (.int x :: st) h P := zt_iloadn zi_170_119 rfl rfl
theorem zi_170_120 : z_ins 170 120 = some (.iconst (-1), 1) := by decide +kernel
theorem ze_170_120 : z_T g d 170 120 ls st h P = z_T g d 170 121 ls (.int (-1) :: st) h P := zt_iconst zi_170_120 rfl
theorem zi_170_121 : z_ins 170 121 = some (.iastore, 1) := by decide +kernel
theorem ze_170_121 : z_T g d 170 121 ls (.int y :: .int x :: .ref a :: st) h P = z_aS h.1 a z_tI x y (fun f => z_T g d 170 122 ls st (f, h.2) P) := zt_iastore zi_170_121
theorem zi_170_122 : z_ins 170 122 = some (.iinc 6 1, 3) := by decide +kernel
theorem ze_170_122 : z_T g d 170 122 (v0 :: v1 :: v2 :: v3 :: v4 :: v5 :: .int x :: ls) st h P = z_T g d 170 125 (v0 :: v1 :: v2 :: v3 :: v4 :: v5 :: .int (x + (nI 1)) :: ls) st h P := zt_iinc zi_170_122 rfl rfl
theorem zi_170_125 : z_ins 170 125 = some (.goto (-61), 3) := by decide +kernel
theorem ze_170_125 : z_T g d 170 125 ls st h P = z_T g d 170 64 ls st h P := zt_goto zi_170_125 (by decide)
theorem zi_170_128 : z_ins 170 128 = some (.iload 5, 2) := by decide +kernel
theorem ze_170_128 : z_T g d 170 128 (v0 :: v1 :: v2 :: v3 :: v4 :: .int x :: ls) st h P = z_T g d 170 130 (v0 :: v1 :: v2 :: v3 :: v4 :: .int x :: ls) (.int x :: st) h P := zt_iload zi_170_128 rfl
theorem zi_170_130 : z_ins 170 130 = some (.ireturn, 1) := by decide +kernel
theorem ze_170_130 : z_T g d 170 130 ls [.int x] h P = P (.inr (some (.int x)), h) := zt_ireturn zi_170_130 zr_170
-- LatinRectanglesModel.across(IIIII)I
theorem zo_171 : z_own 171 = "LatinRectanglesModel" := by decide +kernel
theorem zm_171 : z_maxL 171 = 9 := by decide +kernel
theorem zh_171 : z_hds 171 = [] := by decide +kernel
theorem zr_171 : z_rt 171 = (some .int) := by decide +kernel
theorem zn_171 : z_Ca g d 171 [.ref a0, .int x1, .int x2, .int x3, .int x4, .int x5] h P = z_T g d 171 0 [.ref a0, .int x1, .int x2, .int x3, .int x4, .int x5, z_un, z_un, z_un] [] h P := z_Ca_ent zm_171 rfl rfl
theorem zi_171_0 : z_ins 171 0 = some (.iload_n 1, 1) := by decide +kernel
theorem ze_171_0 : z_T g d 171 0 (v0 :: .int x :: ls) st h P = z_T g d 171 1 (v0 :: .int x :: ls) (.int x :: st) h P := zt_iloadn zi_171_0 rfl rfl
theorem zi_171_1 : z_ins 171 1 = some (.aload_n 0, 1) := by decide +kernel
theorem ze_171_1 : z_T g d 171 1 (.ref a :: ls) st h P = z_T g d 171 2 (.ref a :: ls) (.ref a :: st) h P := zt_aloadn zi_171_1 rfl rfl
theorem zi_171_2 : z_ins 171 2 = some (.getfield 73, 3) := by decide +kernel
theorem ze_171_2 : z_T g d 171 2 ls (.ref a :: st) h P = z_gI h.1 a 10 1 (fun x => z_T g d 171 5 ls (.int x :: st) h P) := zt_getI zi_171_2 ((congrArg (fun o => z_fl o 73) zo_171).trans zf_LatinRectanglesModel_73)
theorem zi_171_5 : z_ins 171 5 = some (.if_icmp .ne 5, 3) := by decide +kernel
theorem ze_171_5 : z_T g d 171 5 ls (.int y :: .int x :: st) h P = (if x = y then z_T g d 171 8 ls st h P else z_T g d 171 10 ls st h P) := zt_icmpne zi_171_5 (by decide)
theorem zi_171_8 : z_ins 171 8 = some (.iconst 1, 1) := by decide +kernel
theorem ze_171_8 : z_T g d 171 8 ls st h P = z_T g d 171 9 ls (.int (nI 1) :: st) h P := zt_iconst zi_171_8 rfl
theorem zi_171_9 : z_ins 171 9 = some (.ireturn, 1) := by decide +kernel
theorem ze_171_9 : z_T g d 171 9 ls [.int x] h P = P (.inr (some (.int x)), h) := zt_ireturn zi_171_9 zr_171
theorem zi_171_10 : z_ins 171 10 = some (.iconst 0, 1) := by decide +kernel
theorem ze_171_10 : z_T g d 171 10 ls st h P = z_T g d 171 11 ls (.int (nI 0) :: st) h P := zt_iconst zi_171_10 rfl
theorem zi_171_11 : z_ins 171 11 = some (.istore 6, 2) := by decide +kernel
theorem ze_171_11 : z_T g d 171 11 (v0 :: v1 :: v2 :: v3 :: v4 :: v5 :: v6 :: ls) (.int x :: st) h P = z_T g d 171 13 (v0 :: v1 :: v2 :: v3 :: v4 :: v5 :: .int x :: ls) st h P := zt_istore zi_171_11 (Nat.le_add_left 7 _)
theorem zi_171_13 : z_ins 171 13 = some (.iconst 0, 1) := by decide +kernel
theorem ze_171_13 : z_T g d 171 13 ls st h P = z_T g d 171 14 ls (.int (nI 0) :: st) h P := zt_iconst zi_171_13 rfl
theorem zi_171_14 : z_ins 171 14 = some (.istore 7, 2) := by decide +kernel
theorem ze_171_14 : z_T g d 171 14 (v0 :: v1 :: v2 :: v3 :: v4 :: v5 :: v6 :: v7 :: ls) (.int x :: st) h P = z_T g d 171 16 (v0 :: v1 :: v2 :: v3 :: v4 :: v5 :: v6 :: .int x :: ls) st h P := zt_istore zi_171_14 (Nat.le_add_left 8 _)
theorem zi_171_16 : z_ins 171 16 = some (.iload 7, 2) := by decide +kernel
theorem ze_171_16 : z_T g d 171 16 (v0 :: v1 :: v2 :: v3 :: v4 :: v5 :: v6 :: .int x :: ls) st h P = z_T g d 171 18 (v0 :: v1 :: v2 :: v3 :: v4 :: v5 :: v6 :: .int x :: ls) (.int x :: st) h P := zt_iload zi_171_16 rfl
theorem zi_171_18 : z_ins 171 18 = some (.aload_n 0, 1) := by decide +kernel
theorem ze_171_18 : z_T g d 171 18 (.ref a :: ls) st h P = z_T g d 171 19 (.ref a :: ls) (.ref a :: st) h P := zt_aloadn zi_171_18 rfl rfl
theorem zi_171_19 : z_ins 171 19 = some (.getfield 76, 3) := by decide +kernel
theorem ze_171_19 : z_T g d 171 19 ls (.ref a :: st) h P = z_gI h.1 a 10 2 (fun x => z_T g d 171 22 ls (.int x :: st) h P) := zt_getI zi_171_19 ((congrArg (fun o => z_fl o 76) zo_171).trans zf_LatinRectanglesModel_76)
theorem zi_171_22 : z_ins 171 22 = some (.if_icmp .ge 88, 3) := by decide +kernel
theorem ze_171_22 : z_T g d 171 22 ls (.int y :: .int x :: st) h P = (if x < y then z_T g d 171 25 ls st h P else z_T g d 171 110 ls st h P) := zt_icmpge zi_171_22 (by decide)
theorem zi_171_25 : z_ins 171 25 = some (.aload_n 0, 1) := by decide +kernel
theorem ze_171_25 : z_T g d 171 25 (.ref a :: ls) st h P = z_T g d 171 26 (.ref a :: ls) (.ref a :: st) h P := zt_aloadn zi_171_25 rfl rfl
theorem zi_171_26 : z_ins 171 26 = some (.iload_n 1, 1) := by decide +kernel
theorem ze_171_26 : z_T g d 171 26 (v0 :: .int x :: ls) st h P = z_T g d 171 27 (v0 :: .int x :: ls) (.int x :: st) h P := zt_iloadn zi_171_26 rfl rfl
theorem zi_171_27 : z_ins 171 27 = some (.iload 7, 2) := by decide +kernel
theorem ze_171_27 : z_T g d 171 27 (v0 :: v1 :: v2 :: v3 :: v4 :: v5 :: v6 :: .int x :: ls) st h P = z_T g d 171 29 (v0 :: v1 :: v2 :: v3 :: v4 :: v5 :: v6 :: .int x :: ls) (.int x :: st) h P := zt_iload zi_171_27 rfl
theorem zi_171_29 : z_ins 171 29 = some (.invokevirtual 180, 3) := by decide +kernel
theorem ze_171_29 : z_T g d 171 29 ls (.int x1 :: .int x0 :: .ref a :: st) h P = ((z_okS 8 st = true ∧ z_gO h.1 a 10 ∧ 0 < d) ∧ z_Ca g (d - 1) 145 [.ref a, .int x0, .int x1] h (fun r => z_k r (fun v h' => z_T g d 171 32 ls (z_push v st) h' P) P)) := zt_callV (as := [.int x0, .int x1]) zi_171_29 ((congrArg (fun o => z_lookup z_prs (o, 180)) zo_171).trans zp_LatinRectanglesModel_180) ((congrArg (fun o => z_clk o 180) zo_171).trans zk_LatinRectanglesModel_180) zh_171 zc_145 rfl rfl rfl
theorem zi_171_32 : z_ins 171 32 = some (.istore 8, 2) := by decide +kernel
theorem ze_171_32 : z_T g d 171 32 (v0 :: v1 :: v2 :: v3 :: v4 :: v5 :: v6 :: v7 :: v8 :: ls) (.int x :: st) h P = z_T g d 171 34 (v0 :: v1 :: v2 :: v3 :: v4 :: v5 :: v6 :: v7 :: .int x :: ls) st h P := zt_istore zi_171_32 (Nat.le_add_left 9 _)
theorem zi_171_34 : z_ins 171 34 = some (.iload 8, 2) := by decide +kernel
theorem ze_171_34 : z_T g d 171 34 (v0 :: v1 :: v2 :: v3 :: v4 :: v5 :: v6 :: v7 :: .int x :: ls) st h P = z_T g d 171 36 (v0 :: v1 :: v2 :: v3 :: v4 :: v5 :: v6 :: v7 :: .int x :: ls) (.int x :: st) h P := zt_iload zi_171_34 rfl
theorem zi_171_36 : z_ins 171 36 = some (.iconst (-1), 1) := by decide +kernel
theorem ze_171_36 : z_T g d 171 36 ls st h P = z_T g d 171 37 ls (.int (-1) :: st) h P := zt_iconst zi_171_36 rfl
theorem zi_171_37 : z_ins 171 37 = some (.if_icmp .eq 67, 3) := by decide +kernel
theorem ze_171_37 : z_T g d 171 37 ls (.int y :: .int x :: st) h P = (if x = y then z_T g d 171 104 ls st h P else z_T g d 171 40 ls st h P) := zt_icmpeq zi_171_37 (by decide)
theorem zi_171_40 : z_ins 171 40 = some (.iload_n 2, 1) := by decide +kernel
theorem ze_171_40 : z_T g d 171 40 (v0 :: v1 :: .int x :: ls) st h P = z_T g d 171 41 (v0 :: v1 :: .int x :: ls) (.int x :: st) h P := zt_iloadn zi_171_40 rfl rfl
theorem zi_171_41 : z_ins 171 41 = some (.iload 7, 2) := by decide +kernel
theorem ze_171_41 : z_T g d 171 41 (v0 :: v1 :: v2 :: v3 :: v4 :: v5 :: v6 :: .int x :: ls) st h P = z_T g d 171 43 (v0 :: v1 :: v2 :: v3 :: v4 :: v5 :: v6 :: .int x :: ls) (.int x :: st) h P := zt_iload zi_171_41 rfl
theorem zi_171_43 : z_ins 171 43 = some (.ishr, 1) := by decide +kernel
theorem ze_171_43 : z_T g d 171 43 ls (.int y :: .int x :: st) h P = z_T g d 171 44 ls (.int (x >>> (y &&& 31)) :: st) h P := zt_bin (f := fun x y => x >>> (y &&& 31)) zi_171_43 rfl (fun _ _ _ => rfl)
theorem zi_171_44 : z_ins 171 44 = some (.iconst 1, 1) := by decide +kernel
theorem ze_171_44 : z_T g d 171 44 ls st h P = z_T g d 171 45 ls (.int (nI 1) :: st) h P := zt_iconst zi_171_44 rfl
theorem zi_171_45 : z_ins 171 45 = some (.iand, 1) := by decide +kernel
theorem ze_171_45 : z_T g d 171 45 ls (.int y :: .int x :: st) h P = z_T g d 171 46 ls (.int (x &&& y) :: st) h P := zt_bin (f := fun x y => x &&& y) zi_171_45 rfl (fun _ _ _ => rfl)
theorem zi_171_46 : z_ins 171 46 = some (.iconst 1, 1) := by decide +kernel
theorem ze_171_46 : z_T g d 171 46 ls st h P = z_T g d 171 47 ls (.int (nI 1) :: st) h P := zt_iconst zi_171_46 rfl
theorem zi_171_47 : z_ins 171 47 = some (.if_icmp .eq 57, 3) := by decide +kernel
theorem ze_171_47 : z_T g d 171 47 ls (.int y :: .int x :: st) h P = (if x = y then z_T g d 171 104 ls st h P else z_T g d 171 50 ls st h P) := zt_icmpeq zi_171_47 (by decide)
theorem zi_171_50 : z_ins 171 50 = some (.iload_n 3, 1) := by decide +kernel
theorem ze_171_50 : z_T g d 171 50 (v0 :: v1 :: v2 :: .int x :: ls) st h P = z_T g d 171 51 (v0 :: v1 :: v2 :: .int x :: ls) (.int x :: st) h P := zt_iloadn zi_171_50 rfl rfl
theorem zi_171_51 : z_ins 171 51 = some (.iload 8, 2) := by decide +kernel
theorem ze_171_51 : z_T g d 171 51 (v0 :: v1 :: v2 :: v3 :: v4 :: v5 :: v6 :: v7 :: .int x :: ls) st h P = z_T g d 171 53 (v0 :: v1 :: v2 :: v3 :: v4 :: v5 :: v6 :: v7 :: .int x :: ls) (.int x :: st) h P := zt_iload zi_171_51 rfl
theorem zi_171_53 : z_ins 171 53 = some (.ishr, 1) := by decide +kernel
theorem ze_171_53 : z_T g d 171 53 ls (.int y :: .int x :: st) h P = z_T g d 171 54 ls (.int (x >>> (y &&& 31)) :: st) h P := zt_bin (f := fun x y => x >>> (y &&& 31)) zi_171_53 rfl (fun _ _ _ => rfl)
theorem zi_171_54 : z_ins 171 54 = some (.iconst 1, 1) := by decide +kernel
theorem ze_171_54 : z_T g d 171 54 ls st h P = z_T g d 171 55 ls (.int (nI 1) :: st) h P := zt_iconst zi_171_54 rfl
theorem zi_171_55 : z_ins 171 55 = some (.iand, 1) := by decide +kernel
theorem ze_171_55 : z_T g d 171 55 ls (.int y :: .int x :: st) h P = z_T g d 171 56 ls (.int (x &&& y) :: st) h P := zt_bin (f := fun x y => x &&& y) zi_171_55 rfl (fun _ _ _ => rfl)
theorem zi_171_56 : z_ins 171 56 = some (.iconst 1, 1) := by decide +kernel
theorem ze_171_56 : z_T g d 171 56 ls st h P = z_T g d 171 57 ls (.int (nI 1) :: st) h P := zt_iconst zi_171_56 rfl
theorem zi_171_57 : z_ins 171 57 = some (.if_icmp .eq 47, 3) := by decide +kernel
theorem ze_171_57 : z_T g d 171 57 ls (.int y :: .int x :: st) h P = (if x = y then z_T g d 171 104 ls st h P else z_T g d 171 60 ls st h P) := zt_icmpeq zi_171_57 (by decide)
theorem zi_171_60 : z_ins 171 60 = some (.iload_n 1, 1) := by decide +kernel
theorem ze_171_60 : z_T g d 171 60 (v0 :: .int x :: ls) st h P = z_T g d 171 61 (v0 :: .int x :: ls) (.int x :: st) h P := zt_iloadn zi_171_60 rfl rfl
theorem zi_171_61 : z_ins 171 61 = some (.iload 4, 2) := by decide +kernel
theorem ze_171_61 : z_T g d 171 61 (v0 :: v1 :: v2 :: v3 :: .int x :: ls) st h P = z_T g d 171 63 (v0 :: v1 :: v2 :: v3 :: .int x :: ls) (.int x :: st) h P := zt_iload zi_171_61 rfl
theorem zi_171_63 : z_ins 171 63 = some (.if_icmp .ne 13, 3) := by decide +kernel
theorem ze_171_63 : z_T g d 171 63 ls (.int y :: .int x :: st) h P = (if x = y then z_T g d 171 66 ls st h P else z_T g d 171 76 ls st h P) := zt_icmpne zi_171_63 (by decide)
theorem zi_171_66 : z_ins 171 66 = some (.iload 7, 2) := by decide +kernel
theorem ze_171_66 : z_T g d 171 66 (v0 :: v1 :: v2 :: v3 :: v4 :: v5 :: v6 :: .int x :: ls) st h P = z_T g d 171 68 (v0 :: v1 :: v2 :: v3 :: v4 :: v5 :: v6 :: .int x :: ls) (.int x :: st) h P := zt_iload zi_171_66 rfl
theorem zi_171_68 : z_ins 171 68 = some (.iload 5, 2) := by decide +kernel
theorem ze_171_68 : z_T g d 171 68 (v0 :: v1 :: v2 :: v3 :: v4 :: .int x :: ls) st h P = z_T g d 171 70 (v0 :: v1 :: v2 :: v3 :: v4 :: .int x :: ls) (.int x :: st) h P := zt_iload zi_171_68 rfl
theorem zi_171_70 : z_ins 171 70 = some (.if_icmp .eq 6, 3) := by decide +kernel
theorem ze_171_70 : z_T g d 171 70 ls (.int y :: .int x :: st) h P = (if x = y then z_T g d 171 76 ls st h P else z_T g d 171 73 ls st h P) := zt_icmpeq zi_171_70 (by decide)
theorem zi_171_73 : z_ins 171 73 = some (.goto 31, 3) := by decide +kernel
theorem ze_171_73 : z_T g d 171 73 ls st h P = z_T g d 171 104 ls st h P := zt_goto zi_171_73 (by decide)
theorem zi_171_76 : z_ins 171 76 = some (.iload 6, 2) := by decide +kernel
theorem ze_171_76 : z_T g d 171 76 (v0 :: v1 :: v2 :: v3 :: v4 :: v5 :: .int x :: ls) st h P = z_T g d 171 78 (v0 :: v1 :: v2 :: v3 :: v4 :: v5 :: .int x :: ls) (.int x :: st) h P := zt_iload zi_171_76 rfl
theorem zi_171_78 : z_ins 171 78 = some (.aload_n 0, 1) := by decide +kernel
theorem ze_171_78 : z_T g d 171 78 (.ref a :: ls) st h P = z_T g d 171 79 (.ref a :: ls) (.ref a :: st) h P := zt_aloadn zi_171_78 rfl rfl
theorem zi_171_79 : z_ins 171 79 = some (.iload_n 1, 1) := by decide +kernel
theorem ze_171_79 : z_T g d 171 79 (v0 :: .int x :: ls) st h P = z_T g d 171 80 (v0 :: .int x :: ls) (.int x :: st) h P := zt_iloadn zi_171_79 rfl rfl
theorem zi_171_80 : z_ins 171 80 = some (.iconst 1, 1) := by decide +kernel
theorem ze_171_80 : z_T g d 171 80 ls st h P = z_T g d 171 81 ls (.int (nI 1) :: st) h P := zt_iconst zi_171_80 rfl
theorem zi_171_81 : z_ins 171 81 = some (.iadd, 1) := by decide +kernel
theorem ze_171_81 : z_T g d 171 81 ls (.int y :: .int x :: st) h P = z_T g d 171 82 ls (.int (x + y) :: st) h P := zt_bin (f := fun x y => x + y) zi_171_81 rfl (fun _ _ _ => rfl)
theorem zi_171_82 : z_ins 171 82 = some (.iload_n 2, 1) := by decide +kernel
theorem ze_171_82 : z_T g d 171 82 (v0 :: v1 :: .int x :: ls) st h P = z_T g d 171 83 (v0 :: v1 :: .int x :: ls) (.int x :: st) h P := zt_iloadn zi_171_82 rfl rfl
theorem zi_171_83 : z_ins 171 83 = some (.iconst 1, 1) := by decide +kernel
theorem ze_171_83 : z_T g d 171 83 ls st h P = z_T g d 171 84 ls (.int (nI 1) :: st) h P := zt_iconst zi_171_83 rfl
theorem zi_171_84 : z_ins 171 84 = some (.iload 7, 2) := by decide +kernel
theorem ze_171_84 : z_T g d 171 84 (v0 :: v1 :: v2 :: v3 :: v4 :: v5 :: v6 :: .int x :: ls) st h P = z_T g d 171 86 (v0 :: v1 :: v2 :: v3 :: v4 :: v5 :: v6 :: .int x :: ls) (.int x :: st) h P := zt_iload zi_171_84 rfl
theorem zi_171_86 : z_ins 171 86 = some (.ishl, 1) := by decide +kernel
theorem ze_171_86 : z_T g d 171 86 ls (.int y :: .int x :: st) h P = z_T g d 171 87 ls (.int (x <<< (y &&& 31)) :: st) h P := zt_bin (f := fun x y => x <<< (y &&& 31)) zi_171_86 rfl (fun _ _ _ => rfl)
theorem zi_171_87 : z_ins 171 87 = some (.ior, 1) := by decide +kernel
theorem ze_171_87 : z_T g d 171 87 ls (.int y :: .int x :: st) h P = z_T g d 171 88 ls (.int (x ||| y) :: st) h P := zt_bin (f := fun x y => x ||| y) zi_171_87 rfl (fun _ _ _ => rfl)
theorem zi_171_88 : z_ins 171 88 = some (.iload_n 3, 1) := by decide +kernel
theorem ze_171_88 : z_T g d 171 88 (v0 :: v1 :: v2 :: .int x :: ls) st h P = z_T g d 171 89 (v0 :: v1 :: v2 :: .int x :: ls) (.int x :: st) h P := zt_iloadn zi_171_88 rfl rfl
theorem zi_171_89 : z_ins 171 89 = some (.iconst 1, 1) := by decide +kernel
theorem ze_171_89 : z_T g d 171 89 ls st h P = z_T g d 171 90 ls (.int (nI 1) :: st) h P := zt_iconst zi_171_89 rfl
theorem zi_171_90 : z_ins 171 90 = some (.iload 8, 2) := by decide +kernel
theorem ze_171_90 : z_T g d 171 90 (v0 :: v1 :: v2 :: v3 :: v4 :: v5 :: v6 :: v7 :: .int x :: ls) st h P = z_T g d 171 92 (v0 :: v1 :: v2 :: v3 :: v4 :: v5 :: v6 :: v7 :: .int x :: ls) (.int x :: st) h P := zt_iload zi_171_90 rfl
theorem zi_171_92 : z_ins 171 92 = some (.ishl, 1) := by decide +kernel
theorem ze_171_92 : z_T g d 171 92 ls (.int y :: .int x :: st) h P = z_T g d 171 93 ls (.int (x <<< (y &&& 31)) :: st) h P := zt_bin (f := fun x y => x <<< (y &&& 31)) zi_171_92 rfl (fun _ _ _ => rfl)
theorem zi_171_93 : z_ins 171 93 = some (.ior, 1) := by decide +kernel
theorem ze_171_93 : z_T g d 171 93 ls (.int y :: .int x :: st) h P = z_T g d 171 94 ls (.int (x ||| y) :: st) h P := zt_bin (f := fun x y => x ||| y) zi_171_93 rfl (fun _ _ _ => rfl)
theorem zi_171_94 : z_ins 171 94 = some (.iload 4, 2) := by decide +kernel
theorem ze_171_94 : z_T g d 171 94 (v0 :: v1 :: v2 :: v3 :: .int x :: ls) st h P = z_T g d 171 96 (v0 :: v1 :: v2 :: v3 :: .int x :: ls) (.int x :: st) h P := zt_iload zi_171_94 rfl
theorem zi_171_96 : z_ins 171 96 = some (.iload 5, 2) := by decide +kernel
theorem ze_171_96 : z_T g d 171 96 (v0 :: v1 :: v2 :: v3 :: v4 :: .int x :: ls) st h P = z_T g d 171 98 (v0 :: v1 :: v2 :: v3 :: v4 :: .int x :: ls) (.int x :: st) h P := zt_iload zi_171_96 rfl
theorem zi_171_98 : z_ins 171 98 = some (.invokevirtual 226, 3) := by decide +kernel
theorem ze_171_98 : z_T g d 171 98 ls (.int x4 :: .int x3 :: .int x2 :: .int x1 :: .int x0 :: .ref a :: st) h P = ((z_okS 8 st = true ∧ z_gO h.1 a 10 ∧ 0 < d) ∧ z_Ca g (d - 1) 171 [.ref a, .int x0, .int x1, .int x2, .int x3, .int x4] h (fun r => z_k r (fun v h' => z_T g d 171 101 ls (z_push v st) h' P) P)) := zt_callV (as := [.int x0, .int x1, .int x2, .int x3, .int x4]) zi_171_98 ((congrArg (fun o => z_lookup z_prs (o, 226)) zo_171).trans zp_LatinRectanglesModel_226) ((congrArg (fun o => z_clk o 226) zo_171).trans zk_LatinRectanglesModel_226) zh_171 zc_171 rfl rfl rfl
theorem zi_171_101 : z_ins 171 101 = some (.iadd, 1) := by decide +kernel
theorem ze_171_101 : z_T g d 171 101 ls (.int y :: .int x :: st) h P = z_T g d 171 102 ls (.int (x + y) :: st) h P := zt_bin (f := fun x y => x + y) zi_171_101 rfl (fun _ _ _ => rfl)
theorem zi_171_102 : z_ins 171 102 = some (.istore 6, 2) := by decide +kernel
theorem ze_171_102 : z_T g d 171 102 (v0 :: v1 :: v2 :: v3 :: v4 :: v5 :: v6 :: ls) (.int x :: st) h P = z_T g d 171 104 (v0 :: v1 :: v2 :: v3 :: v4 :: v5 :: .int x :: ls) st h P := zt_istore zi_171_102 (Nat.le_add_left 7 _)
theorem zi_171_104 : z_ins 171 104 = some (.iinc 7 1, 3) := by decide +kernel
theorem ze_171_104 : z_T g d 171 104 (v0 :: v1 :: v2 :: v3 :: v4 :: v5 :: v6 :: .int x :: ls) st h P = z_T g d 171 107 (v0 :: v1 :: v2 :: v3 :: v4 :: v5 :: v6 :: .int (x + (nI 1)) :: ls) st h P := zt_iinc zi_171_104 rfl rfl
theorem zi_171_107 : z_ins 171 107 = some (.goto (-91), 3) := by decide +kernel
theorem ze_171_107 : z_T g d 171 107 ls st h P = z_T g d 171 16 ls st h P := zt_goto zi_171_107 (by decide)
theorem zi_171_110 : z_ins 171 110 = some (.iload 6, 2) := by decide +kernel
theorem ze_171_110 : z_T g d 171 110 (v0 :: v1 :: v2 :: v3 :: v4 :: v5 :: .int x :: ls) st h P = z_T g d 171 112 (v0 :: v1 :: v2 :: v3 :: v4 :: v5 :: .int x :: ls) (.int x :: st) h P := zt_iload zi_171_110 rfl
theorem zi_171_112 : z_ins 171 112 = some (.ireturn, 1) := by decide +kernel
theorem ze_171_112 : z_T g d 171 112 ls [.int x] h P = P (.inr (some (.int x)), h) := zt_ireturn zi_171_112 zr_171
-- LatinRectanglesModel.transversals()I
theorem zo_172 : z_own 172 = "LatinRectanglesModel" := by decide +kernel
theorem zm_172 : z_maxL 172 = 1 := by decide +kernel
theorem zh_172 : z_hds 172 = [] := by decide +kernel
theorem zr_172 : z_rt 172 = (some .int) := by decide +kernel
theorem zn_172 : z_Ca g d 172 [.ref a0] h P = z_T g d 172 0 [.ref a0] [] h P := z_Ca_ent zm_172 rfl rfl
theorem zi_172_0 : z_ins 172 0 = some (.aload_n 0, 1) := by decide +kernel
theorem ze_172_0 : z_T g d 172 0 (.ref a :: ls) st h P = z_T g d 172 1 (.ref a :: ls) (.ref a :: st) h P := zt_aloadn zi_172_0 rfl rfl
theorem zi_172_1 : z_ins 172 1 = some (.iconst 0, 1) := by decide +kernel
theorem ze_172_1 : z_T g d 172 1 ls st h P = z_T g d 172 2 ls (.int (nI 0) :: st) h P := zt_iconst zi_172_1 rfl
theorem zi_172_2 : z_ins 172 2 = some (.putfield 67, 3) := by decide +kernel
theorem ze_172_2 : z_T g d 172 2 ls (.int x :: .ref a :: st) h P = z_pF h.1 a 10 0 (.int x) (fun f => z_T g d 172 5 ls st (f, h.2) P) := zt_putI zi_172_2 ((congrArg (fun o => z_fl o 67) zo_172).trans zf_LatinRectanglesModel_67)
theorem zi_172_5 : z_ins 172 5 = some (.aload_n 0, 1) := by decide +kernel
theorem ze_172_5 : z_T g d 172 5 (.ref a :: ls) st h P = z_T g d 172 6 (.ref a :: ls) (.ref a :: st) h P := zt_aloadn zi_172_5 rfl rfl
theorem zi_172_6 : z_ins 172 6 = some (.iconst 0, 1) := by decide +kernel
theorem ze_172_6 : z_T g d 172 6 ls st h P = z_T g d 172 7 ls (.int (nI 0) :: st) h P := zt_iconst zi_172_6 rfl
theorem zi_172_7 : z_ins 172 7 = some (.iconst 0, 1) := by decide +kernel
theorem ze_172_7 : z_T g d 172 7 ls st h P = z_T g d 172 8 ls (.int (nI 0) :: st) h P := zt_iconst zi_172_7 rfl
theorem zi_172_8 : z_ins 172 8 = some (.iconst 0, 1) := by decide +kernel
theorem ze_172_8 : z_T g d 172 8 ls st h P = z_T g d 172 9 ls (.int (nI 0) :: st) h P := zt_iconst zi_172_8 rfl
theorem zi_172_9 : z_ins 172 9 = some (.iconst (-1), 1) := by decide +kernel
theorem ze_172_9 : z_T g d 172 9 ls st h P = z_T g d 172 10 ls (.int (-1) :: st) h P := zt_iconst zi_172_9 rfl
theorem zi_172_10 : z_ins 172 10 = some (.iconst (-1), 1) := by decide +kernel
theorem ze_172_10 : z_T g d 172 10 ls st h P = z_T g d 172 11 ls (.int (-1) :: st) h P := zt_iconst zi_172_10 rfl
theorem zi_172_11 : z_ins 172 11 = some (.invokevirtual 226, 3) := by decide +kernel
theorem ze_172_11 : z_T g d 172 11 ls (.int x4 :: .int x3 :: .int x2 :: .int x1 :: .int x0 :: .ref a :: st) h P = ((z_okS 8 st = true ∧ z_gO h.1 a 10 ∧ 0 < d) ∧ z_Ca g (d - 1) 171 [.ref a, .int x0, .int x1, .int x2, .int x3, .int x4] h (fun r => z_k r (fun v h' => z_T g d 172 14 ls (z_push v st) h' P) P)) := zt_callV (as := [.int x0, .int x1, .int x2, .int x3, .int x4]) zi_172_11 ((congrArg (fun o => z_lookup z_prs (o, 226)) zo_172).trans zp_LatinRectanglesModel_226) ((congrArg (fun o => z_clk o 226) zo_172).trans zk_LatinRectanglesModel_226) zh_172 zc_171 rfl rfl rfl
theorem zi_172_14 : z_ins 172 14 = some (.ireturn, 1) := by decide +kernel
theorem ze_172_14 : z_T g d 172 14 ls [.int x] h P = P (.inr (some (.int x)), h) := zt_ireturn zi_172_14 zr_172
-- LatinRectanglesModel.transversalsThrough(II)I
theorem zo_173 : z_own 173 = "LatinRectanglesModel" := by decide +kernel
theorem zm_173 : z_maxL 173 = 3 := by decide +kernel
theorem zh_173 : z_hds 173 = [] := by decide +kernel
theorem zr_173 : z_rt 173 = (some .int) := by decide +kernel
theorem zn_173 : z_Ca g d 173 [.ref a0, .int x1, .int x2] h P = z_T g d 173 0 [.ref a0, .int x1, .int x2] [] h P := z_Ca_ent zm_173 rfl rfl
theorem zi_173_0 : z_ins 173 0 = some (.aload_n 0, 1) := by decide +kernel
theorem ze_173_0 : z_T g d 173 0 (.ref a :: ls) st h P = z_T g d 173 1 (.ref a :: ls) (.ref a :: st) h P := zt_aloadn zi_173_0 rfl rfl
theorem zi_173_1 : z_ins 173 1 = some (.iload_n 1, 1) := by decide +kernel
theorem ze_173_1 : z_T g d 173 1 (v0 :: .int x :: ls) st h P = z_T g d 173 2 (v0 :: .int x :: ls) (.int x :: st) h P := zt_iloadn zi_173_1 rfl rfl
theorem zi_173_2 : z_ins 173 2 = some (.iload_n 2, 1) := by decide +kernel
theorem ze_173_2 : z_T g d 173 2 (v0 :: v1 :: .int x :: ls) st h P = z_T g d 173 3 (v0 :: v1 :: .int x :: ls) (.int x :: st) h P := zt_iloadn zi_173_2 rfl rfl
theorem zi_173_3 : z_ins 173 3 = some (.invokevirtual 201, 3) := by decide +kernel
theorem ze_173_3 : z_T g d 173 3 ls (.int x1 :: .int x0 :: .ref a :: st) h P = ((z_okS 8 st = true ∧ z_gO h.1 a 10 ∧ 0 < d) ∧ z_Ca g (d - 1) 144 [.ref a, .int x0, .int x1] h (fun r => z_k r (fun v h' => z_T g d 173 6 ls (z_push v st) h' P) P)) := zt_callV (as := [.int x0, .int x1]) zi_173_3 ((congrArg (fun o => z_lookup z_prs (o, 201)) zo_173).trans zp_LatinRectanglesModel_201) ((congrArg (fun o => z_clk o 201) zo_173).trans zk_LatinRectanglesModel_201) zh_173 zc_144 rfl rfl rfl
theorem zi_173_6 : z_ins 173 6 = some (.ifCond .eq 7, 3) := by decide +kernel
theorem ze_173_6 : z_T g d 173 6 ls (.int x :: st) h P = (if x = nI 0 then z_T g d 173 13 ls st h P else z_T g d 173 9 ls st h P) := zt_ifeq zi_173_6 (by decide)
theorem zi_173_9 : z_ins 173 9 = some (.iconst 0, 1) := by decide +kernel
theorem ze_173_9 : z_T g d 173 9 ls st h P = z_T g d 173 10 ls (.int (nI 0) :: st) h P := zt_iconst zi_173_9 rfl
theorem zi_173_10 : z_ins 173 10 = some (.goto 12, 3) := by decide +kernel
theorem ze_173_10 : z_T g d 173 10 ls st h P = z_T g d 173 22 ls st h P := zt_goto zi_173_10 (by decide)
theorem zi_173_13 : z_ins 173 13 = some (.aload_n 0, 1) := by decide +kernel
theorem ze_173_13 : z_T g d 173 13 (.ref a :: ls) st h P = z_T g d 173 14 (.ref a :: ls) (.ref a :: st) h P := zt_aloadn zi_173_13 rfl rfl
theorem zi_173_14 : z_ins 173 14 = some (.iconst 0, 1) := by decide +kernel
theorem ze_173_14 : z_T g d 173 14 ls st h P = z_T g d 173 15 ls (.int (nI 0) :: st) h P := zt_iconst zi_173_14 rfl
theorem zi_173_15 : z_ins 173 15 = some (.iconst 0, 1) := by decide +kernel
theorem ze_173_15 : z_T g d 173 15 ls st h P = z_T g d 173 16 ls (.int (nI 0) :: st) h P := zt_iconst zi_173_15 rfl
theorem zi_173_16 : z_ins 173 16 = some (.iconst 0, 1) := by decide +kernel
theorem ze_173_16 : z_T g d 173 16 ls st h P = z_T g d 173 17 ls (.int (nI 0) :: st) h P := zt_iconst zi_173_16 rfl
theorem zi_173_17 : z_ins 173 17 = some (.iload_n 1, 1) := by decide +kernel
theorem ze_173_17 : z_T g d 173 17 (v0 :: .int x :: ls) st h P = z_T g d 173 18 (v0 :: .int x :: ls) (.int x :: st) h P := zt_iloadn zi_173_17 rfl rfl
theorem zi_173_18 : z_ins 173 18 = some (.iload_n 2, 1) := by decide +kernel
theorem ze_173_18 : z_T g d 173 18 (v0 :: v1 :: .int x :: ls) st h P = z_T g d 173 19 (v0 :: v1 :: .int x :: ls) (.int x :: st) h P := zt_iloadn zi_173_18 rfl rfl
theorem zi_173_19 : z_ins 173 19 = some (.invokevirtual 226, 3) := by decide +kernel
theorem ze_173_19 : z_T g d 173 19 ls (.int x4 :: .int x3 :: .int x2 :: .int x1 :: .int x0 :: .ref a :: st) h P = ((z_okS 8 st = true ∧ z_gO h.1 a 10 ∧ 0 < d) ∧ z_Ca g (d - 1) 171 [.ref a, .int x0, .int x1, .int x2, .int x3, .int x4] h (fun r => z_k r (fun v h' => z_T g d 173 22 ls (z_push v st) h' P) P)) := zt_callV (as := [.int x0, .int x1, .int x2, .int x3, .int x4]) zi_173_19 ((congrArg (fun o => z_lookup z_prs (o, 226)) zo_173).trans zp_LatinRectanglesModel_226) ((congrArg (fun o => z_clk o 226) zo_173).trans zk_LatinRectanglesModel_226) zh_173 zc_171 rfl rfl rfl
theorem zi_173_22 : z_ins 173 22 = some (.ireturn, 1) := by decide +kernel
theorem ze_173_22 : z_T g d 173 22 ls [.int x] h P = P (.inr (some (.int x)), h) := zt_ireturn zi_173_22 zr_173
-- LatinRectanglesModel.firstTransversal(I)I
theorem zo_174 : z_own 174 = "LatinRectanglesModel" := by decide +kernel
theorem zm_174 : z_maxL 174 = 9 := by decide +kernel
theorem zh_174 : z_hds 174 = [] := by decide +kernel
theorem zr_174 : z_rt 174 = (some .int) := by decide +kernel
theorem zn_174 : z_Ca g d 174 [.ref a0, .int x1] h P = z_T g d 174 0 [.ref a0, .int x1, z_un, z_un, z_un, z_un, z_un, z_un, z_un] [] h P := z_Ca_ent zm_174 rfl rfl
theorem zi_174_0 : z_ins 174 0 = some (.aload_n 0, 1) := by decide +kernel
theorem ze_174_0 : z_T g d 174 0 (.ref a :: ls) st h P = z_T g d 174 1 (.ref a :: ls) (.ref a :: st) h P := zt_aloadn zi_174_0 rfl rfl
theorem zi_174_1 : z_ins 174 1 = some (.iload_n 1, 1) := by decide +kernel
theorem ze_174_1 : z_T g d 174 1 (v0 :: .int x :: ls) st h P = z_T g d 174 2 (v0 :: .int x :: ls) (.int x :: st) h P := zt_iloadn zi_174_1 rfl rfl
theorem zi_174_2 : z_ins 174 2 = some (.invokevirtual 177, 3) := by decide +kernel
theorem ze_174_2 : z_T g d 174 2 ls (.int x0 :: .ref a :: st) h P = ((z_okS 8 st = true ∧ z_gO h.1 a 10 ∧ 0 < d) ∧ z_Ca g (d - 1) 143 [.ref a, .int x0] h (fun r => z_k r (fun v h' => z_T g d 174 5 ls (z_push v st) h' P) P)) := zt_callV (as := [.int x0]) zi_174_2 ((congrArg (fun o => z_lookup z_prs (o, 177)) zo_174).trans zp_LatinRectanglesModel_177) ((congrArg (fun o => z_clk o 177) zo_174).trans zk_LatinRectanglesModel_177) zh_174 zc_143 rfl rfl rfl
theorem zi_174_5 : z_ins 174 5 = some (.ifCond .eq 5, 3) := by decide +kernel
theorem ze_174_5 : z_T g d 174 5 ls (.int x :: st) h P = (if x = nI 0 then z_T g d 174 10 ls st h P else z_T g d 174 8 ls st h P) := zt_ifeq zi_174_5 (by decide)
theorem zi_174_8 : z_ins 174 8 = some (.iconst 0, 1) := by decide +kernel
theorem ze_174_8 : z_T g d 174 8 ls st h P = z_T g d 174 9 ls (.int (nI 0) :: st) h P := zt_iconst zi_174_8 rfl
theorem zi_174_9 : z_ins 174 9 = some (.ireturn, 1) := by decide +kernel
theorem ze_174_9 : z_T g d 174 9 ls [.int x] h P = P (.inr (some (.int x)), h) := zt_ireturn zi_174_9 zr_174
theorem zi_174_10 : z_ins 174 10 = some (.iconst 0, 1) := by decide +kernel
theorem ze_174_10 : z_T g d 174 10 ls st h P = z_T g d 174 11 ls (.int (nI 0) :: st) h P := zt_iconst zi_174_10 rfl
theorem zi_174_11 : z_ins 174 11 = some (.istore_n 2, 1) := by decide +kernel
theorem ze_174_11 : z_T g d 174 11 (v0 :: v1 :: v2 :: ls) (.int x :: st) h P = z_T g d 174 12 (v0 :: v1 :: .int x :: ls) st h P := zt_istoren zi_174_11 rfl (Nat.le_add_left 3 _)
theorem zi_174_12 : z_ins 174 12 = some (.iconst 0, 1) := by decide +kernel
theorem ze_174_12 : z_T g d 174 12 ls st h P = z_T g d 174 13 ls (.int (nI 0) :: st) h P := zt_iconst zi_174_12 rfl
theorem zi_174_13 : z_ins 174 13 = some (.istore_n 3, 1) := by decide +kernel
theorem ze_174_13 : z_T g d 174 13 (v0 :: v1 :: v2 :: v3 :: ls) (.int x :: st) h P = z_T g d 174 14 (v0 :: v1 :: v2 :: .int x :: ls) st h P := zt_istoren zi_174_13 rfl (Nat.le_add_left 4 _)
theorem zi_174_14 : z_ins 174 14 = some (.iconst (-1), 1) := by decide +kernel
theorem ze_174_14 : z_T g d 174 14 ls st h P = z_T g d 174 15 ls (.int (-1) :: st) h P := zt_iconst zi_174_14 rfl
theorem zi_174_15 : z_ins 174 15 = some (.istore 4, 2) := by decide +kernel
theorem ze_174_15 : z_T g d 174 15 (v0 :: v1 :: v2 :: v3 :: v4 :: ls) (.int x :: st) h P = z_T g d 174 17 (v0 :: v1 :: v2 :: v3 :: .int x :: ls) st h P := zt_istore zi_174_15 (Nat.le_add_left 5 _)
theorem zi_174_17 : z_ins 174 17 = some (.iconst 0, 1) := by decide +kernel
theorem ze_174_17 : z_T g d 174 17 ls st h P = z_T g d 174 18 ls (.int (nI 0) :: st) h P := zt_iconst zi_174_17 rfl
theorem zi_174_18 : z_ins 174 18 = some (.istore 5, 2) := by decide +kernel
theorem ze_174_18 : z_T g d 174 18 (v0 :: v1 :: v2 :: v3 :: v4 :: v5 :: ls) (.int x :: st) h P = z_T g d 174 20 (v0 :: v1 :: v2 :: v3 :: v4 :: .int x :: ls) st h P := zt_istore zi_174_18 (Nat.le_add_left 6 _)
theorem zi_174_20 : z_ins 174 20 = some (.iload 5, 2) := by decide +kernel
theorem ze_174_20 : z_T g d 174 20 (v0 :: v1 :: v2 :: v3 :: v4 :: .int x :: ls) st h P = z_T g d 174 22 (v0 :: v1 :: v2 :: v3 :: v4 :: .int x :: ls) (.int x :: st) h P := zt_iload zi_174_20 rfl
theorem zi_174_22 : z_ins 174 22 = some (.iload_n 1, 1) := by decide +kernel
theorem ze_174_22 : z_T g d 174 22 (v0 :: .int x :: ls) st h P = z_T g d 174 23 (v0 :: .int x :: ls) (.int x :: st) h P := zt_iloadn zi_174_22 rfl rfl
theorem zi_174_23 : z_ins 174 23 = some (.if_icmp .gt 143, 3) := by decide +kernel
theorem ze_174_23 : z_T g d 174 23 ls (.int y :: .int x :: st) h P = (if y < x then z_T g d 174 166 ls st h P else z_T g d 174 26 ls st h P) := zt_icmpgt zi_174_23 (by decide)
theorem zi_174_26 : z_ins 174 26 = some (.iconst (-1), 1) := by decide +kernel
theorem ze_174_26 : z_T g d 174 26 ls st h P = z_T g d 174 27 ls (.int (-1) :: st) h P := zt_iconst zi_174_26 rfl
theorem zi_174_27 : z_ins 174 27 = some (.istore 4, 2) := by decide +kernel
theorem ze_174_27 : z_T g d 174 27 (v0 :: v1 :: v2 :: v3 :: v4 :: ls) (.int x :: st) h P = z_T g d 174 29 (v0 :: v1 :: v2 :: v3 :: .int x :: ls) st h P := zt_istore zi_174_27 (Nat.le_add_left 5 _)
theorem zi_174_29 : z_ins 174 29 = some (.iconst 0, 1) := by decide +kernel
theorem ze_174_29 : z_T g d 174 29 ls st h P = z_T g d 174 30 ls (.int (nI 0) :: st) h P := zt_iconst zi_174_29 rfl
theorem zi_174_30 : z_ins 174 30 = some (.istore 6, 2) := by decide +kernel
theorem ze_174_30 : z_T g d 174 30 (v0 :: v1 :: v2 :: v3 :: v4 :: v5 :: v6 :: ls) (.int x :: st) h P = z_T g d 174 32 (v0 :: v1 :: v2 :: v3 :: v4 :: v5 :: .int x :: ls) st h P := zt_istore zi_174_30 (Nat.le_add_left 7 _)
theorem zi_174_32 : z_ins 174 32 = some (.iload 6, 2) := by decide +kernel
theorem ze_174_32 : z_T g d 174 32 (v0 :: v1 :: v2 :: v3 :: v4 :: v5 :: .int x :: ls) st h P = z_T g d 174 34 (v0 :: v1 :: v2 :: v3 :: v4 :: v5 :: .int x :: ls) (.int x :: st) h P := zt_iload zi_174_32 rfl
theorem zi_174_34 : z_ins 174 34 = some (.aload_n 0, 1) := by decide +kernel
theorem ze_174_34 : z_T g d 174 34 (.ref a :: ls) st h P = z_T g d 174 35 (.ref a :: ls) (.ref a :: st) h P := zt_aloadn zi_174_34 rfl rfl
theorem zi_174_35 : z_ins 174 35 = some (.getfield 76, 3) := by decide +kernel
theorem ze_174_35 : z_T g d 174 35 ls (.ref a :: st) h P = z_gI h.1 a 10 2 (fun x => z_T g d 174 38 ls (.int x :: st) h P) := zt_getI zi_174_35 ((congrArg (fun o => z_fl o 76) zo_174).trans zf_LatinRectanglesModel_76)
theorem zi_174_38 : z_ins 174 38 = some (.if_icmp .ge 94, 3) := by decide +kernel
theorem ze_174_38 : z_T g d 174 38 ls (.int y :: .int x :: st) h P = (if x < y then z_T g d 174 41 ls st h P else z_T g d 174 132 ls st h P) := zt_icmpge zi_174_38 (by decide)
theorem zi_174_41 : z_ins 174 41 = some (.iload 4, 2) := by decide +kernel
theorem ze_174_41 : z_T g d 174 41 (v0 :: v1 :: v2 :: v3 :: .int x :: ls) st h P = z_T g d 174 43 (v0 :: v1 :: v2 :: v3 :: .int x :: ls) (.int x :: st) h P := zt_iload zi_174_41 rfl
theorem zi_174_43 : z_ins 174 43 = some (.iconst (-1), 1) := by decide +kernel
theorem ze_174_43 : z_T g d 174 43 ls st h P = z_T g d 174 44 ls (.int (-1) :: st) h P := zt_iconst zi_174_43 rfl
theorem zi_174_44 : z_ins 174 44 = some (.if_icmp .ne 88, 3) := by decide +kernel
theorem ze_174_44 : z_T g d 174 44 ls (.int y :: .int x :: st) h P = (if x = y then z_T g d 174 47 ls st h P else z_T g d 174 132 ls st h P) := zt_icmpne zi_174_44 (by decide)
theorem zi_174_47 : z_ins 174 47 = some (.aload_n 0, 1) := by decide +kernel
theorem ze_174_47 : z_T g d 174 47 (.ref a :: ls) st h P = z_T g d 174 48 (.ref a :: ls) (.ref a :: st) h P := zt_aloadn zi_174_47 rfl rfl
theorem zi_174_48 : z_ins 174 48 = some (.iload 5, 2) := by decide +kernel
theorem ze_174_48 : z_T g d 174 48 (v0 :: v1 :: v2 :: v3 :: v4 :: .int x :: ls) st h P = z_T g d 174 50 (v0 :: v1 :: v2 :: v3 :: v4 :: .int x :: ls) (.int x :: st) h P := zt_iload zi_174_48 rfl
theorem zi_174_50 : z_ins 174 50 = some (.iload 6, 2) := by decide +kernel
theorem ze_174_50 : z_T g d 174 50 (v0 :: v1 :: v2 :: v3 :: v4 :: v5 :: .int x :: ls) st h P = z_T g d 174 52 (v0 :: v1 :: v2 :: v3 :: v4 :: v5 :: .int x :: ls) (.int x :: st) h P := zt_iload zi_174_50 rfl
theorem zi_174_52 : z_ins 174 52 = some (.invokevirtual 180, 3) := by decide +kernel
theorem ze_174_52 : z_T g d 174 52 ls (.int x1 :: .int x0 :: .ref a :: st) h P = ((z_okS 8 st = true ∧ z_gO h.1 a 10 ∧ 0 < d) ∧ z_Ca g (d - 1) 145 [.ref a, .int x0, .int x1] h (fun r => z_k r (fun v h' => z_T g d 174 55 ls (z_push v st) h' P) P)) := zt_callV (as := [.int x0, .int x1]) zi_174_52 ((congrArg (fun o => z_lookup z_prs (o, 180)) zo_174).trans zp_LatinRectanglesModel_180) ((congrArg (fun o => z_clk o 180) zo_174).trans zk_LatinRectanglesModel_180) zh_174 zc_145 rfl rfl rfl
theorem zi_174_55 : z_ins 174 55 = some (.istore 7, 2) := by decide +kernel
theorem ze_174_55 : z_T g d 174 55 (v0 :: v1 :: v2 :: v3 :: v4 :: v5 :: v6 :: v7 :: ls) (.int x :: st) h P = z_T g d 174 57 (v0 :: v1 :: v2 :: v3 :: v4 :: v5 :: v6 :: .int x :: ls) st h P := zt_istore zi_174_55 (Nat.le_add_left 8 _)
theorem zi_174_57 : z_ins 174 57 = some (.iload 7, 2) := by decide +kernel
theorem ze_174_57 : z_T g d 174 57 (v0 :: v1 :: v2 :: v3 :: v4 :: v5 :: v6 :: .int x :: ls) st h P = z_T g d 174 59 (v0 :: v1 :: v2 :: v3 :: v4 :: v5 :: v6 :: .int x :: ls) (.int x :: st) h P := zt_iload zi_174_57 rfl
theorem zi_174_59 : z_ins 174 59 = some (.iconst (-1), 1) := by decide +kernel
theorem ze_174_59 : z_T g d 174 59 ls st h P = z_T g d 174 60 ls (.int (-1) :: st) h P := zt_iconst zi_174_59 rfl
theorem zi_174_60 : z_ins 174 60 = some (.if_icmp .eq 25, 3) := by decide +kernel
theorem ze_174_60 : z_T g d 174 60 ls (.int y :: .int x :: st) h P = (if x = y then z_T g d 174 85 ls st h P else z_T g d 174 63 ls st h P) := zt_icmpeq zi_174_60 (by decide)
theorem zi_174_63 : z_ins 174 63 = some (.iload_n 2, 1) := by decide +kernel
theorem ze_174_63 : z_T g d 174 63 (v0 :: v1 :: .int x :: ls) st h P = z_T g d 174 64 (v0 :: v1 :: .int x :: ls) (.int x :: st) h P := zt_iloadn zi_174_63 rfl rfl
theorem zi_174_64 : z_ins 174 64 = some (.iload 6, 2) := by decide +kernel
theorem ze_174_64 : z_T g d 174 64 (v0 :: v1 :: v2 :: v3 :: v4 :: v5 :: .int x :: ls) st h P = z_T g d 174 66 (v0 :: v1 :: v2 :: v3 :: v4 :: v5 :: .int x :: ls) (.int x :: st) h P := zt_iload zi_174_64 rfl
theorem zi_174_66 : z_ins 174 66 = some (.ishr, 1) := by decide +kernel
theorem ze_174_66 : z_T g d 174 66 ls (.int y :: .int x :: st) h P = z_T g d 174 67 ls (.int (x >>> (y &&& 31)) :: st) h P := zt_bin (f := fun x y => x >>> (y &&& 31)) zi_174_66 rfl (fun _ _ _ => rfl)
theorem zi_174_67 : z_ins 174 67 = some (.iconst 1, 1) := by decide +kernel
theorem ze_174_67 : z_T g d 174 67 ls st h P = z_T g d 174 68 ls (.int (nI 1) :: st) h P := zt_iconst zi_174_67 rfl
theorem zi_174_68 : z_ins 174 68 = some (.iand, 1) := by decide +kernel
theorem ze_174_68 : z_T g d 174 68 ls (.int y :: .int x :: st) h P = z_T g d 174 69 ls (.int (x &&& y) :: st) h P := zt_bin (f := fun x y => x &&& y) zi_174_68 rfl (fun _ _ _ => rfl)
theorem zi_174_69 : z_ins 174 69 = some (.ifCond .ne 16, 3) := by decide +kernel
theorem ze_174_69 : z_T g d 174 69 ls (.int x :: st) h P = (if x = nI 0 then z_T g d 174 72 ls st h P else z_T g d 174 85 ls st h P) := zt_ifne zi_174_69 (by decide)
theorem zi_174_72 : z_ins 174 72 = some (.iload_n 3, 1) := by decide +kernel
theorem ze_174_72 : z_T g d 174 72 (v0 :: v1 :: v2 :: .int x :: ls) st h P = z_T g d 174 73 (v0 :: v1 :: v2 :: .int x :: ls) (.int x :: st) h P := zt_iloadn zi_174_72 rfl rfl
theorem zi_174_73 : z_ins 174 73 = some (.iload 7, 2) := by decide +kernel
theorem ze_174_73 : z_T g d 174 73 (v0 :: v1 :: v2 :: v3 :: v4 :: v5 :: v6 :: .int x :: ls) st h P = z_T g d 174 75 (v0 :: v1 :: v2 :: v3 :: v4 :: v5 :: v6 :: .int x :: ls) (.int x :: st) h P := zt_iload zi_174_73 rfl
theorem zi_174_75 : z_ins 174 75 = some (.ishr, 1) := by decide +kernel
theorem ze_174_75 : z_T g d 174 75 ls (.int y :: .int x :: st) h P = z_T g d 174 76 ls (.int (x >>> (y &&& 31)) :: st) h P := zt_bin (f := fun x y => x >>> (y &&& 31)) zi_174_75 rfl (fun _ _ _ => rfl)
theorem zi_174_76 : z_ins 174 76 = some (.iconst 1, 1) := by decide +kernel
theorem ze_174_76 : z_T g d 174 76 ls st h P = z_T g d 174 77 ls (.int (nI 1) :: st) h P := zt_iconst zi_174_76 rfl
theorem zi_174_77 : z_ins 174 77 = some (.iand, 1) := by decide +kernel
theorem ze_174_77 : z_T g d 174 77 ls (.int y :: .int x :: st) h P = z_T g d 174 78 ls (.int (x &&& y) :: st) h P := zt_bin (f := fun x y => x &&& y) zi_174_77 rfl (fun _ _ _ => rfl)
theorem zi_174_78 : z_ins 174 78 = some (.ifCond .ne 7, 3) := by decide +kernel
theorem ze_174_78 : z_T g d 174 78 ls (.int x :: st) h P = (if x = nI 0 then z_T g d 174 81 ls st h P else z_T g d 174 85 ls st h P) := zt_ifne zi_174_78 (by decide)
theorem zi_174_81 : z_ins 174 81 = some (.iconst 1, 1) := by decide +kernel
theorem ze_174_81 : z_T g d 174 81 ls st h P = z_T g d 174 82 ls (.int (nI 1) :: st) h P := zt_iconst zi_174_81 rfl
theorem zi_174_82 : z_ins 174 82 = some (.goto 4, 3) := by decide +kernel
theorem ze_174_82 : z_T g d 174 82 ls st h P = z_T g d 174 86 ls st h P := zt_goto zi_174_82 (by decide)
theorem zi_174_85 : z_ins 174 85 = some (.iconst 0, 1) := by decide +kernel
theorem ze_174_85 : z_T g d 174 85 ls st h P = z_T g d 174 86 ls (.int (nI 0) :: st) h P := zt_iconst zi_174_85 rfl
theorem zi_174_86 : z_ins 174 86 = some (.istore 8, 2) := by decide +kernel
theorem ze_174_86 : z_T g d 174 86 (v0 :: v1 :: v2 :: v3 :: v4 :: v5 :: v6 :: v7 :: v8 :: ls) (.int x :: st) h P = z_T g d 174 88 (v0 :: v1 :: v2 :: v3 :: v4 :: v5 :: v6 :: v7 :: .int x :: ls) st h P := zt_istore zi_174_86 (Nat.le_add_left 9 _)
theorem zi_174_88 : z_ins 174 88 = some (.iload 8, 2) := by decide +kernel
theorem ze_174_88 : z_T g d 174 88 (v0 :: v1 :: v2 :: v3 :: v4 :: v5 :: v6 :: v7 :: .int x :: ls) st h P = z_T g d 174 90 (v0 :: v1 :: v2 :: v3 :: v4 :: v5 :: v6 :: v7 :: .int x :: ls) (.int x :: st) h P := zt_iload zi_174_88 rfl
theorem zi_174_90 : z_ins 174 90 = some (.ifCond .eq 33, 3) := by decide +kernel
theorem ze_174_90 : z_T g d 174 90 ls (.int x :: st) h P = (if x = nI 0 then z_T g d 174 123 ls st h P else z_T g d 174 93 ls st h P) := zt_ifeq zi_174_90 (by decide)
theorem zi_174_93 : z_ins 174 93 = some (.aload_n 0, 1) := by decide +kernel
theorem ze_174_93 : z_T g d 174 93 (.ref a :: ls) st h P = z_T g d 174 94 (.ref a :: ls) (.ref a :: st) h P := zt_aloadn zi_174_93 rfl rfl
theorem zi_174_94 : z_ins 174 94 = some (.iload 5, 2) := by decide +kernel
theorem ze_174_94 : z_T g d 174 94 (v0 :: v1 :: v2 :: v3 :: v4 :: .int x :: ls) st h P = z_T g d 174 96 (v0 :: v1 :: v2 :: v3 :: v4 :: .int x :: ls) (.int x :: st) h P := zt_iload zi_174_94 rfl
theorem zi_174_96 : z_ins 174 96 = some (.iconst 1, 1) := by decide +kernel
theorem ze_174_96 : z_T g d 174 96 ls st h P = z_T g d 174 97 ls (.int (nI 1) :: st) h P := zt_iconst zi_174_96 rfl
theorem zi_174_97 : z_ins 174 97 = some (.iadd, 1) := by decide +kernel
theorem ze_174_97 : z_T g d 174 97 ls (.int y :: .int x :: st) h P = z_T g d 174 98 ls (.int (x + y) :: st) h P := zt_bin (f := fun x y => x + y) zi_174_97 rfl (fun _ _ _ => rfl)
theorem zi_174_98 : z_ins 174 98 = some (.iload_n 2, 1) := by decide +kernel
theorem ze_174_98 : z_T g d 174 98 (v0 :: v1 :: .int x :: ls) st h P = z_T g d 174 99 (v0 :: v1 :: .int x :: ls) (.int x :: st) h P := zt_iloadn zi_174_98 rfl rfl
theorem zi_174_99 : z_ins 174 99 = some (.iconst 1, 1) := by decide +kernel
theorem ze_174_99 : z_T g d 174 99 ls st h P = z_T g d 174 100 ls (.int (nI 1) :: st) h P := zt_iconst zi_174_99 rfl
theorem zi_174_100 : z_ins 174 100 = some (.iload 6, 2) := by decide +kernel
theorem ze_174_100 : z_T g d 174 100 (v0 :: v1 :: v2 :: v3 :: v4 :: v5 :: .int x :: ls) st h P = z_T g d 174 102 (v0 :: v1 :: v2 :: v3 :: v4 :: v5 :: .int x :: ls) (.int x :: st) h P := zt_iload zi_174_100 rfl
theorem zi_174_102 : z_ins 174 102 = some (.ishl, 1) := by decide +kernel
theorem ze_174_102 : z_T g d 174 102 ls (.int y :: .int x :: st) h P = z_T g d 174 103 ls (.int (x <<< (y &&& 31)) :: st) h P := zt_bin (f := fun x y => x <<< (y &&& 31)) zi_174_102 rfl (fun _ _ _ => rfl)
theorem zi_174_103 : z_ins 174 103 = some (.ior, 1) := by decide +kernel
theorem ze_174_103 : z_T g d 174 103 ls (.int y :: .int x :: st) h P = z_T g d 174 104 ls (.int (x ||| y) :: st) h P := zt_bin (f := fun x y => x ||| y) zi_174_103 rfl (fun _ _ _ => rfl)
theorem zi_174_104 : z_ins 174 104 = some (.iload_n 3, 1) := by decide +kernel
theorem ze_174_104 : z_T g d 174 104 (v0 :: v1 :: v2 :: .int x :: ls) st h P = z_T g d 174 105 (v0 :: v1 :: v2 :: .int x :: ls) (.int x :: st) h P := zt_iloadn zi_174_104 rfl rfl
theorem zi_174_105 : z_ins 174 105 = some (.iconst 1, 1) := by decide +kernel
theorem ze_174_105 : z_T g d 174 105 ls st h P = z_T g d 174 106 ls (.int (nI 1) :: st) h P := zt_iconst zi_174_105 rfl
theorem zi_174_106 : z_ins 174 106 = some (.iload 7, 2) := by decide +kernel
theorem ze_174_106 : z_T g d 174 106 (v0 :: v1 :: v2 :: v3 :: v4 :: v5 :: v6 :: .int x :: ls) st h P = z_T g d 174 108 (v0 :: v1 :: v2 :: v3 :: v4 :: v5 :: v6 :: .int x :: ls) (.int x :: st) h P := zt_iload zi_174_106 rfl
theorem zi_174_108 : z_ins 174 108 = some (.ishl, 1) := by decide +kernel
theorem ze_174_108 : z_T g d 174 108 ls (.int y :: .int x :: st) h P = z_T g d 174 109 ls (.int (x <<< (y &&& 31)) :: st) h P := zt_bin (f := fun x y => x <<< (y &&& 31)) zi_174_108 rfl (fun _ _ _ => rfl)
theorem zi_174_109 : z_ins 174 109 = some (.ior, 1) := by decide +kernel
theorem ze_174_109 : z_T g d 174 109 ls (.int y :: .int x :: st) h P = z_T g d 174 110 ls (.int (x ||| y) :: st) h P := zt_bin (f := fun x y => x ||| y) zi_174_109 rfl (fun _ _ _ => rfl)
theorem zi_174_110 : z_ins 174 110 = some (.iconst (-1), 1) := by decide +kernel
theorem ze_174_110 : z_T g d 174 110 ls st h P = z_T g d 174 111 ls (.int (-1) :: st) h P := zt_iconst zi_174_110 rfl
theorem zi_174_111 : z_ins 174 111 = some (.iconst (-1), 1) := by decide +kernel
theorem ze_174_111 : z_T g d 174 111 ls st h P = z_T g d 174 112 ls (.int (-1) :: st) h P := zt_iconst zi_174_111 rfl
theorem zi_174_112 : z_ins 174 112 = some (.invokevirtual 226, 3) := by decide +kernel
theorem ze_174_112 : z_T g d 174 112 ls (.int x4 :: .int x3 :: .int x2 :: .int x1 :: .int x0 :: .ref a :: st) h P = ((z_okS 8 st = true ∧ z_gO h.1 a 10 ∧ 0 < d) ∧ z_Ca g (d - 1) 171 [.ref a, .int x0, .int x1, .int x2, .int x3, .int x4] h (fun r => z_k r (fun v h' => z_T g d 174 115 ls (z_push v st) h' P) P)) := zt_callV (as := [.int x0, .int x1, .int x2, .int x3, .int x4]) zi_174_112 ((congrArg (fun o => z_lookup z_prs (o, 226)) zo_174).trans zp_LatinRectanglesModel_226) ((congrArg (fun o => z_clk o 226) zo_174).trans zk_LatinRectanglesModel_226) zh_174 zc_171 rfl rfl rfl
theorem zi_174_115 : z_ins 174 115 = some (.ifCond .le 8, 3) := by decide +kernel
theorem ze_174_115 : z_T g d 174 115 ls (.int x :: st) h P = (if nI 0 < x then z_T g d 174 118 ls st h P else z_T g d 174 123 ls st h P) := zt_ifle zi_174_115 (by decide)
theorem zi_174_118 : z_ins 174 118 = some (.iload 6, 2) := by decide +kernel
theorem ze_174_118 : z_T g d 174 118 (v0 :: v1 :: v2 :: v3 :: v4 :: v5 :: .int x :: ls) st h P = z_T g d 174 120 (v0 :: v1 :: v2 :: v3 :: v4 :: v5 :: .int x :: ls) (.int x :: st) h P := zt_iload zi_174_118 rfl
theorem zi_174_120 : z_ins 174 120 = some (.goto 4, 3) := by decide +kernel
theorem ze_174_120 : z_T g d 174 120 ls st h P = z_T g d 174 124 ls st h P := zt_goto zi_174_120 (by decide)
theorem zi_174_123 : z_ins 174 123 = some (.iconst (-1), 1) := by decide +kernel
theorem ze_174_123 : z_T g d 174 123 ls st h P = z_T g d 174 124 ls (.int (-1) :: st) h P := zt_iconst zi_174_123 rfl
theorem zi_174_124 : z_ins 174 124 = some (.istore 4, 2) := by decide +kernel
theorem ze_174_124 : z_T g d 174 124 (v0 :: v1 :: v2 :: v3 :: v4 :: ls) (.int x :: st) h P = z_T g d 174 126 (v0 :: v1 :: v2 :: v3 :: .int x :: ls) st h P := zt_istore zi_174_124 (Nat.le_add_left 5 _)
theorem zi_174_126 : z_ins 174 126 = some (.iinc 6 1, 3) := by decide +kernel
theorem ze_174_126 : z_T g d 174 126 (v0 :: v1 :: v2 :: v3 :: v4 :: v5 :: .int x :: ls) st h P = z_T g d 174 129 (v0 :: v1 :: v2 :: v3 :: v4 :: v5 :: .int (x + (nI 1)) :: ls) st h P := zt_iinc zi_174_126 rfl rfl
theorem zi_174_129 : z_ins 174 129 = some (.goto (-97), 3) := by decide +kernel
theorem ze_174_129 : z_T g d 174 129 ls st h P = z_T g d 174 32 ls st h P := zt_goto zi_174_129 (by decide)
theorem zi_174_132 : z_ins 174 132 = some (.iload 4, 2) := by decide +kernel
theorem ze_174_132 : z_T g d 174 132 (v0 :: v1 :: v2 :: v3 :: .int x :: ls) st h P = z_T g d 174 134 (v0 :: v1 :: v2 :: v3 :: .int x :: ls) (.int x :: st) h P := zt_iload zi_174_132 rfl
theorem zi_174_134 : z_ins 174 134 = some (.iconst (-1), 1) := by decide +kernel
theorem ze_174_134 : z_T g d 174 134 ls st h P = z_T g d 174 135 ls (.int (-1) :: st) h P := zt_iconst zi_174_134 rfl
theorem zi_174_135 : z_ins 174 135 = some (.if_icmp .ne 5, 3) := by decide +kernel
theorem ze_174_135 : z_T g d 174 135 ls (.int y :: .int x :: st) h P = (if x = y then z_T g d 174 138 ls st h P else z_T g d 174 140 ls st h P) := zt_icmpne zi_174_135 (by decide)
theorem zi_174_138 : z_ins 174 138 = some (.iconst (-1), 1) := by decide +kernel
theorem ze_174_138 : z_T g d 174 138 ls st h P = z_T g d 174 139 ls (.int (-1) :: st) h P := zt_iconst zi_174_138 rfl
theorem zi_174_139 : z_ins 174 139 = some (.ireturn, 1) := by decide +kernel
theorem ze_174_139 : z_T g d 174 139 ls [.int x] h P = P (.inr (some (.int x)), h) := zt_ireturn zi_174_139 zr_174
theorem zi_174_140 : z_ins 174 140 = some (.iload_n 2, 1) := by decide +kernel
theorem ze_174_140 : z_T g d 174 140 (v0 :: v1 :: .int x :: ls) st h P = z_T g d 174 141 (v0 :: v1 :: .int x :: ls) (.int x :: st) h P := zt_iloadn zi_174_140 rfl rfl
theorem zi_174_141 : z_ins 174 141 = some (.iconst 1, 1) := by decide +kernel
theorem ze_174_141 : z_T g d 174 141 ls st h P = z_T g d 174 142 ls (.int (nI 1) :: st) h P := zt_iconst zi_174_141 rfl
theorem zi_174_142 : z_ins 174 142 = some (.iload 4, 2) := by decide +kernel
theorem ze_174_142 : z_T g d 174 142 (v0 :: v1 :: v2 :: v3 :: .int x :: ls) st h P = z_T g d 174 144 (v0 :: v1 :: v2 :: v3 :: .int x :: ls) (.int x :: st) h P := zt_iload zi_174_142 rfl
theorem zi_174_144 : z_ins 174 144 = some (.ishl, 1) := by decide +kernel
theorem ze_174_144 : z_T g d 174 144 ls (.int y :: .int x :: st) h P = z_T g d 174 145 ls (.int (x <<< (y &&& 31)) :: st) h P := zt_bin (f := fun x y => x <<< (y &&& 31)) zi_174_144 rfl (fun _ _ _ => rfl)
theorem zi_174_145 : z_ins 174 145 = some (.ior, 1) := by decide +kernel
theorem ze_174_145 : z_T g d 174 145 ls (.int y :: .int x :: st) h P = z_T g d 174 146 ls (.int (x ||| y) :: st) h P := zt_bin (f := fun x y => x ||| y) zi_174_145 rfl (fun _ _ _ => rfl)
theorem zi_174_146 : z_ins 174 146 = some (.istore_n 2, 1) := by decide +kernel
theorem ze_174_146 : z_T g d 174 146 (v0 :: v1 :: v2 :: ls) (.int x :: st) h P = z_T g d 174 147 (v0 :: v1 :: .int x :: ls) st h P := zt_istoren zi_174_146 rfl (Nat.le_add_left 3 _)
theorem zi_174_147 : z_ins 174 147 = some (.iload_n 3, 1) := by decide +kernel
theorem ze_174_147 : z_T g d 174 147 (v0 :: v1 :: v2 :: .int x :: ls) st h P = z_T g d 174 148 (v0 :: v1 :: v2 :: .int x :: ls) (.int x :: st) h P := zt_iloadn zi_174_147 rfl rfl
theorem zi_174_148 : z_ins 174 148 = some (.iconst 1, 1) := by decide +kernel
theorem ze_174_148 : z_T g d 174 148 ls st h P = z_T g d 174 149 ls (.int (nI 1) :: st) h P := zt_iconst zi_174_148 rfl
theorem zi_174_149 : z_ins 174 149 = some (.aload_n 0, 1) := by decide +kernel
theorem ze_174_149 : z_T g d 174 149 (.ref a :: ls) st h P = z_T g d 174 150 (.ref a :: ls) (.ref a :: st) h P := zt_aloadn zi_174_149 rfl rfl
theorem zi_174_150 : z_ins 174 150 = some (.iload 5, 2) := by decide +kernel
theorem ze_174_150 : z_T g d 174 150 (v0 :: v1 :: v2 :: v3 :: v4 :: .int x :: ls) st h P = z_T g d 174 152 (v0 :: v1 :: v2 :: v3 :: v4 :: .int x :: ls) (.int x :: st) h P := zt_iload zi_174_150 rfl
theorem zi_174_152 : z_ins 174 152 = some (.iload 4, 2) := by decide +kernel
theorem ze_174_152 : z_T g d 174 152 (v0 :: v1 :: v2 :: v3 :: .int x :: ls) st h P = z_T g d 174 154 (v0 :: v1 :: v2 :: v3 :: .int x :: ls) (.int x :: st) h P := zt_iload zi_174_152 rfl
theorem zi_174_154 : z_ins 174 154 = some (.invokevirtual 180, 3) := by decide +kernel
theorem ze_174_154 : z_T g d 174 154 ls (.int x1 :: .int x0 :: .ref a :: st) h P = ((z_okS 8 st = true ∧ z_gO h.1 a 10 ∧ 0 < d) ∧ z_Ca g (d - 1) 145 [.ref a, .int x0, .int x1] h (fun r => z_k r (fun v h' => z_T g d 174 157 ls (z_push v st) h' P) P)) := zt_callV (as := [.int x0, .int x1]) zi_174_154 ((congrArg (fun o => z_lookup z_prs (o, 180)) zo_174).trans zp_LatinRectanglesModel_180) ((congrArg (fun o => z_clk o 180) zo_174).trans zk_LatinRectanglesModel_180) zh_174 zc_145 rfl rfl rfl
theorem zi_174_157 : z_ins 174 157 = some (.ishl, 1) := by decide +kernel
theorem ze_174_157 : z_T g d 174 157 ls (.int y :: .int x :: st) h P = z_T g d 174 158 ls (.int (x <<< (y &&& 31)) :: st) h P := zt_bin (f := fun x y => x <<< (y &&& 31)) zi_174_157 rfl (fun _ _ _ => rfl)
theorem zi_174_158 : z_ins 174 158 = some (.ior, 1) := by decide +kernel
theorem ze_174_158 : z_T g d 174 158 ls (.int y :: .int x :: st) h P = z_T g d 174 159 ls (.int (x ||| y) :: st) h P := zt_bin (f := fun x y => x ||| y) zi_174_158 rfl (fun _ _ _ => rfl)
theorem zi_174_159 : z_ins 174 159 = some (.istore_n 3, 1) := by decide +kernel
theorem ze_174_159 : z_T g d 174 159 (v0 :: v1 :: v2 :: v3 :: ls) (.int x :: st) h P = z_T g d 174 160 (v0 :: v1 :: v2 :: .int x :: ls) st h P := zt_istoren zi_174_159 rfl (Nat.le_add_left 4 _)
theorem zi_174_160 : z_ins 174 160 = some (.iinc 5 1, 3) := by decide +kernel
theorem ze_174_160 : z_T g d 174 160 (v0 :: v1 :: v2 :: v3 :: v4 :: .int x :: ls) st h P = z_T g d 174 163 (v0 :: v1 :: v2 :: v3 :: v4 :: .int (x + (nI 1)) :: ls) st h P := zt_iinc zi_174_160 rfl rfl
theorem zi_174_163 : z_ins 174 163 = some (.goto (-143), 3) := by decide +kernel
theorem ze_174_163 : z_T g d 174 163 ls st h P = z_T g d 174 20 ls st h P := zt_goto zi_174_163 (by decide)
theorem zi_174_166 : z_ins 174 166 = some (.iload 4, 2) := by decide +kernel
theorem ze_174_166 : z_T g d 174 166 (v0 :: v1 :: v2 :: v3 :: .int x :: ls) st h P = z_T g d 174 168 (v0 :: v1 :: v2 :: v3 :: .int x :: ls) (.int x :: st) h P := zt_iload zi_174_166 rfl
theorem zi_174_168 : z_ins 174 168 = some (.ireturn, 1) := by decide +kernel
theorem ze_174_168 : z_T g d 174 168 ls [.int x] h P = P (.inr (some (.int x)), h) := zt_ireturn zi_174_168 zr_174
-- LatinRectanglesModel.longest(III)I
theorem zo_175 : z_own 175 = "LatinRectanglesModel" := by decide +kernel
theorem zm_175 : z_maxL 175 = 8 := by decide +kernel
theorem zh_175 : z_hds 175 = [] := by decide +kernel
theorem zr_175 : z_rt 175 = (some .int) := by decide +kernel
theorem zn_175 : z_Ca g d 175 [.ref a0, .int x1, .int x2, .int x3] h P = z_T g d 175 0 [.ref a0, .int x1, .int x2, .int x3, z_un, z_un, z_un, z_un] [] h P := z_Ca_ent zm_175 rfl rfl
theorem zi_175_0 : z_ins 175 0 = some (.iload_n 1, 1) := by decide +kernel
theorem ze_175_0 : z_T g d 175 0 (v0 :: .int x :: ls) st h P = z_T g d 175 1 (v0 :: .int x :: ls) (.int x :: st) h P := zt_iloadn zi_175_0 rfl rfl
theorem zi_175_1 : z_ins 175 1 = some (.aload_n 0, 1) := by decide +kernel
theorem ze_175_1 : z_T g d 175 1 (.ref a :: ls) st h P = z_T g d 175 2 (.ref a :: ls) (.ref a :: st) h P := zt_aloadn zi_175_1 rfl rfl
theorem zi_175_2 : z_ins 175 2 = some (.getfield 73, 3) := by decide +kernel
theorem ze_175_2 : z_T g d 175 2 ls (.ref a :: st) h P = z_gI h.1 a 10 1 (fun x => z_T g d 175 5 ls (.int x :: st) h P) := zt_getI zi_175_2 ((congrArg (fun o => z_fl o 73) zo_175).trans zf_LatinRectanglesModel_73)
theorem zi_175_5 : z_ins 175 5 = some (.if_icmp .ne 5, 3) := by decide +kernel
theorem ze_175_5 : z_T g d 175 5 ls (.int y :: .int x :: st) h P = (if x = y then z_T g d 175 8 ls st h P else z_T g d 175 10 ls st h P) := zt_icmpne zi_175_5 (by decide)
theorem zi_175_8 : z_ins 175 8 = some (.iconst 0, 1) := by decide +kernel
theorem ze_175_8 : z_T g d 175 8 ls st h P = z_T g d 175 9 ls (.int (nI 0) :: st) h P := zt_iconst zi_175_8 rfl
theorem zi_175_9 : z_ins 175 9 = some (.ireturn, 1) := by decide +kernel
theorem ze_175_9 : z_T g d 175 9 ls [.int x] h P = P (.inr (some (.int x)), h) := zt_ireturn zi_175_9 zr_175
theorem zi_175_10 : z_ins 175 10 = some (.aload_n 0, 1) := by decide +kernel
theorem ze_175_10 : z_T g d 175 10 (.ref a :: ls) st h P = z_T g d 175 11 (.ref a :: ls) (.ref a :: st) h P := zt_aloadn zi_175_10 rfl rfl
theorem zi_175_11 : z_ins 175 11 = some (.iload_n 1, 1) := by decide +kernel
theorem ze_175_11 : z_T g d 175 11 (v0 :: .int x :: ls) st h P = z_T g d 175 12 (v0 :: .int x :: ls) (.int x :: st) h P := zt_iloadn zi_175_11 rfl rfl
theorem zi_175_12 : z_ins 175 12 = some (.iconst 1, 1) := by decide +kernel
theorem ze_175_12 : z_T g d 175 12 ls st h P = z_T g d 175 13 ls (.int (nI 1) :: st) h P := zt_iconst zi_175_12 rfl
theorem zi_175_13 : z_ins 175 13 = some (.iadd, 1) := by decide +kernel
theorem ze_175_13 : z_T g d 175 13 ls (.int y :: .int x :: st) h P = z_T g d 175 14 ls (.int (x + y) :: st) h P := zt_bin (f := fun x y => x + y) zi_175_13 rfl (fun _ _ _ => rfl)
theorem zi_175_14 : z_ins 175 14 = some (.iload_n 2, 1) := by decide +kernel
theorem ze_175_14 : z_T g d 175 14 (v0 :: v1 :: .int x :: ls) st h P = z_T g d 175 15 (v0 :: v1 :: .int x :: ls) (.int x :: st) h P := zt_iloadn zi_175_14 rfl rfl
theorem zi_175_15 : z_ins 175 15 = some (.iload_n 3, 1) := by decide +kernel
theorem ze_175_15 : z_T g d 175 15 (v0 :: v1 :: v2 :: .int x :: ls) st h P = z_T g d 175 16 (v0 :: v1 :: v2 :: .int x :: ls) (.int x :: st) h P := zt_iloadn zi_175_15 rfl rfl
theorem zi_175_16 : z_ins 175 16 = some (.invokevirtual 230, 3) := by decide +kernel
theorem ze_175_16 : z_T g d 175 16 ls (.int x2 :: .int x1 :: .int x0 :: .ref a :: st) h P = ((z_okS 8 st = true ∧ z_gO h.1 a 10 ∧ 0 < d) ∧ z_Ca g (d - 1) 175 [.ref a, .int x0, .int x1, .int x2] h (fun r => z_k r (fun v h' => z_T g d 175 19 ls (z_push v st) h' P) P)) := zt_callV (as := [.int x0, .int x1, .int x2]) zi_175_16 ((congrArg (fun o => z_lookup z_prs (o, 230)) zo_175).trans zp_LatinRectanglesModel_230) ((congrArg (fun o => z_clk o 230) zo_175).trans zk_LatinRectanglesModel_230) zh_175 zc_175 rfl rfl rfl
theorem zi_175_19 : z_ins 175 19 = some (.istore 4, 2) := by decide +kernel
theorem ze_175_19 : z_T g d 175 19 (v0 :: v1 :: v2 :: v3 :: v4 :: ls) (.int x :: st) h P = z_T g d 175 21 (v0 :: v1 :: v2 :: v3 :: .int x :: ls) st h P := zt_istore zi_175_19 (Nat.le_add_left 5 _)
theorem zi_175_21 : z_ins 175 21 = some (.iconst 0, 1) := by decide +kernel
theorem ze_175_21 : z_T g d 175 21 ls st h P = z_T g d 175 22 ls (.int (nI 0) :: st) h P := zt_iconst zi_175_21 rfl
theorem zi_175_22 : z_ins 175 22 = some (.istore 5, 2) := by decide +kernel
theorem ze_175_22 : z_T g d 175 22 (v0 :: v1 :: v2 :: v3 :: v4 :: v5 :: ls) (.int x :: st) h P = z_T g d 175 24 (v0 :: v1 :: v2 :: v3 :: v4 :: .int x :: ls) st h P := zt_istore zi_175_22 (Nat.le_add_left 6 _)
theorem zi_175_24 : z_ins 175 24 = some (.iload 5, 2) := by decide +kernel
theorem ze_175_24 : z_T g d 175 24 (v0 :: v1 :: v2 :: v3 :: v4 :: .int x :: ls) st h P = z_T g d 175 26 (v0 :: v1 :: v2 :: v3 :: v4 :: .int x :: ls) (.int x :: st) h P := zt_iload zi_175_24 rfl
theorem zi_175_26 : z_ins 175 26 = some (.aload_n 0, 1) := by decide +kernel
theorem ze_175_26 : z_T g d 175 26 (.ref a :: ls) st h P = z_T g d 175 27 (.ref a :: ls) (.ref a :: st) h P := zt_aloadn zi_175_26 rfl rfl
theorem zi_175_27 : z_ins 175 27 = some (.getfield 76, 3) := by decide +kernel
theorem ze_175_27 : z_T g d 175 27 ls (.ref a :: st) h P = z_gI h.1 a 10 2 (fun x => z_T g d 175 30 ls (.int x :: st) h P) := zt_getI zi_175_27 ((congrArg (fun o => z_fl o 76) zo_175).trans zf_LatinRectanglesModel_76)
theorem zi_175_30 : z_ins 175 30 = some (.if_icmp .ge 86, 3) := by decide +kernel
theorem ze_175_30 : z_T g d 175 30 ls (.int y :: .int x :: st) h P = (if x < y then z_T g d 175 33 ls st h P else z_T g d 175 116 ls st h P) := zt_icmpge zi_175_30 (by decide)
theorem zi_175_33 : z_ins 175 33 = some (.aload_n 0, 1) := by decide +kernel
theorem ze_175_33 : z_T g d 175 33 (.ref a :: ls) st h P = z_T g d 175 34 (.ref a :: ls) (.ref a :: st) h P := zt_aloadn zi_175_33 rfl rfl
theorem zi_175_34 : z_ins 175 34 = some (.iload_n 1, 1) := by decide +kernel
theorem ze_175_34 : z_T g d 175 34 (v0 :: .int x :: ls) st h P = z_T g d 175 35 (v0 :: .int x :: ls) (.int x :: st) h P := zt_iloadn zi_175_34 rfl rfl
theorem zi_175_35 : z_ins 175 35 = some (.iload 5, 2) := by decide +kernel
theorem ze_175_35 : z_T g d 175 35 (v0 :: v1 :: v2 :: v3 :: v4 :: .int x :: ls) st h P = z_T g d 175 37 (v0 :: v1 :: v2 :: v3 :: v4 :: .int x :: ls) (.int x :: st) h P := zt_iload zi_175_35 rfl
theorem zi_175_37 : z_ins 175 37 = some (.invokevirtual 180, 3) := by decide +kernel
theorem ze_175_37 : z_T g d 175 37 ls (.int x1 :: .int x0 :: .ref a :: st) h P = ((z_okS 8 st = true ∧ z_gO h.1 a 10 ∧ 0 < d) ∧ z_Ca g (d - 1) 145 [.ref a, .int x0, .int x1] h (fun r => z_k r (fun v h' => z_T g d 175 40 ls (z_push v st) h' P) P)) := zt_callV (as := [.int x0, .int x1]) zi_175_37 ((congrArg (fun o => z_lookup z_prs (o, 180)) zo_175).trans zp_LatinRectanglesModel_180) ((congrArg (fun o => z_clk o 180) zo_175).trans zk_LatinRectanglesModel_180) zh_175 zc_145 rfl rfl rfl
theorem zi_175_40 : z_ins 175 40 = some (.istore 6, 2) := by decide +kernel
theorem ze_175_40 : z_T g d 175 40 (v0 :: v1 :: v2 :: v3 :: v4 :: v5 :: v6 :: ls) (.int x :: st) h P = z_T g d 175 42 (v0 :: v1 :: v2 :: v3 :: v4 :: v5 :: .int x :: ls) st h P := zt_istore zi_175_40 (Nat.le_add_left 7 _)
theorem zi_175_42 : z_ins 175 42 = some (.iload 6, 2) := by decide +kernel
theorem ze_175_42 : z_T g d 175 42 (v0 :: v1 :: v2 :: v3 :: v4 :: v5 :: .int x :: ls) st h P = z_T g d 175 44 (v0 :: v1 :: v2 :: v3 :: v4 :: v5 :: .int x :: ls) (.int x :: st) h P := zt_iload zi_175_42 rfl
theorem zi_175_44 : z_ins 175 44 = some (.iconst (-1), 1) := by decide +kernel
theorem ze_175_44 : z_T g d 175 44 ls st h P = z_T g d 175 45 ls (.int (-1) :: st) h P := zt_iconst zi_175_44 rfl
theorem zi_175_45 : z_ins 175 45 = some (.if_icmp .eq 65, 3) := by decide +kernel
theorem ze_175_45 : z_T g d 175 45 ls (.int y :: .int x :: st) h P = (if x = y then z_T g d 175 110 ls st h P else z_T g d 175 48 ls st h P) := zt_icmpeq zi_175_45 (by decide)
theorem zi_175_48 : z_ins 175 48 = some (.iload_n 2, 1) := by decide +kernel
theorem ze_175_48 : z_T g d 175 48 (v0 :: v1 :: .int x :: ls) st h P = z_T g d 175 49 (v0 :: v1 :: .int x :: ls) (.int x :: st) h P := zt_iloadn zi_175_48 rfl rfl
theorem zi_175_49 : z_ins 175 49 = some (.iload 5, 2) := by decide +kernel
theorem ze_175_49 : z_T g d 175 49 (v0 :: v1 :: v2 :: v3 :: v4 :: .int x :: ls) st h P = z_T g d 175 51 (v0 :: v1 :: v2 :: v3 :: v4 :: .int x :: ls) (.int x :: st) h P := zt_iload zi_175_49 rfl
theorem zi_175_51 : z_ins 175 51 = some (.ishr, 1) := by decide +kernel
theorem ze_175_51 : z_T g d 175 51 ls (.int y :: .int x :: st) h P = z_T g d 175 52 ls (.int (x >>> (y &&& 31)) :: st) h P := zt_bin (f := fun x y => x >>> (y &&& 31)) zi_175_51 rfl (fun _ _ _ => rfl)
theorem zi_175_52 : z_ins 175 52 = some (.iconst 1, 1) := by decide +kernel
theorem ze_175_52 : z_T g d 175 52 ls st h P = z_T g d 175 53 ls (.int (nI 1) :: st) h P := zt_iconst zi_175_52 rfl
theorem zi_175_53 : z_ins 175 53 = some (.iand, 1) := by decide +kernel
theorem ze_175_53 : z_T g d 175 53 ls (.int y :: .int x :: st) h P = z_T g d 175 54 ls (.int (x &&& y) :: st) h P := zt_bin (f := fun x y => x &&& y) zi_175_53 rfl (fun _ _ _ => rfl)
theorem zi_175_54 : z_ins 175 54 = some (.iconst 1, 1) := by decide +kernel
theorem ze_175_54 : z_T g d 175 54 ls st h P = z_T g d 175 55 ls (.int (nI 1) :: st) h P := zt_iconst zi_175_54 rfl
theorem zi_175_55 : z_ins 175 55 = some (.if_icmp .eq 55, 3) := by decide +kernel
theorem ze_175_55 : z_T g d 175 55 ls (.int y :: .int x :: st) h P = (if x = y then z_T g d 175 110 ls st h P else z_T g d 175 58 ls st h P) := zt_icmpeq zi_175_55 (by decide)
theorem zi_175_58 : z_ins 175 58 = some (.iload_n 3, 1) := by decide +kernel
theorem ze_175_58 : z_T g d 175 58 (v0 :: v1 :: v2 :: .int x :: ls) st h P = z_T g d 175 59 (v0 :: v1 :: v2 :: .int x :: ls) (.int x :: st) h P := zt_iloadn zi_175_58 rfl rfl
theorem zi_175_59 : z_ins 175 59 = some (.iload 6, 2) := by decide +kernel
theorem ze_175_59 : z_T g d 175 59 (v0 :: v1 :: v2 :: v3 :: v4 :: v5 :: .int x :: ls) st h P = z_T g d 175 61 (v0 :: v1 :: v2 :: v3 :: v4 :: v5 :: .int x :: ls) (.int x :: st) h P := zt_iload zi_175_59 rfl
theorem zi_175_61 : z_ins 175 61 = some (.ishr, 1) := by decide +kernel
theorem ze_175_61 : z_T g d 175 61 ls (.int y :: .int x :: st) h P = z_T g d 175 62 ls (.int (x >>> (y &&& 31)) :: st) h P := zt_bin (f := fun x y => x >>> (y &&& 31)) zi_175_61 rfl (fun _ _ _ => rfl)
theorem zi_175_62 : z_ins 175 62 = some (.iconst 1, 1) := by decide +kernel
theorem ze_175_62 : z_T g d 175 62 ls st h P = z_T g d 175 63 ls (.int (nI 1) :: st) h P := zt_iconst zi_175_62 rfl
theorem zi_175_63 : z_ins 175 63 = some (.iand, 1) := by decide +kernel
theorem ze_175_63 : z_T g d 175 63 ls (.int y :: .int x :: st) h P = z_T g d 175 64 ls (.int (x &&& y) :: st) h P := zt_bin (f := fun x y => x &&& y) zi_175_63 rfl (fun _ _ _ => rfl)
theorem zi_175_64 : z_ins 175 64 = some (.iconst 1, 1) := by decide +kernel
theorem ze_175_64 : z_T g d 175 64 ls st h P = z_T g d 175 65 ls (.int (nI 1) :: st) h P := zt_iconst zi_175_64 rfl
theorem zi_175_65 : z_ins 175 65 = some (.if_icmp .ne 6, 3) := by decide +kernel
theorem ze_175_65 : z_T g d 175 65 ls (.int y :: .int x :: st) h P = (if x = y then z_T g d 175 68 ls st h P else z_T g d 175 71 ls st h P) := zt_icmpne zi_175_65 (by decide)
theorem zi_175_68 : z_ins 175 68 = some (.goto 42, 3) := by decide +kernel
theorem ze_175_68 : z_T g d 175 68 ls st h P = z_T g d 175 110 ls st h P := zt_goto zi_175_68 (by decide)
theorem zi_175_71 : z_ins 175 71 = some (.iconst 1, 1) := by decide +kernel
theorem ze_175_71 : z_T g d 175 71 ls st h P = z_T g d 175 72 ls (.int (nI 1) :: st) h P := zt_iconst zi_175_71 rfl
theorem zi_175_72 : z_ins 175 72 = some (.aload_n 0, 1) := by decide +kernel
theorem ze_175_72 : z_T g d 175 72 (.ref a :: ls) st h P = z_T g d 175 73 (.ref a :: ls) (.ref a :: st) h P := zt_aloadn zi_175_72 rfl rfl
theorem zi_175_73 : z_ins 175 73 = some (.iload_n 1, 1) := by decide +kernel
theorem ze_175_73 : z_T g d 175 73 (v0 :: .int x :: ls) st h P = z_T g d 175 74 (v0 :: .int x :: ls) (.int x :: st) h P := zt_iloadn zi_175_73 rfl rfl
theorem zi_175_74 : z_ins 175 74 = some (.iconst 1, 1) := by decide +kernel
theorem ze_175_74 : z_T g d 175 74 ls st h P = z_T g d 175 75 ls (.int (nI 1) :: st) h P := zt_iconst zi_175_74 rfl
theorem zi_175_75 : z_ins 175 75 = some (.iadd, 1) := by decide +kernel
theorem ze_175_75 : z_T g d 175 75 ls (.int y :: .int x :: st) h P = z_T g d 175 76 ls (.int (x + y) :: st) h P := zt_bin (f := fun x y => x + y) zi_175_75 rfl (fun _ _ _ => rfl)
theorem zi_175_76 : z_ins 175 76 = some (.iload_n 2, 1) := by decide +kernel
theorem ze_175_76 : z_T g d 175 76 (v0 :: v1 :: .int x :: ls) st h P = z_T g d 175 77 (v0 :: v1 :: .int x :: ls) (.int x :: st) h P := zt_iloadn zi_175_76 rfl rfl
theorem zi_175_77 : z_ins 175 77 = some (.iconst 1, 1) := by decide +kernel
theorem ze_175_77 : z_T g d 175 77 ls st h P = z_T g d 175 78 ls (.int (nI 1) :: st) h P := zt_iconst zi_175_77 rfl
theorem zi_175_78 : z_ins 175 78 = some (.iload 5, 2) := by decide +kernel
theorem ze_175_78 : z_T g d 175 78 (v0 :: v1 :: v2 :: v3 :: v4 :: .int x :: ls) st h P = z_T g d 175 80 (v0 :: v1 :: v2 :: v3 :: v4 :: .int x :: ls) (.int x :: st) h P := zt_iload zi_175_78 rfl
theorem zi_175_80 : z_ins 175 80 = some (.ishl, 1) := by decide +kernel
theorem ze_175_80 : z_T g d 175 80 ls (.int y :: .int x :: st) h P = z_T g d 175 81 ls (.int (x <<< (y &&& 31)) :: st) h P := zt_bin (f := fun x y => x <<< (y &&& 31)) zi_175_80 rfl (fun _ _ _ => rfl)
theorem zi_175_81 : z_ins 175 81 = some (.ior, 1) := by decide +kernel
theorem ze_175_81 : z_T g d 175 81 ls (.int y :: .int x :: st) h P = z_T g d 175 82 ls (.int (x ||| y) :: st) h P := zt_bin (f := fun x y => x ||| y) zi_175_81 rfl (fun _ _ _ => rfl)
theorem zi_175_82 : z_ins 175 82 = some (.iload_n 3, 1) := by decide +kernel
theorem ze_175_82 : z_T g d 175 82 (v0 :: v1 :: v2 :: .int x :: ls) st h P = z_T g d 175 83 (v0 :: v1 :: v2 :: .int x :: ls) (.int x :: st) h P := zt_iloadn zi_175_82 rfl rfl
theorem zi_175_83 : z_ins 175 83 = some (.iconst 1, 1) := by decide +kernel
theorem ze_175_83 : z_T g d 175 83 ls st h P = z_T g d 175 84 ls (.int (nI 1) :: st) h P := zt_iconst zi_175_83 rfl
theorem zi_175_84 : z_ins 175 84 = some (.iload 6, 2) := by decide +kernel
theorem ze_175_84 : z_T g d 175 84 (v0 :: v1 :: v2 :: v3 :: v4 :: v5 :: .int x :: ls) st h P = z_T g d 175 86 (v0 :: v1 :: v2 :: v3 :: v4 :: v5 :: .int x :: ls) (.int x :: st) h P := zt_iload zi_175_84 rfl
theorem zi_175_86 : z_ins 175 86 = some (.ishl, 1) := by decide +kernel
theorem ze_175_86 : z_T g d 175 86 ls (.int y :: .int x :: st) h P = z_T g d 175 87 ls (.int (x <<< (y &&& 31)) :: st) h P := zt_bin (f := fun x y => x <<< (y &&& 31)) zi_175_86 rfl (fun _ _ _ => rfl)
theorem zi_175_87 : z_ins 175 87 = some (.ior, 1) := by decide +kernel
theorem ze_175_87 : z_T g d 175 87 ls (.int y :: .int x :: st) h P = z_T g d 175 88 ls (.int (x ||| y) :: st) h P := zt_bin (f := fun x y => x ||| y) zi_175_87 rfl (fun _ _ _ => rfl)
theorem zi_175_88 : z_ins 175 88 = some (.invokevirtual 230, 3) := by decide +kernel
theorem ze_175_88 : z_T g d 175 88 ls (.int x2 :: .int x1 :: .int x0 :: .ref a :: st) h P = ((z_okS 8 st = true ∧ z_gO h.1 a 10 ∧ 0 < d) ∧ z_Ca g (d - 1) 175 [.ref a, .int x0, .int x1, .int x2] h (fun r => z_k r (fun v h' => z_T g d 175 91 ls (z_push v st) h' P) P)) := zt_callV (as := [.int x0, .int x1, .int x2]) zi_175_88 ((congrArg (fun o => z_lookup z_prs (o, 230)) zo_175).trans zp_LatinRectanglesModel_230) ((congrArg (fun o => z_clk o 230) zo_175).trans zk_LatinRectanglesModel_230) zh_175 zc_175 rfl rfl rfl
theorem zi_175_91 : z_ins 175 91 = some (.iadd, 1) := by decide +kernel
theorem ze_175_91 : z_T g d 175 91 ls (.int y :: .int x :: st) h P = z_T g d 175 92 ls (.int (x + y) :: st) h P := zt_bin (f := fun x y => x + y) zi_175_91 rfl (fun _ _ _ => rfl)
theorem zi_175_92 : z_ins 175 92 = some (.istore 7, 2) := by decide +kernel
theorem ze_175_92 : z_T g d 175 92 (v0 :: v1 :: v2 :: v3 :: v4 :: v5 :: v6 :: v7 :: ls) (.int x :: st) h P = z_T g d 175 94 (v0 :: v1 :: v2 :: v3 :: v4 :: v5 :: v6 :: .int x :: ls) st h P := zt_istore zi_175_92 (Nat.le_add_left 8 _)
theorem zi_175_94 : z_ins 175 94 = some (.iload 7, 2) := by decide +kernel
theorem ze_175_94 : z_T g d 175 94 (v0 :: v1 :: v2 :: v3 :: v4 :: v5 :: v6 :: .int x :: ls) st h P = z_T g d 175 96 (v0 :: v1 :: v2 :: v3 :: v4 :: v5 :: v6 :: .int x :: ls) (.int x :: st) h P := zt_iload zi_175_94 rfl
theorem zi_175_96 : z_ins 175 96 = some (.iload 4, 2) := by decide +kernel
theorem ze_175_96 : z_T g d 175 96 (v0 :: v1 :: v2 :: v3 :: .int x :: ls) st h P = z_T g d 175 98 (v0 :: v1 :: v2 :: v3 :: .int x :: ls) (.int x :: st) h P := zt_iload zi_175_96 rfl
theorem zi_175_98 : z_ins 175 98 = some (.if_icmp .le 8, 3) := by decide +kernel
theorem ze_175_98 : z_T g d 175 98 ls (.int y :: .int x :: st) h P = (if y < x then z_T g d 175 101 ls st h P else z_T g d 175 106 ls st h P) := zt_icmple zi_175_98 (by decide)
theorem zi_175_101 : z_ins 175 101 = some (.iload 7, 2) := by decide +kernel
theorem ze_175_101 : z_T g d 175 101 (v0 :: v1 :: v2 :: v3 :: v4 :: v5 :: v6 :: .int x :: ls) st h P = z_T g d 175 103 (v0 :: v1 :: v2 :: v3 :: v4 :: v5 :: v6 :: .int x :: ls) (.int x :: st) h P := zt_iload zi_175_101 rfl
theorem zi_175_103 : z_ins 175 103 = some (.goto 5, 3) := by decide +kernel
theorem ze_175_103 : z_T g d 175 103 ls st h P = z_T g d 175 108 ls st h P := zt_goto zi_175_103 (by decide)
theorem zi_175_106 : z_ins 175 106 = some (.iload 4, 2) := by decide +kernel
theorem ze_175_106 : z_T g d 175 106 (v0 :: v1 :: v2 :: v3 :: .int x :: ls) st h P = z_T g d 175 108 (v0 :: v1 :: v2 :: v3 :: .int x :: ls) (.int x :: st) h P := zt_iload zi_175_106 rfl
theorem zi_175_108 : z_ins 175 108 = some (.istore 4, 2) := by decide +kernel
theorem ze_175_108 : z_T g d 175 108 (v0 :: v1 :: v2 :: v3 :: v4 :: ls) (.int x :: st) h P = z_T g d 175 110 (v0 :: v1 :: v2 :: v3 :: .int x :: ls) st h P := zt_istore zi_175_108 (Nat.le_add_left 5 _)
theorem zi_175_110 : z_ins 175 110 = some (.iinc 5 1, 3) := by decide +kernel
theorem ze_175_110 : z_T g d 175 110 (v0 :: v1 :: v2 :: v3 :: v4 :: .int x :: ls) st h P = z_T g d 175 113 (v0 :: v1 :: v2 :: v3 :: v4 :: .int (x + (nI 1)) :: ls) st h P := zt_iinc zi_175_110 rfl rfl
theorem zi_175_113 : z_ins 175 113 = some (.goto (-89), 3) := by decide +kernel
theorem ze_175_113 : z_T g d 175 113 ls st h P = z_T g d 175 24 ls st h P := zt_goto zi_175_113 (by decide)
theorem zi_175_116 : z_ins 175 116 = some (.iload 4, 2) := by decide +kernel
theorem ze_175_116 : z_T g d 175 116 (v0 :: v1 :: v2 :: v3 :: .int x :: ls) st h P = z_T g d 175 118 (v0 :: v1 :: v2 :: v3 :: .int x :: ls) (.int x :: st) h P := zt_iload zi_175_116 rfl
theorem zi_175_118 : z_ins 175 118 = some (.ireturn, 1) := by decide +kernel
theorem ze_175_118 : z_T g d 175 118 ls [.int x] h P = P (.inr (some (.int x)), h) := zt_ireturn zi_175_118 zr_175
-- LatinRectanglesModel.longestTransversal()I
theorem zo_176 : z_own 176 = "LatinRectanglesModel" := by decide +kernel
theorem zm_176 : z_maxL 176 = 1 := by decide +kernel
theorem zh_176 : z_hds 176 = [] := by decide +kernel
theorem zr_176 : z_rt 176 = (some .int) := by decide +kernel
theorem zn_176 : z_Ca g d 176 [.ref a0] h P = z_T g d 176 0 [.ref a0] [] h P := z_Ca_ent zm_176 rfl rfl
theorem zi_176_0 : z_ins 176 0 = some (.aload_n 0, 1) := by decide +kernel
theorem ze_176_0 : z_T g d 176 0 (.ref a :: ls) st h P = z_T g d 176 1 (.ref a :: ls) (.ref a :: st) h P := zt_aloadn zi_176_0 rfl rfl
theorem zi_176_1 : z_ins 176 1 = some (.iconst 0, 1) := by decide +kernel
theorem ze_176_1 : z_T g d 176 1 ls st h P = z_T g d 176 2 ls (.int (nI 0) :: st) h P := zt_iconst zi_176_1 rfl
theorem zi_176_2 : z_ins 176 2 = some (.putfield 67, 3) := by decide +kernel
theorem ze_176_2 : z_T g d 176 2 ls (.int x :: .ref a :: st) h P = z_pF h.1 a 10 0 (.int x) (fun f => z_T g d 176 5 ls st (f, h.2) P) := zt_putI zi_176_2 ((congrArg (fun o => z_fl o 67) zo_176).trans zf_LatinRectanglesModel_67)
theorem zi_176_5 : z_ins 176 5 = some (.aload_n 0, 1) := by decide +kernel
theorem ze_176_5 : z_T g d 176 5 (.ref a :: ls) st h P = z_T g d 176 6 (.ref a :: ls) (.ref a :: st) h P := zt_aloadn zi_176_5 rfl rfl
theorem zi_176_6 : z_ins 176 6 = some (.iconst 0, 1) := by decide +kernel
theorem ze_176_6 : z_T g d 176 6 ls st h P = z_T g d 176 7 ls (.int (nI 0) :: st) h P := zt_iconst zi_176_6 rfl
theorem zi_176_7 : z_ins 176 7 = some (.iconst 0, 1) := by decide +kernel
theorem ze_176_7 : z_T g d 176 7 ls st h P = z_T g d 176 8 ls (.int (nI 0) :: st) h P := zt_iconst zi_176_7 rfl
theorem zi_176_8 : z_ins 176 8 = some (.iconst 0, 1) := by decide +kernel
theorem ze_176_8 : z_T g d 176 8 ls st h P = z_T g d 176 9 ls (.int (nI 0) :: st) h P := zt_iconst zi_176_8 rfl
theorem zi_176_9 : z_ins 176 9 = some (.invokevirtual 230, 3) := by decide +kernel
theorem ze_176_9 : z_T g d 176 9 ls (.int x2 :: .int x1 :: .int x0 :: .ref a :: st) h P = ((z_okS 8 st = true ∧ z_gO h.1 a 10 ∧ 0 < d) ∧ z_Ca g (d - 1) 175 [.ref a, .int x0, .int x1, .int x2] h (fun r => z_k r (fun v h' => z_T g d 176 12 ls (z_push v st) h' P) P)) := zt_callV (as := [.int x0, .int x1, .int x2]) zi_176_9 ((congrArg (fun o => z_lookup z_prs (o, 230)) zo_176).trans zp_LatinRectanglesModel_230) ((congrArg (fun o => z_clk o 230) zo_176).trans zk_LatinRectanglesModel_230) zh_176 zc_175 rfl rfl rfl
theorem zi_176_12 : z_ins 176 12 = some (.ireturn, 1) := by decide +kernel
theorem ze_176_12 : z_T g d 176 12 ls [.int x] h P = P (.inr (some (.int x)), h) := zt_ireturn zi_176_12 zr_176
-- LatinRectanglesModel.cycleOf(III)I
theorem zo_177 : z_own 177 = "LatinRectanglesModel" := by decide +kernel
theorem zm_177 : z_maxL 177 = 7 := by decide +kernel
theorem zh_177 : z_hds 177 = [] := by decide +kernel
theorem zr_177 : z_rt 177 = (some .int) := by decide +kernel
theorem zn_177 : z_Ca g d 177 [.ref a0, .int x1, .int x2, .int x3] h P = z_T g d 177 0 [.ref a0, .int x1, .int x2, .int x3, z_un, z_un, z_un] [] h P := z_Ca_ent zm_177 rfl rfl
theorem zi_177_0 : z_ins 177 0 = some (.iconst 0, 1) := by decide +kernel
theorem ze_177_0 : z_T g d 177 0 ls st h P = z_T g d 177 1 ls (.int (nI 0) :: st) h P := zt_iconst zi_177_0 rfl
theorem zi_177_1 : z_ins 177 1 = some (.istore 4, 2) := by decide +kernel
theorem ze_177_1 : z_T g d 177 1 (v0 :: v1 :: v2 :: v3 :: v4 :: ls) (.int x :: st) h P = z_T g d 177 3 (v0 :: v1 :: v2 :: v3 :: .int x :: ls) st h P := zt_istore zi_177_1 (Nat.le_add_left 5 _)
theorem zi_177_3 : z_ins 177 3 = some (.iload_n 3, 1) := by decide +kernel
theorem ze_177_3 : z_T g d 177 3 (v0 :: v1 :: v2 :: .int x :: ls) st h P = z_T g d 177 4 (v0 :: v1 :: v2 :: .int x :: ls) (.int x :: st) h P := zt_iloadn zi_177_3 rfl rfl
theorem zi_177_4 : z_ins 177 4 = some (.istore 5, 2) := by decide +kernel
theorem ze_177_4 : z_T g d 177 4 (v0 :: v1 :: v2 :: v3 :: v4 :: v5 :: ls) (.int x :: st) h P = z_T g d 177 6 (v0 :: v1 :: v2 :: v3 :: v4 :: .int x :: ls) st h P := zt_istore zi_177_4 (Nat.le_add_left 6 _)
theorem zi_177_6 : z_ins 177 6 = some (.iload 4, 2) := by decide +kernel
theorem ze_177_6 : z_T g d 177 6 (v0 :: v1 :: v2 :: v3 :: .int x :: ls) st h P = z_T g d 177 8 (v0 :: v1 :: v2 :: v3 :: .int x :: ls) (.int x :: st) h P := zt_iload zi_177_6 rfl
theorem zi_177_8 : z_ins 177 8 = some (.iload 5, 2) := by decide +kernel
theorem ze_177_8 : z_T g d 177 8 (v0 :: v1 :: v2 :: v3 :: v4 :: .int x :: ls) st h P = z_T g d 177 10 (v0 :: v1 :: v2 :: v3 :: v4 :: .int x :: ls) (.int x :: st) h P := zt_iload zi_177_8 rfl
theorem zi_177_10 : z_ins 177 10 = some (.ishr, 1) := by decide +kernel
theorem ze_177_10 : z_T g d 177 10 ls (.int y :: .int x :: st) h P = z_T g d 177 11 ls (.int (x >>> (y &&& 31)) :: st) h P := zt_bin (f := fun x y => x >>> (y &&& 31)) zi_177_10 rfl (fun _ _ _ => rfl)
theorem zi_177_11 : z_ins 177 11 = some (.iconst 1, 1) := by decide +kernel
theorem ze_177_11 : z_T g d 177 11 ls st h P = z_T g d 177 12 ls (.int (nI 1) :: st) h P := zt_iconst zi_177_11 rfl
theorem zi_177_12 : z_ins 177 12 = some (.iand, 1) := by decide +kernel
theorem ze_177_12 : z_T g d 177 12 ls (.int y :: .int x :: st) h P = z_T g d 177 13 ls (.int (x &&& y) :: st) h P := zt_bin (f := fun x y => x &&& y) zi_177_12 rfl (fun _ _ _ => rfl)
theorem zi_177_13 : z_ins 177 13 = some (.ifCond .ne 45, 3) := by decide +kernel
theorem ze_177_13 : z_T g d 177 13 ls (.int x :: st) h P = (if x = nI 0 then z_T g d 177 16 ls st h P else z_T g d 177 58 ls st h P) := zt_ifne zi_177_13 (by decide)
theorem zi_177_16 : z_ins 177 16 = some (.iload 4, 2) := by decide +kernel
theorem ze_177_16 : z_T g d 177 16 (v0 :: v1 :: v2 :: v3 :: .int x :: ls) st h P = z_T g d 177 18 (v0 :: v1 :: v2 :: v3 :: .int x :: ls) (.int x :: st) h P := zt_iload zi_177_16 rfl
theorem zi_177_18 : z_ins 177 18 = some (.iconst 1, 1) := by decide +kernel
theorem ze_177_18 : z_T g d 177 18 ls st h P = z_T g d 177 19 ls (.int (nI 1) :: st) h P := zt_iconst zi_177_18 rfl
theorem zi_177_19 : z_ins 177 19 = some (.iload 5, 2) := by decide +kernel
theorem ze_177_19 : z_T g d 177 19 (v0 :: v1 :: v2 :: v3 :: v4 :: .int x :: ls) st h P = z_T g d 177 21 (v0 :: v1 :: v2 :: v3 :: v4 :: .int x :: ls) (.int x :: st) h P := zt_iload zi_177_19 rfl
theorem zi_177_21 : z_ins 177 21 = some (.ishl, 1) := by decide +kernel
theorem ze_177_21 : z_T g d 177 21 ls (.int y :: .int x :: st) h P = z_T g d 177 22 ls (.int (x <<< (y &&& 31)) :: st) h P := zt_bin (f := fun x y => x <<< (y &&& 31)) zi_177_21 rfl (fun _ _ _ => rfl)
theorem zi_177_22 : z_ins 177 22 = some (.ior, 1) := by decide +kernel
theorem ze_177_22 : z_T g d 177 22 ls (.int y :: .int x :: st) h P = z_T g d 177 23 ls (.int (x ||| y) :: st) h P := zt_bin (f := fun x y => x ||| y) zi_177_22 rfl (fun _ _ _ => rfl)
theorem zi_177_23 : z_ins 177 23 = some (.istore 4, 2) := by decide +kernel
theorem ze_177_23 : z_T g d 177 23 (v0 :: v1 :: v2 :: v3 :: v4 :: ls) (.int x :: st) h P = z_T g d 177 25 (v0 :: v1 :: v2 :: v3 :: .int x :: ls) st h P := zt_istore zi_177_23 (Nat.le_add_left 5 _)
theorem zi_177_25 : z_ins 177 25 = some (.aload_n 0, 1) := by decide +kernel
theorem ze_177_25 : z_T g d 177 25 (.ref a :: ls) st h P = z_T g d 177 26 (.ref a :: ls) (.ref a :: st) h P := zt_aloadn zi_177_25 rfl rfl
theorem zi_177_26 : z_ins 177 26 = some (.iload_n 2, 1) := by decide +kernel
theorem ze_177_26 : z_T g d 177 26 (v0 :: v1 :: .int x :: ls) st h P = z_T g d 177 27 (v0 :: v1 :: .int x :: ls) (.int x :: st) h P := zt_iloadn zi_177_26 rfl rfl
theorem zi_177_27 : z_ins 177 27 = some (.iload 5, 2) := by decide +kernel
theorem ze_177_27 : z_T g d 177 27 (v0 :: v1 :: v2 :: v3 :: v4 :: .int x :: ls) st h P = z_T g d 177 29 (v0 :: v1 :: v2 :: v3 :: v4 :: .int x :: ls) (.int x :: st) h P := zt_iload zi_177_27 rfl
theorem zi_177_29 : z_ins 177 29 = some (.invokevirtual 180, 3) := by decide +kernel
theorem ze_177_29 : z_T g d 177 29 ls (.int x1 :: .int x0 :: .ref a :: st) h P = ((z_okS 8 st = true ∧ z_gO h.1 a 10 ∧ 0 < d) ∧ z_Ca g (d - 1) 145 [.ref a, .int x0, .int x1] h (fun r => z_k r (fun v h' => z_T g d 177 32 ls (z_push v st) h' P) P)) := zt_callV (as := [.int x0, .int x1]) zi_177_29 ((congrArg (fun o => z_lookup z_prs (o, 180)) zo_177).trans zp_LatinRectanglesModel_180) ((congrArg (fun o => z_clk o 180) zo_177).trans zk_LatinRectanglesModel_180) zh_177 zc_145 rfl rfl rfl
theorem zi_177_32 : z_ins 177 32 = some (.istore 6, 2) := by decide +kernel
theorem ze_177_32 : z_T g d 177 32 (v0 :: v1 :: v2 :: v3 :: v4 :: v5 :: v6 :: ls) (.int x :: st) h P = z_T g d 177 34 (v0 :: v1 :: v2 :: v3 :: v4 :: v5 :: .int x :: ls) st h P := zt_istore zi_177_32 (Nat.le_add_left 7 _)
theorem zi_177_34 : z_ins 177 34 = some (.iconst 0, 1) := by decide +kernel
theorem ze_177_34 : z_T g d 177 34 ls st h P = z_T g d 177 35 ls (.int (nI 0) :: st) h P := zt_iconst zi_177_34 rfl
theorem zi_177_35 : z_ins 177 35 = some (.istore 5, 2) := by decide +kernel
theorem ze_177_35 : z_T g d 177 35 (v0 :: v1 :: v2 :: v3 :: v4 :: v5 :: ls) (.int x :: st) h P = z_T g d 177 37 (v0 :: v1 :: v2 :: v3 :: v4 :: .int x :: ls) st h P := zt_istore zi_177_35 (Nat.le_add_left 6 _)
theorem zi_177_37 : z_ins 177 37 = some (.aload_n 0, 1) := by decide +kernel
theorem ze_177_37 : z_T g d 177 37 (.ref a :: ls) st h P = z_T g d 177 38 (.ref a :: ls) (.ref a :: st) h P := zt_aloadn zi_177_37 rfl rfl
theorem zi_177_38 : z_ins 177 38 = some (.iload_n 1, 1) := by decide +kernel
theorem ze_177_38 : z_T g d 177 38 (v0 :: .int x :: ls) st h P = z_T g d 177 39 (v0 :: .int x :: ls) (.int x :: st) h P := zt_iloadn zi_177_38 rfl rfl
theorem zi_177_39 : z_ins 177 39 = some (.iload 5, 2) := by decide +kernel
theorem ze_177_39 : z_T g d 177 39 (v0 :: v1 :: v2 :: v3 :: v4 :: .int x :: ls) st h P = z_T g d 177 41 (v0 :: v1 :: v2 :: v3 :: v4 :: .int x :: ls) (.int x :: st) h P := zt_iload zi_177_39 rfl
theorem zi_177_41 : z_ins 177 41 = some (.invokevirtual 180, 3) := by decide +kernel
theorem ze_177_41 : z_T g d 177 41 ls (.int x1 :: .int x0 :: .ref a :: st) h P = ((z_okS 8 st = true ∧ z_gO h.1 a 10 ∧ 0 < d) ∧ z_Ca g (d - 1) 145 [.ref a, .int x0, .int x1] h (fun r => z_k r (fun v h' => z_T g d 177 44 ls (z_push v st) h' P) P)) := zt_callV (as := [.int x0, .int x1]) zi_177_41 ((congrArg (fun o => z_lookup z_prs (o, 180)) zo_177).trans zp_LatinRectanglesModel_180) ((congrArg (fun o => z_clk o 180) zo_177).trans zk_LatinRectanglesModel_180) zh_177 zc_145 rfl rfl rfl
theorem zi_177_44 : z_ins 177 44 = some (.iload 6, 2) := by decide +kernel
theorem ze_177_44 : z_T g d 177 44 (v0 :: v1 :: v2 :: v3 :: v4 :: v5 :: .int x :: ls) st h P = z_T g d 177 46 (v0 :: v1 :: v2 :: v3 :: v4 :: v5 :: .int x :: ls) (.int x :: st) h P := zt_iload zi_177_44 rfl
theorem zi_177_46 : z_ins 177 46 = some (.if_icmp .eq 9, 3) := by decide +kernel
theorem ze_177_46 : z_T g d 177 46 ls (.int y :: .int x :: st) h P = (if x = y then z_T g d 177 55 ls st h P else z_T g d 177 49 ls st h P) := zt_icmpeq zi_177_46 (by decide)
theorem zi_177_49 : z_ins 177 49 = some (.iinc 5 1, 3) := by decide +kernel
theorem ze_177_49 : z_T g d 177 49 (v0 :: v1 :: v2 :: v3 :: v4 :: .int x :: ls) st h P = z_T g d 177 52 (v0 :: v1 :: v2 :: v3 :: v4 :: .int (x + (nI 1)) :: ls) st h P := zt_iinc zi_177_49 rfl rfl
theorem zi_177_52 : z_ins 177 52 = some (.goto (-15), 3) := by decide +kernel
theorem ze_177_52 : z_T g d 177 52 ls st h P = z_T g d 177 37 ls st h P := zt_goto zi_177_52 (by decide)
theorem zi_177_55 : z_ins 177 55 = some (.goto (-49), 3) := by decide +kernel
theorem ze_177_55 : z_T g d 177 55 ls st h P = z_T g d 177 6 ls st h P := zt_goto zi_177_55 (by decide)
theorem zi_177_58 : z_ins 177 58 = some (.iload 4, 2) := by decide +kernel
theorem ze_177_58 : z_T g d 177 58 (v0 :: v1 :: v2 :: v3 :: .int x :: ls) st h P = z_T g d 177 60 (v0 :: v1 :: v2 :: v3 :: .int x :: ls) (.int x :: st) h P := zt_iload zi_177_58 rfl
theorem zi_177_60 : z_ins 177 60 = some (.ireturn, 1) := by decide +kernel
theorem ze_177_60 : z_T g d 177 60 ls [.int x] h P = P (.inr (some (.int x)), h) := zt_ireturn zi_177_60 zr_177
-- LatinRectanglesModel.noCycle(III)Z
theorem zo_178 : z_own 178 = "LatinRectanglesModel" := by decide +kernel
theorem zm_178 : z_maxL 178 = 4 := by decide +kernel
theorem zh_178 : z_hds 178 = [] := by decide +kernel
theorem zr_178 : z_rt 178 = (some .boolean) := by decide +kernel
theorem zn_178 : z_Ca g d 178 [.ref a0, .int x1, .int x2, .int x3] h P = z_T g d 178 0 [.ref a0, .int x1, .int x2, .int x3] [] h P := z_Ca_ent zm_178 rfl rfl
theorem zi_178_0 : z_ins 178 0 = some (.aload_n 0, 1) := by decide +kernel
theorem ze_178_0 : z_T g d 178 0 (.ref a :: ls) st h P = z_T g d 178 1 (.ref a :: ls) (.ref a :: st) h P := zt_aloadn zi_178_0 rfl rfl
theorem zi_178_1 : z_ins 178 1 = some (.iload_n 1, 1) := by decide +kernel
theorem ze_178_1 : z_T g d 178 1 (v0 :: .int x :: ls) st h P = z_T g d 178 2 (v0 :: .int x :: ls) (.int x :: st) h P := zt_iloadn zi_178_1 rfl rfl
theorem zi_178_2 : z_ins 178 2 = some (.invokevirtual 177, 3) := by decide +kernel
theorem ze_178_2 : z_T g d 178 2 ls (.int x0 :: .ref a :: st) h P = ((z_okS 8 st = true ∧ z_gO h.1 a 10 ∧ 0 < d) ∧ z_Ca g (d - 1) 143 [.ref a, .int x0] h (fun r => z_k r (fun v h' => z_T g d 178 5 ls (z_push v st) h' P) P)) := zt_callV (as := [.int x0]) zi_178_2 ((congrArg (fun o => z_lookup z_prs (o, 177)) zo_178).trans zp_LatinRectanglesModel_177) ((congrArg (fun o => z_clk o 177) zo_178).trans zk_LatinRectanglesModel_177) zh_178 zc_143 rfl rfl rfl
theorem zi_178_5 : z_ins 178 5 = some (.ifCond .ne 56, 3) := by decide +kernel
theorem ze_178_5 : z_T g d 178 5 ls (.int x :: st) h P = (if x = nI 0 then z_T g d 178 8 ls st h P else z_T g d 178 61 ls st h P) := zt_ifne zi_178_5 (by decide)
theorem zi_178_8 : z_ins 178 8 = some (.aload_n 0, 1) := by decide +kernel
theorem ze_178_8 : z_T g d 178 8 (.ref a :: ls) st h P = z_T g d 178 9 (.ref a :: ls) (.ref a :: st) h P := zt_aloadn zi_178_8 rfl rfl
theorem zi_178_9 : z_ins 178 9 = some (.iload_n 2, 1) := by decide +kernel
theorem ze_178_9 : z_T g d 178 9 (v0 :: v1 :: .int x :: ls) st h P = z_T g d 178 10 (v0 :: v1 :: .int x :: ls) (.int x :: st) h P := zt_iloadn zi_178_9 rfl rfl
theorem zi_178_10 : z_ins 178 10 = some (.invokevirtual 177, 3) := by decide +kernel
theorem ze_178_10 : z_T g d 178 10 ls (.int x0 :: .ref a :: st) h P = ((z_okS 8 st = true ∧ z_gO h.1 a 10 ∧ 0 < d) ∧ z_Ca g (d - 1) 143 [.ref a, .int x0] h (fun r => z_k r (fun v h' => z_T g d 178 13 ls (z_push v st) h' P) P)) := zt_callV (as := [.int x0]) zi_178_10 ((congrArg (fun o => z_lookup z_prs (o, 177)) zo_178).trans zp_LatinRectanglesModel_177) ((congrArg (fun o => z_clk o 177) zo_178).trans zk_LatinRectanglesModel_177) zh_178 zc_143 rfl rfl rfl
theorem zi_178_13 : z_ins 178 13 = some (.ifCond .ne 48, 3) := by decide +kernel
theorem ze_178_13 : z_T g d 178 13 ls (.int x :: st) h P = (if x = nI 0 then z_T g d 178 16 ls st h P else z_T g d 178 61 ls st h P) := zt_ifne zi_178_13 (by decide)
theorem zi_178_16 : z_ins 178 16 = some (.aload_n 0, 1) := by decide +kernel
theorem ze_178_16 : z_T g d 178 16 (.ref a :: ls) st h P = z_T g d 178 17 (.ref a :: ls) (.ref a :: st) h P := zt_aloadn zi_178_16 rfl rfl
theorem zi_178_17 : z_ins 178 17 = some (.iload_n 3, 1) := by decide +kernel
theorem ze_178_17 : z_T g d 178 17 (v0 :: v1 :: v2 :: .int x :: ls) st h P = z_T g d 178 18 (v0 :: v1 :: v2 :: .int x :: ls) (.int x :: st) h P := zt_iloadn zi_178_17 rfl rfl
theorem zi_178_18 : z_ins 178 18 = some (.iconst 0, 1) := by decide +kernel
theorem ze_178_18 : z_T g d 178 18 ls st h P = z_T g d 178 19 ls (.int (nI 0) :: st) h P := zt_iconst zi_178_18 rfl
theorem zi_178_19 : z_ins 178 19 = some (.aload_n 0, 1) := by decide +kernel
theorem ze_178_19 : z_T g d 178 19 (.ref a :: ls) st h P = z_T g d 178 20 (.ref a :: ls) (.ref a :: st) h P := zt_aloadn zi_178_19 rfl rfl
theorem zi_178_20 : z_ins 178 20 = some (.getfield 76, 3) := by decide +kernel
theorem ze_178_20 : z_T g d 178 20 ls (.ref a :: st) h P = z_gI h.1 a 10 2 (fun x => z_T g d 178 23 ls (.int x :: st) h P) := zt_getI zi_178_20 ((congrArg (fun o => z_fl o 76) zo_178).trans zf_LatinRectanglesModel_76)
theorem zi_178_23 : z_ins 178 23 = some (.iconst 1, 1) := by decide +kernel
theorem ze_178_23 : z_T g d 178 23 ls st h P = z_T g d 178 24 ls (.int (nI 1) :: st) h P := zt_iconst zi_178_23 rfl
theorem zi_178_24 : z_ins 178 24 = some (.isub, 1) := by decide +kernel
theorem ze_178_24 : z_T g d 178 24 ls (.int y :: .int x :: st) h P = z_T g d 178 25 ls (.int (x - y) :: st) h P := zt_bin (f := fun x y => x - y) zi_178_24 rfl (fun _ _ _ => rfl)
theorem zi_178_25 : z_ins 178 25 = some (.invokestatic 111, 3) := by decide +kernel
theorem ze_178_25 : z_T g d 178 25 ls (.int x2 :: .int x1 :: .int x0 :: st) h P = ((z_okS 8 st = true ∧ 0 < d) ∧ z_Ca g (d - 1) 122 [.int x0, .int x1, .int x2] h (fun r => z_k r (fun v h' => z_T g d 178 28 ls (z_push v st) h' P) P)) := zt_callS0 (as := [.int x0, .int x1, .int x2]) zi_178_25 ((congrArg (fun o => z_lookup z_prs (o, 111)) zo_178).trans zp_LatinRectanglesModel_111) ((congrArg (fun o => z_clk o 111) zo_178).trans zk_LatinRectanglesModel_111) zh_178 rfl rfl rfl
theorem zi_178_28 : z_ins 178 28 = some (.ifCond .ne 7, 3) := by decide +kernel
theorem ze_178_28 : z_T g d 178 28 ls (.int x :: st) h P = (if x = nI 0 then z_T g d 178 31 ls st h P else z_T g d 178 35 ls st h P) := zt_ifne zi_178_28 (by decide)
theorem zi_178_31 : z_ins 178 31 = some (.iconst 1, 1) := by decide +kernel
theorem ze_178_31 : z_T g d 178 31 ls st h P = z_T g d 178 32 ls (.int (nI 1) :: st) h P := zt_iconst zi_178_31 rfl
theorem zi_178_32 : z_ins 178 32 = some (.goto 4, 3) := by decide +kernel
theorem ze_178_32 : z_T g d 178 32 ls st h P = z_T g d 178 36 ls st h P := zt_goto zi_178_32 (by decide)
theorem zi_178_35 : z_ins 178 35 = some (.iconst 0, 1) := by decide +kernel
theorem ze_178_35 : z_T g d 178 35 ls st h P = z_T g d 178 36 ls (.int (nI 0) :: st) h P := zt_iconst zi_178_35 rfl
theorem zi_178_36 : z_ins 178 36 = some (.iconst 1, 1) := by decide +kernel
theorem ze_178_36 : z_T g d 178 36 ls st h P = z_T g d 178 37 ls (.int (nI 1) :: st) h P := zt_iconst zi_178_36 rfl
theorem zi_178_37 : z_ins 178 37 = some (.invokevirtual 167, 3) := by decide +kernel
theorem ze_178_37 : z_T g d 178 37 ls (.int x1 :: .int x0 :: .ref a :: st) h P = ((z_okS 8 st = true ∧ z_gO h.1 a 10 ∧ 0 < d) ∧ z_Ca g (d - 1) 123 [.ref a, .int x0, .int x1] h (fun r => z_k r (fun v h' => z_T g d 178 40 ls (z_push v st) h' P) P)) := zt_callV (as := [.int x0, .int x1]) zi_178_37 ((congrArg (fun o => z_lookup z_prs (o, 167)) zo_178).trans zp_LatinRectanglesModel_167) ((congrArg (fun o => z_clk o 167) zo_178).trans zk_LatinRectanglesModel_167) zh_178 zc_123 rfl rfl rfl
theorem zi_178_40 : z_ins 178 40 = some (.ifCond .ne 21, 3) := by decide +kernel
theorem ze_178_40 : z_T g d 178 40 ls (.int x :: st) h P = (if x = nI 0 then z_T g d 178 43 ls st h P else z_T g d 178 61 ls st h P) := zt_ifne zi_178_40 (by decide)
theorem zi_178_43 : z_ins 178 43 = some (.aload_n 0, 1) := by decide +kernel
theorem ze_178_43 : z_T g d 178 43 (.ref a :: ls) st h P = z_T g d 178 44 (.ref a :: ls) (.ref a :: st) h P := zt_aloadn zi_178_43 rfl rfl
theorem zi_178_44 : z_ins 178 44 = some (.iload_n 1, 1) := by decide +kernel
theorem ze_178_44 : z_T g d 178 44 (v0 :: .int x :: ls) st h P = z_T g d 178 45 (v0 :: .int x :: ls) (.int x :: st) h P := zt_iloadn zi_178_44 rfl rfl
theorem zi_178_45 : z_ins 178 45 = some (.iload_n 2, 1) := by decide +kernel
theorem ze_178_45 : z_T g d 178 45 (v0 :: v1 :: .int x :: ls) st h P = z_T g d 178 46 (v0 :: v1 :: .int x :: ls) (.int x :: st) h P := zt_iloadn zi_178_45 rfl rfl
theorem zi_178_46 : z_ins 178 46 = some (.if_icmp .ne 7, 3) := by decide +kernel
theorem ze_178_46 : z_T g d 178 46 ls (.int y :: .int x :: st) h P = (if x = y then z_T g d 178 49 ls st h P else z_T g d 178 53 ls st h P) := zt_icmpne zi_178_46 (by decide)
theorem zi_178_49 : z_ins 178 49 = some (.iconst 1, 1) := by decide +kernel
theorem ze_178_49 : z_T g d 178 49 ls st h P = z_T g d 178 50 ls (.int (nI 1) :: st) h P := zt_iconst zi_178_49 rfl
theorem zi_178_50 : z_ins 178 50 = some (.goto 4, 3) := by decide +kernel
theorem ze_178_50 : z_T g d 178 50 ls st h P = z_T g d 178 54 ls st h P := zt_goto zi_178_50 (by decide)
theorem zi_178_53 : z_ins 178 53 = some (.iconst 0, 1) := by decide +kernel
theorem ze_178_53 : z_T g d 178 53 ls st h P = z_T g d 178 54 ls (.int (nI 0) :: st) h P := zt_iconst zi_178_53 rfl
theorem zi_178_54 : z_ins 178 54 = some (.iconst 2, 1) := by decide +kernel
theorem ze_178_54 : z_T g d 178 54 ls st h P = z_T g d 178 55 ls (.int (nI 2) :: st) h P := zt_iconst zi_178_54 rfl
theorem zi_178_55 : z_ins 178 55 = some (.invokevirtual 167, 3) := by decide +kernel
theorem ze_178_55 : z_T g d 178 55 ls (.int x1 :: .int x0 :: .ref a :: st) h P = ((z_okS 8 st = true ∧ z_gO h.1 a 10 ∧ 0 < d) ∧ z_Ca g (d - 1) 123 [.ref a, .int x0, .int x1] h (fun r => z_k r (fun v h' => z_T g d 178 58 ls (z_push v st) h' P) P)) := zt_callV (as := [.int x0, .int x1]) zi_178_55 ((congrArg (fun o => z_lookup z_prs (o, 167)) zo_178).trans zp_LatinRectanglesModel_167) ((congrArg (fun o => z_clk o 167) zo_178).trans zk_LatinRectanglesModel_167) zh_178 zc_123 rfl rfl rfl
theorem zi_178_58 : z_ins 178 58 = some (.ifCond .eq 5, 3) := by decide +kernel
theorem ze_178_58 : z_T g d 178 58 ls (.int x :: st) h P = (if x = nI 0 then z_T g d 178 63 ls st h P else z_T g d 178 61 ls st h P) := zt_ifeq zi_178_58 (by decide)
theorem zi_178_61 : z_ins 178 61 = some (.iconst 1, 1) := by decide +kernel
theorem ze_178_61 : z_T g d 178 61 ls st h P = z_T g d 178 62 ls (.int (nI 1) :: st) h P := zt_iconst zi_178_61 rfl
theorem zi_178_62 : z_ins 178 62 = some (.ireturn, 1) := by decide +kernel
theorem ze_178_62 : z_T g d 178 62 ls [.int x] h P = ((x = nI 0 ∨ x = nI 1) ∧ P (.inr (some (.int x)), h)) := zt_zreturn zi_178_62 zr_178
theorem zi_178_63 : z_ins 178 63 = some (.aload_n 0, 1) := by decide +kernel
theorem ze_178_63 : z_T g d 178 63 (.ref a :: ls) st h P = z_T g d 178 64 (.ref a :: ls) (.ref a :: st) h P := zt_aloadn zi_178_63 rfl rfl
theorem zi_178_64 : z_ins 178 64 = some (.aload_n 0, 1) := by decide +kernel
theorem ze_178_64 : z_T g d 178 64 (.ref a :: ls) st h P = z_T g d 178 65 (.ref a :: ls) (.ref a :: st) h P := zt_aloadn zi_178_64 rfl rfl
theorem zi_178_65 : z_ins 178 65 = some (.iload_n 1, 1) := by decide +kernel
theorem ze_178_65 : z_T g d 178 65 (v0 :: .int x :: ls) st h P = z_T g d 178 66 (v0 :: .int x :: ls) (.int x :: st) h P := zt_iloadn zi_178_65 rfl rfl
theorem zi_178_66 : z_ins 178 66 = some (.invokevirtual 186, 3) := by decide +kernel
theorem ze_178_66 : z_T g d 178 66 ls (.int x0 :: .ref a :: st) h P = ((z_okS 8 st = true ∧ z_gO h.1 a 10 ∧ 0 < d) ∧ z_Ca g (d - 1) 148 [.ref a, .int x0] h (fun r => z_k r (fun v h' => z_T g d 178 69 ls (z_push v st) h' P) P)) := zt_callV (as := [.int x0]) zi_178_66 ((congrArg (fun o => z_lookup z_prs (o, 186)) zo_178).trans zp_LatinRectanglesModel_186) ((congrArg (fun o => z_clk o 186) zo_178).trans zk_LatinRectanglesModel_186) zh_178 zc_148 rfl rfl rfl
theorem zi_178_69 : z_ins 178 69 = some (.ifCond .eq 11, 3) := by decide +kernel
theorem ze_178_69 : z_T g d 178 69 ls (.int x :: st) h P = (if x = nI 0 then z_T g d 178 80 ls st h P else z_T g d 178 72 ls st h P) := zt_ifeq zi_178_69 (by decide)
theorem zi_178_72 : z_ins 178 72 = some (.aload_n 0, 1) := by decide +kernel
theorem ze_178_72 : z_T g d 178 72 (.ref a :: ls) st h P = z_T g d 178 73 (.ref a :: ls) (.ref a :: st) h P := zt_aloadn zi_178_72 rfl rfl
theorem zi_178_73 : z_ins 178 73 = some (.iload_n 2, 1) := by decide +kernel
theorem ze_178_73 : z_T g d 178 73 (v0 :: v1 :: .int x :: ls) st h P = z_T g d 178 74 (v0 :: v1 :: .int x :: ls) (.int x :: st) h P := zt_iloadn zi_178_73 rfl rfl
theorem zi_178_74 : z_ins 178 74 = some (.invokevirtual 186, 3) := by decide +kernel
theorem ze_178_74 : z_T g d 178 74 ls (.int x0 :: .ref a :: st) h P = ((z_okS 8 st = true ∧ z_gO h.1 a 10 ∧ 0 < d) ∧ z_Ca g (d - 1) 148 [.ref a, .int x0] h (fun r => z_k r (fun v h' => z_T g d 178 77 ls (z_push v st) h' P) P)) := zt_callV (as := [.int x0]) zi_178_74 ((congrArg (fun o => z_lookup z_prs (o, 186)) zo_178).trans zp_LatinRectanglesModel_186) ((congrArg (fun o => z_clk o 186) zo_178).trans zk_LatinRectanglesModel_186) zh_178 zc_148 rfl rfl rfl
theorem zi_178_77 : z_ins 178 77 = some (.ifCond .ne 7, 3) := by decide +kernel
theorem ze_178_77 : z_T g d 178 77 ls (.int x :: st) h P = (if x = nI 0 then z_T g d 178 80 ls st h P else z_T g d 178 84 ls st h P) := zt_ifne zi_178_77 (by decide)
theorem zi_178_80 : z_ins 178 80 = some (.iconst 1, 1) := by decide +kernel
theorem ze_178_80 : z_T g d 178 80 ls st h P = z_T g d 178 81 ls (.int (nI 1) :: st) h P := zt_iconst zi_178_80 rfl
theorem zi_178_81 : z_ins 178 81 = some (.goto 4, 3) := by decide +kernel
theorem ze_178_81 : z_T g d 178 81 ls st h P = z_T g d 178 85 ls st h P := zt_goto zi_178_81 (by decide)
theorem zi_178_84 : z_ins 178 84 = some (.iconst 0, 1) := by decide +kernel
theorem ze_178_84 : z_T g d 178 84 ls st h P = z_T g d 178 85 ls (.int (nI 0) :: st) h P := zt_iconst zi_178_84 rfl
theorem zi_178_85 : z_ins 178 85 = some (.iconst 3, 1) := by decide +kernel
theorem ze_178_85 : z_T g d 178 85 ls st h P = z_T g d 178 86 ls (.int (nI 3) :: st) h P := zt_iconst zi_178_85 rfl
theorem zi_178_86 : z_ins 178 86 = some (.invokevirtual 167, 3) := by decide +kernel
theorem ze_178_86 : z_T g d 178 86 ls (.int x1 :: .int x0 :: .ref a :: st) h P = ((z_okS 8 st = true ∧ z_gO h.1 a 10 ∧ 0 < d) ∧ z_Ca g (d - 1) 123 [.ref a, .int x0, .int x1] h (fun r => z_k r (fun v h' => z_T g d 178 89 ls (z_push v st) h' P) P)) := zt_callV (as := [.int x0, .int x1]) zi_178_86 ((congrArg (fun o => z_lookup z_prs (o, 167)) zo_178).trans zp_LatinRectanglesModel_167) ((congrArg (fun o => z_clk o 167) zo_178).trans zk_LatinRectanglesModel_167) zh_178 zc_123 rfl rfl rfl
theorem zi_178_89 : z_ins 178 89 = some (.ireturn, 1) := by decide +kernel
theorem ze_178_89 : z_T g d 178 89 ls [.int x] h P = ((x = nI 0 ∨ x = nI 1) ∧ P (.inr (some (.int x)), h)) := zt_zreturn zi_178_89 zr_178
-- LatinRectanglesModel.cycle(III)I
theorem zo_179 : z_own 179 = "LatinRectanglesModel" := by decide +kernel
theorem zm_179 : z_maxL 179 = 4 := by decide +kernel
theorem zh_179 : z_hds 179 = [] := by decide +kernel
theorem zr_179 : z_rt 179 = (some .int) := by decide +kernel
theorem zn_179 : z_Ca g d 179 [.ref a0, .int x1, .int x2, .int x3] h P = z_T g d 179 0 [.ref a0, .int x1, .int x2, .int x3] [] h P := z_Ca_ent zm_179 rfl rfl
theorem zi_179_0 : z_ins 179 0 = some (.aload_n 0, 1) := by decide +kernel
theorem ze_179_0 : z_T g d 179 0 (.ref a :: ls) st h P = z_T g d 179 1 (.ref a :: ls) (.ref a :: st) h P := zt_aloadn zi_179_0 rfl rfl
theorem zi_179_1 : z_ins 179 1 = some (.iload_n 1, 1) := by decide +kernel
theorem ze_179_1 : z_T g d 179 1 (v0 :: .int x :: ls) st h P = z_T g d 179 2 (v0 :: .int x :: ls) (.int x :: st) h P := zt_iloadn zi_179_1 rfl rfl
theorem zi_179_2 : z_ins 179 2 = some (.iload_n 2, 1) := by decide +kernel
theorem ze_179_2 : z_T g d 179 2 (v0 :: v1 :: .int x :: ls) st h P = z_T g d 179 3 (v0 :: v1 :: .int x :: ls) (.int x :: st) h P := zt_iloadn zi_179_2 rfl rfl
theorem zi_179_3 : z_ins 179 3 = some (.iload_n 3, 1) := by decide +kernel
theorem ze_179_3 : z_T g d 179 3 (v0 :: v1 :: v2 :: .int x :: ls) st h P = z_T g d 179 4 (v0 :: v1 :: v2 :: .int x :: ls) (.int x :: st) h P := zt_iloadn zi_179_3 rfl rfl
theorem zi_179_4 : z_ins 179 4 = some (.invokevirtual 234, 3) := by decide +kernel
theorem ze_179_4 : z_T g d 179 4 ls (.int x2 :: .int x1 :: .int x0 :: .ref a :: st) h P = ((z_okS 8 st = true ∧ z_gO h.1 a 10 ∧ 0 < d) ∧ z_Ca g (d - 1) 178 [.ref a, .int x0, .int x1, .int x2] h (fun r => z_k r (fun v h' => z_T g d 179 7 ls (z_push v st) h' P) P)) := zt_callV (as := [.int x0, .int x1, .int x2]) zi_179_4 ((congrArg (fun o => z_lookup z_prs (o, 234)) zo_179).trans zp_LatinRectanglesModel_234) ((congrArg (fun o => z_clk o 234) zo_179).trans zk_LatinRectanglesModel_234) zh_179 zc_178 rfl rfl rfl
theorem zi_179_7 : z_ins 179 7 = some (.ifCond .eq 7, 3) := by decide +kernel
theorem ze_179_7 : z_T g d 179 7 ls (.int x :: st) h P = (if x = nI 0 then z_T g d 179 14 ls st h P else z_T g d 179 10 ls st h P) := zt_ifeq zi_179_7 (by decide)
theorem zi_179_10 : z_ins 179 10 = some (.iconst 0, 1) := by decide +kernel
theorem ze_179_10 : z_T g d 179 10 ls st h P = z_T g d 179 11 ls (.int (nI 0) :: st) h P := zt_iconst zi_179_10 rfl
theorem zi_179_11 : z_ins 179 11 = some (.goto 13, 3) := by decide +kernel
theorem ze_179_11 : z_T g d 179 11 ls st h P = z_T g d 179 24 ls st h P := zt_goto zi_179_11 (by decide)
theorem zi_179_14 : z_ins 179 14 = some (.aload_n 0, 1) := by decide +kernel
theorem ze_179_14 : z_T g d 179 14 (.ref a :: ls) st h P = z_T g d 179 15 (.ref a :: ls) (.ref a :: st) h P := zt_aloadn zi_179_14 rfl rfl
theorem zi_179_15 : z_ins 179 15 = some (.iload_n 1, 1) := by decide +kernel
theorem ze_179_15 : z_T g d 179 15 (v0 :: .int x :: ls) st h P = z_T g d 179 16 (v0 :: .int x :: ls) (.int x :: st) h P := zt_iloadn zi_179_15 rfl rfl
theorem zi_179_16 : z_ins 179 16 = some (.iload_n 2, 1) := by decide +kernel
theorem ze_179_16 : z_T g d 179 16 (v0 :: v1 :: .int x :: ls) st h P = z_T g d 179 17 (v0 :: v1 :: .int x :: ls) (.int x :: st) h P := zt_iloadn zi_179_16 rfl rfl
theorem zi_179_17 : z_ins 179 17 = some (.iload_n 3, 1) := by decide +kernel
theorem ze_179_17 : z_T g d 179 17 (v0 :: v1 :: v2 :: .int x :: ls) st h P = z_T g d 179 18 (v0 :: v1 :: v2 :: .int x :: ls) (.int x :: st) h P := zt_iloadn zi_179_17 rfl rfl
theorem zi_179_18 : z_ins 179 18 = some (.invokevirtual 237, 3) := by decide +kernel
theorem ze_179_18 : z_T g d 179 18 ls (.int x2 :: .int x1 :: .int x0 :: .ref a :: st) h P = ((z_okS 8 st = true ∧ z_gO h.1 a 10 ∧ 0 < d) ∧ z_Ca g (d - 1) 177 [.ref a, .int x0, .int x1, .int x2] h (fun r => z_k r (fun v h' => z_T g d 179 21 ls (z_push v st) h' P) P)) := zt_callV (as := [.int x0, .int x1, .int x2]) zi_179_18 ((congrArg (fun o => z_lookup z_prs (o, 237)) zo_179).trans zp_LatinRectanglesModel_237) ((congrArg (fun o => z_clk o 237) zo_179).trans zk_LatinRectanglesModel_237) zh_179 zc_177 rfl rfl rfl
theorem zi_179_21 : z_ins 179 21 = some (.invokestatic 204, 3) := by decide +kernel
theorem ze_179_21 : z_T g d 179 21 ls (.int x0 :: st) h P = ((z_okS 8 st = true ∧ 0 < d) ∧ z_Ca g (d - 1) 150 [.int x0] h (fun r => z_k r (fun v h' => z_T g d 179 24 ls (z_push v st) h' P) P)) := zt_callS0 (as := [.int x0]) zi_179_21 ((congrArg (fun o => z_lookup z_prs (o, 204)) zo_179).trans zp_LatinRectanglesModel_204) ((congrArg (fun o => z_clk o 204) zo_179).trans zk_LatinRectanglesModel_204) zh_179 rfl rfl rfl
theorem zi_179_24 : z_ins 179 24 = some (.ireturn, 1) := by decide +kernel
theorem ze_179_24 : z_T g d 179 24 ls [.int x] h P = P (.inr (some (.int x)), h) := zt_ireturn zi_179_24 zr_179
-- LatinRectanglesModel.cycleBySize(II)I
theorem zo_180 : z_own 180 = "LatinRectanglesModel" := by decide +kernel
theorem zm_180 : z_maxL 180 = 10 := by decide +kernel
theorem zh_180 : z_hds 180 = [] := by decide +kernel
theorem zr_180 : z_rt 180 = (some .int) := by decide +kernel
theorem zn_180 : z_Ca g d 180 [.ref a0, .int x1, .int x2] h P = z_T g d 180 0 [.ref a0, .int x1, .int x2, z_un, z_un, z_un, z_un, z_un, z_un, z_un] [] h P := z_Ca_ent zm_180 rfl rfl
theorem zi_180_0 : z_ins 180 0 = some (.aload_n 0, 1) := by decide +kernel
theorem ze_180_0 : z_T g d 180 0 (.ref a :: ls) st h P = z_T g d 180 1 (.ref a :: ls) (.ref a :: st) h P := zt_aloadn zi_180_0 rfl rfl
theorem zi_180_1 : z_ins 180 1 = some (.iconst 0, 1) := by decide +kernel
theorem ze_180_1 : z_T g d 180 1 ls st h P = z_T g d 180 2 ls (.int (nI 0) :: st) h P := zt_iconst zi_180_1 rfl
theorem zi_180_2 : z_ins 180 2 = some (.putfield 67, 3) := by decide +kernel
theorem ze_180_2 : z_T g d 180 2 ls (.int x :: .ref a :: st) h P = z_pF h.1 a 10 0 (.int x) (fun f => z_T g d 180 5 ls st (f, h.2) P) := zt_putI zi_180_2 ((congrArg (fun o => z_fl o 67) zo_180).trans zf_LatinRectanglesModel_67)
theorem zi_180_5 : z_ins 180 5 = some (.aload_n 0, 1) := by decide +kernel
theorem ze_180_5 : z_T g d 180 5 (.ref a :: ls) st h P = z_T g d 180 6 (.ref a :: ls) (.ref a :: st) h P := zt_aloadn zi_180_5 rfl rfl
theorem zi_180_6 : z_ins 180 6 = some (.iload_n 2, 1) := by decide +kernel
theorem ze_180_6 : z_T g d 180 6 (v0 :: v1 :: .int x :: ls) st h P = z_T g d 180 7 (v0 :: v1 :: .int x :: ls) (.int x :: st) h P := zt_iloadn zi_180_6 rfl rfl
theorem zi_180_7 : z_ins 180 7 = some (.iconst 0, 1) := by decide +kernel
theorem ze_180_7 : z_T g d 180 7 ls st h P = z_T g d 180 8 ls (.int (nI 0) :: st) h P := zt_iconst zi_180_7 rfl
theorem zi_180_8 : z_ins 180 8 = some (.iconst 3, 1) := by decide +kernel
theorem ze_180_8 : z_T g d 180 8 ls st h P = z_T g d 180 9 ls (.int (nI 3) :: st) h P := zt_iconst zi_180_8 rfl
theorem zi_180_9 : z_ins 180 9 = some (.invokestatic 111, 3) := by decide +kernel
theorem ze_180_9 : z_T g d 180 9 ls (.int x2 :: .int x1 :: .int x0 :: st) h P = ((z_okS 8 st = true ∧ 0 < d) ∧ z_Ca g (d - 1) 122 [.int x0, .int x1, .int x2] h (fun r => z_k r (fun v h' => z_T g d 180 12 ls (z_push v st) h' P) P)) := zt_callS0 (as := [.int x0, .int x1, .int x2]) zi_180_9 ((congrArg (fun o => z_lookup z_prs (o, 111)) zo_180).trans zp_LatinRectanglesModel_111) ((congrArg (fun o => z_clk o 111) zo_180).trans zk_LatinRectanglesModel_111) zh_180 rfl rfl rfl
theorem zi_180_12 : z_ins 180 12 = some (.ifCond .ne 7, 3) := by decide +kernel
theorem ze_180_12 : z_T g d 180 12 ls (.int x :: st) h P = (if x = nI 0 then z_T g d 180 15 ls st h P else z_T g d 180 19 ls st h P) := zt_ifne zi_180_12 (by decide)
theorem zi_180_15 : z_ins 180 15 = some (.iconst 1, 1) := by decide +kernel
theorem ze_180_15 : z_T g d 180 15 ls st h P = z_T g d 180 16 ls (.int (nI 1) :: st) h P := zt_iconst zi_180_15 rfl
theorem zi_180_16 : z_ins 180 16 = some (.goto 4, 3) := by decide +kernel
theorem ze_180_16 : z_T g d 180 16 ls st h P = z_T g d 180 20 ls st h P := zt_goto zi_180_16 (by decide)
theorem zi_180_19 : z_ins 180 19 = some (.iconst 0, 1) := by decide +kernel
theorem ze_180_19 : z_T g d 180 19 ls st h P = z_T g d 180 20 ls (.int (nI 0) :: st) h P := zt_iconst zi_180_19 rfl
theorem zi_180_20 : z_ins 180 20 = some (.iconst 1, 1) := by decide +kernel
theorem ze_180_20 : z_T g d 180 20 ls st h P = z_T g d 180 21 ls (.int (nI 1) :: st) h P := zt_iconst zi_180_20 rfl
theorem zi_180_21 : z_ins 180 21 = some (.invokevirtual 167, 3) := by decide +kernel
theorem ze_180_21 : z_T g d 180 21 ls (.int x1 :: .int x0 :: .ref a :: st) h P = ((z_okS 8 st = true ∧ z_gO h.1 a 10 ∧ 0 < d) ∧ z_Ca g (d - 1) 123 [.ref a, .int x0, .int x1] h (fun r => z_k r (fun v h' => z_T g d 180 24 ls (z_push v st) h' P) P)) := zt_callV (as := [.int x0, .int x1]) zi_180_21 ((congrArg (fun o => z_lookup z_prs (o, 167)) zo_180).trans zp_LatinRectanglesModel_167) ((congrArg (fun o => z_clk o 167) zo_180).trans zk_LatinRectanglesModel_167) zh_180 zc_123 rfl rfl rfl
theorem zi_180_24 : z_ins 180 24 = some (.ifCond .eq 5, 3) := by decide +kernel
theorem ze_180_24 : z_T g d 180 24 ls (.int x :: st) h P = (if x = nI 0 then z_T g d 180 29 ls st h P else z_T g d 180 27 ls st h P) := zt_ifeq zi_180_24 (by decide)
theorem zi_180_27 : z_ins 180 27 = some (.iconst 0, 1) := by decide +kernel
theorem ze_180_27 : z_T g d 180 27 ls st h P = z_T g d 180 28 ls (.int (nI 0) :: st) h P := zt_iconst zi_180_27 rfl
theorem zi_180_28 : z_ins 180 28 = some (.ireturn, 1) := by decide +kernel
theorem ze_180_28 : z_T g d 180 28 ls [.int x] h P = P (.inr (some (.int x)), h) := zt_ireturn zi_180_28 zr_180
theorem zi_180_29 : z_ins 180 29 = some (.iload_n 1, 1) := by decide +kernel
theorem ze_180_29 : z_T g d 180 29 (v0 :: .int x :: ls) st h P = z_T g d 180 30 (v0 :: .int x :: ls) (.int x :: st) h P := zt_iloadn zi_180_29 rfl rfl
theorem zi_180_30 : z_ins 180 30 = some (.istore_n 3, 1) := by decide +kernel
theorem ze_180_30 : z_T g d 180 30 (v0 :: v1 :: v2 :: v3 :: ls) (.int x :: st) h P = z_T g d 180 31 (v0 :: v1 :: v2 :: .int x :: ls) st h P := zt_istoren zi_180_30 rfl (Nat.le_add_left 4 _)
theorem zi_180_31 : z_ins 180 31 = some (.iconst 1, 1) := by decide +kernel
theorem ze_180_31 : z_T g d 180 31 ls st h P = z_T g d 180 32 ls (.int (nI 1) :: st) h P := zt_iconst zi_180_31 rfl
theorem zi_180_32 : z_ins 180 32 = some (.istore 4, 2) := by decide +kernel
theorem ze_180_32 : z_T g d 180 32 (v0 :: v1 :: v2 :: v3 :: v4 :: ls) (.int x :: st) h P = z_T g d 180 34 (v0 :: v1 :: v2 :: v3 :: .int x :: ls) st h P := zt_istore zi_180_32 (Nat.le_add_left 5 _)
theorem zi_180_34 : z_ins 180 34 = some (.iload 4, 2) := by decide +kernel
theorem ze_180_34 : z_T g d 180 34 (v0 :: v1 :: v2 :: v3 :: .int x :: ls) st h P = z_T g d 180 36 (v0 :: v1 :: v2 :: v3 :: .int x :: ls) (.int x :: st) h P := zt_iload zi_180_34 rfl
theorem zi_180_36 : z_ins 180 36 = some (.aload_n 0, 1) := by decide +kernel
theorem ze_180_36 : z_T g d 180 36 (.ref a :: ls) st h P = z_T g d 180 37 (.ref a :: ls) (.ref a :: st) h P := zt_aloadn zi_180_36 rfl rfl
theorem zi_180_37 : z_ins 180 37 = some (.getfield 76, 3) := by decide +kernel
theorem ze_180_37 : z_T g d 180 37 ls (.ref a :: st) h P = z_gI h.1 a 10 2 (fun x => z_T g d 180 40 ls (.int x :: st) h P) := zt_getI zi_180_37 ((congrArg (fun o => z_fl o 76) zo_180).trans zf_LatinRectanglesModel_76)
theorem zi_180_40 : z_ins 180 40 = some (.if_icmp .gt 170, 3) := by decide +kernel
theorem ze_180_40 : z_T g d 180 40 ls (.int y :: .int x :: st) h P = (if y < x then z_T g d 180 210 ls st h P else z_T g d 180 43 ls st h P) := zt_icmpgt zi_180_40 (by decide)
theorem zi_180_43 : z_ins 180 43 = some (.iload_n 1, 1) := by decide +kernel
theorem ze_180_43 : z_T g d 180 43 (v0 :: .int x :: ls) st h P = z_T g d 180 44 (v0 :: .int x :: ls) (.int x :: st) h P := zt_iloadn zi_180_43 rfl rfl
theorem zi_180_44 : z_ins 180 44 = some (.ifCond .lt 166, 3) := by decide +kernel
theorem ze_180_44 : z_T g d 180 44 ls (.int x :: st) h P = (if x < nI 0 then z_T g d 180 210 ls st h P else z_T g d 180 47 ls st h P) := zt_iflt zi_180_44 (by decide)
theorem zi_180_47 : z_ins 180 47 = some (.iconst 0, 1) := by decide +kernel
theorem ze_180_47 : z_T g d 180 47 ls st h P = z_T g d 180 48 ls (.int (nI 0) :: st) h P := zt_iconst zi_180_47 rfl
theorem zi_180_48 : z_ins 180 48 = some (.istore 5, 2) := by decide +kernel
theorem ze_180_48 : z_T g d 180 48 (v0 :: v1 :: v2 :: v3 :: v4 :: v5 :: ls) (.int x :: st) h P = z_T g d 180 50 (v0 :: v1 :: v2 :: v3 :: v4 :: .int x :: ls) st h P := zt_istore zi_180_48 (Nat.le_add_left 6 _)
theorem zi_180_50 : z_ins 180 50 = some (.iload 5, 2) := by decide +kernel
theorem ze_180_50 : z_T g d 180 50 (v0 :: v1 :: v2 :: v3 :: v4 :: .int x :: ls) st h P = z_T g d 180 52 (v0 :: v1 :: v2 :: v3 :: v4 :: .int x :: ls) (.int x :: st) h P := zt_iload zi_180_50 rfl
theorem zi_180_52 : z_ins 180 52 = some (.bipush 25, 2) := by decide +kernel
theorem ze_180_52 : z_T g d 180 52 ls st h P = z_T g d 180 54 ls (.int (nI 25) :: st) h P := zt_bipush zi_180_52 rfl
theorem zi_180_54 : z_ins 180 54 = some (.if_icmp .ge 150, 3) := by decide +kernel
theorem ze_180_54 : z_T g d 180 54 ls (.int y :: .int x :: st) h P = (if x < y then z_T g d 180 57 ls st h P else z_T g d 180 204 ls st h P) := zt_icmpge zi_180_54 (by decide)
theorem zi_180_57 : z_ins 180 57 = some (.iload 5, 2) := by decide +kernel
theorem ze_180_57 : z_T g d 180 57 (v0 :: v1 :: v2 :: v3 :: v4 :: .int x :: ls) st h P = z_T g d 180 59 (v0 :: v1 :: v2 :: v3 :: v4 :: .int x :: ls) (.int x :: st) h P := zt_iload zi_180_57 rfl
theorem zi_180_59 : z_ins 180 59 = some (.iconst 5, 1) := by decide +kernel
theorem ze_180_59 : z_T g d 180 59 ls st h P = z_T g d 180 60 ls (.int (nI 5) :: st) h P := zt_iconst zi_180_59 rfl
theorem zi_180_60 : z_ins 180 60 = some (.idiv, 1) := by decide +kernel
theorem ze_180_60 : z_T g d 180 60 ls (.int y :: .int x :: st) h P = (¬ y = nI 0 ∧ z_T g d 180 61 ls (.int (x / y) :: st) h P) := zt_idiv zi_180_60
theorem zi_180_61 : z_ins 180 61 = some (.istore 6, 2) := by decide +kernel
theorem ze_180_61 : z_T g d 180 61 (v0 :: v1 :: v2 :: v3 :: v4 :: v5 :: v6 :: ls) (.int x :: st) h P = z_T g d 180 63 (v0 :: v1 :: v2 :: v3 :: v4 :: v5 :: .int x :: ls) st h P := zt_istore zi_180_61 (Nat.le_add_left 7 _)
theorem zi_180_63 : z_ins 180 63 = some (.iload 5, 2) := by decide +kernel
theorem ze_180_63 : z_T g d 180 63 (v0 :: v1 :: v2 :: v3 :: v4 :: .int x :: ls) st h P = z_T g d 180 65 (v0 :: v1 :: v2 :: v3 :: v4 :: .int x :: ls) (.int x :: st) h P := zt_iload zi_180_63 rfl
theorem zi_180_65 : z_ins 180 65 = some (.iconst 5, 1) := by decide +kernel
theorem ze_180_65 : z_T g d 180 65 ls st h P = z_T g d 180 66 ls (.int (nI 5) :: st) h P := zt_iconst zi_180_65 rfl
theorem zi_180_66 : z_ins 180 66 = some (.irem, 1) := by decide +kernel
theorem ze_180_66 : z_T g d 180 66 ls (.int y :: .int x :: st) h P = (¬ y = nI 0 ∧ z_T g d 180 67 ls (.int (x - x / y * y) :: st) h P) := zt_irem zi_180_66
theorem zi_180_67 : z_ins 180 67 = some (.istore 7, 2) := by decide +kernel
theorem ze_180_67 : z_T g d 180 67 (v0 :: v1 :: v2 :: v3 :: v4 :: v5 :: v6 :: v7 :: ls) (.int x :: st) h P = z_T g d 180 69 (v0 :: v1 :: v2 :: v3 :: v4 :: v5 :: v6 :: .int x :: ls) st h P := zt_istore zi_180_67 (Nat.le_add_left 8 _)
theorem zi_180_69 : z_ins 180 69 = some (.iload 6, 2) := by decide +kernel
theorem ze_180_69 : z_T g d 180 69 (v0 :: v1 :: v2 :: v3 :: v4 :: v5 :: .int x :: ls) st h P = z_T g d 180 71 (v0 :: v1 :: v2 :: v3 :: v4 :: v5 :: .int x :: ls) (.int x :: st) h P := zt_iload zi_180_69 rfl
theorem zi_180_71 : z_ins 180 71 = some (.iload 7, 2) := by decide +kernel
theorem ze_180_71 : z_T g d 180 71 (v0 :: v1 :: v2 :: v3 :: v4 :: v5 :: v6 :: .int x :: ls) st h P = z_T g d 180 73 (v0 :: v1 :: v2 :: v3 :: v4 :: v5 :: v6 :: .int x :: ls) (.int x :: st) h P := zt_iload zi_180_71 rfl
theorem zi_180_73 : z_ins 180 73 = some (.if_icmp .ge 125, 3) := by decide +kernel
theorem ze_180_73 : z_T g d 180 73 ls (.int y :: .int x :: st) h P = (if x < y then z_T g d 180 76 ls st h P else z_T g d 180 198 ls st h P) := zt_icmpge zi_180_73 (by decide)
theorem zi_180_76 : z_ins 180 76 = some (.iload 7, 2) := by decide +kernel
theorem ze_180_76 : z_T g d 180 76 (v0 :: v1 :: v2 :: v3 :: v4 :: v5 :: v6 :: .int x :: ls) st h P = z_T g d 180 78 (v0 :: v1 :: v2 :: v3 :: v4 :: v5 :: v6 :: .int x :: ls) (.int x :: st) h P := zt_iload zi_180_76 rfl
theorem zi_180_78 : z_ins 180 78 = some (.aload_n 0, 1) := by decide +kernel
theorem ze_180_78 : z_T g d 180 78 (.ref a :: ls) st h P = z_T g d 180 79 (.ref a :: ls) (.ref a :: st) h P := zt_aloadn zi_180_78 rfl rfl
theorem zi_180_79 : z_ins 180 79 = some (.getfield 73, 3) := by decide +kernel
theorem ze_180_79 : z_T g d 180 79 ls (.ref a :: st) h P = z_gI h.1 a 10 1 (fun x => z_T g d 180 82 ls (.int x :: st) h P) := zt_getI zi_180_79 ((congrArg (fun o => z_fl o 73) zo_180).trans zf_LatinRectanglesModel_73)
theorem zi_180_82 : z_ins 180 82 = some (.if_icmp .ge 116, 3) := by decide +kernel
theorem ze_180_82 : z_T g d 180 82 ls (.int y :: .int x :: st) h P = (if x < y then z_T g d 180 85 ls st h P else z_T g d 180 198 ls st h P) := zt_icmpge zi_180_82 (by decide)
theorem zi_180_85 : z_ins 180 85 = some (.aload_n 0, 1) := by decide +kernel
theorem ze_180_85 : z_T g d 180 85 (.ref a :: ls) st h P = z_T g d 180 86 (.ref a :: ls) (.ref a :: st) h P := zt_aloadn zi_180_85 rfl rfl
theorem zi_180_86 : z_ins 180 86 = some (.iload 6, 2) := by decide +kernel
theorem ze_180_86 : z_T g d 180 86 (v0 :: v1 :: v2 :: v3 :: v4 :: v5 :: .int x :: ls) st h P = z_T g d 180 88 (v0 :: v1 :: v2 :: v3 :: v4 :: v5 :: .int x :: ls) (.int x :: st) h P := zt_iload zi_180_86 rfl
theorem zi_180_88 : z_ins 180 88 = some (.invokevirtual 186, 3) := by decide +kernel
theorem ze_180_88 : z_T g d 180 88 ls (.int x0 :: .ref a :: st) h P = ((z_okS 8 st = true ∧ z_gO h.1 a 10 ∧ 0 < d) ∧ z_Ca g (d - 1) 148 [.ref a, .int x0] h (fun r => z_k r (fun v h' => z_T g d 180 91 ls (z_push v st) h' P) P)) := zt_callV (as := [.int x0]) zi_180_88 ((congrArg (fun o => z_lookup z_prs (o, 186)) zo_180).trans zp_LatinRectanglesModel_186) ((congrArg (fun o => z_clk o 186) zo_180).trans zk_LatinRectanglesModel_186) zh_180 zc_148 rfl rfl rfl
theorem zi_180_91 : z_ins 180 91 = some (.ifCond .eq 107, 3) := by decide +kernel
theorem ze_180_91 : z_T g d 180 91 ls (.int x :: st) h P = (if x = nI 0 then z_T g d 180 198 ls st h P else z_T g d 180 94 ls st h P) := zt_ifeq zi_180_91 (by decide)
theorem zi_180_94 : z_ins 180 94 = some (.aload_n 0, 1) := by decide +kernel
theorem ze_180_94 : z_T g d 180 94 (.ref a :: ls) st h P = z_T g d 180 95 (.ref a :: ls) (.ref a :: st) h P := zt_aloadn zi_180_94 rfl rfl
theorem zi_180_95 : z_ins 180 95 = some (.iload 7, 2) := by decide +kernel
theorem ze_180_95 : z_T g d 180 95 (v0 :: v1 :: v2 :: v3 :: v4 :: v5 :: v6 :: .int x :: ls) st h P = z_T g d 180 97 (v0 :: v1 :: v2 :: v3 :: v4 :: v5 :: v6 :: .int x :: ls) (.int x :: st) h P := zt_iload zi_180_95 rfl
theorem zi_180_97 : z_ins 180 97 = some (.invokevirtual 186, 3) := by decide +kernel
theorem ze_180_97 : z_T g d 180 97 ls (.int x0 :: .ref a :: st) h P = ((z_okS 8 st = true ∧ z_gO h.1 a 10 ∧ 0 < d) ∧ z_Ca g (d - 1) 148 [.ref a, .int x0] h (fun r => z_k r (fun v h' => z_T g d 180 100 ls (z_push v st) h' P) P)) := zt_callV (as := [.int x0]) zi_180_97 ((congrArg (fun o => z_lookup z_prs (o, 186)) zo_180).trans zp_LatinRectanglesModel_186) ((congrArg (fun o => z_clk o 186) zo_180).trans zk_LatinRectanglesModel_186) zh_180 zc_148 rfl rfl rfl
theorem zi_180_100 : z_ins 180 100 = some (.ifCond .ne 6, 3) := by decide +kernel
theorem ze_180_100 : z_T g d 180 100 ls (.int x :: st) h P = (if x = nI 0 then z_T g d 180 103 ls st h P else z_T g d 180 106 ls st h P) := zt_ifne zi_180_100 (by decide)
theorem zi_180_103 : z_ins 180 103 = some (.goto 95, 3) := by decide +kernel
theorem ze_180_103 : z_T g d 180 103 ls st h P = z_T g d 180 198 ls st h P := zt_goto zi_180_103 (by decide)
theorem zi_180_106 : z_ins 180 106 = some (.iconst 0, 1) := by decide +kernel
theorem ze_180_106 : z_T g d 180 106 ls st h P = z_T g d 180 107 ls (.int (nI 0) :: st) h P := zt_iconst zi_180_106 rfl
theorem zi_180_107 : z_ins 180 107 = some (.istore 8, 2) := by decide +kernel
theorem ze_180_107 : z_T g d 180 107 (v0 :: v1 :: v2 :: v3 :: v4 :: v5 :: v6 :: v7 :: v8 :: ls) (.int x :: st) h P = z_T g d 180 109 (v0 :: v1 :: v2 :: v3 :: v4 :: v5 :: v6 :: v7 :: .int x :: ls) st h P := zt_istore zi_180_107 (Nat.le_add_left 9 _)
theorem zi_180_109 : z_ins 180 109 = some (.iload 8, 2) := by decide +kernel
theorem ze_180_109 : z_T g d 180 109 (v0 :: v1 :: v2 :: v3 :: v4 :: v5 :: v6 :: v7 :: .int x :: ls) st h P = z_T g d 180 111 (v0 :: v1 :: v2 :: v3 :: v4 :: v5 :: v6 :: v7 :: .int x :: ls) (.int x :: st) h P := zt_iload zi_180_109 rfl
theorem zi_180_111 : z_ins 180 111 = some (.aload_n 0, 1) := by decide +kernel
theorem ze_180_111 : z_T g d 180 111 (.ref a :: ls) st h P = z_T g d 180 112 (.ref a :: ls) (.ref a :: st) h P := zt_aloadn zi_180_111 rfl rfl
theorem zi_180_112 : z_ins 180 112 = some (.getfield 76, 3) := by decide +kernel
theorem ze_180_112 : z_T g d 180 112 ls (.ref a :: st) h P = z_gI h.1 a 10 2 (fun x => z_T g d 180 115 ls (.int x :: st) h P) := zt_getI zi_180_112 ((congrArg (fun o => z_fl o 76) zo_180).trans zf_LatinRectanglesModel_76)
theorem zi_180_115 : z_ins 180 115 = some (.if_icmp .ge 83, 3) := by decide +kernel
theorem ze_180_115 : z_T g d 180 115 ls (.int y :: .int x :: st) h P = (if x < y then z_T g d 180 118 ls st h P else z_T g d 180 198 ls st h P) := zt_icmpge zi_180_115 (by decide)
theorem zi_180_118 : z_ins 180 118 = some (.aload_n 0, 1) := by decide +kernel
theorem ze_180_118 : z_T g d 180 118 (.ref a :: ls) st h P = z_T g d 180 119 (.ref a :: ls) (.ref a :: st) h P := zt_aloadn zi_180_118 rfl rfl
theorem zi_180_119 : z_ins 180 119 = some (.iload 6, 2) := by decide +kernel
theorem ze_180_119 : z_T g d 180 119 (v0 :: v1 :: v2 :: v3 :: v4 :: v5 :: .int x :: ls) st h P = z_T g d 180 121 (v0 :: v1 :: v2 :: v3 :: v4 :: v5 :: .int x :: ls) (.int x :: st) h P := zt_iload zi_180_119 rfl
theorem zi_180_121 : z_ins 180 121 = some (.iload 7, 2) := by decide +kernel
theorem ze_180_121 : z_T g d 180 121 (v0 :: v1 :: v2 :: v3 :: v4 :: v5 :: v6 :: .int x :: ls) st h P = z_T g d 180 123 (v0 :: v1 :: v2 :: v3 :: v4 :: v5 :: v6 :: .int x :: ls) (.int x :: st) h P := zt_iload zi_180_121 rfl
theorem zi_180_123 : z_ins 180 123 = some (.iload 8, 2) := by decide +kernel
theorem ze_180_123 : z_T g d 180 123 (v0 :: v1 :: v2 :: v3 :: v4 :: v5 :: v6 :: v7 :: .int x :: ls) st h P = z_T g d 180 125 (v0 :: v1 :: v2 :: v3 :: v4 :: v5 :: v6 :: v7 :: .int x :: ls) (.int x :: st) h P := zt_iload zi_180_123 rfl
theorem zi_180_125 : z_ins 180 125 = some (.invokevirtual 237, 3) := by decide +kernel
theorem ze_180_125 : z_T g d 180 125 ls (.int x2 :: .int x1 :: .int x0 :: .ref a :: st) h P = ((z_okS 8 st = true ∧ z_gO h.1 a 10 ∧ 0 < d) ∧ z_Ca g (d - 1) 177 [.ref a, .int x0, .int x1, .int x2] h (fun r => z_k r (fun v h' => z_T g d 180 128 ls (z_push v st) h' P) P)) := zt_callV (as := [.int x0, .int x1, .int x2]) zi_180_125 ((congrArg (fun o => z_lookup z_prs (o, 237)) zo_180).trans zp_LatinRectanglesModel_237) ((congrArg (fun o => z_clk o 237) zo_180).trans zk_LatinRectanglesModel_237) zh_180 zc_177 rfl rfl rfl
theorem zi_180_128 : z_ins 180 128 = some (.istore 9, 2) := by decide +kernel
theorem ze_180_128 : z_T g d 180 128 (v0 :: v1 :: v2 :: v3 :: v4 :: v5 :: v6 :: v7 :: v8 :: v9 :: ls) (.int x :: st) h P = z_T g d 180 130 (v0 :: v1 :: v2 :: v3 :: v4 :: v5 :: v6 :: v7 :: v8 :: .int x :: ls) st h P := zt_istore zi_180_128 (Nat.le_add_left 10 _)
theorem zi_180_130 : z_ins 180 130 = some (.iload 9, 2) := by decide +kernel
theorem ze_180_130 : z_T g d 180 130 (v0 :: v1 :: v2 :: v3 :: v4 :: v5 :: v6 :: v7 :: v8 :: .int x :: ls) st h P = z_T g d 180 132 (v0 :: v1 :: v2 :: v3 :: v4 :: v5 :: v6 :: v7 :: v8 :: .int x :: ls) (.int x :: st) h P := zt_iload zi_180_130 rfl
theorem zi_180_132 : z_ins 180 132 = some (.invokestatic 204, 3) := by decide +kernel
theorem ze_180_132 : z_T g d 180 132 ls (.int x0 :: st) h P = ((z_okS 8 st = true ∧ 0 < d) ∧ z_Ca g (d - 1) 150 [.int x0] h (fun r => z_k r (fun v h' => z_T g d 180 135 ls (z_push v st) h' P) P)) := zt_callS0 (as := [.int x0]) zi_180_132 ((congrArg (fun o => z_lookup z_prs (o, 204)) zo_180).trans zp_LatinRectanglesModel_204) ((congrArg (fun o => z_clk o 204) zo_180).trans zk_LatinRectanglesModel_204) zh_180 rfl rfl rfl
theorem zi_180_135 : z_ins 180 135 = some (.iload 4, 2) := by decide +kernel
theorem ze_180_135 : z_T g d 180 135 (v0 :: v1 :: v2 :: v3 :: .int x :: ls) st h P = z_T g d 180 137 (v0 :: v1 :: v2 :: v3 :: .int x :: ls) (.int x :: st) h P := zt_iload zi_180_135 rfl
theorem zi_180_137 : z_ins 180 137 = some (.if_icmp .ne 55, 3) := by decide +kernel
theorem ze_180_137 : z_T g d 180 137 ls (.int y :: .int x :: st) h P = (if x = y then z_T g d 180 140 ls st h P else z_T g d 180 192 ls st h P) := zt_icmpne zi_180_137 (by decide)
theorem zi_180_140 : z_ins 180 140 = some (.iload 9, 2) := by decide +kernel
theorem ze_180_140 : z_T g d 180 140 (v0 :: v1 :: v2 :: v3 :: v4 :: v5 :: v6 :: v7 :: v8 :: .int x :: ls) st h P = z_T g d 180 142 (v0 :: v1 :: v2 :: v3 :: v4 :: v5 :: v6 :: v7 :: v8 :: .int x :: ls) (.int x :: st) h P := zt_iload zi_180_140 rfl
theorem zi_180_142 : z_ins 180 142 = some (.invokestatic 207, 3) := by decide +kernel
theorem ze_180_142 : z_T g d 180 142 ls (.int x0 :: st) h P = ((z_okS 8 st = true ∧ 0 < d) ∧ z_Ca g (d - 1) 151 [.int x0] h (fun r => z_k r (fun v h' => z_T g d 180 145 ls (z_push v st) h' P) P)) := zt_callS0 (as := [.int x0]) zi_180_142 ((congrArg (fun o => z_lookup z_prs (o, 207)) zo_180).trans zp_LatinRectanglesModel_207) ((congrArg (fun o => z_clk o 207) zo_180).trans zk_LatinRectanglesModel_207) zh_180 rfl rfl rfl
theorem zi_180_145 : z_ins 180 145 = some (.iload 8, 2) := by decide +kernel
theorem ze_180_145 : z_T g d 180 145 (v0 :: v1 :: v2 :: v3 :: v4 :: v5 :: v6 :: v7 :: .int x :: ls) st h P = z_T g d 180 147 (v0 :: v1 :: v2 :: v3 :: v4 :: v5 :: v6 :: v7 :: .int x :: ls) (.int x :: st) h P := zt_iload zi_180_145 rfl
theorem zi_180_147 : z_ins 180 147 = some (.if_icmp .eq 6, 3) := by decide +kernel
theorem ze_180_147 : z_T g d 180 147 ls (.int y :: .int x :: st) h P = (if x = y then z_T g d 180 153 ls st h P else z_T g d 180 150 ls st h P) := zt_icmpeq zi_180_147 (by decide)
theorem zi_180_150 : z_ins 180 150 = some (.goto 42, 3) := by decide +kernel
theorem ze_180_150 : z_T g d 180 150 ls st h P = z_T g d 180 192 ls st h P := zt_goto zi_180_150 (by decide)
theorem zi_180_153 : z_ins 180 153 = some (.iload_n 3, 1) := by decide +kernel
theorem ze_180_153 : z_T g d 180 153 (v0 :: v1 :: v2 :: .int x :: ls) st h P = z_T g d 180 154 (v0 :: v1 :: v2 :: .int x :: ls) (.int x :: st) h P := zt_iloadn zi_180_153 rfl rfl
theorem zi_180_154 : z_ins 180 154 = some (.ifCond .ne 35, 3) := by decide +kernel
theorem ze_180_154 : z_T g d 180 154 ls (.int x :: st) h P = (if x = nI 0 then z_T g d 180 157 ls st h P else z_T g d 180 189 ls st h P) := zt_ifne zi_180_154 (by decide)
theorem zi_180_157 : z_ins 180 157 = some (.iload_n 2, 1) := by decide +kernel
theorem ze_180_157 : z_T g d 180 157 (v0 :: v1 :: .int x :: ls) st h P = z_T g d 180 158 (v0 :: v1 :: .int x :: ls) (.int x :: st) h P := zt_iloadn zi_180_157 rfl rfl
theorem zi_180_158 : z_ins 180 158 = some (.ifCond .ne 8, 3) := by decide +kernel
theorem ze_180_158 : z_T g d 180 158 ls (.int x :: st) h P = (if x = nI 0 then z_T g d 180 161 ls st h P else z_T g d 180 166 ls st h P) := zt_ifne zi_180_158 (by decide)
theorem zi_180_161 : z_ins 180 161 = some (.iload 4, 2) := by decide +kernel
theorem ze_180_161 : z_T g d 180 161 (v0 :: v1 :: v2 :: v3 :: .int x :: ls) st h P = z_T g d 180 163 (v0 :: v1 :: v2 :: v3 :: .int x :: ls) (.int x :: st) h P := zt_iload zi_180_161 rfl
theorem zi_180_163 : z_ins 180 163 = some (.goto 25, 3) := by decide +kernel
theorem ze_180_163 : z_T g d 180 163 ls st h P = z_T g d 180 188 ls st h P := zt_goto zi_180_163 (by decide)
theorem zi_180_166 : z_ins 180 166 = some (.iload_n 2, 1) := by decide +kernel
theorem ze_180_166 : z_T g d 180 166 (v0 :: v1 :: .int x :: ls) st h P = z_T g d 180 167 (v0 :: v1 :: .int x :: ls) (.int x :: st) h P := zt_iloadn zi_180_166 rfl rfl
theorem zi_180_167 : z_ins 180 167 = some (.iconst 1, 1) := by decide +kernel
theorem ze_180_167 : z_T g d 180 167 ls st h P = z_T g d 180 168 ls (.int (nI 1) :: st) h P := zt_iconst zi_180_167 rfl
theorem zi_180_168 : z_ins 180 168 = some (.if_icmp .ne 8, 3) := by decide +kernel
theorem ze_180_168 : z_T g d 180 168 ls (.int y :: .int x :: st) h P = (if x = y then z_T g d 180 171 ls st h P else z_T g d 180 176 ls st h P) := zt_icmpne zi_180_168 (by decide)
theorem zi_180_171 : z_ins 180 171 = some (.iload 6, 2) := by decide +kernel
theorem ze_180_171 : z_T g d 180 171 (v0 :: v1 :: v2 :: v3 :: v4 :: v5 :: .int x :: ls) st h P = z_T g d 180 173 (v0 :: v1 :: v2 :: v3 :: v4 :: v5 :: .int x :: ls) (.int x :: st) h P := zt_iload zi_180_171 rfl
theorem zi_180_173 : z_ins 180 173 = some (.goto 15, 3) := by decide +kernel
theorem ze_180_173 : z_T g d 180 173 ls st h P = z_T g d 180 188 ls st h P := zt_goto zi_180_173 (by decide)
theorem zi_180_176 : z_ins 180 176 = some (.iload_n 2, 1) := by decide +kernel
theorem ze_180_176 : z_T g d 180 176 (v0 :: v1 :: .int x :: ls) st h P = z_T g d 180 177 (v0 :: v1 :: .int x :: ls) (.int x :: st) h P := zt_iloadn zi_180_176 rfl rfl
theorem zi_180_177 : z_ins 180 177 = some (.iconst 2, 1) := by decide +kernel
theorem ze_180_177 : z_T g d 180 177 ls st h P = z_T g d 180 178 ls (.int (nI 2) :: st) h P := zt_iconst zi_180_177 rfl
theorem zi_180_178 : z_ins 180 178 = some (.if_icmp .ne 8, 3) := by decide +kernel
theorem ze_180_178 : z_T g d 180 178 ls (.int y :: .int x :: st) h P = (if x = y then z_T g d 180 181 ls st h P else z_T g d 180 186 ls st h P) := zt_icmpne zi_180_178 (by decide)
theorem zi_180_181 : z_ins 180 181 = some (.iload 7, 2) := by decide +kernel
theorem ze_180_181 : z_T g d 180 181 (v0 :: v1 :: v2 :: v3 :: v4 :: v5 :: v6 :: .int x :: ls) st h P = z_T g d 180 183 (v0 :: v1 :: v2 :: v3 :: v4 :: v5 :: v6 :: .int x :: ls) (.int x :: st) h P := zt_iload zi_180_181 rfl
theorem zi_180_183 : z_ins 180 183 = some (.goto 5, 3) := by decide +kernel
theorem ze_180_183 : z_T g d 180 183 ls st h P = z_T g d 180 188 ls st h P := zt_goto zi_180_183 (by decide)
theorem zi_180_186 : z_ins 180 186 = some (.iload 8, 2) := by decide +kernel
theorem ze_180_186 : z_T g d 180 186 (v0 :: v1 :: v2 :: v3 :: v4 :: v5 :: v6 :: v7 :: .int x :: ls) st h P = z_T g d 180 188 (v0 :: v1 :: v2 :: v3 :: v4 :: v5 :: v6 :: v7 :: .int x :: ls) (.int x :: st) h P := zt_iload zi_180_186 rfl
theorem zi_180_188 : z_ins 180 188 = some (.ireturn, 1) := by decide +kernel
theorem ze_180_188 : z_T g d 180 188 ls [.int x] h P = P (.inr (some (.int x)), h) := zt_ireturn zi_180_188 zr_180
theorem zi_180_189 : z_ins 180 189 = some (.iinc 3 (-1), 3) := by decide +kernel
theorem ze_180_189 : z_T g d 180 189 (v0 :: v1 :: v2 :: .int x :: ls) st h P = z_T g d 180 192 (v0 :: v1 :: v2 :: .int (x + (-1)) :: ls) st h P := zt_iinc zi_180_189 rfl rfl
theorem zi_180_192 : z_ins 180 192 = some (.iinc 8 1, 3) := by decide +kernel
theorem ze_180_192 : z_T g d 180 192 (v0 :: v1 :: v2 :: v3 :: v4 :: v5 :: v6 :: v7 :: .int x :: ls) st h P = z_T g d 180 195 (v0 :: v1 :: v2 :: v3 :: v4 :: v5 :: v6 :: v7 :: .int (x + (nI 1)) :: ls) st h P := zt_iinc zi_180_192 rfl rfl
theorem zi_180_195 : z_ins 180 195 = some (.goto (-86), 3) := by decide +kernel
theorem ze_180_195 : z_T g d 180 195 ls st h P = z_T g d 180 109 ls st h P := zt_goto zi_180_195 (by decide)
theorem zi_180_198 : z_ins 180 198 = some (.iinc 5 1, 3) := by decide +kernel
theorem ze_180_198 : z_T g d 180 198 (v0 :: v1 :: v2 :: v3 :: v4 :: .int x :: ls) st h P = z_T g d 180 201 (v0 :: v1 :: v2 :: v3 :: v4 :: .int (x + (nI 1)) :: ls) st h P := zt_iinc zi_180_198 rfl rfl
theorem zi_180_201 : z_ins 180 201 = some (.goto (-151), 3) := by decide +kernel
theorem ze_180_201 : z_T g d 180 201 ls st h P = z_T g d 180 50 ls st h P := zt_goto zi_180_201 (by decide)
theorem zi_180_204 : z_ins 180 204 = some (.iinc 4 1, 3) := by decide +kernel
theorem ze_180_204 : z_T g d 180 204 (v0 :: v1 :: v2 :: v3 :: .int x :: ls) st h P = z_T g d 180 207 (v0 :: v1 :: v2 :: v3 :: .int (x + (nI 1)) :: ls) st h P := zt_iinc zi_180_204 rfl rfl
theorem zi_180_207 : z_ins 180 207 = some (.goto (-173), 3) := by decide +kernel
theorem ze_180_207 : z_T g d 180 207 ls st h P = z_T g d 180 34 ls st h P := zt_goto zi_180_207 (by decide)
theorem zi_180_210 : z_ins 180 210 = some (.iconst (-1), 1) := by decide +kernel
theorem ze_180_210 : z_T g d 180 210 ls st h P = z_T g d 180 211 ls (.int (-1) :: st) h P := zt_iconst zi_180_210 rfl
theorem zi_180_211 : z_ins 180 211 = some (.ireturn, 1) := by decide +kernel
theorem ze_180_211 : z_T g d 180 211 ls [.int x] h P = P (.inr (some (.int x)), h) := zt_ireturn zi_180_211 zr_180
-- LatinRectanglesModel.crossings(II)I
theorem zo_181 : z_own 181 = "LatinRectanglesModel" := by decide +kernel
theorem zm_181 : z_maxL 181 = 7 := by decide +kernel
theorem zh_181 : z_hds 181 = [] := by decide +kernel
theorem zr_181 : z_rt 181 = (some .int) := by decide +kernel
theorem zn_181 : z_Ca g d 181 [.ref a0, .int x1, .int x2] h P = z_T g d 181 0 [.ref a0, .int x1, .int x2, z_un, z_un, z_un, z_un] [] h P := z_Ca_ent zm_181 rfl rfl
theorem zi_181_0 : z_ins 181 0 = some (.iconst 0, 1) := by decide +kernel
theorem ze_181_0 : z_T g d 181 0 ls st h P = z_T g d 181 1 ls (.int (nI 0) :: st) h P := zt_iconst zi_181_0 rfl
theorem zi_181_1 : z_ins 181 1 = some (.istore_n 3, 1) := by decide +kernel
theorem ze_181_1 : z_T g d 181 1 (v0 :: v1 :: v2 :: v3 :: ls) (.int x :: st) h P = z_T g d 181 2 (v0 :: v1 :: v2 :: .int x :: ls) st h P := zt_istoren zi_181_1 rfl (Nat.le_add_left 4 _)
theorem zi_181_2 : z_ins 181 2 = some (.iconst 0, 1) := by decide +kernel
theorem ze_181_2 : z_T g d 181 2 ls st h P = z_T g d 181 3 ls (.int (nI 0) :: st) h P := zt_iconst zi_181_2 rfl
theorem zi_181_3 : z_ins 181 3 = some (.istore 4, 2) := by decide +kernel
theorem ze_181_3 : z_T g d 181 3 (v0 :: v1 :: v2 :: v3 :: v4 :: ls) (.int x :: st) h P = z_T g d 181 5 (v0 :: v1 :: v2 :: v3 :: .int x :: ls) st h P := zt_istore zi_181_3 (Nat.le_add_left 5 _)
theorem zi_181_5 : z_ins 181 5 = some (.iload 4, 2) := by decide +kernel
theorem ze_181_5 : z_T g d 181 5 (v0 :: v1 :: v2 :: v3 :: .int x :: ls) st h P = z_T g d 181 7 (v0 :: v1 :: v2 :: v3 :: .int x :: ls) (.int x :: st) h P := zt_iload zi_181_5 rfl
theorem zi_181_7 : z_ins 181 7 = some (.aload_n 0, 1) := by decide +kernel
theorem ze_181_7 : z_T g d 181 7 (.ref a :: ls) st h P = z_T g d 181 8 (.ref a :: ls) (.ref a :: st) h P := zt_aloadn zi_181_7 rfl rfl
theorem zi_181_8 : z_ins 181 8 = some (.getfield 76, 3) := by decide +kernel
theorem ze_181_8 : z_T g d 181 8 ls (.ref a :: st) h P = z_gI h.1 a 10 2 (fun x => z_T g d 181 11 ls (.int x :: st) h P) := zt_getI zi_181_8 ((congrArg (fun o => z_fl o 76) zo_181).trans zf_LatinRectanglesModel_76)
theorem zi_181_11 : z_ins 181 11 = some (.if_icmp .ge 106, 3) := by decide +kernel
theorem ze_181_11 : z_T g d 181 11 ls (.int y :: .int x :: st) h P = (if x < y then z_T g d 181 14 ls st h P else z_T g d 181 117 ls st h P) := zt_icmpge zi_181_11 (by decide)
theorem zi_181_14 : z_ins 181 14 = some (.iload 4, 2) := by decide +kernel
theorem ze_181_14 : z_T g d 181 14 (v0 :: v1 :: v2 :: v3 :: .int x :: ls) st h P = z_T g d 181 16 (v0 :: v1 :: v2 :: v3 :: .int x :: ls) (.int x :: st) h P := zt_iload zi_181_14 rfl
theorem zi_181_16 : z_ins 181 16 = some (.iconst 1, 1) := by decide +kernel
theorem ze_181_16 : z_T g d 181 16 ls st h P = z_T g d 181 17 ls (.int (nI 1) :: st) h P := zt_iconst zi_181_16 rfl
theorem zi_181_17 : z_ins 181 17 = some (.iadd, 1) := by decide +kernel
theorem ze_181_17 : z_T g d 181 17 ls (.int y :: .int x :: st) h P = z_T g d 181 18 ls (.int (x + y) :: st) h P := zt_bin (f := fun x y => x + y) zi_181_17 rfl (fun _ _ _ => rfl)
theorem zi_181_18 : z_ins 181 18 = some (.istore 5, 2) := by decide +kernel
theorem ze_181_18 : z_T g d 181 18 (v0 :: v1 :: v2 :: v3 :: v4 :: v5 :: ls) (.int x :: st) h P = z_T g d 181 20 (v0 :: v1 :: v2 :: v3 :: v4 :: .int x :: ls) st h P := zt_istore zi_181_18 (Nat.le_add_left 6 _)
theorem zi_181_20 : z_ins 181 20 = some (.iload 5, 2) := by decide +kernel
theorem ze_181_20 : z_T g d 181 20 (v0 :: v1 :: v2 :: v3 :: v4 :: .int x :: ls) st h P = z_T g d 181 22 (v0 :: v1 :: v2 :: v3 :: v4 :: .int x :: ls) (.int x :: st) h P := zt_iload zi_181_20 rfl
theorem zi_181_22 : z_ins 181 22 = some (.aload_n 0, 1) := by decide +kernel
theorem ze_181_22 : z_T g d 181 22 (.ref a :: ls) st h P = z_T g d 181 23 (.ref a :: ls) (.ref a :: st) h P := zt_aloadn zi_181_22 rfl rfl
theorem zi_181_23 : z_ins 181 23 = some (.getfield 76, 3) := by decide +kernel
theorem ze_181_23 : z_T g d 181 23 ls (.ref a :: st) h P = z_gI h.1 a 10 2 (fun x => z_T g d 181 26 ls (.int x :: st) h P) := zt_getI zi_181_23 ((congrArg (fun o => z_fl o 76) zo_181).trans zf_LatinRectanglesModel_76)
theorem zi_181_26 : z_ins 181 26 = some (.if_icmp .ge 85, 3) := by decide +kernel
theorem ze_181_26 : z_T g d 181 26 ls (.int y :: .int x :: st) h P = (if x < y then z_T g d 181 29 ls st h P else z_T g d 181 111 ls st h P) := zt_icmpge zi_181_26 (by decide)
theorem zi_181_29 : z_ins 181 29 = some (.aload_n 0, 1) := by decide +kernel
theorem ze_181_29 : z_T g d 181 29 (.ref a :: ls) st h P = z_T g d 181 30 (.ref a :: ls) (.ref a :: st) h P := zt_aloadn zi_181_29 rfl rfl
theorem zi_181_30 : z_ins 181 30 = some (.iload_n 1, 1) := by decide +kernel
theorem ze_181_30 : z_T g d 181 30 (v0 :: .int x :: ls) st h P = z_T g d 181 31 (v0 :: .int x :: ls) (.int x :: st) h P := zt_iloadn zi_181_30 rfl rfl
theorem zi_181_31 : z_ins 181 31 = some (.iload 4, 2) := by decide +kernel
theorem ze_181_31 : z_T g d 181 31 (v0 :: v1 :: v2 :: v3 :: .int x :: ls) st h P = z_T g d 181 33 (v0 :: v1 :: v2 :: v3 :: .int x :: ls) (.int x :: st) h P := zt_iload zi_181_31 rfl
theorem zi_181_33 : z_ins 181 33 = some (.invokevirtual 180, 3) := by decide +kernel
theorem ze_181_33 : z_T g d 181 33 ls (.int x1 :: .int x0 :: .ref a :: st) h P = ((z_okS 8 st = true ∧ z_gO h.1 a 10 ∧ 0 < d) ∧ z_Ca g (d - 1) 145 [.ref a, .int x0, .int x1] h (fun r => z_k r (fun v h' => z_T g d 181 36 ls (z_push v st) h' P) P)) := zt_callV (as := [.int x0, .int x1]) zi_181_33 ((congrArg (fun o => z_lookup z_prs (o, 180)) zo_181).trans zp_LatinRectanglesModel_180) ((congrArg (fun o => z_clk o 180) zo_181).trans zk_LatinRectanglesModel_180) zh_181 zc_145 rfl rfl rfl
theorem zi_181_36 : z_ins 181 36 = some (.iconst (-1), 1) := by decide +kernel
theorem ze_181_36 : z_T g d 181 36 ls st h P = z_T g d 181 37 ls (.int (-1) :: st) h P := zt_iconst zi_181_36 rfl
theorem zi_181_37 : z_ins 181 37 = some (.if_icmp .eq 18, 3) := by decide +kernel
theorem ze_181_37 : z_T g d 181 37 ls (.int y :: .int x :: st) h P = (if x = y then z_T g d 181 55 ls st h P else z_T g d 181 40 ls st h P) := zt_icmpeq zi_181_37 (by decide)
theorem zi_181_40 : z_ins 181 40 = some (.aload_n 0, 1) := by decide +kernel
theorem ze_181_40 : z_T g d 181 40 (.ref a :: ls) st h P = z_T g d 181 41 (.ref a :: ls) (.ref a :: st) h P := zt_aloadn zi_181_40 rfl rfl
theorem zi_181_41 : z_ins 181 41 = some (.iload_n 1, 1) := by decide +kernel
theorem ze_181_41 : z_T g d 181 41 (v0 :: .int x :: ls) st h P = z_T g d 181 42 (v0 :: .int x :: ls) (.int x :: st) h P := zt_iloadn zi_181_41 rfl rfl
theorem zi_181_42 : z_ins 181 42 = some (.iload 5, 2) := by decide +kernel
theorem ze_181_42 : z_T g d 181 42 (v0 :: v1 :: v2 :: v3 :: v4 :: .int x :: ls) st h P = z_T g d 181 44 (v0 :: v1 :: v2 :: v3 :: v4 :: .int x :: ls) (.int x :: st) h P := zt_iload zi_181_42 rfl
theorem zi_181_44 : z_ins 181 44 = some (.invokevirtual 180, 3) := by decide +kernel
theorem ze_181_44 : z_T g d 181 44 ls (.int x1 :: .int x0 :: .ref a :: st) h P = ((z_okS 8 st = true ∧ z_gO h.1 a 10 ∧ 0 < d) ∧ z_Ca g (d - 1) 145 [.ref a, .int x0, .int x1] h (fun r => z_k r (fun v h' => z_T g d 181 47 ls (z_push v st) h' P) P)) := zt_callV (as := [.int x0, .int x1]) zi_181_44 ((congrArg (fun o => z_lookup z_prs (o, 180)) zo_181).trans zp_LatinRectanglesModel_180) ((congrArg (fun o => z_clk o 180) zo_181).trans zk_LatinRectanglesModel_180) zh_181 zc_145 rfl rfl rfl
theorem zi_181_47 : z_ins 181 47 = some (.iconst (-1), 1) := by decide +kernel
theorem ze_181_47 : z_T g d 181 47 ls st h P = z_T g d 181 48 ls (.int (-1) :: st) h P := zt_iconst zi_181_47 rfl
theorem zi_181_48 : z_ins 181 48 = some (.if_icmp .eq 7, 3) := by decide +kernel
theorem ze_181_48 : z_T g d 181 48 ls (.int y :: .int x :: st) h P = (if x = y then z_T g d 181 55 ls st h P else z_T g d 181 51 ls st h P) := zt_icmpeq zi_181_48 (by decide)
theorem zi_181_51 : z_ins 181 51 = some (.iconst 1, 1) := by decide +kernel
theorem ze_181_51 : z_T g d 181 51 ls st h P = z_T g d 181 52 ls (.int (nI 1) :: st) h P := zt_iconst zi_181_51 rfl
theorem zi_181_52 : z_ins 181 52 = some (.goto 4, 3) := by decide +kernel
theorem ze_181_52 : z_T g d 181 52 ls st h P = z_T g d 181 56 ls st h P := zt_goto zi_181_52 (by decide)
theorem zi_181_55 : z_ins 181 55 = some (.iconst 0, 1) := by decide +kernel
theorem ze_181_55 : z_T g d 181 55 ls st h P = z_T g d 181 56 ls (.int (nI 0) :: st) h P := zt_iconst zi_181_55 rfl
theorem zi_181_56 : z_ins 181 56 = some (.istore 6, 2) := by decide +kernel
theorem ze_181_56 : z_T g d 181 56 (v0 :: v1 :: v2 :: v3 :: v4 :: v5 :: v6 :: ls) (.int x :: st) h P = z_T g d 181 58 (v0 :: v1 :: v2 :: v3 :: v4 :: v5 :: .int x :: ls) st h P := zt_istore zi_181_56 (Nat.le_add_left 7 _)
theorem zi_181_58 : z_ins 181 58 = some (.iload_n 3, 1) := by decide +kernel
theorem ze_181_58 : z_T g d 181 58 (v0 :: v1 :: v2 :: .int x :: ls) st h P = z_T g d 181 59 (v0 :: v1 :: v2 :: .int x :: ls) (.int x :: st) h P := zt_iloadn zi_181_58 rfl rfl
theorem zi_181_59 : z_ins 181 59 = some (.iload 6, 2) := by decide +kernel
theorem ze_181_59 : z_T g d 181 59 (v0 :: v1 :: v2 :: v3 :: v4 :: v5 :: .int x :: ls) st h P = z_T g d 181 61 (v0 :: v1 :: v2 :: v3 :: v4 :: v5 :: .int x :: ls) (.int x :: st) h P := zt_iload zi_181_59 rfl
theorem zi_181_61 : z_ins 181 61 = some (.ifCond .eq 41, 3) := by decide +kernel
theorem ze_181_61 : z_T g d 181 61 ls (.int x :: st) h P = (if x = nI 0 then z_T g d 181 102 ls st h P else z_T g d 181 64 ls st h P) := zt_ifeq zi_181_61 (by decide)
theorem zi_181_64 : z_ins 181 64 = some (.aload_n 0, 1) := by decide +kernel
theorem ze_181_64 : z_T g d 181 64 (.ref a :: ls) st h P = z_T g d 181 65 (.ref a :: ls) (.ref a :: st) h P := zt_aloadn zi_181_64 rfl rfl
theorem zi_181_65 : z_ins 181 65 = some (.iload_n 1, 1) := by decide +kernel
theorem ze_181_65 : z_T g d 181 65 (v0 :: .int x :: ls) st h P = z_T g d 181 66 (v0 :: .int x :: ls) (.int x :: st) h P := zt_iloadn zi_181_65 rfl rfl
theorem zi_181_66 : z_ins 181 66 = some (.iload 4, 2) := by decide +kernel
theorem ze_181_66 : z_T g d 181 66 (v0 :: v1 :: v2 :: v3 :: .int x :: ls) st h P = z_T g d 181 68 (v0 :: v1 :: v2 :: v3 :: .int x :: ls) (.int x :: st) h P := zt_iload zi_181_66 rfl
theorem zi_181_68 : z_ins 181 68 = some (.invokevirtual 180, 3) := by decide +kernel
theorem ze_181_68 : z_T g d 181 68 ls (.int x1 :: .int x0 :: .ref a :: st) h P = ((z_okS 8 st = true ∧ z_gO h.1 a 10 ∧ 0 < d) ∧ z_Ca g (d - 1) 145 [.ref a, .int x0, .int x1] h (fun r => z_k r (fun v h' => z_T g d 181 71 ls (z_push v st) h' P) P)) := zt_callV (as := [.int x0, .int x1]) zi_181_68 ((congrArg (fun o => z_lookup z_prs (o, 180)) zo_181).trans zp_LatinRectanglesModel_180) ((congrArg (fun o => z_clk o 180) zo_181).trans zk_LatinRectanglesModel_180) zh_181 zc_145 rfl rfl rfl
theorem zi_181_71 : z_ins 181 71 = some (.aload_n 0, 1) := by decide +kernel
theorem ze_181_71 : z_T g d 181 71 (.ref a :: ls) st h P = z_T g d 181 72 (.ref a :: ls) (.ref a :: st) h P := zt_aloadn zi_181_71 rfl rfl
theorem zi_181_72 : z_ins 181 72 = some (.iload_n 2, 1) := by decide +kernel
theorem ze_181_72 : z_T g d 181 72 (v0 :: v1 :: .int x :: ls) st h P = z_T g d 181 73 (v0 :: v1 :: .int x :: ls) (.int x :: st) h P := zt_iloadn zi_181_72 rfl rfl
theorem zi_181_73 : z_ins 181 73 = some (.iload 5, 2) := by decide +kernel
theorem ze_181_73 : z_T g d 181 73 (v0 :: v1 :: v2 :: v3 :: v4 :: .int x :: ls) st h P = z_T g d 181 75 (v0 :: v1 :: v2 :: v3 :: v4 :: .int x :: ls) (.int x :: st) h P := zt_iload zi_181_73 rfl
theorem zi_181_75 : z_ins 181 75 = some (.invokevirtual 180, 3) := by decide +kernel
theorem ze_181_75 : z_T g d 181 75 ls (.int x1 :: .int x0 :: .ref a :: st) h P = ((z_okS 8 st = true ∧ z_gO h.1 a 10 ∧ 0 < d) ∧ z_Ca g (d - 1) 145 [.ref a, .int x0, .int x1] h (fun r => z_k r (fun v h' => z_T g d 181 78 ls (z_push v st) h' P) P)) := zt_callV (as := [.int x0, .int x1]) zi_181_75 ((congrArg (fun o => z_lookup z_prs (o, 180)) zo_181).trans zp_LatinRectanglesModel_180) ((congrArg (fun o => z_clk o 180) zo_181).trans zk_LatinRectanglesModel_180) zh_181 zc_145 rfl rfl rfl
theorem zi_181_78 : z_ins 181 78 = some (.if_icmp .ne 24, 3) := by decide +kernel
theorem ze_181_78 : z_T g d 181 78 ls (.int y :: .int x :: st) h P = (if x = y then z_T g d 181 81 ls st h P else z_T g d 181 102 ls st h P) := zt_icmpne zi_181_78 (by decide)
theorem zi_181_81 : z_ins 181 81 = some (.aload_n 0, 1) := by decide +kernel
theorem ze_181_81 : z_T g d 181 81 (.ref a :: ls) st h P = z_T g d 181 82 (.ref a :: ls) (.ref a :: st) h P := zt_aloadn zi_181_81 rfl rfl
theorem zi_181_82 : z_ins 181 82 = some (.iload_n 1, 1) := by decide +kernel
theorem ze_181_82 : z_T g d 181 82 (v0 :: .int x :: ls) st h P = z_T g d 181 83 (v0 :: .int x :: ls) (.int x :: st) h P := zt_iloadn zi_181_82 rfl rfl
theorem zi_181_83 : z_ins 181 83 = some (.iload 5, 2) := by decide +kernel
theorem ze_181_83 : z_T g d 181 83 (v0 :: v1 :: v2 :: v3 :: v4 :: .int x :: ls) st h P = z_T g d 181 85 (v0 :: v1 :: v2 :: v3 :: v4 :: .int x :: ls) (.int x :: st) h P := zt_iload zi_181_83 rfl
theorem zi_181_85 : z_ins 181 85 = some (.invokevirtual 180, 3) := by decide +kernel
theorem ze_181_85 : z_T g d 181 85 ls (.int x1 :: .int x0 :: .ref a :: st) h P = ((z_okS 8 st = true ∧ z_gO h.1 a 10 ∧ 0 < d) ∧ z_Ca g (d - 1) 145 [.ref a, .int x0, .int x1] h (fun r => z_k r (fun v h' => z_T g d 181 88 ls (z_push v st) h' P) P)) := zt_callV (as := [.int x0, .int x1]) zi_181_85 ((congrArg (fun o => z_lookup z_prs (o, 180)) zo_181).trans zp_LatinRectanglesModel_180) ((congrArg (fun o => z_clk o 180) zo_181).trans zk_LatinRectanglesModel_180) zh_181 zc_145 rfl rfl rfl
theorem zi_181_88 : z_ins 181 88 = some (.aload_n 0, 1) := by decide +kernel
theorem ze_181_88 : z_T g d 181 88 (.ref a :: ls) st h P = z_T g d 181 89 (.ref a :: ls) (.ref a :: st) h P := zt_aloadn zi_181_88 rfl rfl
theorem zi_181_89 : z_ins 181 89 = some (.iload_n 2, 1) := by decide +kernel
theorem ze_181_89 : z_T g d 181 89 (v0 :: v1 :: .int x :: ls) st h P = z_T g d 181 90 (v0 :: v1 :: .int x :: ls) (.int x :: st) h P := zt_iloadn zi_181_89 rfl rfl
theorem zi_181_90 : z_ins 181 90 = some (.iload 4, 2) := by decide +kernel
theorem ze_181_90 : z_T g d 181 90 (v0 :: v1 :: v2 :: v3 :: .int x :: ls) st h P = z_T g d 181 92 (v0 :: v1 :: v2 :: v3 :: .int x :: ls) (.int x :: st) h P := zt_iload zi_181_90 rfl
theorem zi_181_92 : z_ins 181 92 = some (.invokevirtual 180, 3) := by decide +kernel
theorem ze_181_92 : z_T g d 181 92 ls (.int x1 :: .int x0 :: .ref a :: st) h P = ((z_okS 8 st = true ∧ z_gO h.1 a 10 ∧ 0 < d) ∧ z_Ca g (d - 1) 145 [.ref a, .int x0, .int x1] h (fun r => z_k r (fun v h' => z_T g d 181 95 ls (z_push v st) h' P) P)) := zt_callV (as := [.int x0, .int x1]) zi_181_92 ((congrArg (fun o => z_lookup z_prs (o, 180)) zo_181).trans zp_LatinRectanglesModel_180) ((congrArg (fun o => z_clk o 180) zo_181).trans zk_LatinRectanglesModel_180) zh_181 zc_145 rfl rfl rfl
theorem zi_181_95 : z_ins 181 95 = some (.if_icmp .ne 7, 3) := by decide +kernel
theorem ze_181_95 : z_T g d 181 95 ls (.int y :: .int x :: st) h P = (if x = y then z_T g d 181 98 ls st h P else z_T g d 181 102 ls st h P) := zt_icmpne zi_181_95 (by decide)
theorem zi_181_98 : z_ins 181 98 = some (.iconst 1, 1) := by decide +kernel
theorem ze_181_98 : z_T g d 181 98 ls st h P = z_T g d 181 99 ls (.int (nI 1) :: st) h P := zt_iconst zi_181_98 rfl
theorem zi_181_99 : z_ins 181 99 = some (.goto 4, 3) := by decide +kernel
theorem ze_181_99 : z_T g d 181 99 ls st h P = z_T g d 181 103 ls st h P := zt_goto zi_181_99 (by decide)
theorem zi_181_102 : z_ins 181 102 = some (.iconst 0, 1) := by decide +kernel
theorem ze_181_102 : z_T g d 181 102 ls st h P = z_T g d 181 103 ls (.int (nI 0) :: st) h P := zt_iconst zi_181_102 rfl
theorem zi_181_103 : z_ins 181 103 = some (.iadd, 1) := by decide +kernel
theorem ze_181_103 : z_T g d 181 103 ls (.int y :: .int x :: st) h P = z_T g d 181 104 ls (.int (x + y) :: st) h P := zt_bin (f := fun x y => x + y) zi_181_103 rfl (fun _ _ _ => rfl)
theorem zi_181_104 : z_ins 181 104 = some (.istore_n 3, 1) := by decide +kernel
theorem ze_181_104 : z_T g d 181 104 (v0 :: v1 :: v2 :: v3 :: ls) (.int x :: st) h P = z_T g d 181 105 (v0 :: v1 :: v2 :: .int x :: ls) st h P := zt_istoren zi_181_104 rfl (Nat.le_add_left 4 _)
theorem zi_181_105 : z_ins 181 105 = some (.iinc 5 1, 3) := by decide +kernel
theorem ze_181_105 : z_T g d 181 105 (v0 :: v1 :: v2 :: v3 :: v4 :: .int x :: ls) st h P = z_T g d 181 108 (v0 :: v1 :: v2 :: v3 :: v4 :: .int (x + (nI 1)) :: ls) st h P := zt_iinc zi_181_105 rfl rfl
theorem zi_181_108 : z_ins 181 108 = some (.goto (-88), 3) := by decide +kernel
theorem ze_181_108 : z_T g d 181 108 ls st h P = z_T g d 181 20 ls st h P := zt_goto zi_181_108 (by decide)
theorem zi_181_111 : z_ins 181 111 = some (.iinc 4 1, 3) := by decide +kernel
theorem ze_181_111 : z_T g d 181 111 (v0 :: v1 :: v2 :: v3 :: .int x :: ls) st h P = z_T g d 181 114 (v0 :: v1 :: v2 :: v3 :: .int (x + (nI 1)) :: ls) st h P := zt_iinc zi_181_111 rfl rfl
theorem zi_181_114 : z_ins 181 114 = some (.goto (-109), 3) := by decide +kernel
theorem ze_181_114 : z_T g d 181 114 ls st h P = z_T g d 181 5 ls st h P := zt_goto zi_181_114 (by decide)
theorem zi_181_117 : z_ins 181 117 = some (.iload_n 3, 1) := by decide +kernel
theorem ze_181_117 : z_T g d 181 117 (v0 :: v1 :: v2 :: .int x :: ls) st h P = z_T g d 181 118 (v0 :: v1 :: v2 :: .int x :: ls) (.int x :: st) h P := zt_iloadn zi_181_117 rfl rfl
theorem zi_181_118 : z_ins 181 118 = some (.ireturn, 1) := by decide +kernel
theorem ze_181_118 : z_T g d 181 118 ls [.int x] h P = P (.inr (some (.int x)), h) := zt_ireturn zi_181_118 zr_181
-- LatinRectanglesModel.intercalates()I
theorem zo_182 : z_own 182 = "LatinRectanglesModel" := by decide +kernel
theorem zm_182 : z_maxL 182 = 4 := by decide +kernel
theorem zh_182 : z_hds 182 = [] := by decide +kernel
theorem zr_182 : z_rt 182 = (some .int) := by decide +kernel
theorem zn_182 : z_Ca g d 182 [.ref a0] h P = z_T g d 182 0 [.ref a0, z_un, z_un, z_un] [] h P := z_Ca_ent zm_182 rfl rfl
theorem zi_182_0 : z_ins 182 0 = some (.aload_n 0, 1) := by decide +kernel
theorem ze_182_0 : z_T g d 182 0 (.ref a :: ls) st h P = z_T g d 182 1 (.ref a :: ls) (.ref a :: st) h P := zt_aloadn zi_182_0 rfl rfl
theorem zi_182_1 : z_ins 182 1 = some (.iconst 0, 1) := by decide +kernel
theorem ze_182_1 : z_T g d 182 1 ls st h P = z_T g d 182 2 ls (.int (nI 0) :: st) h P := zt_iconst zi_182_1 rfl
theorem zi_182_2 : z_ins 182 2 = some (.putfield 67, 3) := by decide +kernel
theorem ze_182_2 : z_T g d 182 2 ls (.int x :: .ref a :: st) h P = z_pF h.1 a 10 0 (.int x) (fun f => z_T g d 182 5 ls st (f, h.2) P) := zt_putI zi_182_2 ((congrArg (fun o => z_fl o 67) zo_182).trans zf_LatinRectanglesModel_67)
theorem zi_182_5 : z_ins 182 5 = some (.iconst 0, 1) := by decide +kernel
theorem ze_182_5 : z_T g d 182 5 ls st h P = z_T g d 182 6 ls (.int (nI 0) :: st) h P := zt_iconst zi_182_5 rfl
theorem zi_182_6 : z_ins 182 6 = some (.istore_n 1, 1) := by decide +kernel
theorem ze_182_6 : z_T g d 182 6 (v0 :: v1 :: ls) (.int x :: st) h P = z_T g d 182 7 (v0 :: .int x :: ls) st h P := zt_istoren zi_182_6 rfl (Nat.le_add_left 2 _)
theorem zi_182_7 : z_ins 182 7 = some (.iconst 0, 1) := by decide +kernel
theorem ze_182_7 : z_T g d 182 7 ls st h P = z_T g d 182 8 ls (.int (nI 0) :: st) h P := zt_iconst zi_182_7 rfl
theorem zi_182_8 : z_ins 182 8 = some (.istore_n 2, 1) := by decide +kernel
theorem ze_182_8 : z_T g d 182 8 (v0 :: v1 :: v2 :: ls) (.int x :: st) h P = z_T g d 182 9 (v0 :: v1 :: .int x :: ls) st h P := zt_istoren zi_182_8 rfl (Nat.le_add_left 3 _)
theorem zi_182_9 : z_ins 182 9 = some (.iload_n 2, 1) := by decide +kernel
theorem ze_182_9 : z_T g d 182 9 (v0 :: v1 :: .int x :: ls) st h P = z_T g d 182 10 (v0 :: v1 :: .int x :: ls) (.int x :: st) h P := zt_iloadn zi_182_9 rfl rfl
theorem zi_182_10 : z_ins 182 10 = some (.aload_n 0, 1) := by decide +kernel
theorem ze_182_10 : z_T g d 182 10 (.ref a :: ls) st h P = z_T g d 182 11 (.ref a :: ls) (.ref a :: st) h P := zt_aloadn zi_182_10 rfl rfl
theorem zi_182_11 : z_ins 182 11 = some (.getfield 73, 3) := by decide +kernel
theorem ze_182_11 : z_T g d 182 11 ls (.ref a :: st) h P = z_gI h.1 a 10 1 (fun x => z_T g d 182 14 ls (.int x :: st) h P) := zt_getI zi_182_11 ((congrArg (fun o => z_fl o 73) zo_182).trans zf_LatinRectanglesModel_73)
theorem zi_182_14 : z_ins 182 14 = some (.if_icmp .ge 36, 3) := by decide +kernel
theorem ze_182_14 : z_T g d 182 14 ls (.int y :: .int x :: st) h P = (if x < y then z_T g d 182 17 ls st h P else z_T g d 182 50 ls st h P) := zt_icmpge zi_182_14 (by decide)
theorem zi_182_17 : z_ins 182 17 = some (.iload_n 2, 1) := by decide +kernel
theorem ze_182_17 : z_T g d 182 17 (v0 :: v1 :: .int x :: ls) st h P = z_T g d 182 18 (v0 :: v1 :: .int x :: ls) (.int x :: st) h P := zt_iloadn zi_182_17 rfl rfl
theorem zi_182_18 : z_ins 182 18 = some (.iconst 1, 1) := by decide +kernel
theorem ze_182_18 : z_T g d 182 18 ls st h P = z_T g d 182 19 ls (.int (nI 1) :: st) h P := zt_iconst zi_182_18 rfl
theorem zi_182_19 : z_ins 182 19 = some (.iadd, 1) := by decide +kernel
theorem ze_182_19 : z_T g d 182 19 ls (.int y :: .int x :: st) h P = z_T g d 182 20 ls (.int (x + y) :: st) h P := zt_bin (f := fun x y => x + y) zi_182_19 rfl (fun _ _ _ => rfl)
theorem zi_182_20 : z_ins 182 20 = some (.istore_n 3, 1) := by decide +kernel
theorem ze_182_20 : z_T g d 182 20 (v0 :: v1 :: v2 :: v3 :: ls) (.int x :: st) h P = z_T g d 182 21 (v0 :: v1 :: v2 :: .int x :: ls) st h P := zt_istoren zi_182_20 rfl (Nat.le_add_left 4 _)
theorem zi_182_21 : z_ins 182 21 = some (.iload_n 3, 1) := by decide +kernel
theorem ze_182_21 : z_T g d 182 21 (v0 :: v1 :: v2 :: .int x :: ls) st h P = z_T g d 182 22 (v0 :: v1 :: v2 :: .int x :: ls) (.int x :: st) h P := zt_iloadn zi_182_21 rfl rfl
theorem zi_182_22 : z_ins 182 22 = some (.aload_n 0, 1) := by decide +kernel
theorem ze_182_22 : z_T g d 182 22 (.ref a :: ls) st h P = z_T g d 182 23 (.ref a :: ls) (.ref a :: st) h P := zt_aloadn zi_182_22 rfl rfl
theorem zi_182_23 : z_ins 182 23 = some (.getfield 73, 3) := by decide +kernel
theorem ze_182_23 : z_T g d 182 23 ls (.ref a :: st) h P = z_gI h.1 a 10 1 (fun x => z_T g d 182 26 ls (.int x :: st) h P) := zt_getI zi_182_23 ((congrArg (fun o => z_fl o 73) zo_182).trans zf_LatinRectanglesModel_73)
theorem zi_182_26 : z_ins 182 26 = some (.if_icmp .ge 18, 3) := by decide +kernel
theorem ze_182_26 : z_T g d 182 26 ls (.int y :: .int x :: st) h P = (if x < y then z_T g d 182 29 ls st h P else z_T g d 182 44 ls st h P) := zt_icmpge zi_182_26 (by decide)
theorem zi_182_29 : z_ins 182 29 = some (.iload_n 1, 1) := by decide +kernel
theorem ze_182_29 : z_T g d 182 29 (v0 :: .int x :: ls) st h P = z_T g d 182 30 (v0 :: .int x :: ls) (.int x :: st) h P := zt_iloadn zi_182_29 rfl rfl
theorem zi_182_30 : z_ins 182 30 = some (.aload_n 0, 1) := by decide +kernel
theorem ze_182_30 : z_T g d 182 30 (.ref a :: ls) st h P = z_T g d 182 31 (.ref a :: ls) (.ref a :: st) h P := zt_aloadn zi_182_30 rfl rfl
theorem zi_182_31 : z_ins 182 31 = some (.iload_n 2, 1) := by decide +kernel
theorem ze_182_31 : z_T g d 182 31 (v0 :: v1 :: .int x :: ls) st h P = z_T g d 182 32 (v0 :: v1 :: .int x :: ls) (.int x :: st) h P := zt_iloadn zi_182_31 rfl rfl
theorem zi_182_32 : z_ins 182 32 = some (.iload_n 3, 1) := by decide +kernel
theorem ze_182_32 : z_T g d 182 32 (v0 :: v1 :: v2 :: .int x :: ls) st h P = z_T g d 182 33 (v0 :: v1 :: v2 :: .int x :: ls) (.int x :: st) h P := zt_iloadn zi_182_32 rfl rfl
theorem zi_182_33 : z_ins 182 33 = some (.invokevirtual 240, 3) := by decide +kernel
theorem ze_182_33 : z_T g d 182 33 ls (.int x1 :: .int x0 :: .ref a :: st) h P = ((z_okS 8 st = true ∧ z_gO h.1 a 10 ∧ 0 < d) ∧ z_Ca g (d - 1) 181 [.ref a, .int x0, .int x1] h (fun r => z_k r (fun v h' => z_T g d 182 36 ls (z_push v st) h' P) P)) := zt_callV (as := [.int x0, .int x1]) zi_182_33 ((congrArg (fun o => z_lookup z_prs (o, 240)) zo_182).trans zp_LatinRectanglesModel_240) ((congrArg (fun o => z_clk o 240) zo_182).trans zk_LatinRectanglesModel_240) zh_182 zc_181 rfl rfl rfl
theorem zi_182_36 : z_ins 182 36 = some (.iadd, 1) := by decide +kernel
theorem ze_182_36 : z_T g d 182 36 ls (.int y :: .int x :: st) h P = z_T g d 182 37 ls (.int (x + y) :: st) h P := zt_bin (f := fun x y => x + y) zi_182_36 rfl (fun _ _ _ => rfl)
theorem zi_182_37 : z_ins 182 37 = some (.istore_n 1, 1) := by decide +kernel
theorem ze_182_37 : z_T g d 182 37 (v0 :: v1 :: ls) (.int x :: st) h P = z_T g d 182 38 (v0 :: .int x :: ls) st h P := zt_istoren zi_182_37 rfl (Nat.le_add_left 2 _)
theorem zi_182_38 : z_ins 182 38 = some (.iinc 3 1, 3) := by decide +kernel
theorem ze_182_38 : z_T g d 182 38 (v0 :: v1 :: v2 :: .int x :: ls) st h P = z_T g d 182 41 (v0 :: v1 :: v2 :: .int (x + (nI 1)) :: ls) st h P := zt_iinc zi_182_38 rfl rfl
theorem zi_182_41 : z_ins 182 41 = some (.goto (-20), 3) := by decide +kernel
theorem ze_182_41 : z_T g d 182 41 ls st h P = z_T g d 182 21 ls st h P := zt_goto zi_182_41 (by decide)
theorem zi_182_44 : z_ins 182 44 = some (.iinc 2 1, 3) := by decide +kernel
theorem ze_182_44 : z_T g d 182 44 (v0 :: v1 :: .int x :: ls) st h P = z_T g d 182 47 (v0 :: v1 :: .int (x + (nI 1)) :: ls) st h P := zt_iinc zi_182_44 rfl rfl
theorem zi_182_47 : z_ins 182 47 = some (.goto (-38), 3) := by decide +kernel
theorem ze_182_47 : z_T g d 182 47 ls st h P = z_T g d 182 9 ls st h P := zt_goto zi_182_47 (by decide)
theorem zi_182_50 : z_ins 182 50 = some (.iload_n 1, 1) := by decide +kernel
theorem ze_182_50 : z_T g d 182 50 (v0 :: .int x :: ls) st h P = z_T g d 182 51 (v0 :: .int x :: ls) (.int x :: st) h P := zt_iloadn zi_182_50 rfl rfl
theorem zi_182_51 : z_ins 182 51 = some (.ireturn, 1) := by decide +kernel
theorem ze_182_51 : z_T g d 182 51 ls [.int x] h P = P (.inr (some (.int x)), h) := zt_ireturn zi_182_51 zr_182
-- LatinRectanglesModel.noSlot(I)Z
theorem zo_183 : z_own 183 = "LatinRectanglesModel" := by decide +kernel
theorem zm_183 : z_maxL 183 = 2 := by decide +kernel
theorem zh_183 : z_hds 183 = [] := by decide +kernel
theorem zr_183 : z_rt 183 = (some .boolean) := by decide +kernel
theorem zn_183 : z_Ca g d 183 [.ref a0, .int x1] h P = z_T g d 183 0 [.ref a0, .int x1] [] h P := z_Ca_ent zm_183 rfl rfl
theorem zi_183_0 : z_ins 183 0 = some (.aload_n 0, 1) := by decide +kernel
theorem ze_183_0 : z_T g d 183 0 (.ref a :: ls) st h P = z_T g d 183 1 (.ref a :: ls) (.ref a :: st) h P := zt_aloadn zi_183_0 rfl rfl
theorem zi_183_1 : z_ins 183 1 = some (.iconst 0, 1) := by decide +kernel
theorem ze_183_1 : z_T g d 183 1 ls st h P = z_T g d 183 2 ls (.int (nI 0) :: st) h P := zt_iconst zi_183_1 rfl
theorem zi_183_2 : z_ins 183 2 = some (.putfield 67, 3) := by decide +kernel
theorem ze_183_2 : z_T g d 183 2 ls (.int x :: .ref a :: st) h P = z_pF h.1 a 10 0 (.int x) (fun f => z_T g d 183 5 ls st (f, h.2) P) := zt_putI zi_183_2 ((congrArg (fun o => z_fl o 67) zo_183).trans zf_LatinRectanglesModel_67)
theorem zi_183_5 : z_ins 183 5 = some (.aload_n 0, 1) := by decide +kernel
theorem ze_183_5 : z_T g d 183 5 (.ref a :: ls) st h P = z_T g d 183 6 (.ref a :: ls) (.ref a :: st) h P := zt_aloadn zi_183_5 rfl rfl
theorem zi_183_6 : z_ins 183 6 = some (.iload_n 1, 1) := by decide +kernel
theorem ze_183_6 : z_T g d 183 6 (v0 :: .int x :: ls) st h P = z_T g d 183 7 (v0 :: .int x :: ls) (.int x :: st) h P := zt_iloadn zi_183_6 rfl rfl
theorem zi_183_7 : z_ins 183 7 = some (.iconst 0, 1) := by decide +kernel
theorem ze_183_7 : z_T g d 183 7 ls st h P = z_T g d 183 8 ls (.int (nI 0) :: st) h P := zt_iconst zi_183_7 rfl
theorem zi_183_8 : z_ins 183 8 = some (.iconst 1, 1) := by decide +kernel
theorem ze_183_8 : z_T g d 183 8 ls st h P = z_T g d 183 9 ls (.int (nI 1) :: st) h P := zt_iconst zi_183_8 rfl
theorem zi_183_9 : z_ins 183 9 = some (.invokestatic 111, 3) := by decide +kernel
theorem ze_183_9 : z_T g d 183 9 ls (.int x2 :: .int x1 :: .int x0 :: st) h P = ((z_okS 8 st = true ∧ 0 < d) ∧ z_Ca g (d - 1) 122 [.int x0, .int x1, .int x2] h (fun r => z_k r (fun v h' => z_T g d 183 12 ls (z_push v st) h' P) P)) := zt_callS0 (as := [.int x0, .int x1, .int x2]) zi_183_9 ((congrArg (fun o => z_lookup z_prs (o, 111)) zo_183).trans zp_LatinRectanglesModel_111) ((congrArg (fun o => z_clk o 111) zo_183).trans zk_LatinRectanglesModel_111) zh_183 rfl rfl rfl
theorem zi_183_12 : z_ins 183 12 = some (.ifCond .ne 7, 3) := by decide +kernel
theorem ze_183_12 : z_T g d 183 12 ls (.int x :: st) h P = (if x = nI 0 then z_T g d 183 15 ls st h P else z_T g d 183 19 ls st h P) := zt_ifne zi_183_12 (by decide)
theorem zi_183_15 : z_ins 183 15 = some (.iconst 1, 1) := by decide +kernel
theorem ze_183_15 : z_T g d 183 15 ls st h P = z_T g d 183 16 ls (.int (nI 1) :: st) h P := zt_iconst zi_183_15 rfl
theorem zi_183_16 : z_ins 183 16 = some (.goto 4, 3) := by decide +kernel
theorem ze_183_16 : z_T g d 183 16 ls st h P = z_T g d 183 20 ls st h P := zt_goto zi_183_16 (by decide)
theorem zi_183_19 : z_ins 183 19 = some (.iconst 0, 1) := by decide +kernel
theorem ze_183_19 : z_T g d 183 19 ls st h P = z_T g d 183 20 ls (.int (nI 0) :: st) h P := zt_iconst zi_183_19 rfl
theorem zi_183_20 : z_ins 183 20 = some (.iconst 1, 1) := by decide +kernel
theorem ze_183_20 : z_T g d 183 20 ls st h P = z_T g d 183 21 ls (.int (nI 1) :: st) h P := zt_iconst zi_183_20 rfl
theorem zi_183_21 : z_ins 183 21 = some (.invokevirtual 167, 3) := by decide +kernel
theorem ze_183_21 : z_T g d 183 21 ls (.int x1 :: .int x0 :: .ref a :: st) h P = ((z_okS 8 st = true ∧ z_gO h.1 a 10 ∧ 0 < d) ∧ z_Ca g (d - 1) 123 [.ref a, .int x0, .int x1] h (fun r => z_k r (fun v h' => z_T g d 183 24 ls (z_push v st) h' P) P)) := zt_callV (as := [.int x0, .int x1]) zi_183_21 ((congrArg (fun o => z_lookup z_prs (o, 167)) zo_183).trans zp_LatinRectanglesModel_167) ((congrArg (fun o => z_clk o 167) zo_183).trans zk_LatinRectanglesModel_167) zh_183 zc_123 rfl rfl rfl
theorem zi_183_24 : z_ins 183 24 = some (.ireturn, 1) := by decide +kernel
theorem ze_183_24 : z_T g d 183 24 ls [.int x] h P = ((x = nI 0 ∨ x = nI 1) ∧ P (.inr (some (.int x)), h)) := zt_zreturn zi_183_24 zr_183
-- LatinRectanglesModel.noSnapshot(I)Z
theorem zo_184 : z_own 184 = "LatinRectanglesModel" := by decide +kernel
theorem zm_184 : z_maxL 184 = 2 := by decide +kernel
theorem zh_184 : z_hds 184 = [] := by decide +kernel
theorem zr_184 : z_rt 184 = (some .boolean) := by decide +kernel
theorem zn_184 : z_Ca g d 184 [.ref a0, .int x1] h P = z_T g d 184 0 [.ref a0, .int x1] [] h P := z_Ca_ent zm_184 rfl rfl
theorem zi_184_0 : z_ins 184 0 = some (.aload_n 0, 1) := by decide +kernel
theorem ze_184_0 : z_T g d 184 0 (.ref a :: ls) st h P = z_T g d 184 1 (.ref a :: ls) (.ref a :: st) h P := zt_aloadn zi_184_0 rfl rfl
theorem zi_184_1 : z_ins 184 1 = some (.iload_n 1, 1) := by decide +kernel
theorem ze_184_1 : z_T g d 184 1 (v0 :: .int x :: ls) st h P = z_T g d 184 2 (v0 :: .int x :: ls) (.int x :: st) h P := zt_iloadn zi_184_1 rfl rfl
theorem zi_184_2 : z_ins 184 2 = some (.invokevirtual 243, 3) := by decide +kernel
theorem ze_184_2 : z_T g d 184 2 ls (.int x0 :: .ref a :: st) h P = ((z_okS 8 st = true ∧ z_gO h.1 a 10 ∧ 0 < d) ∧ z_Ca g (d - 1) 183 [.ref a, .int x0] h (fun r => z_k r (fun v h' => z_T g d 184 5 ls (z_push v st) h' P) P)) := zt_callV (as := [.int x0]) zi_184_2 ((congrArg (fun o => z_lookup z_prs (o, 243)) zo_184).trans zp_LatinRectanglesModel_243) ((congrArg (fun o => z_clk o 243) zo_184).trans zk_LatinRectanglesModel_243) zh_184 zc_183 rfl rfl rfl
theorem zi_184_5 : z_ins 184 5 = some (.ifCond .ne 25, 3) := by decide +kernel
theorem ze_184_5 : z_T g d 184 5 ls (.int x :: st) h P = (if x = nI 0 then z_T g d 184 8 ls st h P else z_T g d 184 30 ls st h P) := zt_ifne zi_184_5 (by decide)
theorem zi_184_8 : z_ins 184 8 = some (.aload_n 0, 1) := by decide +kernel
theorem ze_184_8 : z_T g d 184 8 (.ref a :: ls) st h P = z_T g d 184 9 (.ref a :: ls) (.ref a :: st) h P := zt_aloadn zi_184_8 rfl rfl
theorem zi_184_9 : z_ins 184 9 = some (.aload_n 0, 1) := by decide +kernel
theorem ze_184_9 : z_T g d 184 9 (.ref a :: ls) st h P = z_T g d 184 10 (.ref a :: ls) (.ref a :: st) h P := zt_aloadn zi_184_9 rfl rfl
theorem zi_184_10 : z_ins 184 10 = some (.getfield 48, 3) := by decide +kernel
theorem ze_184_10 : z_T g d 184 10 ls (.ref a :: st) h P = z_gR h.1 a 10 28 (fun x => z_T g d 184 13 ls (.ref x :: st) h P) := zt_getR zi_184_10 ((congrArg (fun o => z_fl o 48) zo_184).trans zf_LatinRectanglesModel_48)
theorem zi_184_13 : z_ins 184 13 = some (.iload_n 1, 1) := by decide +kernel
theorem ze_184_13 : z_T g d 184 13 (v0 :: .int x :: ls) st h P = z_T g d 184 14 (v0 :: .int x :: ls) (.int x :: st) h P := zt_iloadn zi_184_13 rfl rfl
theorem zi_184_14 : z_ins 184 14 = some (.baload, 1) := by decide +kernel
theorem ze_184_14 : z_T g d 184 14 ls (.int x :: .ref a :: st) h P = z_aL h.1 a z_tB x (fun v => z_T g d 184 15 ls (.int v :: st) h P) := zt_baload zi_184_14
theorem zi_184_15 : z_ins 184 15 = some (.ifCond .ne 7, 3) := by decide +kernel
theorem ze_184_15 : z_T g d 184 15 ls (.int x :: st) h P = (if x = nI 0 then z_T g d 184 18 ls st h P else z_T g d 184 22 ls st h P) := zt_ifne zi_184_15 (by decide)
theorem zi_184_18 : z_ins 184 18 = some (.iconst 1, 1) := by decide +kernel
theorem ze_184_18 : z_T g d 184 18 ls st h P = z_T g d 184 19 ls (.int (nI 1) :: st) h P := zt_iconst zi_184_18 rfl
theorem zi_184_19 : z_ins 184 19 = some (.goto 4, 3) := by decide +kernel
theorem ze_184_19 : z_T g d 184 19 ls st h P = z_T g d 184 23 ls st h P := zt_goto zi_184_19 (by decide)
theorem zi_184_22 : z_ins 184 22 = some (.iconst 0, 1) := by decide +kernel
theorem ze_184_22 : z_T g d 184 22 ls st h P = z_T g d 184 23 ls (.int (nI 0) :: st) h P := zt_iconst zi_184_22 rfl
theorem zi_184_23 : z_ins 184 23 = some (.iconst 2, 1) := by decide +kernel
theorem ze_184_23 : z_T g d 184 23 ls st h P = z_T g d 184 24 ls (.int (nI 2) :: st) h P := zt_iconst zi_184_23 rfl
theorem zi_184_24 : z_ins 184 24 = some (.invokevirtual 167, 3) := by decide +kernel
theorem ze_184_24 : z_T g d 184 24 ls (.int x1 :: .int x0 :: .ref a :: st) h P = ((z_okS 8 st = true ∧ z_gO h.1 a 10 ∧ 0 < d) ∧ z_Ca g (d - 1) 123 [.ref a, .int x0, .int x1] h (fun r => z_k r (fun v h' => z_T g d 184 27 ls (z_push v st) h' P) P)) := zt_callV (as := [.int x0, .int x1]) zi_184_24 ((congrArg (fun o => z_lookup z_prs (o, 167)) zo_184).trans zp_LatinRectanglesModel_167) ((congrArg (fun o => z_clk o 167) zo_184).trans zk_LatinRectanglesModel_167) zh_184 zc_123 rfl rfl rfl
theorem zi_184_27 : z_ins 184 27 = some (.ifCond .eq 7, 3) := by decide +kernel
theorem ze_184_27 : z_T g d 184 27 ls (.int x :: st) h P = (if x = nI 0 then z_T g d 184 34 ls st h P else z_T g d 184 30 ls st h P) := zt_ifeq zi_184_27 (by decide)
theorem zi_184_30 : z_ins 184 30 = some (.iconst 1, 1) := by decide +kernel
theorem ze_184_30 : z_T g d 184 30 ls st h P = z_T g d 184 31 ls (.int (nI 1) :: st) h P := zt_iconst zi_184_30 rfl
theorem zi_184_31 : z_ins 184 31 = some (.goto 4, 3) := by decide +kernel
theorem ze_184_31 : z_T g d 184 31 ls st h P = z_T g d 184 35 ls st h P := zt_goto zi_184_31 (by decide)
theorem zi_184_34 : z_ins 184 34 = some (.iconst 0, 1) := by decide +kernel
theorem ze_184_34 : z_T g d 184 34 ls st h P = z_T g d 184 35 ls (.int (nI 0) :: st) h P := zt_iconst zi_184_34 rfl
theorem zi_184_35 : z_ins 184 35 = some (.ireturn, 1) := by decide +kernel
theorem ze_184_35 : z_T g d 184 35 ls [.int x] h P = ((x = nI 0 ∨ x = nI 1) ∧ P (.inr (some (.int x)), h)) := zt_zreturn zi_184_35 zr_184
-- LatinRectanglesModel.differing(I)I
theorem zo_185 : z_own 185 = "LatinRectanglesModel" := by decide +kernel
theorem zm_185 : z_maxL 185 = 4 := by decide +kernel
theorem zh_185 : z_hds 185 = [] := by decide +kernel
theorem zr_185 : z_rt 185 = (some .int) := by decide +kernel
theorem zn_185 : z_Ca g d 185 [.ref a0, .int x1] h P = z_T g d 185 0 [.ref a0, .int x1, z_un, z_un] [] h P := z_Ca_ent zm_185 rfl rfl
theorem zi_185_0 : z_ins 185 0 = some (.iconst 0, 1) := by decide +kernel
theorem ze_185_0 : z_T g d 185 0 ls st h P = z_T g d 185 1 ls (.int (nI 0) :: st) h P := zt_iconst zi_185_0 rfl
theorem zi_185_1 : z_ins 185 1 = some (.istore_n 2, 1) := by decide +kernel
theorem ze_185_1 : z_T g d 185 1 (v0 :: v1 :: v2 :: ls) (.int x :: st) h P = z_T g d 185 2 (v0 :: v1 :: .int x :: ls) st h P := zt_istoren zi_185_1 rfl (Nat.le_add_left 3 _)
theorem zi_185_2 : z_ins 185 2 = some (.iconst 0, 1) := by decide +kernel
theorem ze_185_2 : z_T g d 185 2 ls st h P = z_T g d 185 3 ls (.int (nI 0) :: st) h P := zt_iconst zi_185_2 rfl
theorem zi_185_3 : z_ins 185 3 = some (.istore_n 3, 1) := by decide +kernel
theorem ze_185_3 : z_T g d 185 3 (v0 :: v1 :: v2 :: v3 :: ls) (.int x :: st) h P = z_T g d 185 4 (v0 :: v1 :: v2 :: .int x :: ls) st h P := zt_istoren zi_185_3 rfl (Nat.le_add_left 4 _)
theorem zi_185_4 : z_ins 185 4 = some (.iload_n 3, 1) := by decide +kernel
theorem ze_185_4 : z_T g d 185 4 (v0 :: v1 :: v2 :: .int x :: ls) st h P = z_T g d 185 5 (v0 :: v1 :: v2 :: .int x :: ls) (.int x :: st) h P := zt_iloadn zi_185_4 rfl rfl
theorem zi_185_5 : z_ins 185 5 = some (.bipush 25, 2) := by decide +kernel
theorem ze_185_5 : z_T g d 185 5 ls st h P = z_T g d 185 7 ls (.int (nI 25) :: st) h P := zt_bipush zi_185_5 rfl
theorem zi_185_7 : z_ins 185 7 = some (.if_icmp .ge 37, 3) := by decide +kernel
theorem ze_185_7 : z_T g d 185 7 ls (.int y :: .int x :: st) h P = (if x < y then z_T g d 185 10 ls st h P else z_T g d 185 44 ls st h P) := zt_icmpge zi_185_7 (by decide)
theorem zi_185_10 : z_ins 185 10 = some (.iload_n 2, 1) := by decide +kernel
theorem ze_185_10 : z_T g d 185 10 (v0 :: v1 :: .int x :: ls) st h P = z_T g d 185 11 (v0 :: v1 :: .int x :: ls) (.int x :: st) h P := zt_iloadn zi_185_10 rfl rfl
theorem zi_185_11 : z_ins 185 11 = some (.aload_n 0, 1) := by decide +kernel
theorem ze_185_11 : z_T g d 185 11 (.ref a :: ls) st h P = z_T g d 185 12 (.ref a :: ls) (.ref a :: st) h P := zt_aloadn zi_185_11 rfl rfl
theorem zi_185_12 : z_ins 185 12 = some (.getfield 22, 3) := by decide +kernel
theorem ze_185_12 : z_T g d 185 12 ls (.ref a :: st) h P = z_gR h.1 a 10 11 (fun x => z_T g d 185 15 ls (.ref x :: st) h P) := zt_getR zi_185_12 ((congrArg (fun o => z_fl o 22) zo_185).trans zf_LatinRectanglesModel_22)
theorem zi_185_15 : z_ins 185 15 = some (.iload_n 3, 1) := by decide +kernel
theorem ze_185_15 : z_T g d 185 15 (v0 :: v1 :: v2 :: .int x :: ls) st h P = z_T g d 185 16 (v0 :: v1 :: v2 :: .int x :: ls) (.int x :: st) h P := zt_iloadn zi_185_15 rfl rfl
theorem zi_185_16 : z_ins 185 16 = some (.iaload, 1) := by decide +kernel
theorem ze_185_16 : z_T g d 185 16 ls (.int x :: .ref a :: st) h P = z_aL h.1 a z_tI x (fun v => z_T g d 185 17 ls (.int v :: st) h P) := zt_iaload zi_185_16
theorem zi_185_17 : z_ins 185 17 = some (.aload_n 0, 1) := by decide +kernel
theorem ze_185_17 : z_T g d 185 17 (.ref a :: ls) st h P = z_T g d 185 18 (.ref a :: ls) (.ref a :: st) h P := zt_aloadn zi_185_17 rfl rfl
theorem zi_185_18 : z_ins 185 18 = some (.getfield 39, 3) := by decide +kernel
theorem ze_185_18 : z_T g d 185 18 ls (.ref a :: st) h P = z_gR h.1 a 10 25 (fun x => z_T g d 185 21 ls (.ref x :: st) h P) := zt_getR zi_185_18 ((congrArg (fun o => z_fl o 39) zo_185).trans zf_LatinRectanglesModel_39)
theorem zi_185_21 : z_ins 185 21 = some (.bipush 25, 2) := by decide +kernel
theorem ze_185_21 : z_T g d 185 21 ls st h P = z_T g d 185 23 ls (.int (nI 25) :: st) h P := zt_bipush zi_185_21 rfl
theorem zi_185_23 : z_ins 185 23 = some (.iload_n 1, 1) := by decide +kernel
theorem ze_185_23 : z_T g d 185 23 (v0 :: .int x :: ls) st h P = z_T g d 185 24 (v0 :: .int x :: ls) (.int x :: st) h P := zt_iloadn zi_185_23 rfl rfl
theorem zi_185_24 : z_ins 185 24 = some (.imul, 1) := by decide +kernel
theorem ze_185_24 : z_T g d 185 24 ls (.int y :: .int x :: st) h P = z_T g d 185 25 ls (.int (x * y) :: st) h P := zt_bin (f := fun x y => x * y) zi_185_24 rfl (fun _ _ _ => rfl)
theorem zi_185_25 : z_ins 185 25 = some (.iload_n 3, 1) := by decide +kernel
theorem ze_185_25 : z_T g d 185 25 (v0 :: v1 :: v2 :: .int x :: ls) st h P = z_T g d 185 26 (v0 :: v1 :: v2 :: .int x :: ls) (.int x :: st) h P := zt_iloadn zi_185_25 rfl rfl
theorem zi_185_26 : z_ins 185 26 = some (.iadd, 1) := by decide +kernel
theorem ze_185_26 : z_T g d 185 26 ls (.int y :: .int x :: st) h P = z_T g d 185 27 ls (.int (x + y) :: st) h P := zt_bin (f := fun x y => x + y) zi_185_26 rfl (fun _ _ _ => rfl)
theorem zi_185_27 : z_ins 185 27 = some (.iaload, 1) := by decide +kernel
theorem ze_185_27 : z_T g d 185 27 ls (.int x :: .ref a :: st) h P = z_aL h.1 a z_tI x (fun v => z_T g d 185 28 ls (.int v :: st) h P) := zt_iaload zi_185_27
theorem zi_185_28 : z_ins 185 28 = some (.if_icmp .ne 7, 3) := by decide +kernel
theorem ze_185_28 : z_T g d 185 28 ls (.int y :: .int x :: st) h P = (if x = y then z_T g d 185 31 ls st h P else z_T g d 185 35 ls st h P) := zt_icmpne zi_185_28 (by decide)
theorem zi_185_31 : z_ins 185 31 = some (.iconst 0, 1) := by decide +kernel
theorem ze_185_31 : z_T g d 185 31 ls st h P = z_T g d 185 32 ls (.int (nI 0) :: st) h P := zt_iconst zi_185_31 rfl
theorem zi_185_32 : z_ins 185 32 = some (.goto 4, 3) := by decide +kernel
theorem ze_185_32 : z_T g d 185 32 ls st h P = z_T g d 185 36 ls st h P := zt_goto zi_185_32 (by decide)
theorem zi_185_35 : z_ins 185 35 = some (.iconst 1, 1) := by decide +kernel
theorem ze_185_35 : z_T g d 185 35 ls st h P = z_T g d 185 36 ls (.int (nI 1) :: st) h P := zt_iconst zi_185_35 rfl
theorem zi_185_36 : z_ins 185 36 = some (.iadd, 1) := by decide +kernel
theorem ze_185_36 : z_T g d 185 36 ls (.int y :: .int x :: st) h P = z_T g d 185 37 ls (.int (x + y) :: st) h P := zt_bin (f := fun x y => x + y) zi_185_36 rfl (fun _ _ _ => rfl)
theorem zi_185_37 : z_ins 185 37 = some (.istore_n 2, 1) := by decide +kernel
theorem ze_185_37 : z_T g d 185 37 (v0 :: v1 :: v2 :: ls) (.int x :: st) h P = z_T g d 185 38 (v0 :: v1 :: .int x :: ls) st h P := zt_istoren zi_185_37 rfl (Nat.le_add_left 3 _)
theorem zi_185_38 : z_ins 185 38 = some (.iinc 3 1, 3) := by decide +kernel
theorem ze_185_38 : z_T g d 185 38 (v0 :: v1 :: v2 :: .int x :: ls) st h P = z_T g d 185 41 (v0 :: v1 :: v2 :: .int (x + (nI 1)) :: ls) st h P := zt_iinc zi_185_38 rfl rfl
theorem zi_185_41 : z_ins 185 41 = some (.goto (-37), 3) := by decide +kernel
theorem ze_185_41 : z_T g d 185 41 ls st h P = z_T g d 185 4 ls st h P := zt_goto zi_185_41 (by decide)
theorem zi_185_44 : z_ins 185 44 = some (.iload_n 2, 1) := by decide +kernel
theorem ze_185_44 : z_T g d 185 44 (v0 :: v1 :: .int x :: ls) st h P = z_T g d 185 45 (v0 :: v1 :: .int x :: ls) (.int x :: st) h P := zt_iloadn zi_185_44 rfl rfl
theorem zi_185_45 : z_ins 185 45 = some (.ireturn, 1) := by decide +kernel
theorem ze_185_45 : z_T g d 185 45 ls [.int x] h P = P (.inr (some (.int x)), h) := zt_ireturn zi_185_45 zr_185
-- LatinRectanglesModel.tradeSize(I)I
theorem zo_186 : z_own 186 = "LatinRectanglesModel" := by decide +kernel
theorem zm_186 : z_maxL 186 = 2 := by decide +kernel
theorem zh_186 : z_hds 186 = [] := by decide +kernel
theorem zr_186 : z_rt 186 = (some .int) := by decide +kernel
theorem zn_186 : z_Ca g d 186 [.ref a0, .int x1] h P = z_T g d 186 0 [.ref a0, .int x1] [] h P := z_Ca_ent zm_186 rfl rfl
theorem zi_186_0 : z_ins 186 0 = some (.aload_n 0, 1) := by decide +kernel
theorem ze_186_0 : z_T g d 186 0 (.ref a :: ls) st h P = z_T g d 186 1 (.ref a :: ls) (.ref a :: st) h P := zt_aloadn zi_186_0 rfl rfl
theorem zi_186_1 : z_ins 186 1 = some (.iload_n 1, 1) := by decide +kernel
theorem ze_186_1 : z_T g d 186 1 (v0 :: .int x :: ls) st h P = z_T g d 186 2 (v0 :: .int x :: ls) (.int x :: st) h P := zt_iloadn zi_186_1 rfl rfl
theorem zi_186_2 : z_ins 186 2 = some (.invokevirtual 246, 3) := by decide +kernel
theorem ze_186_2 : z_T g d 186 2 ls (.int x0 :: .ref a :: st) h P = ((z_okS 8 st = true ∧ z_gO h.1 a 10 ∧ 0 < d) ∧ z_Ca g (d - 1) 184 [.ref a, .int x0] h (fun r => z_k r (fun v h' => z_T g d 186 5 ls (z_push v st) h' P) P)) := zt_callV (as := [.int x0]) zi_186_2 ((congrArg (fun o => z_lookup z_prs (o, 246)) zo_186).trans zp_LatinRectanglesModel_246) ((congrArg (fun o => z_clk o 246) zo_186).trans zk_LatinRectanglesModel_246) zh_186 zc_184 rfl rfl rfl
theorem zi_186_5 : z_ins 186 5 = some (.ifCond .eq 7, 3) := by decide +kernel
theorem ze_186_5 : z_T g d 186 5 ls (.int x :: st) h P = (if x = nI 0 then z_T g d 186 12 ls st h P else z_T g d 186 8 ls st h P) := zt_ifeq zi_186_5 (by decide)
theorem zi_186_8 : z_ins 186 8 = some (.iconst 0, 1) := by decide +kernel
theorem ze_186_8 : z_T g d 186 8 ls st h P = z_T g d 186 9 ls (.int (nI 0) :: st) h P := zt_iconst zi_186_8 rfl
theorem zi_186_9 : z_ins 186 9 = some (.goto 8, 3) := by decide +kernel
theorem ze_186_9 : z_T g d 186 9 ls st h P = z_T g d 186 17 ls st h P := zt_goto zi_186_9 (by decide)
theorem zi_186_12 : z_ins 186 12 = some (.aload_n 0, 1) := by decide +kernel
theorem ze_186_12 : z_T g d 186 12 (.ref a :: ls) st h P = z_T g d 186 13 (.ref a :: ls) (.ref a :: st) h P := zt_aloadn zi_186_12 rfl rfl
theorem zi_186_13 : z_ins 186 13 = some (.iload_n 1, 1) := by decide +kernel
theorem ze_186_13 : z_T g d 186 13 (v0 :: .int x :: ls) st h P = z_T g d 186 14 (v0 :: .int x :: ls) (.int x :: st) h P := zt_iloadn zi_186_13 rfl rfl
theorem zi_186_14 : z_ins 186 14 = some (.invokevirtual 249, 3) := by decide +kernel
theorem ze_186_14 : z_T g d 186 14 ls (.int x0 :: .ref a :: st) h P = ((z_okS 8 st = true ∧ z_gO h.1 a 10 ∧ 0 < d) ∧ z_Ca g (d - 1) 185 [.ref a, .int x0] h (fun r => z_k r (fun v h' => z_T g d 186 17 ls (z_push v st) h' P) P)) := zt_callV (as := [.int x0]) zi_186_14 ((congrArg (fun o => z_lookup z_prs (o, 249)) zo_186).trans zp_LatinRectanglesModel_249) ((congrArg (fun o => z_clk o 249) zo_186).trans zk_LatinRectanglesModel_249) zh_186 zc_185 rfl rfl rfl
theorem zi_186_17 : z_ins 186 17 = some (.ireturn, 1) := by decide +kernel
theorem ze_186_17 : z_T g d 186 17 ls [.int x] h P = P (.inr (some (.int x)), h) := zt_ireturn zi_186_17 zr_186
-- LatinRectanglesModel.unlike(IIZ)I
theorem zo_187 : z_own 187 = "LatinRectanglesModel" := by decide +kernel
theorem zm_187 : z_maxL 187 = 9 := by decide +kernel
theorem zh_187 : z_hds 187 = [] := by decide +kernel
theorem zr_187 : z_rt 187 = (some .int) := by decide +kernel
theorem zn_187 : z_Ca g d 187 [.ref a0, .int x1, .int x2, .int x3] h P = z_T g d 187 0 [.ref a0, .int x1, .int x2, .int x3, z_un, z_un, z_un, z_un, z_un] [] h P := z_Ca_ent zm_187 rfl rfl
theorem zi_187_0 : z_ins 187 0 = some (.iconst 0, 1) := by decide +kernel
theorem ze_187_0 : z_T g d 187 0 ls st h P = z_T g d 187 1 ls (.int (nI 0) :: st) h P := zt_iconst zi_187_0 rfl
theorem zi_187_1 : z_ins 187 1 = some (.istore 4, 2) := by decide +kernel
theorem ze_187_1 : z_T g d 187 1 (v0 :: v1 :: v2 :: v3 :: v4 :: ls) (.int x :: st) h P = z_T g d 187 3 (v0 :: v1 :: v2 :: v3 :: .int x :: ls) st h P := zt_istore zi_187_1 (Nat.le_add_left 5 _)
theorem zi_187_3 : z_ins 187 3 = some (.iconst 0, 1) := by decide +kernel
theorem ze_187_3 : z_T g d 187 3 ls st h P = z_T g d 187 4 ls (.int (nI 0) :: st) h P := zt_iconst zi_187_3 rfl
theorem zi_187_4 : z_ins 187 4 = some (.istore 5, 2) := by decide +kernel
theorem ze_187_4 : z_T g d 187 4 (v0 :: v1 :: v2 :: v3 :: v4 :: v5 :: ls) (.int x :: st) h P = z_T g d 187 6 (v0 :: v1 :: v2 :: v3 :: v4 :: .int x :: ls) st h P := zt_istore zi_187_4 (Nat.le_add_left 6 _)
theorem zi_187_6 : z_ins 187 6 = some (.iconst 0, 1) := by decide +kernel
theorem ze_187_6 : z_T g d 187 6 ls st h P = z_T g d 187 7 ls (.int (nI 0) :: st) h P := zt_iconst zi_187_6 rfl
theorem zi_187_7 : z_ins 187 7 = some (.istore 6, 2) := by decide +kernel
theorem ze_187_7 : z_T g d 187 7 (v0 :: v1 :: v2 :: v3 :: v4 :: v5 :: v6 :: ls) (.int x :: st) h P = z_T g d 187 9 (v0 :: v1 :: v2 :: v3 :: v4 :: v5 :: .int x :: ls) st h P := zt_istore zi_187_7 (Nat.le_add_left 7 _)
theorem zi_187_9 : z_ins 187 9 = some (.iload 6, 2) := by decide +kernel
theorem ze_187_9 : z_T g d 187 9 (v0 :: v1 :: v2 :: v3 :: v4 :: v5 :: .int x :: ls) st h P = z_T g d 187 11 (v0 :: v1 :: v2 :: v3 :: v4 :: v5 :: .int x :: ls) (.int x :: st) h P := zt_iload zi_187_9 rfl
theorem zi_187_11 : z_ins 187 11 = some (.iconst 5, 1) := by decide +kernel
theorem ze_187_11 : z_T g d 187 11 ls st h P = z_T g d 187 12 ls (.int (nI 5) :: st) h P := zt_iconst zi_187_11 rfl
theorem zi_187_12 : z_ins 187 12 = some (.if_icmp .ge 101, 3) := by decide +kernel
theorem ze_187_12 : z_T g d 187 12 ls (.int y :: .int x :: st) h P = (if x < y then z_T g d 187 15 ls st h P else z_T g d 187 113 ls st h P) := zt_icmpge zi_187_12 (by decide)
theorem zi_187_15 : z_ins 187 15 = some (.iload_n 3, 1) := by decide +kernel
theorem ze_187_15 : z_T g d 187 15 (v0 :: v1 :: v2 :: .int x :: ls) st h P = z_T g d 187 16 (v0 :: v1 :: v2 :: .int x :: ls) (.int x :: st) h P := zt_iloadn zi_187_15 rfl rfl
theorem zi_187_16 : z_ins 187 16 = some (.ifCond .eq 12, 3) := by decide +kernel
theorem ze_187_16 : z_T g d 187 16 ls (.int x :: st) h P = (if x = nI 0 then z_T g d 187 28 ls st h P else z_T g d 187 19 ls st h P) := zt_ifeq zi_187_16 (by decide)
theorem zi_187_19 : z_ins 187 19 = some (.iload_n 2, 1) := by decide +kernel
theorem ze_187_19 : z_T g d 187 19 (v0 :: v1 :: .int x :: ls) st h P = z_T g d 187 20 (v0 :: v1 :: .int x :: ls) (.int x :: st) h P := zt_iloadn zi_187_19 rfl rfl
theorem zi_187_20 : z_ins 187 20 = some (.iload 6, 2) := by decide +kernel
theorem ze_187_20 : z_T g d 187 20 (v0 :: v1 :: v2 :: v3 :: v4 :: v5 :: .int x :: ls) st h P = z_T g d 187 22 (v0 :: v1 :: v2 :: v3 :: v4 :: v5 :: .int x :: ls) (.int x :: st) h P := zt_iload zi_187_20 rfl
theorem zi_187_22 : z_ins 187 22 = some (.invokestatic 151, 3) := by decide +kernel
theorem ze_187_22 : z_T g d 187 22 ls (.int x1 :: .int x0 :: st) h P = ((z_okS 8 st = true ∧ 0 < d) ∧ z_Ca g (d - 1) 127 [.int x0, .int x1] h (fun r => z_k r (fun v h' => z_T g d 187 25 ls (z_push v st) h' P) P)) := zt_callS0 (as := [.int x0, .int x1]) zi_187_22 ((congrArg (fun o => z_lookup z_prs (o, 151)) zo_187).trans zp_LatinRectanglesModel_151) ((congrArg (fun o => z_clk o 151) zo_187).trans zk_LatinRectanglesModel_151) zh_187 rfl rfl rfl
theorem zi_187_25 : z_ins 187 25 = some (.goto 9, 3) := by decide +kernel
theorem ze_187_25 : z_T g d 187 25 ls st h P = z_T g d 187 34 ls st h P := zt_goto zi_187_25 (by decide)
theorem zi_187_28 : z_ins 187 28 = some (.iload 6, 2) := by decide +kernel
theorem ze_187_28 : z_T g d 187 28 (v0 :: v1 :: v2 :: v3 :: v4 :: v5 :: .int x :: ls) st h P = z_T g d 187 30 (v0 :: v1 :: v2 :: v3 :: v4 :: v5 :: .int x :: ls) (.int x :: st) h P := zt_iload zi_187_28 rfl
theorem zi_187_30 : z_ins 187 30 = some (.iload_n 2, 1) := by decide +kernel
theorem ze_187_30 : z_T g d 187 30 (v0 :: v1 :: .int x :: ls) st h P = z_T g d 187 31 (v0 :: v1 :: .int x :: ls) (.int x :: st) h P := zt_iloadn zi_187_30 rfl rfl
theorem zi_187_31 : z_ins 187 31 = some (.invokestatic 151, 3) := by decide +kernel
theorem ze_187_31 : z_T g d 187 31 ls (.int x1 :: .int x0 :: st) h P = ((z_okS 8 st = true ∧ 0 < d) ∧ z_Ca g (d - 1) 127 [.int x0, .int x1] h (fun r => z_k r (fun v h' => z_T g d 187 34 ls (z_push v st) h' P) P)) := zt_callS0 (as := [.int x0, .int x1]) zi_187_31 ((congrArg (fun o => z_lookup z_prs (o, 151)) zo_187).trans zp_LatinRectanglesModel_151) ((congrArg (fun o => z_clk o 151) zo_187).trans zk_LatinRectanglesModel_151) zh_187 rfl rfl rfl
theorem zi_187_34 : z_ins 187 34 = some (.istore 7, 2) := by decide +kernel
theorem ze_187_34 : z_T g d 187 34 (v0 :: v1 :: v2 :: v3 :: v4 :: v5 :: v6 :: v7 :: ls) (.int x :: st) h P = z_T g d 187 36 (v0 :: v1 :: v2 :: v3 :: v4 :: v5 :: v6 :: .int x :: ls) st h P := zt_istore zi_187_34 (Nat.le_add_left 8 _)
theorem zi_187_36 : z_ins 187 36 = some (.aload_n 0, 1) := by decide +kernel
theorem ze_187_36 : z_T g d 187 36 (.ref a :: ls) st h P = z_T g d 187 37 (.ref a :: ls) (.ref a :: st) h P := zt_aloadn zi_187_36 rfl rfl
theorem zi_187_37 : z_ins 187 37 = some (.getfield 39, 3) := by decide +kernel
theorem ze_187_37 : z_T g d 187 37 ls (.ref a :: st) h P = z_gR h.1 a 10 25 (fun x => z_T g d 187 40 ls (.ref x :: st) h P) := zt_getR zi_187_37 ((congrArg (fun o => z_fl o 39) zo_187).trans zf_LatinRectanglesModel_39)
theorem zi_187_40 : z_ins 187 40 = some (.bipush 25, 2) := by decide +kernel
theorem ze_187_40 : z_T g d 187 40 ls st h P = z_T g d 187 42 ls (.int (nI 25) :: st) h P := zt_bipush zi_187_40 rfl
theorem zi_187_42 : z_ins 187 42 = some (.iload_n 1, 1) := by decide +kernel
theorem ze_187_42 : z_T g d 187 42 (v0 :: .int x :: ls) st h P = z_T g d 187 43 (v0 :: .int x :: ls) (.int x :: st) h P := zt_iloadn zi_187_42 rfl rfl
theorem zi_187_43 : z_ins 187 43 = some (.imul, 1) := by decide +kernel
theorem ze_187_43 : z_T g d 187 43 ls (.int y :: .int x :: st) h P = z_T g d 187 44 ls (.int (x * y) :: st) h P := zt_bin (f := fun x y => x * y) zi_187_43 rfl (fun _ _ _ => rfl)
theorem zi_187_44 : z_ins 187 44 = some (.iload 7, 2) := by decide +kernel
theorem ze_187_44 : z_T g d 187 44 (v0 :: v1 :: v2 :: v3 :: v4 :: v5 :: v6 :: .int x :: ls) st h P = z_T g d 187 46 (v0 :: v1 :: v2 :: v3 :: v4 :: v5 :: v6 :: .int x :: ls) (.int x :: st) h P := zt_iload zi_187_44 rfl
theorem zi_187_46 : z_ins 187 46 = some (.iadd, 1) := by decide +kernel
theorem ze_187_46 : z_T g d 187 46 ls (.int y :: .int x :: st) h P = z_T g d 187 47 ls (.int (x + y) :: st) h P := zt_bin (f := fun x y => x + y) zi_187_46 rfl (fun _ _ _ => rfl)
theorem zi_187_47 : z_ins 187 47 = some (.iaload, 1) := by decide +kernel
theorem ze_187_47 : z_T g d 187 47 ls (.int x :: .ref a :: st) h P = z_aL h.1 a z_tI x (fun v => z_T g d 187 48 ls (.int v :: st) h P) := zt_iaload zi_187_47
theorem zi_187_48 : z_ins 187 48 = some (.istore 8, 2) := by decide +kernel
theorem ze_187_48 : z_T g d 187 48 (v0 :: v1 :: v2 :: v3 :: v4 :: v5 :: v6 :: v7 :: v8 :: ls) (.int x :: st) h P = z_T g d 187 50 (v0 :: v1 :: v2 :: v3 :: v4 :: v5 :: v6 :: v7 :: .int x :: ls) st h P := zt_istore zi_187_48 (Nat.le_add_left 9 _)
theorem zi_187_50 : z_ins 187 50 = some (.aload_n 0, 1) := by decide +kernel
theorem ze_187_50 : z_T g d 187 50 (.ref a :: ls) st h P = z_T g d 187 51 (.ref a :: ls) (.ref a :: st) h P := zt_aloadn zi_187_50 rfl rfl
theorem zi_187_51 : z_ins 187 51 = some (.getfield 22, 3) := by decide +kernel
theorem ze_187_51 : z_T g d 187 51 ls (.ref a :: st) h P = z_gR h.1 a 10 11 (fun x => z_T g d 187 54 ls (.ref x :: st) h P) := zt_getR zi_187_51 ((congrArg (fun o => z_fl o 22) zo_187).trans zf_LatinRectanglesModel_22)
theorem zi_187_54 : z_ins 187 54 = some (.iload 7, 2) := by decide +kernel
theorem ze_187_54 : z_T g d 187 54 (v0 :: v1 :: v2 :: v3 :: v4 :: v5 :: v6 :: .int x :: ls) st h P = z_T g d 187 56 (v0 :: v1 :: v2 :: v3 :: v4 :: v5 :: v6 :: .int x :: ls) (.int x :: st) h P := zt_iload zi_187_54 rfl
theorem zi_187_56 : z_ins 187 56 = some (.iaload, 1) := by decide +kernel
theorem ze_187_56 : z_T g d 187 56 ls (.int x :: .ref a :: st) h P = z_aL h.1 a z_tI x (fun v => z_T g d 187 57 ls (.int v :: st) h P) := zt_iaload zi_187_56
theorem zi_187_57 : z_ins 187 57 = some (.iload 8, 2) := by decide +kernel
theorem ze_187_57 : z_T g d 187 57 (v0 :: v1 :: v2 :: v3 :: v4 :: v5 :: v6 :: v7 :: .int x :: ls) st h P = z_T g d 187 59 (v0 :: v1 :: v2 :: v3 :: v4 :: v5 :: v6 :: v7 :: .int x :: ls) (.int x :: st) h P := zt_iload zi_187_57 rfl
theorem zi_187_59 : z_ins 187 59 = some (.if_icmp .ne 6, 3) := by decide +kernel
theorem ze_187_59 : z_T g d 187 59 ls (.int y :: .int x :: st) h P = (if x = y then z_T g d 187 62 ls st h P else z_T g d 187 65 ls st h P) := zt_icmpne zi_187_59 (by decide)
theorem zi_187_62 : z_ins 187 62 = some (.goto 45, 3) := by decide +kernel
theorem ze_187_62 : z_T g d 187 62 ls st h P = z_T g d 187 107 ls st h P := zt_goto zi_187_62 (by decide)
theorem zi_187_65 : z_ins 187 65 = some (.aload_n 0, 1) := by decide +kernel
theorem ze_187_65 : z_T g d 187 65 (.ref a :: ls) st h P = z_T g d 187 66 (.ref a :: ls) (.ref a :: st) h P := zt_aloadn zi_187_65 rfl rfl
theorem zi_187_66 : z_ins 187 66 = some (.getfield 22, 3) := by decide +kernel
theorem ze_187_66 : z_T g d 187 66 ls (.ref a :: st) h P = z_gR h.1 a 10 11 (fun x => z_T g d 187 69 ls (.ref x :: st) h P) := zt_getR zi_187_66 ((congrArg (fun o => z_fl o 22) zo_187).trans zf_LatinRectanglesModel_22)
theorem zi_187_69 : z_ins 187 69 = some (.iload 7, 2) := by decide +kernel
theorem ze_187_69 : z_T g d 187 69 (v0 :: v1 :: v2 :: v3 :: v4 :: v5 :: v6 :: .int x :: ls) st h P = z_T g d 187 71 (v0 :: v1 :: v2 :: v3 :: v4 :: v5 :: v6 :: .int x :: ls) (.int x :: st) h P := zt_iload zi_187_69 rfl
theorem zi_187_71 : z_ins 187 71 = some (.iaload, 1) := by decide +kernel
theorem ze_187_71 : z_T g d 187 71 ls (.int x :: .ref a :: st) h P = z_aL h.1 a z_tI x (fun v => z_T g d 187 72 ls (.int v :: st) h P) := zt_iaload zi_187_71
theorem zi_187_72 : z_ins 187 72 = some (.iconst (-1), 1) := by decide +kernel
theorem ze_187_72 : z_T g d 187 72 ls st h P = z_T g d 187 73 ls (.int (-1) :: st) h P := zt_iconst zi_187_72 rfl
theorem zi_187_73 : z_ins 187 73 = some (.if_icmp .eq 9, 3) := by decide +kernel
theorem ze_187_73 : z_T g d 187 73 ls (.int y :: .int x :: st) h P = (if x = y then z_T g d 187 82 ls st h P else z_T g d 187 76 ls st h P) := zt_icmpeq zi_187_73 (by decide)
theorem zi_187_76 : z_ins 187 76 = some (.iload 8, 2) := by decide +kernel
theorem ze_187_76 : z_T g d 187 76 (v0 :: v1 :: v2 :: v3 :: v4 :: v5 :: v6 :: v7 :: .int x :: ls) st h P = z_T g d 187 78 (v0 :: v1 :: v2 :: v3 :: v4 :: v5 :: v6 :: v7 :: .int x :: ls) (.int x :: st) h P := zt_iload zi_187_76 rfl
theorem zi_187_78 : z_ins 187 78 = some (.iconst (-1), 1) := by decide +kernel
theorem ze_187_78 : z_T g d 187 78 ls st h P = z_T g d 187 79 ls (.int (-1) :: st) h P := zt_iconst zi_187_78 rfl
theorem zi_187_79 : z_ins 187 79 = some (.if_icmp .ne 5, 3) := by decide +kernel
theorem ze_187_79 : z_T g d 187 79 ls (.int y :: .int x :: st) h P = (if x = y then z_T g d 187 82 ls st h P else z_T g d 187 84 ls st h P) := zt_icmpne zi_187_79 (by decide)
theorem zi_187_82 : z_ins 187 82 = some (.iconst (-1), 1) := by decide +kernel
theorem ze_187_82 : z_T g d 187 82 ls st h P = z_T g d 187 83 ls (.int (-1) :: st) h P := zt_iconst zi_187_82 rfl
theorem zi_187_83 : z_ins 187 83 = some (.ireturn, 1) := by decide +kernel
theorem ze_187_83 : z_T g d 187 83 ls [.int x] h P = P (.inr (some (.int x)), h) := zt_ireturn zi_187_83 zr_187
theorem zi_187_84 : z_ins 187 84 = some (.iload 4, 2) := by decide +kernel
theorem ze_187_84 : z_T g d 187 84 (v0 :: v1 :: v2 :: v3 :: .int x :: ls) st h P = z_T g d 187 86 (v0 :: v1 :: v2 :: v3 :: .int x :: ls) (.int x :: st) h P := zt_iload zi_187_84 rfl
theorem zi_187_86 : z_ins 187 86 = some (.iconst 1, 1) := by decide +kernel
theorem ze_187_86 : z_T g d 187 86 ls st h P = z_T g d 187 87 ls (.int (nI 1) :: st) h P := zt_iconst zi_187_86 rfl
theorem zi_187_87 : z_ins 187 87 = some (.aload_n 0, 1) := by decide +kernel
theorem ze_187_87 : z_T g d 187 87 (.ref a :: ls) st h P = z_T g d 187 88 (.ref a :: ls) (.ref a :: st) h P := zt_aloadn zi_187_87 rfl rfl
theorem zi_187_88 : z_ins 187 88 = some (.getfield 22, 3) := by decide +kernel
theorem ze_187_88 : z_T g d 187 88 ls (.ref a :: st) h P = z_gR h.1 a 10 11 (fun x => z_T g d 187 91 ls (.ref x :: st) h P) := zt_getR zi_187_88 ((congrArg (fun o => z_fl o 22) zo_187).trans zf_LatinRectanglesModel_22)
theorem zi_187_91 : z_ins 187 91 = some (.iload 7, 2) := by decide +kernel
theorem ze_187_91 : z_T g d 187 91 (v0 :: v1 :: v2 :: v3 :: v4 :: v5 :: v6 :: .int x :: ls) st h P = z_T g d 187 93 (v0 :: v1 :: v2 :: v3 :: v4 :: v5 :: v6 :: .int x :: ls) (.int x :: st) h P := zt_iload zi_187_91 rfl
theorem zi_187_93 : z_ins 187 93 = some (.iaload, 1) := by decide +kernel
theorem ze_187_93 : z_T g d 187 93 ls (.int x :: .ref a :: st) h P = z_aL h.1 a z_tI x (fun v => z_T g d 187 94 ls (.int v :: st) h P) := zt_iaload zi_187_93
theorem zi_187_94 : z_ins 187 94 = some (.ishl, 1) := by decide +kernel
theorem ze_187_94 : z_T g d 187 94 ls (.int y :: .int x :: st) h P = z_T g d 187 95 ls (.int (x <<< (y &&& 31)) :: st) h P := zt_bin (f := fun x y => x <<< (y &&& 31)) zi_187_94 rfl (fun _ _ _ => rfl)
theorem zi_187_95 : z_ins 187 95 = some (.ior, 1) := by decide +kernel
theorem ze_187_95 : z_T g d 187 95 ls (.int y :: .int x :: st) h P = z_T g d 187 96 ls (.int (x ||| y) :: st) h P := zt_bin (f := fun x y => x ||| y) zi_187_95 rfl (fun _ _ _ => rfl)
theorem zi_187_96 : z_ins 187 96 = some (.istore 4, 2) := by decide +kernel
theorem ze_187_96 : z_T g d 187 96 (v0 :: v1 :: v2 :: v3 :: v4 :: ls) (.int x :: st) h P = z_T g d 187 98 (v0 :: v1 :: v2 :: v3 :: .int x :: ls) st h P := zt_istore zi_187_96 (Nat.le_add_left 5 _)
theorem zi_187_98 : z_ins 187 98 = some (.iload 5, 2) := by decide +kernel
theorem ze_187_98 : z_T g d 187 98 (v0 :: v1 :: v2 :: v3 :: v4 :: .int x :: ls) st h P = z_T g d 187 100 (v0 :: v1 :: v2 :: v3 :: v4 :: .int x :: ls) (.int x :: st) h P := zt_iload zi_187_98 rfl
theorem zi_187_100 : z_ins 187 100 = some (.iconst 1, 1) := by decide +kernel
theorem ze_187_100 : z_T g d 187 100 ls st h P = z_T g d 187 101 ls (.int (nI 1) :: st) h P := zt_iconst zi_187_100 rfl
theorem zi_187_101 : z_ins 187 101 = some (.iload 8, 2) := by decide +kernel
theorem ze_187_101 : z_T g d 187 101 (v0 :: v1 :: v2 :: v3 :: v4 :: v5 :: v6 :: v7 :: .int x :: ls) st h P = z_T g d 187 103 (v0 :: v1 :: v2 :: v3 :: v4 :: v5 :: v6 :: v7 :: .int x :: ls) (.int x :: st) h P := zt_iload zi_187_101 rfl
theorem zi_187_103 : z_ins 187 103 = some (.ishl, 1) := by decide +kernel
theorem ze_187_103 : z_T g d 187 103 ls (.int y :: .int x :: st) h P = z_T g d 187 104 ls (.int (x <<< (y &&& 31)) :: st) h P := zt_bin (f := fun x y => x <<< (y &&& 31)) zi_187_103 rfl (fun _ _ _ => rfl)
theorem zi_187_104 : z_ins 187 104 = some (.ior, 1) := by decide +kernel
theorem ze_187_104 : z_T g d 187 104 ls (.int y :: .int x :: st) h P = z_T g d 187 105 ls (.int (x ||| y) :: st) h P := zt_bin (f := fun x y => x ||| y) zi_187_104 rfl (fun _ _ _ => rfl)
theorem zi_187_105 : z_ins 187 105 = some (.istore 5, 2) := by decide +kernel
theorem ze_187_105 : z_T g d 187 105 (v0 :: v1 :: v2 :: v3 :: v4 :: v5 :: ls) (.int x :: st) h P = z_T g d 187 107 (v0 :: v1 :: v2 :: v3 :: v4 :: .int x :: ls) st h P := zt_istore zi_187_105 (Nat.le_add_left 6 _)
theorem zi_187_107 : z_ins 187 107 = some (.iinc 6 1, 3) := by decide +kernel
theorem ze_187_107 : z_T g d 187 107 (v0 :: v1 :: v2 :: v3 :: v4 :: v5 :: .int x :: ls) st h P = z_T g d 187 110 (v0 :: v1 :: v2 :: v3 :: v4 :: v5 :: .int (x + (nI 1)) :: ls) st h P := zt_iinc zi_187_107 rfl rfl
theorem zi_187_110 : z_ins 187 110 = some (.goto (-101), 3) := by decide +kernel
theorem ze_187_110 : z_T g d 187 110 ls st h P = z_T g d 187 9 ls st h P := zt_goto zi_187_110 (by decide)
theorem zi_187_113 : z_ins 187 113 = some (.iload 4, 2) := by decide +kernel
theorem ze_187_113 : z_T g d 187 113 (v0 :: v1 :: v2 :: v3 :: .int x :: ls) st h P = z_T g d 187 115 (v0 :: v1 :: v2 :: v3 :: .int x :: ls) (.int x :: st) h P := zt_iload zi_187_113 rfl
theorem zi_187_115 : z_ins 187 115 = some (.iload 5, 2) := by decide +kernel
theorem ze_187_115 : z_T g d 187 115 (v0 :: v1 :: v2 :: v3 :: v4 :: .int x :: ls) st h P = z_T g d 187 117 (v0 :: v1 :: v2 :: v3 :: v4 :: .int x :: ls) (.int x :: st) h P := zt_iload zi_187_115 rfl
theorem zi_187_117 : z_ins 187 117 = some (.ixor, 1) := by decide +kernel
theorem ze_187_117 : z_T g d 187 117 ls (.int y :: .int x :: st) h P = z_T g d 187 118 ls (.int (x ^^^ y) :: st) h P := zt_bin (f := fun x y => x ^^^ y) zi_187_117 rfl (fun _ _ _ => rfl)
theorem zi_187_118 : z_ins 187 118 = some (.ireturn, 1) := by decide +kernel
theorem ze_187_118 : z_T g d 187 118 ls [.int x] h P = P (.inr (some (.int x)), h) := zt_ireturn zi_187_118 zr_187
-- LatinRectanglesModel.isTrade(I)Z
theorem zo_188 : z_own 188 = "LatinRectanglesModel" := by decide +kernel
theorem zm_188 : z_maxL 188 = 4 := by decide +kernel
theorem zh_188 : z_hds 188 = [] := by decide +kernel
theorem zr_188 : z_rt 188 = (some .boolean) := by decide +kernel
theorem zn_188 : z_Ca g d 188 [.ref a0, .int x1] h P = z_T g d 188 0 [.ref a0, .int x1, z_un, z_un] [] h P := z_Ca_ent zm_188 rfl rfl
theorem zi_188_0 : z_ins 188 0 = some (.aload_n 0, 1) := by decide +kernel
theorem ze_188_0 : z_T g d 188 0 (.ref a :: ls) st h P = z_T g d 188 1 (.ref a :: ls) (.ref a :: st) h P := zt_aloadn zi_188_0 rfl rfl
theorem zi_188_1 : z_ins 188 1 = some (.iload_n 1, 1) := by decide +kernel
theorem ze_188_1 : z_T g d 188 1 (v0 :: .int x :: ls) st h P = z_T g d 188 2 (v0 :: .int x :: ls) (.int x :: st) h P := zt_iloadn zi_188_1 rfl rfl
theorem zi_188_2 : z_ins 188 2 = some (.invokevirtual 246, 3) := by decide +kernel
theorem ze_188_2 : z_T g d 188 2 ls (.int x0 :: .ref a :: st) h P = ((z_okS 8 st = true ∧ z_gO h.1 a 10 ∧ 0 < d) ∧ z_Ca g (d - 1) 184 [.ref a, .int x0] h (fun r => z_k r (fun v h' => z_T g d 188 5 ls (z_push v st) h' P) P)) := zt_callV (as := [.int x0]) zi_188_2 ((congrArg (fun o => z_lookup z_prs (o, 246)) zo_188).trans zp_LatinRectanglesModel_246) ((congrArg (fun o => z_clk o 246) zo_188).trans zk_LatinRectanglesModel_246) zh_188 zc_184 rfl rfl rfl
theorem zi_188_5 : z_ins 188 5 = some (.ifCond .eq 5, 3) := by decide +kernel
theorem ze_188_5 : z_T g d 188 5 ls (.int x :: st) h P = (if x = nI 0 then z_T g d 188 10 ls st h P else z_T g d 188 8 ls st h P) := zt_ifeq zi_188_5 (by decide)
theorem zi_188_8 : z_ins 188 8 = some (.iconst 0, 1) := by decide +kernel
theorem ze_188_8 : z_T g d 188 8 ls st h P = z_T g d 188 9 ls (.int (nI 0) :: st) h P := zt_iconst zi_188_8 rfl
theorem zi_188_9 : z_ins 188 9 = some (.ireturn, 1) := by decide +kernel
theorem ze_188_9 : z_T g d 188 9 ls [.int x] h P = ((x = nI 0 ∨ x = nI 1) ∧ P (.inr (some (.int x)), h)) := zt_zreturn zi_188_9 zr_188
theorem zi_188_10 : z_ins 188 10 = some (.aload_n 0, 1) := by decide +kernel
theorem ze_188_10 : z_T g d 188 10 (.ref a :: ls) st h P = z_T g d 188 11 (.ref a :: ls) (.ref a :: st) h P := zt_aloadn zi_188_10 rfl rfl
theorem zi_188_11 : z_ins 188 11 = some (.iload_n 1, 1) := by decide +kernel
theorem ze_188_11 : z_T g d 188 11 (v0 :: .int x :: ls) st h P = z_T g d 188 12 (v0 :: .int x :: ls) (.int x :: st) h P := zt_iloadn zi_188_11 rfl rfl
theorem zi_188_12 : z_ins 188 12 = some (.invokevirtual 249, 3) := by decide +kernel
theorem ze_188_12 : z_T g d 188 12 ls (.int x0 :: .ref a :: st) h P = ((z_okS 8 st = true ∧ z_gO h.1 a 10 ∧ 0 < d) ∧ z_Ca g (d - 1) 185 [.ref a, .int x0] h (fun r => z_k r (fun v h' => z_T g d 188 15 ls (z_push v st) h' P) P)) := zt_callV (as := [.int x0]) zi_188_12 ((congrArg (fun o => z_lookup z_prs (o, 249)) zo_188).trans zp_LatinRectanglesModel_249) ((congrArg (fun o => z_clk o 249) zo_188).trans zk_LatinRectanglesModel_249) zh_188 zc_185 rfl rfl rfl
theorem zi_188_15 : z_ins 188 15 = some (.ifCond .le 7, 3) := by decide +kernel
theorem ze_188_15 : z_T g d 188 15 ls (.int x :: st) h P = (if nI 0 < x then z_T g d 188 18 ls st h P else z_T g d 188 22 ls st h P) := zt_ifle zi_188_15 (by decide)
theorem zi_188_18 : z_ins 188 18 = some (.iconst 1, 1) := by decide +kernel
theorem ze_188_18 : z_T g d 188 18 ls st h P = z_T g d 188 19 ls (.int (nI 1) :: st) h P := zt_iconst zi_188_18 rfl
theorem zi_188_19 : z_ins 188 19 = some (.goto 4, 3) := by decide +kernel
theorem ze_188_19 : z_T g d 188 19 ls st h P = z_T g d 188 23 ls st h P := zt_goto zi_188_19 (by decide)
theorem zi_188_22 : z_ins 188 22 = some (.iconst 0, 1) := by decide +kernel
theorem ze_188_22 : z_T g d 188 22 ls st h P = z_T g d 188 23 ls (.int (nI 0) :: st) h P := zt_iconst zi_188_22 rfl
theorem zi_188_23 : z_ins 188 23 = some (.istore_n 2, 1) := by decide +kernel
theorem ze_188_23 : z_T g d 188 23 (v0 :: v1 :: v2 :: ls) (.int x :: st) h P = z_T g d 188 24 (v0 :: v1 :: .int x :: ls) st h P := zt_istoren zi_188_23 rfl (Nat.le_add_left 3 _)
theorem zi_188_24 : z_ins 188 24 = some (.iconst 0, 1) := by decide +kernel
theorem ze_188_24 : z_T g d 188 24 ls st h P = z_T g d 188 25 ls (.int (nI 0) :: st) h P := zt_iconst zi_188_24 rfl
theorem zi_188_25 : z_ins 188 25 = some (.istore_n 3, 1) := by decide +kernel
theorem ze_188_25 : z_T g d 188 25 (v0 :: v1 :: v2 :: v3 :: ls) (.int x :: st) h P = z_T g d 188 26 (v0 :: v1 :: v2 :: .int x :: ls) st h P := zt_istoren zi_188_25 rfl (Nat.le_add_left 4 _)
theorem zi_188_26 : z_ins 188 26 = some (.iload_n 3, 1) := by decide +kernel
theorem ze_188_26 : z_T g d 188 26 (v0 :: v1 :: v2 :: .int x :: ls) st h P = z_T g d 188 27 (v0 :: v1 :: v2 :: .int x :: ls) (.int x :: st) h P := zt_iloadn zi_188_26 rfl rfl
theorem zi_188_27 : z_ins 188 27 = some (.iconst 5, 1) := by decide +kernel
theorem ze_188_27 : z_T g d 188 27 ls st h P = z_T g d 188 28 ls (.int (nI 5) :: st) h P := zt_iconst zi_188_27 rfl
theorem zi_188_28 : z_ins 188 28 = some (.if_icmp .ge 39, 3) := by decide +kernel
theorem ze_188_28 : z_T g d 188 28 ls (.int y :: .int x :: st) h P = (if x < y then z_T g d 188 31 ls st h P else z_T g d 188 67 ls st h P) := zt_icmpge zi_188_28 (by decide)
theorem zi_188_31 : z_ins 188 31 = some (.iload_n 2, 1) := by decide +kernel
theorem ze_188_31 : z_T g d 188 31 (v0 :: v1 :: .int x :: ls) st h P = z_T g d 188 32 (v0 :: v1 :: .int x :: ls) (.int x :: st) h P := zt_iloadn zi_188_31 rfl rfl
theorem zi_188_32 : z_ins 188 32 = some (.ifCond .eq 27, 3) := by decide +kernel
theorem ze_188_32 : z_T g d 188 32 ls (.int x :: st) h P = (if x = nI 0 then z_T g d 188 59 ls st h P else z_T g d 188 35 ls st h P) := zt_ifeq zi_188_32 (by decide)
theorem zi_188_35 : z_ins 188 35 = some (.aload_n 0, 1) := by decide +kernel
theorem ze_188_35 : z_T g d 188 35 (.ref a :: ls) st h P = z_T g d 188 36 (.ref a :: ls) (.ref a :: st) h P := zt_aloadn zi_188_35 rfl rfl
theorem zi_188_36 : z_ins 188 36 = some (.iload_n 1, 1) := by decide +kernel
theorem ze_188_36 : z_T g d 188 36 (v0 :: .int x :: ls) st h P = z_T g d 188 37 (v0 :: .int x :: ls) (.int x :: st) h P := zt_iloadn zi_188_36 rfl rfl
theorem zi_188_37 : z_ins 188 37 = some (.iload_n 3, 1) := by decide +kernel
theorem ze_188_37 : z_T g d 188 37 (v0 :: v1 :: v2 :: .int x :: ls) st h P = z_T g d 188 38 (v0 :: v1 :: v2 :: .int x :: ls) (.int x :: st) h P := zt_iloadn zi_188_37 rfl rfl
theorem zi_188_38 : z_ins 188 38 = some (.iconst 1, 1) := by decide +kernel
theorem ze_188_38 : z_T g d 188 38 ls st h P = z_T g d 188 39 ls (.int (nI 1) :: st) h P := zt_iconst zi_188_38 rfl
theorem zi_188_39 : z_ins 188 39 = some (.invokevirtual 252, 3) := by decide +kernel
theorem ze_188_39 : z_T g d 188 39 ls (.int x2 :: .int x1 :: .int x0 :: .ref a :: st) h P = ((z_okS 8 st = true ∧ z_gO h.1 a 10 ∧ 0 < d) ∧ z_Ca g (d - 1) 187 [.ref a, .int x0, .int x1, .int x2] h (fun r => z_k r (fun v h' => z_T g d 188 42 ls (z_push v st) h' P) P)) := zt_callV (as := [.int x0, .int x1, .int x2]) zi_188_39 ((congrArg (fun o => z_lookup z_prs (o, 252)) zo_188).trans zp_LatinRectanglesModel_252) ((congrArg (fun o => z_clk o 252) zo_188).trans zk_LatinRectanglesModel_252) zh_188 zc_187 rfl rfl rfl
theorem zi_188_42 : z_ins 188 42 = some (.ifCond .ne 17, 3) := by decide +kernel
theorem ze_188_42 : z_T g d 188 42 ls (.int x :: st) h P = (if x = nI 0 then z_T g d 188 45 ls st h P else z_T g d 188 59 ls st h P) := zt_ifne zi_188_42 (by decide)
theorem zi_188_45 : z_ins 188 45 = some (.aload_n 0, 1) := by decide +kernel
theorem ze_188_45 : z_T g d 188 45 (.ref a :: ls) st h P = z_T g d 188 46 (.ref a :: ls) (.ref a :: st) h P := zt_aloadn zi_188_45 rfl rfl
theorem zi_188_46 : z_ins 188 46 = some (.iload_n 1, 1) := by decide +kernel
theorem ze_188_46 : z_T g d 188 46 (v0 :: .int x :: ls) st h P = z_T g d 188 47 (v0 :: .int x :: ls) (.int x :: st) h P := zt_iloadn zi_188_46 rfl rfl
theorem zi_188_47 : z_ins 188 47 = some (.iload_n 3, 1) := by decide +kernel
theorem ze_188_47 : z_T g d 188 47 (v0 :: v1 :: v2 :: .int x :: ls) st h P = z_T g d 188 48 (v0 :: v1 :: v2 :: .int x :: ls) (.int x :: st) h P := zt_iloadn zi_188_47 rfl rfl
theorem zi_188_48 : z_ins 188 48 = some (.iconst 0, 1) := by decide +kernel
theorem ze_188_48 : z_T g d 188 48 ls st h P = z_T g d 188 49 ls (.int (nI 0) :: st) h P := zt_iconst zi_188_48 rfl
theorem zi_188_49 : z_ins 188 49 = some (.invokevirtual 252, 3) := by decide +kernel
theorem ze_188_49 : z_T g d 188 49 ls (.int x2 :: .int x1 :: .int x0 :: .ref a :: st) h P = ((z_okS 8 st = true ∧ z_gO h.1 a 10 ∧ 0 < d) ∧ z_Ca g (d - 1) 187 [.ref a, .int x0, .int x1, .int x2] h (fun r => z_k r (fun v h' => z_T g d 188 52 ls (z_push v st) h' P) P)) := zt_callV (as := [.int x0, .int x1, .int x2]) zi_188_49 ((congrArg (fun o => z_lookup z_prs (o, 252)) zo_188).trans zp_LatinRectanglesModel_252) ((congrArg (fun o => z_clk o 252) zo_188).trans zk_LatinRectanglesModel_252) zh_188 zc_187 rfl rfl rfl
theorem zi_188_52 : z_ins 188 52 = some (.ifCond .ne 7, 3) := by decide +kernel
theorem ze_188_52 : z_T g d 188 52 ls (.int x :: st) h P = (if x = nI 0 then z_T g d 188 55 ls st h P else z_T g d 188 59 ls st h P) := zt_ifne zi_188_52 (by decide)
theorem zi_188_55 : z_ins 188 55 = some (.iconst 1, 1) := by decide +kernel
theorem ze_188_55 : z_T g d 188 55 ls st h P = z_T g d 188 56 ls (.int (nI 1) :: st) h P := zt_iconst zi_188_55 rfl
theorem zi_188_56 : z_ins 188 56 = some (.goto 4, 3) := by decide +kernel
theorem ze_188_56 : z_T g d 188 56 ls st h P = z_T g d 188 60 ls st h P := zt_goto zi_188_56 (by decide)
theorem zi_188_59 : z_ins 188 59 = some (.iconst 0, 1) := by decide +kernel
theorem ze_188_59 : z_T g d 188 59 ls st h P = z_T g d 188 60 ls (.int (nI 0) :: st) h P := zt_iconst zi_188_59 rfl
theorem zi_188_60 : z_ins 188 60 = some (.istore_n 2, 1) := by decide +kernel
theorem ze_188_60 : z_T g d 188 60 (v0 :: v1 :: v2 :: ls) (.int x :: st) h P = z_T g d 188 61 (v0 :: v1 :: .int x :: ls) st h P := zt_istoren zi_188_60 rfl (Nat.le_add_left 3 _)
theorem zi_188_61 : z_ins 188 61 = some (.iinc 3 1, 3) := by decide +kernel
theorem ze_188_61 : z_T g d 188 61 (v0 :: v1 :: v2 :: .int x :: ls) st h P = z_T g d 188 64 (v0 :: v1 :: v2 :: .int (x + (nI 1)) :: ls) st h P := zt_iinc zi_188_61 rfl rfl
theorem zi_188_64 : z_ins 188 64 = some (.goto (-38), 3) := by decide +kernel
theorem ze_188_64 : z_T g d 188 64 ls st h P = z_T g d 188 26 ls st h P := zt_goto zi_188_64 (by decide)
theorem zi_188_67 : z_ins 188 67 = some (.iload_n 2, 1) := by decide +kernel
theorem ze_188_67 : z_T g d 188 67 (v0 :: v1 :: .int x :: ls) st h P = z_T g d 188 68 (v0 :: v1 :: .int x :: ls) (.int x :: st) h P := zt_iloadn zi_188_67 rfl rfl
theorem zi_188_68 : z_ins 188 68 = some (.ireturn, 1) := by decide +kernel
theorem ze_188_68 : z_T g d 188 68 ls [.int x] h P = ((x = nI 0 ∨ x = nI 1) ∧ P (.inr (some (.int x)), h)) := zt_zreturn zi_188_68 zr_188
-- LatinRectanglesModel.fill(III)I
theorem zo_189 : z_own 189 = "LatinRectanglesModel" := by decide +kernel
theorem zm_189 : z_maxL 189 = 4 := by decide +kernel
theorem zh_189 : z_hds 189 = [] := by decide +kernel
theorem zr_189 : z_rt 189 = (some .int) := by decide +kernel
theorem zn_189 : z_Ca g d 189 [.ref a0, .int x1, .int x2, .int x3] h P = z_T g d 189 0 [.ref a0, .int x1, .int x2, .int x3] [] h P := z_Ca_ent zm_189 rfl rfl
theorem zi_189_0 : z_ins 189 0 = some (.aload_n 0, 1) := by decide +kernel
theorem ze_189_0 : z_T g d 189 0 (.ref a :: ls) st h P = z_T g d 189 1 (.ref a :: ls) (.ref a :: st) h P := zt_aloadn zi_189_0 rfl rfl
theorem zi_189_1 : z_ins 189 1 = some (.iload_n 1, 1) := by decide +kernel
theorem ze_189_1 : z_T g d 189 1 (v0 :: .int x :: ls) st h P = z_T g d 189 2 (v0 :: .int x :: ls) (.int x :: st) h P := zt_iloadn zi_189_1 rfl rfl
theorem zi_189_2 : z_ins 189 2 = some (.iload_n 2, 1) := by decide +kernel
theorem ze_189_2 : z_T g d 189 2 (v0 :: v1 :: .int x :: ls) st h P = z_T g d 189 3 (v0 :: v1 :: .int x :: ls) (.int x :: st) h P := zt_iloadn zi_189_2 rfl rfl
theorem zi_189_3 : z_ins 189 3 = some (.invokevirtual 201, 3) := by decide +kernel
theorem ze_189_3 : z_T g d 189 3 ls (.int x1 :: .int x0 :: .ref a :: st) h P = ((z_okS 8 st = true ∧ z_gO h.1 a 10 ∧ 0 < d) ∧ z_Ca g (d - 1) 144 [.ref a, .int x0, .int x1] h (fun r => z_k r (fun v h' => z_T g d 189 6 ls (z_push v st) h' P) P)) := zt_callV (as := [.int x0, .int x1]) zi_189_3 ((congrArg (fun o => z_lookup z_prs (o, 201)) zo_189).trans zp_LatinRectanglesModel_201) ((congrArg (fun o => z_clk o 201) zo_189).trans zk_LatinRectanglesModel_201) zh_189 zc_144 rfl rfl rfl
theorem zi_189_6 : z_ins 189 6 = some (.ifCond .ne 56, 3) := by decide +kernel
theorem ze_189_6 : z_T g d 189 6 ls (.int x :: st) h P = (if x = nI 0 then z_T g d 189 9 ls st h P else z_T g d 189 62 ls st h P) := zt_ifne zi_189_6 (by decide)
theorem zi_189_9 : z_ins 189 9 = some (.aload_n 0, 1) := by decide +kernel
theorem ze_189_9 : z_T g d 189 9 (.ref a :: ls) st h P = z_T g d 189 10 (.ref a :: ls) (.ref a :: st) h P := zt_aloadn zi_189_9 rfl rfl
theorem zi_189_10 : z_ins 189 10 = some (.iload_n 3, 1) := by decide +kernel
theorem ze_189_10 : z_T g d 189 10 (v0 :: v1 :: v2 :: .int x :: ls) st h P = z_T g d 189 11 (v0 :: v1 :: v2 :: .int x :: ls) (.int x :: st) h P := zt_iloadn zi_189_10 rfl rfl
theorem zi_189_11 : z_ins 189 11 = some (.iconst 0, 1) := by decide +kernel
theorem ze_189_11 : z_T g d 189 11 ls st h P = z_T g d 189 12 ls (.int (nI 0) :: st) h P := zt_iconst zi_189_11 rfl
theorem zi_189_12 : z_ins 189 12 = some (.aload_n 0, 1) := by decide +kernel
theorem ze_189_12 : z_T g d 189 12 (.ref a :: ls) st h P = z_T g d 189 13 (.ref a :: ls) (.ref a :: st) h P := zt_aloadn zi_189_12 rfl rfl
theorem zi_189_13 : z_ins 189 13 = some (.getfield 76, 3) := by decide +kernel
theorem ze_189_13 : z_T g d 189 13 ls (.ref a :: st) h P = z_gI h.1 a 10 2 (fun x => z_T g d 189 16 ls (.int x :: st) h P) := zt_getI zi_189_13 ((congrArg (fun o => z_fl o 76) zo_189).trans zf_LatinRectanglesModel_76)
theorem zi_189_16 : z_ins 189 16 = some (.iconst 1, 1) := by decide +kernel
theorem ze_189_16 : z_T g d 189 16 ls st h P = z_T g d 189 17 ls (.int (nI 1) :: st) h P := zt_iconst zi_189_16 rfl
theorem zi_189_17 : z_ins 189 17 = some (.isub, 1) := by decide +kernel
theorem ze_189_17 : z_T g d 189 17 ls (.int y :: .int x :: st) h P = z_T g d 189 18 ls (.int (x - y) :: st) h P := zt_bin (f := fun x y => x - y) zi_189_17 rfl (fun _ _ _ => rfl)
theorem zi_189_18 : z_ins 189 18 = some (.invokestatic 111, 3) := by decide +kernel
theorem ze_189_18 : z_T g d 189 18 ls (.int x2 :: .int x1 :: .int x0 :: st) h P = ((z_okS 8 st = true ∧ 0 < d) ∧ z_Ca g (d - 1) 122 [.int x0, .int x1, .int x2] h (fun r => z_k r (fun v h' => z_T g d 189 21 ls (z_push v st) h' P) P)) := zt_callS0 (as := [.int x0, .int x1, .int x2]) zi_189_18 ((congrArg (fun o => z_lookup z_prs (o, 111)) zo_189).trans zp_LatinRectanglesModel_111) ((congrArg (fun o => z_clk o 111) zo_189).trans zk_LatinRectanglesModel_111) zh_189 rfl rfl rfl
theorem zi_189_21 : z_ins 189 21 = some (.ifCond .ne 7, 3) := by decide +kernel
theorem ze_189_21 : z_T g d 189 21 ls (.int x :: st) h P = (if x = nI 0 then z_T g d 189 24 ls st h P else z_T g d 189 28 ls st h P) := zt_ifne zi_189_21 (by decide)
theorem zi_189_24 : z_ins 189 24 = some (.iconst 1, 1) := by decide +kernel
theorem ze_189_24 : z_T g d 189 24 ls st h P = z_T g d 189 25 ls (.int (nI 1) :: st) h P := zt_iconst zi_189_24 rfl
theorem zi_189_25 : z_ins 189 25 = some (.goto 4, 3) := by decide +kernel
theorem ze_189_25 : z_T g d 189 25 ls st h P = z_T g d 189 29 ls st h P := zt_goto zi_189_25 (by decide)
theorem zi_189_28 : z_ins 189 28 = some (.iconst 0, 1) := by decide +kernel
theorem ze_189_28 : z_T g d 189 28 ls st h P = z_T g d 189 29 ls (.int (nI 0) :: st) h P := zt_iconst zi_189_28 rfl
theorem zi_189_29 : z_ins 189 29 = some (.iconst 2, 1) := by decide +kernel
theorem ze_189_29 : z_T g d 189 29 ls st h P = z_T g d 189 30 ls (.int (nI 2) :: st) h P := zt_iconst zi_189_29 rfl
theorem zi_189_30 : z_ins 189 30 = some (.invokevirtual 167, 3) := by decide +kernel
theorem ze_189_30 : z_T g d 189 30 ls (.int x1 :: .int x0 :: .ref a :: st) h P = ((z_okS 8 st = true ∧ z_gO h.1 a 10 ∧ 0 < d) ∧ z_Ca g (d - 1) 123 [.ref a, .int x0, .int x1] h (fun r => z_k r (fun v h' => z_T g d 189 33 ls (z_push v st) h' P) P)) := zt_callV (as := [.int x0, .int x1]) zi_189_30 ((congrArg (fun o => z_lookup z_prs (o, 167)) zo_189).trans zp_LatinRectanglesModel_167) ((congrArg (fun o => z_clk o 167) zo_189).trans zk_LatinRectanglesModel_167) zh_189 zc_123 rfl rfl rfl
theorem zi_189_33 : z_ins 189 33 = some (.ifCond .ne 29, 3) := by decide +kernel
theorem ze_189_33 : z_T g d 189 33 ls (.int x :: st) h P = (if x = nI 0 then z_T g d 189 36 ls st h P else z_T g d 189 62 ls st h P) := zt_ifne zi_189_33 (by decide)
theorem zi_189_36 : z_ins 189 36 = some (.aload_n 0, 1) := by decide +kernel
theorem ze_189_36 : z_T g d 189 36 (.ref a :: ls) st h P = z_T g d 189 37 (.ref a :: ls) (.ref a :: st) h P := zt_aloadn zi_189_36 rfl rfl
theorem zi_189_37 : z_ins 189 37 = some (.aload_n 0, 1) := by decide +kernel
theorem ze_189_37 : z_T g d 189 37 (.ref a :: ls) st h P = z_T g d 189 38 (.ref a :: ls) (.ref a :: st) h P := zt_aloadn zi_189_37 rfl rfl
theorem zi_189_38 : z_ins 189 38 = some (.iload_n 1, 1) := by decide +kernel
theorem ze_189_38 : z_T g d 189 38 (v0 :: .int x :: ls) st h P = z_T g d 189 39 (v0 :: .int x :: ls) (.int x :: st) h P := zt_iloadn zi_189_38 rfl rfl
theorem zi_189_39 : z_ins 189 39 = some (.iload_n 2, 1) := by decide +kernel
theorem ze_189_39 : z_T g d 189 39 (v0 :: v1 :: .int x :: ls) st h P = z_T g d 189 40 (v0 :: v1 :: .int x :: ls) (.int x :: st) h P := zt_iloadn zi_189_39 rfl rfl
theorem zi_189_40 : z_ins 189 40 = some (.invokevirtual 183, 3) := by decide +kernel
theorem ze_189_40 : z_T g d 189 40 ls (.int x1 :: .int x0 :: .ref a :: st) h P = ((z_okS 8 st = true ∧ z_gO h.1 a 10 ∧ 0 < d) ∧ z_Ca g (d - 1) 149 [.ref a, .int x0, .int x1] h (fun r => z_k r (fun v h' => z_T g d 189 43 ls (z_push v st) h' P) P)) := zt_callV (as := [.int x0, .int x1]) zi_189_40 ((congrArg (fun o => z_lookup z_prs (o, 183)) zo_189).trans zp_LatinRectanglesModel_183) ((congrArg (fun o => z_clk o 183) zo_189).trans zk_LatinRectanglesModel_183) zh_189 zc_149 rfl rfl rfl
theorem zi_189_43 : z_ins 189 43 = some (.iload_n 3, 1) := by decide +kernel
theorem ze_189_43 : z_T g d 189 43 (v0 :: v1 :: v2 :: .int x :: ls) st h P = z_T g d 189 44 (v0 :: v1 :: v2 :: .int x :: ls) (.int x :: st) h P := zt_iloadn zi_189_43 rfl rfl
theorem zi_189_44 : z_ins 189 44 = some (.ishr, 1) := by decide +kernel
theorem ze_189_44 : z_T g d 189 44 ls (.int y :: .int x :: st) h P = z_T g d 189 45 ls (.int (x >>> (y &&& 31)) :: st) h P := zt_bin (f := fun x y => x >>> (y &&& 31)) zi_189_44 rfl (fun _ _ _ => rfl)
theorem zi_189_45 : z_ins 189 45 = some (.iconst 1, 1) := by decide +kernel
theorem ze_189_45 : z_T g d 189 45 ls st h P = z_T g d 189 46 ls (.int (nI 1) :: st) h P := zt_iconst zi_189_45 rfl
theorem zi_189_46 : z_ins 189 46 = some (.iand, 1) := by decide +kernel
theorem ze_189_46 : z_T g d 189 46 ls (.int y :: .int x :: st) h P = z_T g d 189 47 ls (.int (x &&& y) :: st) h P := zt_bin (f := fun x y => x &&& y) zi_189_46 rfl (fun _ _ _ => rfl)
theorem zi_189_47 : z_ins 189 47 = some (.ifCond .ne 7, 3) := by decide +kernel
theorem ze_189_47 : z_T g d 189 47 ls (.int x :: st) h P = (if x = nI 0 then z_T g d 189 50 ls st h P else z_T g d 189 54 ls st h P) := zt_ifne zi_189_47 (by decide)
theorem zi_189_50 : z_ins 189 50 = some (.iconst 1, 1) := by decide +kernel
theorem ze_189_50 : z_T g d 189 50 ls st h P = z_T g d 189 51 ls (.int (nI 1) :: st) h P := zt_iconst zi_189_50 rfl
theorem zi_189_51 : z_ins 189 51 = some (.goto 4, 3) := by decide +kernel
theorem ze_189_51 : z_T g d 189 51 ls st h P = z_T g d 189 55 ls st h P := zt_goto zi_189_51 (by decide)
theorem zi_189_54 : z_ins 189 54 = some (.iconst 0, 1) := by decide +kernel
theorem ze_189_54 : z_T g d 189 54 ls st h P = z_T g d 189 55 ls (.int (nI 0) :: st) h P := zt_iconst zi_189_54 rfl
theorem zi_189_55 : z_ins 189 55 = some (.iconst 3, 1) := by decide +kernel
theorem ze_189_55 : z_T g d 189 55 ls st h P = z_T g d 189 56 ls (.int (nI 3) :: st) h P := zt_iconst zi_189_55 rfl
theorem zi_189_56 : z_ins 189 56 = some (.invokevirtual 167, 3) := by decide +kernel
theorem ze_189_56 : z_T g d 189 56 ls (.int x1 :: .int x0 :: .ref a :: st) h P = ((z_okS 8 st = true ∧ z_gO h.1 a 10 ∧ 0 < d) ∧ z_Ca g (d - 1) 123 [.ref a, .int x0, .int x1] h (fun r => z_k r (fun v h' => z_T g d 189 59 ls (z_push v st) h' P) P)) := zt_callV (as := [.int x0, .int x1]) zi_189_56 ((congrArg (fun o => z_lookup z_prs (o, 167)) zo_189).trans zp_LatinRectanglesModel_167) ((congrArg (fun o => z_clk o 167) zo_189).trans zk_LatinRectanglesModel_167) zh_189 zc_123 rfl rfl rfl
theorem zi_189_59 : z_ins 189 59 = some (.ifCond .eq 5, 3) := by decide +kernel
theorem ze_189_59 : z_T g d 189 59 ls (.int x :: st) h P = (if x = nI 0 then z_T g d 189 64 ls st h P else z_T g d 189 62 ls st h P) := zt_ifeq zi_189_59 (by decide)
theorem zi_189_62 : z_ins 189 62 = some (.iconst 0, 1) := by decide +kernel
theorem ze_189_62 : z_T g d 189 62 ls st h P = z_T g d 189 63 ls (.int (nI 0) :: st) h P := zt_iconst zi_189_62 rfl
theorem zi_189_63 : z_ins 189 63 = some (.ireturn, 1) := by decide +kernel
theorem ze_189_63 : z_T g d 189 63 ls [.int x] h P = P (.inr (some (.int x)), h) := zt_ireturn zi_189_63 zr_189
theorem zi_189_64 : z_ins 189 64 = some (.aload_n 0, 1) := by decide +kernel
theorem ze_189_64 : z_T g d 189 64 (.ref a :: ls) st h P = z_T g d 189 65 (.ref a :: ls) (.ref a :: st) h P := zt_aloadn zi_189_64 rfl rfl
theorem zi_189_65 : z_ins 189 65 = some (.invokevirtual 255, 3) := by decide +kernel
theorem ze_189_65 : z_T g d 189 65 ls (.ref a :: st) h P = ((z_okS 8 st = true ∧ z_gO h.1 a 10 ∧ 0 < d) ∧ z_Ca g (d - 1) 197 [.ref a] h (fun r => z_k r (fun v h' => z_T g d 189 68 ls (z_push v st) h' P) P)) := zt_callV (as := []) zi_189_65 ((congrArg (fun o => z_lookup z_prs (o, 255)) zo_189).trans zp_LatinRectanglesModel_255) ((congrArg (fun o => z_clk o 255) zo_189).trans zk_LatinRectanglesModel_255) zh_189 zc_197 rfl rfl rfl
theorem zi_189_68 : z_ins 189 68 = some (.aload_n 0, 1) := by decide +kernel
theorem ze_189_68 : z_T g d 189 68 (.ref a :: ls) st h P = z_T g d 189 69 (.ref a :: ls) (.ref a :: st) h P := zt_aloadn zi_189_68 rfl rfl
theorem zi_189_69 : z_ins 189 69 = some (.getfield 22, 3) := by decide +kernel
theorem ze_189_69 : z_T g d 189 69 ls (.ref a :: st) h P = z_gR h.1 a 10 11 (fun x => z_T g d 189 72 ls (.ref x :: st) h P) := zt_getR zi_189_69 ((congrArg (fun o => z_fl o 22) zo_189).trans zf_LatinRectanglesModel_22)
theorem zi_189_72 : z_ins 189 72 = some (.iload_n 1, 1) := by decide +kernel
theorem ze_189_72 : z_T g d 189 72 (v0 :: .int x :: ls) st h P = z_T g d 189 73 (v0 :: .int x :: ls) (.int x :: st) h P := zt_iloadn zi_189_72 rfl rfl
theorem zi_189_73 : z_ins 189 73 = some (.iload_n 2, 1) := by decide +kernel
theorem ze_189_73 : z_T g d 189 73 (v0 :: v1 :: .int x :: ls) st h P = z_T g d 189 74 (v0 :: v1 :: .int x :: ls) (.int x :: st) h P := zt_iloadn zi_189_73 rfl rfl
theorem zi_189_74 : z_ins 189 74 = some (.invokestatic 151, 3) := by decide +kernel
theorem ze_189_74 : z_T g d 189 74 ls (.int x1 :: .int x0 :: st) h P = ((z_okS 8 st = true ∧ 0 < d) ∧ z_Ca g (d - 1) 127 [.int x0, .int x1] h (fun r => z_k r (fun v h' => z_T g d 189 77 ls (z_push v st) h' P) P)) := zt_callS0 (as := [.int x0, .int x1]) zi_189_74 ((congrArg (fun o => z_lookup z_prs (o, 151)) zo_189).trans zp_LatinRectanglesModel_151) ((congrArg (fun o => z_clk o 151) zo_189).trans zk_LatinRectanglesModel_151) zh_189 rfl rfl rfl
theorem zi_189_77 : z_ins 189 77 = some (.iload_n 3, 1) := by decide +kernel
theorem ze_189_77 : z_T g d 189 77 (v0 :: v1 :: v2 :: .int x :: ls) st h P = z_T g d 189 78 (v0 :: v1 :: v2 :: .int x :: ls) (.int x :: st) h P := zt_iloadn zi_189_77 rfl rfl
theorem zi_189_78 : z_ins 189 78 = some (.iastore, 1) := by decide +kernel
theorem ze_189_78 : z_T g d 189 78 ls (.int y :: .int x :: .ref a :: st) h P = z_aS h.1 a z_tI x y (fun f => z_T g d 189 79 ls st (f, h.2) P) := zt_iastore zi_189_78
theorem zi_189_79 : z_ins 189 79 = some (.aload_n 0, 1) := by decide +kernel
theorem ze_189_79 : z_T g d 189 79 (.ref a :: ls) st h P = z_T g d 189 80 (.ref a :: ls) (.ref a :: st) h P := zt_aloadn zi_189_79 rfl rfl
theorem zi_189_80 : z_ins 189 80 = some (.getfield 73, 3) := by decide +kernel
theorem ze_189_80 : z_T g d 189 80 ls (.ref a :: st) h P = z_gI h.1 a 10 1 (fun x => z_T g d 189 83 ls (.int x :: st) h P) := zt_getI zi_189_80 ((congrArg (fun o => z_fl o 73) zo_189).trans zf_LatinRectanglesModel_73)
theorem zi_189_83 : z_ins 189 83 = some (.aload_n 0, 1) := by decide +kernel
theorem ze_189_83 : z_T g d 189 83 (.ref a :: ls) st h P = z_T g d 189 84 (.ref a :: ls) (.ref a :: st) h P := zt_aloadn zi_189_83 rfl rfl
theorem zi_189_84 : z_ins 189 84 = some (.getfield 76, 3) := by decide +kernel
theorem ze_189_84 : z_T g d 189 84 ls (.ref a :: st) h P = z_gI h.1 a 10 2 (fun x => z_T g d 189 87 ls (.int x :: st) h P) := zt_getI zi_189_84 ((congrArg (fun o => z_fl o 76) zo_189).trans zf_LatinRectanglesModel_76)
theorem zi_189_87 : z_ins 189 87 = some (.imul, 1) := by decide +kernel
theorem ze_189_87 : z_T g d 189 87 ls (.int y :: .int x :: st) h P = z_T g d 189 88 ls (.int (x * y) :: st) h P := zt_bin (f := fun x y => x * y) zi_189_87 rfl (fun _ _ _ => rfl)
theorem zi_189_88 : z_ins 189 88 = some (.aload_n 0, 1) := by decide +kernel
theorem ze_189_88 : z_T g d 189 88 (.ref a :: ls) st h P = z_T g d 189 89 (.ref a :: ls) (.ref a :: st) h P := zt_aloadn zi_189_88 rfl rfl
theorem zi_189_89 : z_ins 189 89 = some (.invokevirtual 189, 3) := by decide +kernel
theorem ze_189_89 : z_T g d 189 89 ls (.ref a :: st) h P = ((z_okS 8 st = true ∧ z_gO h.1 a 10 ∧ 0 < d) ∧ z_Ca g (d - 1) 146 [.ref a] h (fun r => z_k r (fun v h' => z_T g d 189 92 ls (z_push v st) h' P) P)) := zt_callV (as := []) zi_189_89 ((congrArg (fun o => z_lookup z_prs (o, 189)) zo_189).trans zp_LatinRectanglesModel_189) ((congrArg (fun o => z_clk o 189) zo_189).trans zk_LatinRectanglesModel_189) zh_189 zc_146 rfl rfl rfl
theorem zi_189_92 : z_ins 189 92 = some (.isub, 1) := by decide +kernel
theorem ze_189_92 : z_T g d 189 92 ls (.int y :: .int x :: st) h P = z_T g d 189 93 ls (.int (x - y) :: st) h P := zt_bin (f := fun x y => x - y) zi_189_92 rfl (fun _ _ _ => rfl)
theorem zi_189_93 : z_ins 189 93 = some (.ireturn, 1) := by decide +kernel
theorem ze_189_93 : z_T g d 189 93 ls [.int x] h P = P (.inr (some (.int x)), h) := zt_ireturn zi_189_93 zr_189
-- LatinRectanglesModel.empty(II)I
theorem zo_190 : z_own 190 = "LatinRectanglesModel" := by decide +kernel
theorem zm_190 : z_maxL 190 = 4 := by decide +kernel
theorem zh_190 : z_hds 190 = [] := by decide +kernel
theorem zr_190 : z_rt 190 = (some .int) := by decide +kernel
theorem zn_190 : z_Ca g d 190 [.ref a0, .int x1, .int x2] h P = z_T g d 190 0 [.ref a0, .int x1, .int x2, z_un] [] h P := z_Ca_ent zm_190 rfl rfl
theorem zi_190_0 : z_ins 190 0 = some (.aload_n 0, 1) := by decide +kernel
theorem ze_190_0 : z_T g d 190 0 (.ref a :: ls) st h P = z_T g d 190 1 (.ref a :: ls) (.ref a :: st) h P := zt_aloadn zi_190_0 rfl rfl
theorem zi_190_1 : z_ins 190 1 = some (.iload_n 1, 1) := by decide +kernel
theorem ze_190_1 : z_T g d 190 1 (v0 :: .int x :: ls) st h P = z_T g d 190 2 (v0 :: .int x :: ls) (.int x :: st) h P := zt_iloadn zi_190_1 rfl rfl
theorem zi_190_2 : z_ins 190 2 = some (.iload_n 2, 1) := by decide +kernel
theorem ze_190_2 : z_T g d 190 2 (v0 :: v1 :: .int x :: ls) st h P = z_T g d 190 3 (v0 :: v1 :: .int x :: ls) (.int x :: st) h P := zt_iloadn zi_190_2 rfl rfl
theorem zi_190_3 : z_ins 190 3 = some (.invokevirtual 201, 3) := by decide +kernel
theorem ze_190_3 : z_T g d 190 3 ls (.int x1 :: .int x0 :: .ref a :: st) h P = ((z_okS 8 st = true ∧ z_gO h.1 a 10 ∧ 0 < d) ∧ z_Ca g (d - 1) 144 [.ref a, .int x0, .int x1] h (fun r => z_k r (fun v h' => z_T g d 190 6 ls (z_push v st) h' P) P)) := zt_callV (as := [.int x0, .int x1]) zi_190_3 ((congrArg (fun o => z_lookup z_prs (o, 201)) zo_190).trans zp_LatinRectanglesModel_201) ((congrArg (fun o => z_clk o 201) zo_190).trans zk_LatinRectanglesModel_201) zh_190 zc_144 rfl rfl rfl
theorem zi_190_6 : z_ins 190 6 = some (.ifCond .ne 40, 3) := by decide +kernel
theorem ze_190_6 : z_T g d 190 6 ls (.int x :: st) h P = (if x = nI 0 then z_T g d 190 9 ls st h P else z_T g d 190 46 ls st h P) := zt_ifne zi_190_6 (by decide)
theorem zi_190_9 : z_ins 190 9 = some (.aload_n 0, 1) := by decide +kernel
theorem ze_190_9 : z_T g d 190 9 (.ref a :: ls) st h P = z_T g d 190 10 (.ref a :: ls) (.ref a :: st) h P := zt_aloadn zi_190_9 rfl rfl
theorem zi_190_10 : z_ins 190 10 = some (.aload_n 0, 1) := by decide +kernel
theorem ze_190_10 : z_T g d 190 10 (.ref a :: ls) st h P = z_T g d 190 11 (.ref a :: ls) (.ref a :: st) h P := zt_aloadn zi_190_10 rfl rfl
theorem zi_190_11 : z_ins 190 11 = some (.iload_n 1, 1) := by decide +kernel
theorem ze_190_11 : z_T g d 190 11 (v0 :: .int x :: ls) st h P = z_T g d 190 12 (v0 :: .int x :: ls) (.int x :: st) h P := zt_iloadn zi_190_11 rfl rfl
theorem zi_190_12 : z_ins 190 12 = some (.iload_n 2, 1) := by decide +kernel
theorem ze_190_12 : z_T g d 190 12 (v0 :: v1 :: .int x :: ls) st h P = z_T g d 190 13 (v0 :: v1 :: .int x :: ls) (.int x :: st) h P := zt_iloadn zi_190_12 rfl rfl
theorem zi_190_13 : z_ins 190 13 = some (.invokevirtual 180, 3) := by decide +kernel
theorem ze_190_13 : z_T g d 190 13 ls (.int x1 :: .int x0 :: .ref a :: st) h P = ((z_okS 8 st = true ∧ z_gO h.1 a 10 ∧ 0 < d) ∧ z_Ca g (d - 1) 145 [.ref a, .int x0, .int x1] h (fun r => z_k r (fun v h' => z_T g d 190 16 ls (z_push v st) h' P) P)) := zt_callV (as := [.int x0, .int x1]) zi_190_13 ((congrArg (fun o => z_lookup z_prs (o, 180)) zo_190).trans zp_LatinRectanglesModel_180) ((congrArg (fun o => z_clk o 180) zo_190).trans zk_LatinRectanglesModel_180) zh_190 zc_145 rfl rfl rfl
theorem zi_190_16 : z_ins 190 16 = some (.iconst (-1), 1) := by decide +kernel
theorem ze_190_16 : z_T g d 190 16 ls st h P = z_T g d 190 17 ls (.int (-1) :: st) h P := zt_iconst zi_190_16 rfl
theorem zi_190_17 : z_ins 190 17 = some (.if_icmp .eq 17, 3) := by decide +kernel
theorem ze_190_17 : z_T g d 190 17 ls (.int y :: .int x :: st) h P = (if x = y then z_T g d 190 34 ls st h P else z_T g d 190 20 ls st h P) := zt_icmpeq zi_190_17 (by decide)
theorem zi_190_20 : z_ins 190 20 = some (.aload_n 0, 1) := by decide +kernel
theorem ze_190_20 : z_T g d 190 20 (.ref a :: ls) st h P = z_T g d 190 21 (.ref a :: ls) (.ref a :: st) h P := zt_aloadn zi_190_20 rfl rfl
theorem zi_190_21 : z_ins 190 21 = some (.getfield 7, 3) := by decide +kernel
theorem ze_190_21 : z_T g d 190 21 ls (.ref a :: st) h P = z_gR h.1 a 10 7 (fun x => z_T g d 190 24 ls (.ref x :: st) h P) := zt_getR zi_190_21 ((congrArg (fun o => z_fl o 7) zo_190).trans zf_LatinRectanglesModel_7)
theorem zi_190_24 : z_ins 190 24 = some (.iload_n 1, 1) := by decide +kernel
theorem ze_190_24 : z_T g d 190 24 (v0 :: .int x :: ls) st h P = z_T g d 190 25 (v0 :: .int x :: ls) (.int x :: st) h P := zt_iloadn zi_190_24 rfl rfl
theorem zi_190_25 : z_ins 190 25 = some (.iload_n 2, 1) := by decide +kernel
theorem ze_190_25 : z_T g d 190 25 (v0 :: v1 :: .int x :: ls) st h P = z_T g d 190 26 (v0 :: v1 :: .int x :: ls) (.int x :: st) h P := zt_iloadn zi_190_25 rfl rfl
theorem zi_190_26 : z_ins 190 26 = some (.invokestatic 151, 3) := by decide +kernel
theorem ze_190_26 : z_T g d 190 26 ls (.int x1 :: .int x0 :: st) h P = ((z_okS 8 st = true ∧ 0 < d) ∧ z_Ca g (d - 1) 127 [.int x0, .int x1] h (fun r => z_k r (fun v h' => z_T g d 190 29 ls (z_push v st) h' P) P)) := zt_callS0 (as := [.int x0, .int x1]) zi_190_26 ((congrArg (fun o => z_lookup z_prs (o, 151)) zo_190).trans zp_LatinRectanglesModel_151) ((congrArg (fun o => z_clk o 151) zo_190).trans zk_LatinRectanglesModel_151) zh_190 rfl rfl rfl
theorem zi_190_29 : z_ins 190 29 = some (.iaload, 1) := by decide +kernel
theorem ze_190_29 : z_T g d 190 29 ls (.int x :: .ref a :: st) h P = z_aL h.1 a z_tI x (fun v => z_T g d 190 30 ls (.int v :: st) h P) := zt_iaload zi_190_29
theorem zi_190_30 : z_ins 190 30 = some (.iconst (-1), 1) := by decide +kernel
theorem ze_190_30 : z_T g d 190 30 ls st h P = z_T g d 190 31 ls (.int (-1) :: st) h P := zt_iconst zi_190_30 rfl
theorem zi_190_31 : z_ins 190 31 = some (.if_icmp .eq 7, 3) := by decide +kernel
theorem ze_190_31 : z_T g d 190 31 ls (.int y :: .int x :: st) h P = (if x = y then z_T g d 190 38 ls st h P else z_T g d 190 34 ls st h P) := zt_icmpeq zi_190_31 (by decide)
theorem zi_190_34 : z_ins 190 34 = some (.iconst 1, 1) := by decide +kernel
theorem ze_190_34 : z_T g d 190 34 ls st h P = z_T g d 190 35 ls (.int (nI 1) :: st) h P := zt_iconst zi_190_34 rfl
theorem zi_190_35 : z_ins 190 35 = some (.goto 4, 3) := by decide +kernel
theorem ze_190_35 : z_T g d 190 35 ls st h P = z_T g d 190 39 ls st h P := zt_goto zi_190_35 (by decide)
theorem zi_190_38 : z_ins 190 38 = some (.iconst 0, 1) := by decide +kernel
theorem ze_190_38 : z_T g d 190 38 ls st h P = z_T g d 190 39 ls (.int (nI 0) :: st) h P := zt_iconst zi_190_38 rfl
theorem zi_190_39 : z_ins 190 39 = some (.iconst 2, 1) := by decide +kernel
theorem ze_190_39 : z_T g d 190 39 ls st h P = z_T g d 190 40 ls (.int (nI 2) :: st) h P := zt_iconst zi_190_39 rfl
theorem zi_190_40 : z_ins 190 40 = some (.invokevirtual 167, 3) := by decide +kernel
theorem ze_190_40 : z_T g d 190 40 ls (.int x1 :: .int x0 :: .ref a :: st) h P = ((z_okS 8 st = true ∧ z_gO h.1 a 10 ∧ 0 < d) ∧ z_Ca g (d - 1) 123 [.ref a, .int x0, .int x1] h (fun r => z_k r (fun v h' => z_T g d 190 43 ls (z_push v st) h' P) P)) := zt_callV (as := [.int x0, .int x1]) zi_190_40 ((congrArg (fun o => z_lookup z_prs (o, 167)) zo_190).trans zp_LatinRectanglesModel_167) ((congrArg (fun o => z_clk o 167) zo_190).trans zk_LatinRectanglesModel_167) zh_190 zc_123 rfl rfl rfl
theorem zi_190_43 : z_ins 190 43 = some (.ifCond .eq 5, 3) := by decide +kernel
theorem ze_190_43 : z_T g d 190 43 ls (.int x :: st) h P = (if x = nI 0 then z_T g d 190 48 ls st h P else z_T g d 190 46 ls st h P) := zt_ifeq zi_190_43 (by decide)
theorem zi_190_46 : z_ins 190 46 = some (.iconst 0, 1) := by decide +kernel
theorem ze_190_46 : z_T g d 190 46 ls st h P = z_T g d 190 47 ls (.int (nI 0) :: st) h P := zt_iconst zi_190_46 rfl
theorem zi_190_47 : z_ins 190 47 = some (.ireturn, 1) := by decide +kernel
theorem ze_190_47 : z_T g d 190 47 ls [.int x] h P = P (.inr (some (.int x)), h) := zt_ireturn zi_190_47 zr_190
theorem zi_190_48 : z_ins 190 48 = some (.aload_n 0, 1) := by decide +kernel
theorem ze_190_48 : z_T g d 190 48 (.ref a :: ls) st h P = z_T g d 190 49 (.ref a :: ls) (.ref a :: st) h P := zt_aloadn zi_190_48 rfl rfl
theorem zi_190_49 : z_ins 190 49 = some (.invokevirtual 255, 3) := by decide +kernel
theorem ze_190_49 : z_T g d 190 49 ls (.ref a :: st) h P = ((z_okS 8 st = true ∧ z_gO h.1 a 10 ∧ 0 < d) ∧ z_Ca g (d - 1) 197 [.ref a] h (fun r => z_k r (fun v h' => z_T g d 190 52 ls (z_push v st) h' P) P)) := zt_callV (as := []) zi_190_49 ((congrArg (fun o => z_lookup z_prs (o, 255)) zo_190).trans zp_LatinRectanglesModel_255) ((congrArg (fun o => z_clk o 255) zo_190).trans zk_LatinRectanglesModel_255) zh_190 zc_197 rfl rfl rfl
theorem zi_190_52 : z_ins 190 52 = some (.aload_n 0, 1) := by decide +kernel
theorem ze_190_52 : z_T g d 190 52 (.ref a :: ls) st h P = z_T g d 190 53 (.ref a :: ls) (.ref a :: st) h P := zt_aloadn zi_190_52 rfl rfl
theorem zi_190_53 : z_ins 190 53 = some (.iload_n 1, 1) := by decide +kernel
theorem ze_190_53 : z_T g d 190 53 (v0 :: .int x :: ls) st h P = z_T g d 190 54 (v0 :: .int x :: ls) (.int x :: st) h P := zt_iloadn zi_190_53 rfl rfl
theorem zi_190_54 : z_ins 190 54 = some (.iload_n 2, 1) := by decide +kernel
theorem ze_190_54 : z_T g d 190 54 (v0 :: v1 :: .int x :: ls) st h P = z_T g d 190 55 (v0 :: v1 :: .int x :: ls) (.int x :: st) h P := zt_iloadn zi_190_54 rfl rfl
theorem zi_190_55 : z_ins 190 55 = some (.invokevirtual 180, 3) := by decide +kernel
theorem ze_190_55 : z_T g d 190 55 ls (.int x1 :: .int x0 :: .ref a :: st) h P = ((z_okS 8 st = true ∧ z_gO h.1 a 10 ∧ 0 < d) ∧ z_Ca g (d - 1) 145 [.ref a, .int x0, .int x1] h (fun r => z_k r (fun v h' => z_T g d 190 58 ls (z_push v st) h' P) P)) := zt_callV (as := [.int x0, .int x1]) zi_190_55 ((congrArg (fun o => z_lookup z_prs (o, 180)) zo_190).trans zp_LatinRectanglesModel_180) ((congrArg (fun o => z_clk o 180) zo_190).trans zk_LatinRectanglesModel_180) zh_190 zc_145 rfl rfl rfl
theorem zi_190_58 : z_ins 190 58 = some (.istore_n 3, 1) := by decide +kernel
theorem ze_190_58 : z_T g d 190 58 (v0 :: v1 :: v2 :: v3 :: ls) (.int x :: st) h P = z_T g d 190 59 (v0 :: v1 :: v2 :: .int x :: ls) st h P := zt_istoren zi_190_58 rfl (Nat.le_add_left 4 _)
theorem zi_190_59 : z_ins 190 59 = some (.aload_n 0, 1) := by decide +kernel
theorem ze_190_59 : z_T g d 190 59 (.ref a :: ls) st h P = z_T g d 190 60 (.ref a :: ls) (.ref a :: st) h P := zt_aloadn zi_190_59 rfl rfl
theorem zi_190_60 : z_ins 190 60 = some (.getfield 22, 3) := by decide +kernel
theorem ze_190_60 : z_T g d 190 60 ls (.ref a :: st) h P = z_gR h.1 a 10 11 (fun x => z_T g d 190 63 ls (.ref x :: st) h P) := zt_getR zi_190_60 ((congrArg (fun o => z_fl o 22) zo_190).trans zf_LatinRectanglesModel_22)
theorem zi_190_63 : z_ins 190 63 = some (.iload_n 1, 1) := by decide +kernel
theorem ze_190_63 : z_T g d 190 63 (v0 :: .int x :: ls) st h P = z_T g d 190 64 (v0 :: .int x :: ls) (.int x :: st) h P := zt_iloadn zi_190_63 rfl rfl
theorem zi_190_64 : z_ins 190 64 = some (.iload_n 2, 1) := by decide +kernel
theorem ze_190_64 : z_T g d 190 64 (v0 :: v1 :: .int x :: ls) st h P = z_T g d 190 65 (v0 :: v1 :: .int x :: ls) (.int x :: st) h P := zt_iloadn zi_190_64 rfl rfl
theorem zi_190_65 : z_ins 190 65 = some (.invokestatic 151, 3) := by decide +kernel
theorem ze_190_65 : z_T g d 190 65 ls (.int x1 :: .int x0 :: st) h P = ((z_okS 8 st = true ∧ 0 < d) ∧ z_Ca g (d - 1) 127 [.int x0, .int x1] h (fun r => z_k r (fun v h' => z_T g d 190 68 ls (z_push v st) h' P) P)) := zt_callS0 (as := [.int x0, .int x1]) zi_190_65 ((congrArg (fun o => z_lookup z_prs (o, 151)) zo_190).trans zp_LatinRectanglesModel_151) ((congrArg (fun o => z_clk o 151) zo_190).trans zk_LatinRectanglesModel_151) zh_190 rfl rfl rfl
theorem zi_190_68 : z_ins 190 68 = some (.iconst (-1), 1) := by decide +kernel
theorem ze_190_68 : z_T g d 190 68 ls st h P = z_T g d 190 69 ls (.int (-1) :: st) h P := zt_iconst zi_190_68 rfl
theorem zi_190_69 : z_ins 190 69 = some (.iastore, 1) := by decide +kernel
theorem ze_190_69 : z_T g d 190 69 ls (.int y :: .int x :: .ref a :: st) h P = z_aS h.1 a z_tI x y (fun f => z_T g d 190 70 ls st (f, h.2) P) := zt_iastore zi_190_69
theorem zi_190_70 : z_ins 190 70 = some (.iload_n 3, 1) := by decide +kernel
theorem ze_190_70 : z_T g d 190 70 (v0 :: v1 :: v2 :: .int x :: ls) st h P = z_T g d 190 71 (v0 :: v1 :: v2 :: .int x :: ls) (.int x :: st) h P := zt_iloadn zi_190_70 rfl rfl
theorem zi_190_71 : z_ins 190 71 = some (.ireturn, 1) := by decide +kernel
theorem ze_190_71 : z_T g d 190 71 ls [.int x] h P = P (.inr (some (.int x)), h) := zt_ireturn zi_190_71 zr_190
-- LatinRectanglesModel.propagate()I
theorem zo_191 : z_own 191 = "LatinRectanglesModel" := by decide +kernel
theorem zm_191 : z_maxL 191 = 3 := by decide +kernel
theorem zh_191 : z_hds 191 = [] := by decide +kernel
theorem zr_191 : z_rt 191 = (some .int) := by decide +kernel
theorem zn_191 : z_Ca g d 191 [.ref a0] h P = z_T g d 191 0 [.ref a0, z_un, z_un] [] h P := z_Ca_ent zm_191 rfl rfl
theorem zi_191_0 : z_ins 191 0 = some (.aload_n 0, 1) := by decide +kernel
theorem ze_191_0 : z_T g d 191 0 (.ref a :: ls) st h P = z_T g d 191 1 (.ref a :: ls) (.ref a :: st) h P := zt_aloadn zi_191_0 rfl rfl
theorem zi_191_1 : z_ins 191 1 = some (.iconst 0, 1) := by decide +kernel
theorem ze_191_1 : z_T g d 191 1 ls st h P = z_T g d 191 2 ls (.int (nI 0) :: st) h P := zt_iconst zi_191_1 rfl
theorem zi_191_2 : z_ins 191 2 = some (.putfield 67, 3) := by decide +kernel
theorem ze_191_2 : z_T g d 191 2 ls (.int x :: .ref a :: st) h P = z_pF h.1 a 10 0 (.int x) (fun f => z_T g d 191 5 ls st (f, h.2) P) := zt_putI zi_191_2 ((congrArg (fun o => z_fl o 67) zo_191).trans zf_LatinRectanglesModel_67)
theorem zi_191_5 : z_ins 191 5 = some (.aload_n 0, 1) := by decide +kernel
theorem ze_191_5 : z_T g d 191 5 (.ref a :: ls) st h P = z_T g d 191 6 (.ref a :: ls) (.ref a :: st) h P := zt_aloadn zi_191_5 rfl rfl
theorem zi_191_6 : z_ins 191 6 = some (.invokevirtual 255, 3) := by decide +kernel
theorem ze_191_6 : z_T g d 191 6 ls (.ref a :: st) h P = ((z_okS 8 st = true ∧ z_gO h.1 a 10 ∧ 0 < d) ∧ z_Ca g (d - 1) 197 [.ref a] h (fun r => z_k r (fun v h' => z_T g d 191 9 ls (z_push v st) h' P) P)) := zt_callV (as := []) zi_191_6 ((congrArg (fun o => z_lookup z_prs (o, 255)) zo_191).trans zp_LatinRectanglesModel_255) ((congrArg (fun o => z_clk o 255) zo_191).trans zk_LatinRectanglesModel_255) zh_191 zc_197 rfl rfl rfl
theorem zi_191_9 : z_ins 191 9 = some (.iconst 0, 1) := by decide +kernel
theorem ze_191_9 : z_T g d 191 9 ls st h P = z_T g d 191 10 ls (.int (nI 0) :: st) h P := zt_iconst zi_191_9 rfl
theorem zi_191_10 : z_ins 191 10 = some (.istore_n 1, 1) := by decide +kernel
theorem ze_191_10 : z_T g d 191 10 (v0 :: v1 :: ls) (.int x :: st) h P = z_T g d 191 11 (v0 :: .int x :: ls) st h P := zt_istoren zi_191_10 rfl (Nat.le_add_left 2 _)
theorem zi_191_11 : z_ins 191 11 = some (.aload_n 0, 1) := by decide +kernel
theorem ze_191_11 : z_T g d 191 11 (.ref a :: ls) st h P = z_T g d 191 12 (.ref a :: ls) (.ref a :: st) h P := zt_aloadn zi_191_11 rfl rfl
theorem zi_191_12 : z_ins 191 12 = some (.iconst 0, 1) := by decide +kernel
theorem ze_191_12 : z_T g d 191 12 ls st h P = z_T g d 191 13 ls (.int (nI 0) :: st) h P := zt_iconst zi_191_12 rfl
theorem zi_191_13 : z_ins 191 13 = some (.invokevirtual 217, 3) := by decide +kernel
theorem ze_191_13 : z_T g d 191 13 ls (.int x0 :: .ref a :: st) h P = ((z_okS 8 st = true ∧ z_gO h.1 a 10 ∧ 0 < d) ∧ z_Ca g (d - 1) 160 [.ref a, .int x0] h (fun r => z_k r (fun v h' => z_T g d 191 16 ls (z_push v st) h' P) P)) := zt_callV (as := [.int x0]) zi_191_13 ((congrArg (fun o => z_lookup z_prs (o, 217)) zo_191).trans zp_LatinRectanglesModel_217) ((congrArg (fun o => z_clk o 217) zo_191).trans zk_LatinRectanglesModel_217) zh_191 zc_160 rfl rfl rfl
theorem zi_191_16 : z_ins 191 16 = some (.istore_n 2, 1) := by decide +kernel
theorem ze_191_16 : z_T g d 191 16 (v0 :: v1 :: v2 :: ls) (.int x :: st) h P = z_T g d 191 17 (v0 :: v1 :: .int x :: ls) st h P := zt_istoren zi_191_16 rfl (Nat.le_add_left 3 _)
theorem zi_191_17 : z_ins 191 17 = some (.iload_n 2, 1) := by decide +kernel
theorem ze_191_17 : z_T g d 191 17 (v0 :: v1 :: .int x :: ls) st h P = z_T g d 191 18 (v0 :: v1 :: .int x :: ls) (.int x :: st) h P := zt_iloadn zi_191_17 rfl rfl
theorem zi_191_18 : z_ins 191 18 = some (.iconst (-1), 1) := by decide +kernel
theorem ze_191_18 : z_T g d 191 18 ls st h P = z_T g d 191 19 ls (.int (-1) :: st) h P := zt_iconst zi_191_18 rfl
theorem zi_191_19 : z_ins 191 19 = some (.if_icmp .eq 34, 3) := by decide +kernel
theorem ze_191_19 : z_T g d 191 19 ls (.int y :: .int x :: st) h P = (if x = y then z_T g d 191 53 ls st h P else z_T g d 191 22 ls st h P) := zt_icmpeq zi_191_19 (by decide)
theorem zi_191_22 : z_ins 191 22 = some (.aload_n 0, 1) := by decide +kernel
theorem ze_191_22 : z_T g d 191 22 (.ref a :: ls) st h P = z_T g d 191 23 (.ref a :: ls) (.ref a :: st) h P := zt_aloadn zi_191_22 rfl rfl
theorem zi_191_23 : z_ins 191 23 = some (.getfield 22, 3) := by decide +kernel
theorem ze_191_23 : z_T g d 191 23 ls (.ref a :: st) h P = z_gR h.1 a 10 11 (fun x => z_T g d 191 26 ls (.ref x :: st) h P) := zt_getR zi_191_23 ((congrArg (fun o => z_fl o 22) zo_191).trans zf_LatinRectanglesModel_22)
theorem zi_191_26 : z_ins 191 26 = some (.iload_n 2, 1) := by decide +kernel
theorem ze_191_26 : z_T g d 191 26 (v0 :: v1 :: .int x :: ls) st h P = z_T g d 191 27 (v0 :: v1 :: .int x :: ls) (.int x :: st) h P := zt_iloadn zi_191_26 rfl rfl
theorem zi_191_27 : z_ins 191 27 = some (.aload_n 0, 1) := by decide +kernel
theorem ze_191_27 : z_T g d 191 27 (.ref a :: ls) st h P = z_T g d 191 28 (.ref a :: ls) (.ref a :: st) h P := zt_aloadn zi_191_27 rfl rfl
theorem zi_191_28 : z_ins 191 28 = some (.iload_n 2, 1) := by decide +kernel
theorem ze_191_28 : z_T g d 191 28 (v0 :: v1 :: .int x :: ls) st h P = z_T g d 191 29 (v0 :: v1 :: .int x :: ls) (.int x :: st) h P := zt_iloadn zi_191_28 rfl rfl
theorem zi_191_29 : z_ins 191 29 = some (.iconst 5, 1) := by decide +kernel
theorem ze_191_29 : z_T g d 191 29 ls st h P = z_T g d 191 30 ls (.int (nI 5) :: st) h P := zt_iconst zi_191_29 rfl
theorem zi_191_30 : z_ins 191 30 = some (.idiv, 1) := by decide +kernel
theorem ze_191_30 : z_T g d 191 30 ls (.int y :: .int x :: st) h P = (¬ y = nI 0 ∧ z_T g d 191 31 ls (.int (x / y) :: st) h P) := zt_idiv zi_191_30
theorem zi_191_31 : z_ins 191 31 = some (.iload_n 2, 1) := by decide +kernel
theorem ze_191_31 : z_T g d 191 31 (v0 :: v1 :: .int x :: ls) st h P = z_T g d 191 32 (v0 :: v1 :: .int x :: ls) (.int x :: st) h P := zt_iloadn zi_191_31 rfl rfl
theorem zi_191_32 : z_ins 191 32 = some (.iconst 5, 1) := by decide +kernel
theorem ze_191_32 : z_T g d 191 32 ls st h P = z_T g d 191 33 ls (.int (nI 5) :: st) h P := zt_iconst zi_191_32 rfl
theorem zi_191_33 : z_ins 191 33 = some (.irem, 1) := by decide +kernel
theorem ze_191_33 : z_T g d 191 33 ls (.int y :: .int x :: st) h P = (¬ y = nI 0 ∧ z_T g d 191 34 ls (.int (x - x / y * y) :: st) h P) := zt_irem zi_191_33
theorem zi_191_34 : z_ins 191 34 = some (.invokevirtual 214, 3) := by decide +kernel
theorem ze_191_34 : z_T g d 191 34 ls (.int x1 :: .int x0 :: .ref a :: st) h P = ((z_okS 8 st = true ∧ z_gO h.1 a 10 ∧ 0 < d) ∧ z_Ca g (d - 1) 159 [.ref a, .int x0, .int x1] h (fun r => z_k r (fun v h' => z_T g d 191 37 ls (z_push v st) h' P) P)) := zt_callV (as := [.int x0, .int x1]) zi_191_34 ((congrArg (fun o => z_lookup z_prs (o, 214)) zo_191).trans zp_LatinRectanglesModel_214) ((congrArg (fun o => z_clk o 214) zo_191).trans zk_LatinRectanglesModel_214) zh_191 zc_159 rfl rfl rfl
theorem zi_191_37 : z_ins 191 37 = some (.bipush 8, 2) := by decide +kernel
theorem ze_191_37 : z_T g d 191 37 ls st h P = z_T g d 191 39 ls (.int (nI 8) :: st) h P := zt_bipush zi_191_37 rfl
theorem zi_191_39 : z_ins 191 39 = some (.idiv, 1) := by decide +kernel
theorem ze_191_39 : z_T g d 191 39 ls (.int y :: .int x :: st) h P = (¬ y = nI 0 ∧ z_T g d 191 40 ls (.int (x / y) :: st) h P) := zt_idiv zi_191_39
theorem zi_191_40 : z_ins 191 40 = some (.iastore, 1) := by decide +kernel
theorem ze_191_40 : z_T g d 191 40 ls (.int y :: .int x :: .ref a :: st) h P = z_aS h.1 a z_tI x y (fun f => z_T g d 191 41 ls st (f, h.2) P) := zt_iastore zi_191_40
theorem zi_191_41 : z_ins 191 41 = some (.iinc 1 1, 3) := by decide +kernel
theorem ze_191_41 : z_T g d 191 41 (v0 :: .int x :: ls) st h P = z_T g d 191 44 (v0 :: .int (x + (nI 1)) :: ls) st h P := zt_iinc zi_191_41 rfl rfl
theorem zi_191_44 : z_ins 191 44 = some (.aload_n 0, 1) := by decide +kernel
theorem ze_191_44 : z_T g d 191 44 (.ref a :: ls) st h P = z_T g d 191 45 (.ref a :: ls) (.ref a :: st) h P := zt_aloadn zi_191_44 rfl rfl
theorem zi_191_45 : z_ins 191 45 = some (.iconst 0, 1) := by decide +kernel
theorem ze_191_45 : z_T g d 191 45 ls st h P = z_T g d 191 46 ls (.int (nI 0) :: st) h P := zt_iconst zi_191_45 rfl
theorem zi_191_46 : z_ins 191 46 = some (.invokevirtual 217, 3) := by decide +kernel
theorem ze_191_46 : z_T g d 191 46 ls (.int x0 :: .ref a :: st) h P = ((z_okS 8 st = true ∧ z_gO h.1 a 10 ∧ 0 < d) ∧ z_Ca g (d - 1) 160 [.ref a, .int x0] h (fun r => z_k r (fun v h' => z_T g d 191 49 ls (z_push v st) h' P) P)) := zt_callV (as := [.int x0]) zi_191_46 ((congrArg (fun o => z_lookup z_prs (o, 217)) zo_191).trans zp_LatinRectanglesModel_217) ((congrArg (fun o => z_clk o 217) zo_191).trans zk_LatinRectanglesModel_217) zh_191 zc_160 rfl rfl rfl
theorem zi_191_49 : z_ins 191 49 = some (.istore_n 2, 1) := by decide +kernel
theorem ze_191_49 : z_T g d 191 49 (v0 :: v1 :: v2 :: ls) (.int x :: st) h P = z_T g d 191 50 (v0 :: v1 :: .int x :: ls) st h P := zt_istoren zi_191_49 rfl (Nat.le_add_left 3 _)
theorem zi_191_50 : z_ins 191 50 = some (.goto (-33), 3) := by decide +kernel
theorem ze_191_50 : z_T g d 191 50 ls st h P = z_T g d 191 17 ls st h P := zt_goto zi_191_50 (by decide)
theorem zi_191_53 : z_ins 191 53 = some (.iload_n 1, 1) := by decide +kernel
theorem ze_191_53 : z_T g d 191 53 (v0 :: .int x :: ls) st h P = z_T g d 191 54 (v0 :: .int x :: ls) (.int x :: st) h P := zt_iloadn zi_191_53 rfl rfl
theorem zi_191_54 : z_ins 191 54 = some (.ireturn, 1) := by decide +kernel
theorem ze_191_54 : z_T g d 191 54 ls [.int x] h P = P (.inr (some (.int x)), h) := zt_ireturn zi_191_54 zr_191
-- LatinRectanglesModel.fills(II)Z
theorem zo_192 : z_own 192 = "LatinRectanglesModel" := by decide +kernel
theorem zm_192 : z_maxL 192 = 6 := by decide +kernel
theorem zh_192 : z_hds 192 = [] := by decide +kernel
theorem zr_192 : z_rt 192 = (some .boolean) := by decide +kernel
theorem zn_192 : z_Ca g d 192 [.ref a0, .int x1, .int x2] h P = z_T g d 192 0 [.ref a0, .int x1, .int x2, z_un, z_un, z_un] [] h P := z_Ca_ent zm_192 rfl rfl
theorem zi_192_0 : z_ins 192 0 = some (.iload_n 2, 1) := by decide +kernel
theorem ze_192_0 : z_T g d 192 0 (v0 :: v1 :: .int x :: ls) st h P = z_T g d 192 1 (v0 :: v1 :: .int x :: ls) (.int x :: st) h P := zt_iloadn zi_192_0 rfl rfl
theorem zi_192_1 : z_ins 192 1 = some (.istore_n 3, 1) := by decide +kernel
theorem ze_192_1 : z_T g d 192 1 (v0 :: v1 :: v2 :: v3 :: ls) (.int x :: st) h P = z_T g d 192 2 (v0 :: v1 :: v2 :: .int x :: ls) st h P := zt_istoren zi_192_1 rfl (Nat.le_add_left 4 _)
theorem zi_192_2 : z_ins 192 2 = some (.iload_n 3, 1) := by decide +kernel
theorem ze_192_2 : z_T g d 192 2 (v0 :: v1 :: v2 :: .int x :: ls) st h P = z_T g d 192 3 (v0 :: v1 :: v2 :: .int x :: ls) (.int x :: st) h P := zt_iloadn zi_192_2 rfl rfl
theorem zi_192_3 : z_ins 192 3 = some (.aload_n 0, 1) := by decide +kernel
theorem ze_192_3 : z_T g d 192 3 (.ref a :: ls) st h P = z_T g d 192 4 (.ref a :: ls) (.ref a :: st) h P := zt_aloadn zi_192_3 rfl rfl
theorem zi_192_4 : z_ins 192 4 = some (.getfield 76, 3) := by decide +kernel
theorem ze_192_4 : z_T g d 192 4 ls (.ref a :: st) h P = z_gI h.1 a 10 2 (fun x => z_T g d 192 7 ls (.int x :: st) h P) := zt_getI zi_192_4 ((congrArg (fun o => z_fl o 76) zo_192).trans zf_LatinRectanglesModel_76)
theorem zi_192_7 : z_ins 192 7 = some (.if_icmp .ge 19, 3) := by decide +kernel
theorem ze_192_7 : z_T g d 192 7 ls (.int y :: .int x :: st) h P = (if x < y then z_T g d 192 10 ls st h P else z_T g d 192 26 ls st h P) := zt_icmpge zi_192_7 (by decide)
theorem zi_192_10 : z_ins 192 10 = some (.aload_n 0, 1) := by decide +kernel
theorem ze_192_10 : z_T g d 192 10 (.ref a :: ls) st h P = z_T g d 192 11 (.ref a :: ls) (.ref a :: st) h P := zt_aloadn zi_192_10 rfl rfl
theorem zi_192_11 : z_ins 192 11 = some (.iload_n 1, 1) := by decide +kernel
theorem ze_192_11 : z_T g d 192 11 (v0 :: .int x :: ls) st h P = z_T g d 192 12 (v0 :: .int x :: ls) (.int x :: st) h P := zt_iloadn zi_192_11 rfl rfl
theorem zi_192_12 : z_ins 192 12 = some (.iload_n 3, 1) := by decide +kernel
theorem ze_192_12 : z_T g d 192 12 (v0 :: v1 :: v2 :: .int x :: ls) st h P = z_T g d 192 13 (v0 :: v1 :: v2 :: .int x :: ls) (.int x :: st) h P := zt_iloadn zi_192_12 rfl rfl
theorem zi_192_13 : z_ins 192 13 = some (.invokevirtual 180, 3) := by decide +kernel
theorem ze_192_13 : z_T g d 192 13 ls (.int x1 :: .int x0 :: .ref a :: st) h P = ((z_okS 8 st = true ∧ z_gO h.1 a 10 ∧ 0 < d) ∧ z_Ca g (d - 1) 145 [.ref a, .int x0, .int x1] h (fun r => z_k r (fun v h' => z_T g d 192 16 ls (z_push v st) h' P) P)) := zt_callV (as := [.int x0, .int x1]) zi_192_13 ((congrArg (fun o => z_lookup z_prs (o, 180)) zo_192).trans zp_LatinRectanglesModel_180) ((congrArg (fun o => z_clk o 180) zo_192).trans zk_LatinRectanglesModel_180) zh_192 zc_145 rfl rfl rfl
theorem zi_192_16 : z_ins 192 16 = some (.iconst (-1), 1) := by decide +kernel
theorem ze_192_16 : z_T g d 192 16 ls st h P = z_T g d 192 17 ls (.int (-1) :: st) h P := zt_iconst zi_192_16 rfl
theorem zi_192_17 : z_ins 192 17 = some (.if_icmp .eq 9, 3) := by decide +kernel
theorem ze_192_17 : z_T g d 192 17 ls (.int y :: .int x :: st) h P = (if x = y then z_T g d 192 26 ls st h P else z_T g d 192 20 ls st h P) := zt_icmpeq zi_192_17 (by decide)
theorem zi_192_20 : z_ins 192 20 = some (.iinc 3 1, 3) := by decide +kernel
theorem ze_192_20 : z_T g d 192 20 (v0 :: v1 :: v2 :: .int x :: ls) st h P = z_T g d 192 23 (v0 :: v1 :: v2 :: .int (x + (nI 1)) :: ls) st h P := zt_iinc zi_192_20 rfl rfl
theorem zi_192_23 : z_ins 192 23 = some (.goto (-21), 3) := by decide +kernel
theorem ze_192_23 : z_T g d 192 23 ls st h P = z_T g d 192 2 ls st h P := zt_goto zi_192_23 (by decide)
theorem zi_192_26 : z_ins 192 26 = some (.iload_n 3, 1) := by decide +kernel
theorem ze_192_26 : z_T g d 192 26 (v0 :: v1 :: v2 :: .int x :: ls) st h P = z_T g d 192 27 (v0 :: v1 :: v2 :: .int x :: ls) (.int x :: st) h P := zt_iloadn zi_192_26 rfl rfl
theorem zi_192_27 : z_ins 192 27 = some (.aload_n 0, 1) := by decide +kernel
theorem ze_192_27 : z_T g d 192 27 (.ref a :: ls) st h P = z_T g d 192 28 (.ref a :: ls) (.ref a :: st) h P := zt_aloadn zi_192_27 rfl rfl
theorem zi_192_28 : z_ins 192 28 = some (.getfield 76, 3) := by decide +kernel
theorem ze_192_28 : z_T g d 192 28 ls (.ref a :: st) h P = z_gI h.1 a 10 2 (fun x => z_T g d 192 31 ls (.int x :: st) h P) := zt_getI zi_192_28 ((congrArg (fun o => z_fl o 76) zo_192).trans zf_LatinRectanglesModel_76)
theorem zi_192_31 : z_ins 192 31 = some (.if_icmp .ne 5, 3) := by decide +kernel
theorem ze_192_31 : z_T g d 192 31 ls (.int y :: .int x :: st) h P = (if x = y then z_T g d 192 34 ls st h P else z_T g d 192 36 ls st h P) := zt_icmpne zi_192_31 (by decide)
theorem zi_192_34 : z_ins 192 34 = some (.iconst 1, 1) := by decide +kernel
theorem ze_192_34 : z_T g d 192 34 ls st h P = z_T g d 192 35 ls (.int (nI 1) :: st) h P := zt_iconst zi_192_34 rfl
theorem zi_192_35 : z_ins 192 35 = some (.ireturn, 1) := by decide +kernel
theorem ze_192_35 : z_T g d 192 35 ls [.int x] h P = ((x = nI 0 ∨ x = nI 1) ∧ P (.inr (some (.int x)), h)) := zt_zreturn zi_192_35 zr_192
theorem zi_192_36 : z_ins 192 36 = some (.aload_n 0, 1) := by decide +kernel
theorem ze_192_36 : z_T g d 192 36 (.ref a :: ls) st h P = z_T g d 192 37 (.ref a :: ls) (.ref a :: st) h P := zt_aloadn zi_192_36 rfl rfl
theorem zi_192_37 : z_ins 192 37 = some (.iload_n 1, 1) := by decide +kernel
theorem ze_192_37 : z_T g d 192 37 (v0 :: .int x :: ls) st h P = z_T g d 192 38 (v0 :: .int x :: ls) (.int x :: st) h P := zt_iloadn zi_192_37 rfl rfl
theorem zi_192_38 : z_ins 192 38 = some (.iload_n 3, 1) := by decide +kernel
theorem ze_192_38 : z_T g d 192 38 (v0 :: v1 :: v2 :: .int x :: ls) st h P = z_T g d 192 39 (v0 :: v1 :: v2 :: .int x :: ls) (.int x :: st) h P := zt_iloadn zi_192_38 rfl rfl
theorem zi_192_39 : z_ins 192 39 = some (.invokevirtual 183, 3) := by decide +kernel
theorem ze_192_39 : z_T g d 192 39 ls (.int x1 :: .int x0 :: .ref a :: st) h P = ((z_okS 8 st = true ∧ z_gO h.1 a 10 ∧ 0 < d) ∧ z_Ca g (d - 1) 149 [.ref a, .int x0, .int x1] h (fun r => z_k r (fun v h' => z_T g d 192 42 ls (z_push v st) h' P) P)) := zt_callV (as := [.int x0, .int x1]) zi_192_39 ((congrArg (fun o => z_lookup z_prs (o, 183)) zo_192).trans zp_LatinRectanglesModel_183) ((congrArg (fun o => z_clk o 183) zo_192).trans zk_LatinRectanglesModel_183) zh_192 zc_149 rfl rfl rfl
theorem zi_192_42 : z_ins 192 42 = some (.istore 4, 2) := by decide +kernel
theorem ze_192_42 : z_T g d 192 42 (v0 :: v1 :: v2 :: v3 :: v4 :: ls) (.int x :: st) h P = z_T g d 192 44 (v0 :: v1 :: v2 :: v3 :: .int x :: ls) st h P := zt_istore zi_192_42 (Nat.le_add_left 5 _)
theorem zi_192_44 : z_ins 192 44 = some (.iconst 0, 1) := by decide +kernel
theorem ze_192_44 : z_T g d 192 44 ls st h P = z_T g d 192 45 ls (.int (nI 0) :: st) h P := zt_iconst zi_192_44 rfl
theorem zi_192_45 : z_ins 192 45 = some (.istore 5, 2) := by decide +kernel
theorem ze_192_45 : z_T g d 192 45 (v0 :: v1 :: v2 :: v3 :: v4 :: v5 :: ls) (.int x :: st) h P = z_T g d 192 47 (v0 :: v1 :: v2 :: v3 :: v4 :: .int x :: ls) st h P := zt_istore zi_192_45 (Nat.le_add_left 6 _)
theorem zi_192_47 : z_ins 192 47 = some (.iload 5, 2) := by decide +kernel
theorem ze_192_47 : z_T g d 192 47 (v0 :: v1 :: v2 :: v3 :: v4 :: .int x :: ls) st h P = z_T g d 192 49 (v0 :: v1 :: v2 :: v3 :: v4 :: .int x :: ls) (.int x :: st) h P := zt_iload zi_192_47 rfl
theorem zi_192_49 : z_ins 192 49 = some (.aload_n 0, 1) := by decide +kernel
theorem ze_192_49 : z_T g d 192 49 (.ref a :: ls) st h P = z_T g d 192 50 (.ref a :: ls) (.ref a :: st) h P := zt_aloadn zi_192_49 rfl rfl
theorem zi_192_50 : z_ins 192 50 = some (.getfield 76, 3) := by decide +kernel
theorem ze_192_50 : z_T g d 192 50 ls (.ref a :: st) h P = z_gI h.1 a 10 2 (fun x => z_T g d 192 53 ls (.int x :: st) h P) := zt_getI zi_192_50 ((congrArg (fun o => z_fl o 76) zo_192).trans zf_LatinRectanglesModel_76)
theorem zi_192_53 : z_ins 192 53 = some (.if_icmp .ge 58, 3) := by decide +kernel
theorem ze_192_53 : z_T g d 192 53 ls (.int y :: .int x :: st) h P = (if x < y then z_T g d 192 56 ls st h P else z_T g d 192 111 ls st h P) := zt_icmpge zi_192_53 (by decide)
theorem zi_192_56 : z_ins 192 56 = some (.iload 4, 2) := by decide +kernel
theorem ze_192_56 : z_T g d 192 56 (v0 :: v1 :: v2 :: v3 :: .int x :: ls) st h P = z_T g d 192 58 (v0 :: v1 :: v2 :: v3 :: .int x :: ls) (.int x :: st) h P := zt_iload zi_192_56 rfl
theorem zi_192_58 : z_ins 192 58 = some (.iload 5, 2) := by decide +kernel
theorem ze_192_58 : z_T g d 192 58 (v0 :: v1 :: v2 :: v3 :: v4 :: .int x :: ls) st h P = z_T g d 192 60 (v0 :: v1 :: v2 :: v3 :: v4 :: .int x :: ls) (.int x :: st) h P := zt_iload zi_192_58 rfl
theorem zi_192_60 : z_ins 192 60 = some (.ishr, 1) := by decide +kernel
theorem ze_192_60 : z_T g d 192 60 ls (.int y :: .int x :: st) h P = z_T g d 192 61 ls (.int (x >>> (y &&& 31)) :: st) h P := zt_bin (f := fun x y => x >>> (y &&& 31)) zi_192_60 rfl (fun _ _ _ => rfl)
theorem zi_192_61 : z_ins 192 61 = some (.iconst 1, 1) := by decide +kernel
theorem ze_192_61 : z_T g d 192 61 ls st h P = z_T g d 192 62 ls (.int (nI 1) :: st) h P := zt_iconst zi_192_61 rfl
theorem zi_192_62 : z_ins 192 62 = some (.iand, 1) := by decide +kernel
theorem ze_192_62 : z_T g d 192 62 ls (.int y :: .int x :: st) h P = z_T g d 192 63 ls (.int (x &&& y) :: st) h P := zt_bin (f := fun x y => x &&& y) zi_192_62 rfl (fun _ _ _ => rfl)
theorem zi_192_63 : z_ins 192 63 = some (.ifCond .ne 6, 3) := by decide +kernel
theorem ze_192_63 : z_T g d 192 63 ls (.int x :: st) h P = (if x = nI 0 then z_T g d 192 66 ls st h P else z_T g d 192 69 ls st h P) := zt_ifne zi_192_63 (by decide)
theorem zi_192_66 : z_ins 192 66 = some (.goto 39, 3) := by decide +kernel
theorem ze_192_66 : z_T g d 192 66 ls st h P = z_T g d 192 105 ls st h P := zt_goto zi_192_66 (by decide)
theorem zi_192_69 : z_ins 192 69 = some (.aload_n 0, 1) := by decide +kernel
theorem ze_192_69 : z_T g d 192 69 (.ref a :: ls) st h P = z_T g d 192 70 (.ref a :: ls) (.ref a :: st) h P := zt_aloadn zi_192_69 rfl rfl
theorem zi_192_70 : z_ins 192 70 = some (.getfield 22, 3) := by decide +kernel
theorem ze_192_70 : z_T g d 192 70 ls (.ref a :: st) h P = z_gR h.1 a 10 11 (fun x => z_T g d 192 73 ls (.ref x :: st) h P) := zt_getR zi_192_70 ((congrArg (fun o => z_fl o 22) zo_192).trans zf_LatinRectanglesModel_22)
theorem zi_192_73 : z_ins 192 73 = some (.iload_n 1, 1) := by decide +kernel
theorem ze_192_73 : z_T g d 192 73 (v0 :: .int x :: ls) st h P = z_T g d 192 74 (v0 :: .int x :: ls) (.int x :: st) h P := zt_iloadn zi_192_73 rfl rfl
theorem zi_192_74 : z_ins 192 74 = some (.iload_n 3, 1) := by decide +kernel
theorem ze_192_74 : z_T g d 192 74 (v0 :: v1 :: v2 :: .int x :: ls) st h P = z_T g d 192 75 (v0 :: v1 :: v2 :: .int x :: ls) (.int x :: st) h P := zt_iloadn zi_192_74 rfl rfl
theorem zi_192_75 : z_ins 192 75 = some (.invokestatic 151, 3) := by decide +kernel
theorem ze_192_75 : z_T g d 192 75 ls (.int x1 :: .int x0 :: st) h P = ((z_okS 8 st = true ∧ 0 < d) ∧ z_Ca g (d - 1) 127 [.int x0, .int x1] h (fun r => z_k r (fun v h' => z_T g d 192 78 ls (z_push v st) h' P) P)) := zt_callS0 (as := [.int x0, .int x1]) zi_192_75 ((congrArg (fun o => z_lookup z_prs (o, 151)) zo_192).trans zp_LatinRectanglesModel_151) ((congrArg (fun o => z_clk o 151) zo_192).trans zk_LatinRectanglesModel_151) zh_192 rfl rfl rfl
theorem zi_192_78 : z_ins 192 78 = some (.iload 5, 2) := by decide +kernel
theorem ze_192_78 : z_T g d 192 78 (v0 :: v1 :: v2 :: v3 :: v4 :: .int x :: ls) st h P = z_T g d 192 80 (v0 :: v1 :: v2 :: v3 :: v4 :: .int x :: ls) (.int x :: st) h P := zt_iload zi_192_78 rfl
theorem zi_192_80 : z_ins 192 80 = some (.iastore, 1) := by decide +kernel
theorem ze_192_80 : z_T g d 192 80 ls (.int y :: .int x :: .ref a :: st) h P = z_aS h.1 a z_tI x y (fun f => z_T g d 192 81 ls st (f, h.2) P) := zt_iastore zi_192_80
theorem zi_192_81 : z_ins 192 81 = some (.aload_n 0, 1) := by decide +kernel
theorem ze_192_81 : z_T g d 192 81 (.ref a :: ls) st h P = z_T g d 192 82 (.ref a :: ls) (.ref a :: st) h P := zt_aloadn zi_192_81 rfl rfl
theorem zi_192_82 : z_ins 192 82 = some (.iload_n 1, 1) := by decide +kernel
theorem ze_192_82 : z_T g d 192 82 (v0 :: .int x :: ls) st h P = z_T g d 192 83 (v0 :: .int x :: ls) (.int x :: st) h P := zt_iloadn zi_192_82 rfl rfl
theorem zi_192_83 : z_ins 192 83 = some (.iload_n 3, 1) := by decide +kernel
theorem ze_192_83 : z_T g d 192 83 (v0 :: v1 :: v2 :: .int x :: ls) st h P = z_T g d 192 84 (v0 :: v1 :: v2 :: .int x :: ls) (.int x :: st) h P := zt_iloadn zi_192_83 rfl rfl
theorem zi_192_84 : z_ins 192 84 = some (.iconst 1, 1) := by decide +kernel
theorem ze_192_84 : z_T g d 192 84 ls st h P = z_T g d 192 85 ls (.int (nI 1) :: st) h P := zt_iconst zi_192_84 rfl
theorem zi_192_85 : z_ins 192 85 = some (.iadd, 1) := by decide +kernel
theorem ze_192_85 : z_T g d 192 85 ls (.int y :: .int x :: st) h P = z_T g d 192 86 ls (.int (x + y) :: st) h P := zt_bin (f := fun x y => x + y) zi_192_85 rfl (fun _ _ _ => rfl)
theorem zi_192_86 : z_ins 192 86 = some (.invokevirtual 258, 3) := by decide +kernel
theorem ze_192_86 : z_T g d 192 86 ls (.int x1 :: .int x0 :: .ref a :: st) h P = ((z_okS 8 st = true ∧ z_gO h.1 a 10 ∧ 0 < d) ∧ z_Ca g (d - 1) 192 [.ref a, .int x0, .int x1] h (fun r => z_k r (fun v h' => z_T g d 192 89 ls (z_push v st) h' P) P)) := zt_callV (as := [.int x0, .int x1]) zi_192_86 ((congrArg (fun o => z_lookup z_prs (o, 258)) zo_192).trans zp_LatinRectanglesModel_258) ((congrArg (fun o => z_clk o 258) zo_192).trans zk_LatinRectanglesModel_258) zh_192 zc_192 rfl rfl rfl
theorem zi_192_89 : z_ins 192 89 = some (.ifCond .eq 5, 3) := by decide +kernel
theorem ze_192_89 : z_T g d 192 89 ls (.int x :: st) h P = (if x = nI 0 then z_T g d 192 94 ls st h P else z_T g d 192 92 ls st h P) := zt_ifeq zi_192_89 (by decide)
theorem zi_192_92 : z_ins 192 92 = some (.iconst 1, 1) := by decide +kernel
theorem ze_192_92 : z_T g d 192 92 ls st h P = z_T g d 192 93 ls (.int (nI 1) :: st) h P := zt_iconst zi_192_92 rfl
theorem zi_192_93 : z_ins 192 93 = some (.ireturn, 1) := by decide +kernel
theorem ze_192_93 : z_T g d 192 93 ls [.int x] h P = ((x = nI 0 ∨ x = nI 1) ∧ P (.inr (some (.int x)), h)) := zt_zreturn zi_192_93 zr_192
theorem zi_192_94 : z_ins 192 94 = some (.aload_n 0, 1) := by decide +kernel
theorem ze_192_94 : z_T g d 192 94 (.ref a :: ls) st h P = z_T g d 192 95 (.ref a :: ls) (.ref a :: st) h P := zt_aloadn zi_192_94 rfl rfl
theorem zi_192_95 : z_ins 192 95 = some (.getfield 22, 3) := by decide +kernel
theorem ze_192_95 : z_T g d 192 95 ls (.ref a :: st) h P = z_gR h.1 a 10 11 (fun x => z_T g d 192 98 ls (.ref x :: st) h P) := zt_getR zi_192_95 ((congrArg (fun o => z_fl o 22) zo_192).trans zf_LatinRectanglesModel_22)
theorem zi_192_98 : z_ins 192 98 = some (.iload_n 1, 1) := by decide +kernel
theorem ze_192_98 : z_T g d 192 98 (v0 :: .int x :: ls) st h P = z_T g d 192 99 (v0 :: .int x :: ls) (.int x :: st) h P := zt_iloadn zi_192_98 rfl rfl
theorem zi_192_99 : z_ins 192 99 = some (.iload_n 3, 1) := by decide +kernel
theorem ze_192_99 : z_T g d 192 99 (v0 :: v1 :: v2 :: .int x :: ls) st h P = z_T g d 192 100 (v0 :: v1 :: v2 :: .int x :: ls) (.int x :: st) h P := zt_iloadn zi_192_99 rfl rfl
theorem zi_192_100 : z_ins 192 100 = some (.invokestatic 151, 3) := by decide +kernel
theorem ze_192_100 : z_T g d 192 100 ls (.int x1 :: .int x0 :: st) h P = ((z_okS 8 st = true ∧ 0 < d) ∧ z_Ca g (d - 1) 127 [.int x0, .int x1] h (fun r => z_k r (fun v h' => z_T g d 192 103 ls (z_push v st) h' P) P)) := zt_callS0 (as := [.int x0, .int x1]) zi_192_100 ((congrArg (fun o => z_lookup z_prs (o, 151)) zo_192).trans zp_LatinRectanglesModel_151) ((congrArg (fun o => z_clk o 151) zo_192).trans zk_LatinRectanglesModel_151) zh_192 rfl rfl rfl
theorem zi_192_103 : z_ins 192 103 = some (.iconst (-1), 1) := by decide +kernel
theorem ze_192_103 : z_T g d 192 103 ls st h P = z_T g d 192 104 ls (.int (-1) :: st) h P := zt_iconst zi_192_103 rfl
theorem zi_192_104 : z_ins 192 104 = some (.iastore, 1) := by decide +kernel
theorem ze_192_104 : z_T g d 192 104 ls (.int y :: .int x :: .ref a :: st) h P = z_aS h.1 a z_tI x y (fun f => z_T g d 192 105 ls st (f, h.2) P) := zt_iastore zi_192_104
theorem zi_192_105 : z_ins 192 105 = some (.iinc 5 1, 3) := by decide +kernel
theorem ze_192_105 : z_T g d 192 105 (v0 :: v1 :: v2 :: v3 :: v4 :: .int x :: ls) st h P = z_T g d 192 108 (v0 :: v1 :: v2 :: v3 :: v4 :: .int (x + (nI 1)) :: ls) st h P := zt_iinc zi_192_105 rfl rfl
theorem zi_192_108 : z_ins 192 108 = some (.goto (-61), 3) := by decide +kernel
theorem ze_192_108 : z_T g d 192 108 ls st h P = z_T g d 192 47 ls st h P := zt_goto zi_192_108 (by decide)
theorem zi_192_111 : z_ins 192 111 = some (.iconst 0, 1) := by decide +kernel
theorem ze_192_111 : z_T g d 192 111 ls st h P = z_T g d 192 112 ls (.int (nI 0) :: st) h P := zt_iconst zi_192_111 rfl
theorem zi_192_112 : z_ins 192 112 = some (.ireturn, 1) := by decide +kernel
theorem ze_192_112 : z_T g d 192 112 ls [.int x] h P = ((x = nI 0 ∨ x = nI 1) ∧ P (.inr (some (.int x)), h)) := zt_zreturn zi_192_112 zr_192
-- LatinRectanglesModel.fillRow(I)I
theorem zo_193 : z_own 193 = "LatinRectanglesModel" := by decide +kernel
theorem zm_193 : z_maxL 193 = 4 := by decide +kernel
theorem zh_193 : z_hds 193 = [] := by decide +kernel
theorem zr_193 : z_rt 193 = (some .int) := by decide +kernel
theorem zn_193 : z_Ca g d 193 [.ref a0, .int x1] h P = z_T g d 193 0 [.ref a0, .int x1, z_un, z_un] [] h P := z_Ca_ent zm_193 rfl rfl
theorem zi_193_0 : z_ins 193 0 = some (.aload_n 0, 1) := by decide +kernel
theorem ze_193_0 : z_T g d 193 0 (.ref a :: ls) st h P = z_T g d 193 1 (.ref a :: ls) (.ref a :: st) h P := zt_aloadn zi_193_0 rfl rfl
theorem zi_193_1 : z_ins 193 1 = some (.iload_n 1, 1) := by decide +kernel
theorem ze_193_1 : z_T g d 193 1 (v0 :: .int x :: ls) st h P = z_T g d 193 2 (v0 :: .int x :: ls) (.int x :: st) h P := zt_iloadn zi_193_1 rfl rfl
theorem zi_193_2 : z_ins 193 2 = some (.invokevirtual 177, 3) := by decide +kernel
theorem ze_193_2 : z_T g d 193 2 ls (.int x0 :: .ref a :: st) h P = ((z_okS 8 st = true ∧ z_gO h.1 a 10 ∧ 0 < d) ∧ z_Ca g (d - 1) 143 [.ref a, .int x0] h (fun r => z_k r (fun v h' => z_T g d 193 5 ls (z_push v st) h' P) P)) := zt_callV (as := [.int x0]) zi_193_2 ((congrArg (fun o => z_lookup z_prs (o, 177)) zo_193).trans zp_LatinRectanglesModel_177) ((congrArg (fun o => z_clk o 177) zo_193).trans zk_LatinRectanglesModel_177) zh_193 zc_143 rfl rfl rfl
theorem zi_193_5 : z_ins 193 5 = some (.ifCond .eq 5, 3) := by decide +kernel
theorem ze_193_5 : z_T g d 193 5 ls (.int x :: st) h P = (if x = nI 0 then z_T g d 193 10 ls st h P else z_T g d 193 8 ls st h P) := zt_ifeq zi_193_5 (by decide)
theorem zi_193_8 : z_ins 193 8 = some (.iconst 0, 1) := by decide +kernel
theorem ze_193_8 : z_T g d 193 8 ls st h P = z_T g d 193 9 ls (.int (nI 0) :: st) h P := zt_iconst zi_193_8 rfl
theorem zi_193_9 : z_ins 193 9 = some (.ireturn, 1) := by decide +kernel
theorem ze_193_9 : z_T g d 193 9 ls [.int x] h P = P (.inr (some (.int x)), h) := zt_ireturn zi_193_9 zr_193
theorem zi_193_10 : z_ins 193 10 = some (.aload_n 0, 1) := by decide +kernel
theorem ze_193_10 : z_T g d 193 10 (.ref a :: ls) st h P = z_T g d 193 11 (.ref a :: ls) (.ref a :: st) h P := zt_aloadn zi_193_10 rfl rfl
theorem zi_193_11 : z_ins 193 11 = some (.invokevirtual 189, 3) := by decide +kernel
theorem ze_193_11 : z_T g d 193 11 ls (.ref a :: st) h P = ((z_okS 8 st = true ∧ z_gO h.1 a 10 ∧ 0 < d) ∧ z_Ca g (d - 1) 146 [.ref a] h (fun r => z_k r (fun v h' => z_T g d 193 14 ls (z_push v st) h' P) P)) := zt_callV (as := []) zi_193_11 ((congrArg (fun o => z_lookup z_prs (o, 189)) zo_193).trans zp_LatinRectanglesModel_189) ((congrArg (fun o => z_clk o 189) zo_193).trans zk_LatinRectanglesModel_189) zh_193 zc_146 rfl rfl rfl
theorem zi_193_14 : z_ins 193 14 = some (.istore_n 2, 1) := by decide +kernel
theorem ze_193_14 : z_T g d 193 14 (v0 :: v1 :: v2 :: ls) (.int x :: st) h P = z_T g d 193 15 (v0 :: v1 :: .int x :: ls) st h P := zt_istoren zi_193_14 rfl (Nat.le_add_left 3 _)
theorem zi_193_15 : z_ins 193 15 = some (.aload_n 0, 1) := by decide +kernel
theorem ze_193_15 : z_T g d 193 15 (.ref a :: ls) st h P = z_T g d 193 16 (.ref a :: ls) (.ref a :: st) h P := zt_aloadn zi_193_15 rfl rfl
theorem zi_193_16 : z_ins 193 16 = some (.getfield 22, 3) := by decide +kernel
theorem ze_193_16 : z_T g d 193 16 ls (.ref a :: st) h P = z_gR h.1 a 10 11 (fun x => z_T g d 193 19 ls (.ref x :: st) h P) := zt_getR zi_193_16 ((congrArg (fun o => z_fl o 22) zo_193).trans zf_LatinRectanglesModel_22)
theorem zi_193_19 : z_ins 193 19 = some (.iconst 0, 1) := by decide +kernel
theorem ze_193_19 : z_T g d 193 19 ls st h P = z_T g d 193 20 ls (.int (nI 0) :: st) h P := zt_iconst zi_193_19 rfl
theorem zi_193_20 : z_ins 193 20 = some (.aload_n 0, 1) := by decide +kernel
theorem ze_193_20 : z_T g d 193 20 (.ref a :: ls) st h P = z_T g d 193 21 (.ref a :: ls) (.ref a :: st) h P := zt_aloadn zi_193_20 rfl rfl
theorem zi_193_21 : z_ins 193 21 = some (.getfield 42, 3) := by decide +kernel
theorem ze_193_21 : z_T g d 193 21 ls (.ref a :: st) h P = z_gR h.1 a 10 26 (fun x => z_T g d 193 24 ls (.ref x :: st) h P) := zt_getR zi_193_21 ((congrArg (fun o => z_fl o 42) zo_193).trans zf_LatinRectanglesModel_42)
theorem zi_193_24 : z_ins 193 24 = some (.iconst 0, 1) := by decide +kernel
theorem ze_193_24 : z_T g d 193 24 ls st h P = z_T g d 193 25 ls (.int (nI 0) :: st) h P := zt_iconst zi_193_24 rfl
theorem zi_193_25 : z_ins 193 25 = some (.bipush 25, 2) := by decide +kernel
theorem ze_193_25 : z_T g d 193 25 ls st h P = z_T g d 193 27 ls (.int (nI 25) :: st) h P := zt_bipush zi_193_25 rfl
theorem zi_193_27 : z_ins 193 27 = some (.invokestatic 261, 3) := by decide +kernel
theorem ze_193_27 : z_T g d 193 27 ls (.int x4 :: .int x3 :: .ref a2 :: .int x1 :: .ref a0 :: st) h P = ((z_okS 8 st = true ∧ 0 < d) ∧ z_Ca g (d - 1) 196 [.ref a0, .int x1, .ref a2, .int x3, .int x4] h (fun r => z_k r (fun v h' => z_T g d 193 30 ls (z_push v st) h' P) P)) := zt_callS0 (as := [.ref a0, .int x1, .ref a2, .int x3, .int x4]) zi_193_27 ((congrArg (fun o => z_lookup z_prs (o, 261)) zo_193).trans zp_LatinRectanglesModel_261) ((congrArg (fun o => z_clk o 261) zo_193).trans zk_LatinRectanglesModel_261) zh_193 rfl rfl rfl
theorem zi_193_30 : z_ins 193 30 = some (.aload_n 0, 1) := by decide +kernel
theorem ze_193_30 : z_T g d 193 30 (.ref a :: ls) st h P = z_T g d 193 31 (.ref a :: ls) (.ref a :: st) h P := zt_aloadn zi_193_30 rfl rfl
theorem zi_193_31 : z_ins 193 31 = some (.iload_n 1, 1) := by decide +kernel
theorem ze_193_31 : z_T g d 193 31 (v0 :: .int x :: ls) st h P = z_T g d 193 32 (v0 :: .int x :: ls) (.int x :: st) h P := zt_iloadn zi_193_31 rfl rfl
theorem zi_193_32 : z_ins 193 32 = some (.iconst 0, 1) := by decide +kernel
theorem ze_193_32 : z_T g d 193 32 ls st h P = z_T g d 193 33 ls (.int (nI 0) :: st) h P := zt_iconst zi_193_32 rfl
theorem zi_193_33 : z_ins 193 33 = some (.invokevirtual 258, 3) := by decide +kernel
theorem ze_193_33 : z_T g d 193 33 ls (.int x1 :: .int x0 :: .ref a :: st) h P = ((z_okS 8 st = true ∧ z_gO h.1 a 10 ∧ 0 < d) ∧ z_Ca g (d - 1) 192 [.ref a, .int x0, .int x1] h (fun r => z_k r (fun v h' => z_T g d 193 36 ls (z_push v st) h' P) P)) := zt_callV (as := [.int x0, .int x1]) zi_193_33 ((congrArg (fun o => z_lookup z_prs (o, 258)) zo_193).trans zp_LatinRectanglesModel_258) ((congrArg (fun o => z_clk o 258) zo_193).trans zk_LatinRectanglesModel_258) zh_193 zc_192 rfl rfl rfl
theorem zi_193_36 : z_ins 193 36 = some (.istore_n 3, 1) := by decide +kernel
theorem ze_193_36 : z_T g d 193 36 (v0 :: v1 :: v2 :: v3 :: ls) (.int x :: st) h P = z_T g d 193 37 (v0 :: v1 :: v2 :: .int x :: ls) st h P := zt_istoren zi_193_36 rfl (Nat.le_add_left 4 _)
theorem zi_193_37 : z_ins 193 37 = some (.aload_n 0, 1) := by decide +kernel
theorem ze_193_37 : z_T g d 193 37 (.ref a :: ls) st h P = z_T g d 193 38 (.ref a :: ls) (.ref a :: st) h P := zt_aloadn zi_193_37 rfl rfl
theorem zi_193_38 : z_ins 193 38 = some (.getfield 22, 3) := by decide +kernel
theorem ze_193_38 : z_T g d 193 38 ls (.ref a :: st) h P = z_gR h.1 a 10 11 (fun x => z_T g d 193 41 ls (.ref x :: st) h P) := zt_getR zi_193_38 ((congrArg (fun o => z_fl o 22) zo_193).trans zf_LatinRectanglesModel_22)
theorem zi_193_41 : z_ins 193 41 = some (.iconst 0, 1) := by decide +kernel
theorem ze_193_41 : z_T g d 193 41 ls st h P = z_T g d 193 42 ls (.int (nI 0) :: st) h P := zt_iconst zi_193_41 rfl
theorem zi_193_42 : z_ins 193 42 = some (.aload_n 0, 1) := by decide +kernel
theorem ze_193_42 : z_T g d 193 42 (.ref a :: ls) st h P = z_T g d 193 43 (.ref a :: ls) (.ref a :: st) h P := zt_aloadn zi_193_42 rfl rfl
theorem zi_193_43 : z_ins 193 43 = some (.getfield 45, 3) := by decide +kernel
theorem ze_193_43 : z_T g d 193 43 ls (.ref a :: st) h P = z_gR h.1 a 10 27 (fun x => z_T g d 193 46 ls (.ref x :: st) h P) := zt_getR zi_193_43 ((congrArg (fun o => z_fl o 45) zo_193).trans zf_LatinRectanglesModel_45)
theorem zi_193_46 : z_ins 193 46 = some (.iconst 0, 1) := by decide +kernel
theorem ze_193_46 : z_T g d 193 46 ls st h P = z_T g d 193 47 ls (.int (nI 0) :: st) h P := zt_iconst zi_193_46 rfl
theorem zi_193_47 : z_ins 193 47 = some (.bipush 25, 2) := by decide +kernel
theorem ze_193_47 : z_T g d 193 47 ls st h P = z_T g d 193 49 ls (.int (nI 25) :: st) h P := zt_bipush zi_193_47 rfl
theorem zi_193_49 : z_ins 193 49 = some (.invokestatic 261, 3) := by decide +kernel
theorem ze_193_49 : z_T g d 193 49 ls (.int x4 :: .int x3 :: .ref a2 :: .int x1 :: .ref a0 :: st) h P = ((z_okS 8 st = true ∧ 0 < d) ∧ z_Ca g (d - 1) 196 [.ref a0, .int x1, .ref a2, .int x3, .int x4] h (fun r => z_k r (fun v h' => z_T g d 193 52 ls (z_push v st) h' P) P)) := zt_callS0 (as := [.ref a0, .int x1, .ref a2, .int x3, .int x4]) zi_193_49 ((congrArg (fun o => z_lookup z_prs (o, 261)) zo_193).trans zp_LatinRectanglesModel_261) ((congrArg (fun o => z_clk o 261) zo_193).trans zk_LatinRectanglesModel_261) zh_193 rfl rfl rfl
theorem zi_193_52 : z_ins 193 52 = some (.aload_n 0, 1) := by decide +kernel
theorem ze_193_52 : z_T g d 193 52 (.ref a :: ls) st h P = z_T g d 193 53 (.ref a :: ls) (.ref a :: st) h P := zt_aloadn zi_193_52 rfl rfl
theorem zi_193_53 : z_ins 193 53 = some (.getfield 42, 3) := by decide +kernel
theorem ze_193_53 : z_T g d 193 53 ls (.ref a :: st) h P = z_gR h.1 a 10 26 (fun x => z_T g d 193 56 ls (.ref x :: st) h P) := zt_getR zi_193_53 ((congrArg (fun o => z_fl o 42) zo_193).trans zf_LatinRectanglesModel_42)
theorem zi_193_56 : z_ins 193 56 = some (.iconst 0, 1) := by decide +kernel
theorem ze_193_56 : z_T g d 193 56 ls st h P = z_T g d 193 57 ls (.int (nI 0) :: st) h P := zt_iconst zi_193_56 rfl
theorem zi_193_57 : z_ins 193 57 = some (.aload_n 0, 1) := by decide +kernel
theorem ze_193_57 : z_T g d 193 57 (.ref a :: ls) st h P = z_T g d 193 58 (.ref a :: ls) (.ref a :: st) h P := zt_aloadn zi_193_57 rfl rfl
theorem zi_193_58 : z_ins 193 58 = some (.getfield 22, 3) := by decide +kernel
theorem ze_193_58 : z_T g d 193 58 ls (.ref a :: st) h P = z_gR h.1 a 10 11 (fun x => z_T g d 193 61 ls (.ref x :: st) h P) := zt_getR zi_193_58 ((congrArg (fun o => z_fl o 22) zo_193).trans zf_LatinRectanglesModel_22)
theorem zi_193_61 : z_ins 193 61 = some (.iconst 0, 1) := by decide +kernel
theorem ze_193_61 : z_T g d 193 61 ls st h P = z_T g d 193 62 ls (.int (nI 0) :: st) h P := zt_iconst zi_193_61 rfl
theorem zi_193_62 : z_ins 193 62 = some (.bipush 25, 2) := by decide +kernel
theorem ze_193_62 : z_T g d 193 62 ls st h P = z_T g d 193 64 ls (.int (nI 25) :: st) h P := zt_bipush zi_193_62 rfl
theorem zi_193_64 : z_ins 193 64 = some (.invokestatic 261, 3) := by decide +kernel
theorem ze_193_64 : z_T g d 193 64 ls (.int x4 :: .int x3 :: .ref a2 :: .int x1 :: .ref a0 :: st) h P = ((z_okS 8 st = true ∧ 0 < d) ∧ z_Ca g (d - 1) 196 [.ref a0, .int x1, .ref a2, .int x3, .int x4] h (fun r => z_k r (fun v h' => z_T g d 193 67 ls (z_push v st) h' P) P)) := zt_callS0 (as := [.ref a0, .int x1, .ref a2, .int x3, .int x4]) zi_193_64 ((congrArg (fun o => z_lookup z_prs (o, 261)) zo_193).trans zp_LatinRectanglesModel_261) ((congrArg (fun o => z_clk o 261) zo_193).trans zk_LatinRectanglesModel_261) zh_193 rfl rfl rfl
theorem zi_193_67 : z_ins 193 67 = some (.aload_n 0, 1) := by decide +kernel
theorem ze_193_67 : z_T g d 193 67 (.ref a :: ls) st h P = z_T g d 193 68 (.ref a :: ls) (.ref a :: st) h P := zt_aloadn zi_193_67 rfl rfl
theorem zi_193_68 : z_ins 193 68 = some (.iload_n 3, 1) := by decide +kernel
theorem ze_193_68 : z_T g d 193 68 (v0 :: v1 :: v2 :: .int x :: ls) st h P = z_T g d 193 69 (v0 :: v1 :: v2 :: .int x :: ls) (.int x :: st) h P := zt_iloadn zi_193_68 rfl rfl
theorem zi_193_69 : z_ins 193 69 = some (.ifCond .ne 7, 3) := by decide +kernel
theorem ze_193_69 : z_T g d 193 69 ls (.int x :: st) h P = (if x = nI 0 then z_T g d 193 72 ls st h P else z_T g d 193 76 ls st h P) := zt_ifne zi_193_69 (by decide)
theorem zi_193_72 : z_ins 193 72 = some (.iconst 1, 1) := by decide +kernel
theorem ze_193_72 : z_T g d 193 72 ls st h P = z_T g d 193 73 ls (.int (nI 1) :: st) h P := zt_iconst zi_193_72 rfl
theorem zi_193_73 : z_ins 193 73 = some (.goto 4, 3) := by decide +kernel
theorem ze_193_73 : z_T g d 193 73 ls st h P = z_T g d 193 77 ls st h P := zt_goto zi_193_73 (by decide)
theorem zi_193_76 : z_ins 193 76 = some (.iconst 0, 1) := by decide +kernel
theorem ze_193_76 : z_T g d 193 76 ls st h P = z_T g d 193 77 ls (.int (nI 0) :: st) h P := zt_iconst zi_193_76 rfl
theorem zi_193_77 : z_ins 193 77 = some (.iconst 2, 1) := by decide +kernel
theorem ze_193_77 : z_T g d 193 77 ls st h P = z_T g d 193 78 ls (.int (nI 2) :: st) h P := zt_iconst zi_193_77 rfl
theorem zi_193_78 : z_ins 193 78 = some (.invokevirtual 167, 3) := by decide +kernel
theorem ze_193_78 : z_T g d 193 78 ls (.int x1 :: .int x0 :: .ref a :: st) h P = ((z_okS 8 st = true ∧ z_gO h.1 a 10 ∧ 0 < d) ∧ z_Ca g (d - 1) 123 [.ref a, .int x0, .int x1] h (fun r => z_k r (fun v h' => z_T g d 193 81 ls (z_push v st) h' P) P)) := zt_callV (as := [.int x0, .int x1]) zi_193_78 ((congrArg (fun o => z_lookup z_prs (o, 167)) zo_193).trans zp_LatinRectanglesModel_167) ((congrArg (fun o => z_clk o 167) zo_193).trans zk_LatinRectanglesModel_167) zh_193 zc_123 rfl rfl rfl
theorem zi_193_81 : z_ins 193 81 = some (.ifCond .eq 5, 3) := by decide +kernel
theorem ze_193_81 : z_T g d 193 81 ls (.int x :: st) h P = (if x = nI 0 then z_T g d 193 86 ls st h P else z_T g d 193 84 ls st h P) := zt_ifeq zi_193_81 (by decide)
theorem zi_193_84 : z_ins 193 84 = some (.iconst 0, 1) := by decide +kernel
theorem ze_193_84 : z_T g d 193 84 ls st h P = z_T g d 193 85 ls (.int (nI 0) :: st) h P := zt_iconst zi_193_84 rfl
theorem zi_193_85 : z_ins 193 85 = some (.ireturn, 1) := by decide +kernel
theorem ze_193_85 : z_T g d 193 85 ls [.int x] h P = P (.inr (some (.int x)), h) := zt_ireturn zi_193_85 zr_193
theorem zi_193_86 : z_ins 193 86 = some (.aload_n 0, 1) := by decide +kernel
theorem ze_193_86 : z_T g d 193 86 (.ref a :: ls) st h P = z_T g d 193 87 (.ref a :: ls) (.ref a :: st) h P := zt_aloadn zi_193_86 rfl rfl
theorem zi_193_87 : z_ins 193 87 = some (.invokevirtual 255, 3) := by decide +kernel
theorem ze_193_87 : z_T g d 193 87 ls (.ref a :: st) h P = ((z_okS 8 st = true ∧ z_gO h.1 a 10 ∧ 0 < d) ∧ z_Ca g (d - 1) 197 [.ref a] h (fun r => z_k r (fun v h' => z_T g d 193 90 ls (z_push v st) h' P) P)) := zt_callV (as := []) zi_193_87 ((congrArg (fun o => z_lookup z_prs (o, 255)) zo_193).trans zp_LatinRectanglesModel_255) ((congrArg (fun o => z_clk o 255) zo_193).trans zk_LatinRectanglesModel_255) zh_193 zc_197 rfl rfl rfl
theorem zi_193_90 : z_ins 193 90 = some (.aload_n 0, 1) := by decide +kernel
theorem ze_193_90 : z_T g d 193 90 (.ref a :: ls) st h P = z_T g d 193 91 (.ref a :: ls) (.ref a :: st) h P := zt_aloadn zi_193_90 rfl rfl
theorem zi_193_91 : z_ins 193 91 = some (.getfield 45, 3) := by decide +kernel
theorem ze_193_91 : z_T g d 193 91 ls (.ref a :: st) h P = z_gR h.1 a 10 27 (fun x => z_T g d 193 94 ls (.ref x :: st) h P) := zt_getR zi_193_91 ((congrArg (fun o => z_fl o 45) zo_193).trans zf_LatinRectanglesModel_45)
theorem zi_193_94 : z_ins 193 94 = some (.iconst 0, 1) := by decide +kernel
theorem ze_193_94 : z_T g d 193 94 ls st h P = z_T g d 193 95 ls (.int (nI 0) :: st) h P := zt_iconst zi_193_94 rfl
theorem zi_193_95 : z_ins 193 95 = some (.aload_n 0, 1) := by decide +kernel
theorem ze_193_95 : z_T g d 193 95 (.ref a :: ls) st h P = z_T g d 193 96 (.ref a :: ls) (.ref a :: st) h P := zt_aloadn zi_193_95 rfl rfl
theorem zi_193_96 : z_ins 193 96 = some (.getfield 22, 3) := by decide +kernel
theorem ze_193_96 : z_T g d 193 96 ls (.ref a :: st) h P = z_gR h.1 a 10 11 (fun x => z_T g d 193 99 ls (.ref x :: st) h P) := zt_getR zi_193_96 ((congrArg (fun o => z_fl o 22) zo_193).trans zf_LatinRectanglesModel_22)
theorem zi_193_99 : z_ins 193 99 = some (.iconst 0, 1) := by decide +kernel
theorem ze_193_99 : z_T g d 193 99 ls st h P = z_T g d 193 100 ls (.int (nI 0) :: st) h P := zt_iconst zi_193_99 rfl
theorem zi_193_100 : z_ins 193 100 = some (.bipush 25, 2) := by decide +kernel
theorem ze_193_100 : z_T g d 193 100 ls st h P = z_T g d 193 102 ls (.int (nI 25) :: st) h P := zt_bipush zi_193_100 rfl
theorem zi_193_102 : z_ins 193 102 = some (.invokestatic 261, 3) := by decide +kernel
theorem ze_193_102 : z_T g d 193 102 ls (.int x4 :: .int x3 :: .ref a2 :: .int x1 :: .ref a0 :: st) h P = ((z_okS 8 st = true ∧ 0 < d) ∧ z_Ca g (d - 1) 196 [.ref a0, .int x1, .ref a2, .int x3, .int x4] h (fun r => z_k r (fun v h' => z_T g d 193 105 ls (z_push v st) h' P) P)) := zt_callS0 (as := [.ref a0, .int x1, .ref a2, .int x3, .int x4]) zi_193_102 ((congrArg (fun o => z_lookup z_prs (o, 261)) zo_193).trans zp_LatinRectanglesModel_261) ((congrArg (fun o => z_clk o 261) zo_193).trans zk_LatinRectanglesModel_261) zh_193 rfl rfl rfl
theorem zi_193_105 : z_ins 193 105 = some (.aload_n 0, 1) := by decide +kernel
theorem ze_193_105 : z_T g d 193 105 (.ref a :: ls) st h P = z_T g d 193 106 (.ref a :: ls) (.ref a :: st) h P := zt_aloadn zi_193_105 rfl rfl
theorem zi_193_106 : z_ins 193 106 = some (.invokevirtual 189, 3) := by decide +kernel
theorem ze_193_106 : z_T g d 193 106 ls (.ref a :: st) h P = ((z_okS 8 st = true ∧ z_gO h.1 a 10 ∧ 0 < d) ∧ z_Ca g (d - 1) 146 [.ref a] h (fun r => z_k r (fun v h' => z_T g d 193 109 ls (z_push v st) h' P) P)) := zt_callV (as := []) zi_193_106 ((congrArg (fun o => z_lookup z_prs (o, 189)) zo_193).trans zp_LatinRectanglesModel_189) ((congrArg (fun o => z_clk o 189) zo_193).trans zk_LatinRectanglesModel_189) zh_193 zc_146 rfl rfl rfl
theorem zi_193_109 : z_ins 193 109 = some (.iload_n 2, 1) := by decide +kernel
theorem ze_193_109 : z_T g d 193 109 (v0 :: v1 :: .int x :: ls) st h P = z_T g d 193 110 (v0 :: v1 :: .int x :: ls) (.int x :: st) h P := zt_iloadn zi_193_109 rfl rfl
theorem zi_193_110 : z_ins 193 110 = some (.isub, 1) := by decide +kernel
theorem ze_193_110 : z_T g d 193 110 ls (.int y :: .int x :: st) h P = z_T g d 193 111 ls (.int (x - y) :: st) h P := zt_bin (f := fun x y => x - y) zi_193_110 rfl (fun _ _ _ => rfl)
theorem zi_193_111 : z_ins 193 111 = some (.ireturn, 1) := by decide +kernel
theorem ze_193_111 : z_T g d 193 111 ls [.int x] h P = P (.inr (some (.int x)), h) := zt_ireturn zi_193_111 zr_193
-- LatinRectanglesModel.canSwitch(III)Z
theorem zo_194 : z_own 194 = "LatinRectanglesModel" := by decide +kernel
theorem zm_194 : z_maxL 194 = 6 := by decide +kernel
theorem zh_194 : z_hds 194 = [] := by decide +kernel
theorem zr_194 : z_rt 194 = (some .boolean) := by decide +kernel
theorem zn_194 : z_Ca g d 194 [.ref a0, .int x1, .int x2, .int x3] h P = z_T g d 194 0 [.ref a0, .int x1, .int x2, .int x3, z_un, z_un] [] h P := z_Ca_ent zm_194 rfl rfl
theorem zi_194_0 : z_ins 194 0 = some (.iconst 1, 1) := by decide +kernel
theorem ze_194_0 : z_T g d 194 0 ls st h P = z_T g d 194 1 ls (.int (nI 1) :: st) h P := zt_iconst zi_194_0 rfl
theorem zi_194_1 : z_ins 194 1 = some (.istore 4, 2) := by decide +kernel
theorem ze_194_1 : z_T g d 194 1 (v0 :: v1 :: v2 :: v3 :: v4 :: ls) (.int x :: st) h P = z_T g d 194 3 (v0 :: v1 :: v2 :: v3 :: .int x :: ls) st h P := zt_istore zi_194_1 (Nat.le_add_left 5 _)
theorem zi_194_3 : z_ins 194 3 = some (.iconst 0, 1) := by decide +kernel
theorem ze_194_3 : z_T g d 194 3 ls st h P = z_T g d 194 4 ls (.int (nI 0) :: st) h P := zt_iconst zi_194_3 rfl
theorem zi_194_4 : z_ins 194 4 = some (.istore 5, 2) := by decide +kernel
theorem ze_194_4 : z_T g d 194 4 (v0 :: v1 :: v2 :: v3 :: v4 :: v5 :: ls) (.int x :: st) h P = z_T g d 194 6 (v0 :: v1 :: v2 :: v3 :: v4 :: .int x :: ls) st h P := zt_istore zi_194_4 (Nat.le_add_left 6 _)
theorem zi_194_6 : z_ins 194 6 = some (.iload 5, 2) := by decide +kernel
theorem ze_194_6 : z_T g d 194 6 (v0 :: v1 :: v2 :: v3 :: v4 :: .int x :: ls) st h P = z_T g d 194 8 (v0 :: v1 :: v2 :: v3 :: v4 :: .int x :: ls) (.int x :: st) h P := zt_iload zi_194_6 rfl
theorem zi_194_8 : z_ins 194 8 = some (.aload_n 0, 1) := by decide +kernel
theorem ze_194_8 : z_T g d 194 8 (.ref a :: ls) st h P = z_T g d 194 9 (.ref a :: ls) (.ref a :: st) h P := zt_aloadn zi_194_8 rfl rfl
theorem zi_194_9 : z_ins 194 9 = some (.getfield 76, 3) := by decide +kernel
theorem ze_194_9 : z_T g d 194 9 ls (.ref a :: st) h P = z_gI h.1 a 10 2 (fun x => z_T g d 194 12 ls (.int x :: st) h P) := zt_getI zi_194_9 ((congrArg (fun o => z_fl o 76) zo_194).trans zf_LatinRectanglesModel_76)
theorem zi_194_12 : z_ins 194 12 = some (.if_icmp .ge 121, 3) := by decide +kernel
theorem ze_194_12 : z_T g d 194 12 ls (.int y :: .int x :: st) h P = (if x < y then z_T g d 194 15 ls st h P else z_T g d 194 133 ls st h P) := zt_icmpge zi_194_12 (by decide)
theorem zi_194_15 : z_ins 194 15 = some (.iload_n 3, 1) := by decide +kernel
theorem ze_194_15 : z_T g d 194 15 (v0 :: v1 :: v2 :: .int x :: ls) st h P = z_T g d 194 16 (v0 :: v1 :: v2 :: .int x :: ls) (.int x :: st) h P := zt_iloadn zi_194_15 rfl rfl
theorem zi_194_16 : z_ins 194 16 = some (.iload 5, 2) := by decide +kernel
theorem ze_194_16 : z_T g d 194 16 (v0 :: v1 :: v2 :: v3 :: v4 :: .int x :: ls) st h P = z_T g d 194 18 (v0 :: v1 :: v2 :: v3 :: v4 :: .int x :: ls) (.int x :: st) h P := zt_iload zi_194_16 rfl
theorem zi_194_18 : z_ins 194 18 = some (.ishr, 1) := by decide +kernel
theorem ze_194_18 : z_T g d 194 18 ls (.int y :: .int x :: st) h P = z_T g d 194 19 ls (.int (x >>> (y &&& 31)) :: st) h P := zt_bin (f := fun x y => x >>> (y &&& 31)) zi_194_18 rfl (fun _ _ _ => rfl)
theorem zi_194_19 : z_ins 194 19 = some (.iconst 1, 1) := by decide +kernel
theorem ze_194_19 : z_T g d 194 19 ls st h P = z_T g d 194 20 ls (.int (nI 1) :: st) h P := zt_iconst zi_194_19 rfl
theorem zi_194_20 : z_ins 194 20 = some (.iand, 1) := by decide +kernel
theorem ze_194_20 : z_T g d 194 20 ls (.int y :: .int x :: st) h P = z_T g d 194 21 ls (.int (x &&& y) :: st) h P := zt_bin (f := fun x y => x &&& y) zi_194_20 rfl (fun _ _ _ => rfl)
theorem zi_194_21 : z_ins 194 21 = some (.iconst 1, 1) := by decide +kernel
theorem ze_194_21 : z_T g d 194 21 ls st h P = z_T g d 194 22 ls (.int (nI 1) :: st) h P := zt_iconst zi_194_21 rfl
theorem zi_194_22 : z_ins 194 22 = some (.if_icmp .ne 105, 3) := by decide +kernel
theorem ze_194_22 : z_T g d 194 22 ls (.int y :: .int x :: st) h P = (if x = y then z_T g d 194 25 ls st h P else z_T g d 194 127 ls st h P) := zt_icmpne zi_194_22 (by decide)
theorem zi_194_25 : z_ins 194 25 = some (.iload 4, 2) := by decide +kernel
theorem ze_194_25 : z_T g d 194 25 (v0 :: v1 :: v2 :: v3 :: .int x :: ls) st h P = z_T g d 194 27 (v0 :: v1 :: v2 :: v3 :: .int x :: ls) (.int x :: st) h P := zt_iload zi_194_25 rfl
theorem zi_194_27 : z_ins 194 27 = some (.ifCond .eq 37, 3) := by decide +kernel
theorem ze_194_27 : z_T g d 194 27 ls (.int x :: st) h P = (if x = nI 0 then z_T g d 194 64 ls st h P else z_T g d 194 30 ls st h P) := zt_ifeq zi_194_27 (by decide)
theorem zi_194_30 : z_ins 194 30 = some (.aload_n 0, 1) := by decide +kernel
theorem ze_194_30 : z_T g d 194 30 (.ref a :: ls) st h P = z_T g d 194 31 (.ref a :: ls) (.ref a :: st) h P := zt_aloadn zi_194_30 rfl rfl
theorem zi_194_31 : z_ins 194 31 = some (.getfield 7, 3) := by decide +kernel
theorem ze_194_31 : z_T g d 194 31 ls (.ref a :: st) h P = z_gR h.1 a 10 7 (fun x => z_T g d 194 34 ls (.ref x :: st) h P) := zt_getR zi_194_31 ((congrArg (fun o => z_fl o 7) zo_194).trans zf_LatinRectanglesModel_7)
theorem zi_194_34 : z_ins 194 34 = some (.iload_n 1, 1) := by decide +kernel
theorem ze_194_34 : z_T g d 194 34 (v0 :: .int x :: ls) st h P = z_T g d 194 35 (v0 :: .int x :: ls) (.int x :: st) h P := zt_iloadn zi_194_34 rfl rfl
theorem zi_194_35 : z_ins 194 35 = some (.iload 5, 2) := by decide +kernel
theorem ze_194_35 : z_T g d 194 35 (v0 :: v1 :: v2 :: v3 :: v4 :: .int x :: ls) st h P = z_T g d 194 37 (v0 :: v1 :: v2 :: v3 :: v4 :: .int x :: ls) (.int x :: st) h P := zt_iload zi_194_35 rfl
theorem zi_194_37 : z_ins 194 37 = some (.invokestatic 151, 3) := by decide +kernel
theorem ze_194_37 : z_T g d 194 37 ls (.int x1 :: .int x0 :: st) h P = ((z_okS 8 st = true ∧ 0 < d) ∧ z_Ca g (d - 1) 127 [.int x0, .int x1] h (fun r => z_k r (fun v h' => z_T g d 194 40 ls (z_push v st) h' P) P)) := zt_callS0 (as := [.int x0, .int x1]) zi_194_37 ((congrArg (fun o => z_lookup z_prs (o, 151)) zo_194).trans zp_LatinRectanglesModel_151) ((congrArg (fun o => z_clk o 151) zo_194).trans zk_LatinRectanglesModel_151) zh_194 rfl rfl rfl
theorem zi_194_40 : z_ins 194 40 = some (.iaload, 1) := by decide +kernel
theorem ze_194_40 : z_T g d 194 40 ls (.int x :: .ref a :: st) h P = z_aL h.1 a z_tI x (fun v => z_T g d 194 41 ls (.int v :: st) h P) := zt_iaload zi_194_40
theorem zi_194_41 : z_ins 194 41 = some (.iconst (-1), 1) := by decide +kernel
theorem ze_194_41 : z_T g d 194 41 ls st h P = z_T g d 194 42 ls (.int (-1) :: st) h P := zt_iconst zi_194_41 rfl
theorem zi_194_42 : z_ins 194 42 = some (.if_icmp .ne 22, 3) := by decide +kernel
theorem ze_194_42 : z_T g d 194 42 ls (.int y :: .int x :: st) h P = (if x = y then z_T g d 194 45 ls st h P else z_T g d 194 64 ls st h P) := zt_icmpne zi_194_42 (by decide)
theorem zi_194_45 : z_ins 194 45 = some (.aload_n 0, 1) := by decide +kernel
theorem ze_194_45 : z_T g d 194 45 (.ref a :: ls) st h P = z_T g d 194 46 (.ref a :: ls) (.ref a :: st) h P := zt_aloadn zi_194_45 rfl rfl
theorem zi_194_46 : z_ins 194 46 = some (.getfield 7, 3) := by decide +kernel
theorem ze_194_46 : z_T g d 194 46 ls (.ref a :: st) h P = z_gR h.1 a 10 7 (fun x => z_T g d 194 49 ls (.ref x :: st) h P) := zt_getR zi_194_46 ((congrArg (fun o => z_fl o 7) zo_194).trans zf_LatinRectanglesModel_7)
theorem zi_194_49 : z_ins 194 49 = some (.iload_n 2, 1) := by decide +kernel
theorem ze_194_49 : z_T g d 194 49 (v0 :: v1 :: .int x :: ls) st h P = z_T g d 194 50 (v0 :: v1 :: .int x :: ls) (.int x :: st) h P := zt_iloadn zi_194_49 rfl rfl
theorem zi_194_50 : z_ins 194 50 = some (.iload 5, 2) := by decide +kernel
theorem ze_194_50 : z_T g d 194 50 (v0 :: v1 :: v2 :: v3 :: v4 :: .int x :: ls) st h P = z_T g d 194 52 (v0 :: v1 :: v2 :: v3 :: v4 :: .int x :: ls) (.int x :: st) h P := zt_iload zi_194_50 rfl
theorem zi_194_52 : z_ins 194 52 = some (.invokestatic 151, 3) := by decide +kernel
theorem ze_194_52 : z_T g d 194 52 ls (.int x1 :: .int x0 :: st) h P = ((z_okS 8 st = true ∧ 0 < d) ∧ z_Ca g (d - 1) 127 [.int x0, .int x1] h (fun r => z_k r (fun v h' => z_T g d 194 55 ls (z_push v st) h' P) P)) := zt_callS0 (as := [.int x0, .int x1]) zi_194_52 ((congrArg (fun o => z_lookup z_prs (o, 151)) zo_194).trans zp_LatinRectanglesModel_151) ((congrArg (fun o => z_clk o 151) zo_194).trans zk_LatinRectanglesModel_151) zh_194 rfl rfl rfl
theorem zi_194_55 : z_ins 194 55 = some (.iaload, 1) := by decide +kernel
theorem ze_194_55 : z_T g d 194 55 ls (.int x :: .ref a :: st) h P = z_aL h.1 a z_tI x (fun v => z_T g d 194 56 ls (.int v :: st) h P) := zt_iaload zi_194_55
theorem zi_194_56 : z_ins 194 56 = some (.iconst (-1), 1) := by decide +kernel
theorem ze_194_56 : z_T g d 194 56 ls st h P = z_T g d 194 57 ls (.int (-1) :: st) h P := zt_iconst zi_194_56 rfl
theorem zi_194_57 : z_ins 194 57 = some (.if_icmp .ne 7, 3) := by decide +kernel
theorem ze_194_57 : z_T g d 194 57 ls (.int y :: .int x :: st) h P = (if x = y then z_T g d 194 60 ls st h P else z_T g d 194 64 ls st h P) := zt_icmpne zi_194_57 (by decide)
theorem zi_194_60 : z_ins 194 60 = some (.iconst 1, 1) := by decide +kernel
theorem ze_194_60 : z_T g d 194 60 ls st h P = z_T g d 194 61 ls (.int (nI 1) :: st) h P := zt_iconst zi_194_60 rfl
theorem zi_194_61 : z_ins 194 61 = some (.goto 4, 3) := by decide +kernel
theorem ze_194_61 : z_T g d 194 61 ls st h P = z_T g d 194 65 ls st h P := zt_goto zi_194_61 (by decide)
theorem zi_194_64 : z_ins 194 64 = some (.iconst 0, 1) := by decide +kernel
theorem ze_194_64 : z_T g d 194 64 ls st h P = z_T g d 194 65 ls (.int (nI 0) :: st) h P := zt_iconst zi_194_64 rfl
theorem zi_194_65 : z_ins 194 65 = some (.istore 4, 2) := by decide +kernel
theorem ze_194_65 : z_T g d 194 65 (v0 :: v1 :: v2 :: v3 :: v4 :: ls) (.int x :: st) h P = z_T g d 194 67 (v0 :: v1 :: v2 :: v3 :: .int x :: ls) st h P := zt_istore zi_194_65 (Nat.le_add_left 5 _)
theorem zi_194_67 : z_ins 194 67 = some (.iload 4, 2) := by decide +kernel
theorem ze_194_67 : z_T g d 194 67 (v0 :: v1 :: v2 :: v3 :: .int x :: ls) st h P = z_T g d 194 69 (v0 :: v1 :: v2 :: v3 :: .int x :: ls) (.int x :: st) h P := zt_iload zi_194_67 rfl
theorem zi_194_69 : z_ins 194 69 = some (.ifCond .eq 55, 3) := by decide +kernel
theorem ze_194_69 : z_T g d 194 69 ls (.int x :: st) h P = (if x = nI 0 then z_T g d 194 124 ls st h P else z_T g d 194 72 ls st h P) := zt_ifeq zi_194_69 (by decide)
theorem zi_194_72 : z_ins 194 72 = some (.aload_n 0, 1) := by decide +kernel
theorem ze_194_72 : z_T g d 194 72 (.ref a :: ls) st h P = z_T g d 194 73 (.ref a :: ls) (.ref a :: st) h P := zt_aloadn zi_194_72 rfl rfl
theorem zi_194_73 : z_ins 194 73 = some (.getfield 13, 3) := by decide +kernel
theorem ze_194_73 : z_T g d 194 73 ls (.ref a :: st) h P = z_gR h.1 a 10 8 (fun x => z_T g d 194 76 ls (.ref x :: st) h P) := zt_getR zi_194_73 ((congrArg (fun o => z_fl o 13) zo_194).trans zf_LatinRectanglesModel_13)
theorem zi_194_76 : z_ins 194 76 = some (.iload_n 1, 1) := by decide +kernel
theorem ze_194_76 : z_T g d 194 76 (v0 :: .int x :: ls) st h P = z_T g d 194 77 (v0 :: .int x :: ls) (.int x :: st) h P := zt_iloadn zi_194_76 rfl rfl
theorem zi_194_77 : z_ins 194 77 = some (.iload 5, 2) := by decide +kernel
theorem ze_194_77 : z_T g d 194 77 (v0 :: v1 :: v2 :: v3 :: v4 :: .int x :: ls) st h P = z_T g d 194 79 (v0 :: v1 :: v2 :: v3 :: v4 :: .int x :: ls) (.int x :: st) h P := zt_iload zi_194_77 rfl
theorem zi_194_79 : z_ins 194 79 = some (.invokestatic 151, 3) := by decide +kernel
theorem ze_194_79 : z_T g d 194 79 ls (.int x1 :: .int x0 :: st) h P = ((z_okS 8 st = true ∧ 0 < d) ∧ z_Ca g (d - 1) 127 [.int x0, .int x1] h (fun r => z_k r (fun v h' => z_T g d 194 82 ls (z_push v st) h' P) P)) := zt_callS0 (as := [.int x0, .int x1]) zi_194_79 ((congrArg (fun o => z_lookup z_prs (o, 151)) zo_194).trans zp_LatinRectanglesModel_151) ((congrArg (fun o => z_clk o 151) zo_194).trans zk_LatinRectanglesModel_151) zh_194 rfl rfl rfl
theorem zi_194_82 : z_ins 194 82 = some (.iaload, 1) := by decide +kernel
theorem ze_194_82 : z_T g d 194 82 ls (.int x :: .ref a :: st) h P = z_aL h.1 a z_tI x (fun v => z_T g d 194 83 ls (.int v :: st) h P) := zt_iaload zi_194_82
theorem zi_194_83 : z_ins 194 83 = some (.aload_n 0, 1) := by decide +kernel
theorem ze_194_83 : z_T g d 194 83 (.ref a :: ls) st h P = z_T g d 194 84 (.ref a :: ls) (.ref a :: st) h P := zt_aloadn zi_194_83 rfl rfl
theorem zi_194_84 : z_ins 194 84 = some (.iload_n 2, 1) := by decide +kernel
theorem ze_194_84 : z_T g d 194 84 (v0 :: v1 :: .int x :: ls) st h P = z_T g d 194 85 (v0 :: v1 :: .int x :: ls) (.int x :: st) h P := zt_iloadn zi_194_84 rfl rfl
theorem zi_194_85 : z_ins 194 85 = some (.iload 5, 2) := by decide +kernel
theorem ze_194_85 : z_T g d 194 85 (v0 :: v1 :: v2 :: v3 :: v4 :: .int x :: ls) st h P = z_T g d 194 87 (v0 :: v1 :: v2 :: v3 :: v4 :: .int x :: ls) (.int x :: st) h P := zt_iload zi_194_85 rfl
theorem zi_194_87 : z_ins 194 87 = some (.invokevirtual 180, 3) := by decide +kernel
theorem ze_194_87 : z_T g d 194 87 ls (.int x1 :: .int x0 :: .ref a :: st) h P = ((z_okS 8 st = true ∧ z_gO h.1 a 10 ∧ 0 < d) ∧ z_Ca g (d - 1) 145 [.ref a, .int x0, .int x1] h (fun r => z_k r (fun v h' => z_T g d 194 90 ls (z_push v st) h' P) P)) := zt_callV (as := [.int x0, .int x1]) zi_194_87 ((congrArg (fun o => z_lookup z_prs (o, 180)) zo_194).trans zp_LatinRectanglesModel_180) ((congrArg (fun o => z_clk o 180) zo_194).trans zk_LatinRectanglesModel_180) zh_194 zc_145 rfl rfl rfl
theorem zi_194_90 : z_ins 194 90 = some (.ishr, 1) := by decide +kernel
theorem ze_194_90 : z_T g d 194 90 ls (.int y :: .int x :: st) h P = z_T g d 194 91 ls (.int (x >>> (y &&& 31)) :: st) h P := zt_bin (f := fun x y => x >>> (y &&& 31)) zi_194_90 rfl (fun _ _ _ => rfl)
theorem zi_194_91 : z_ins 194 91 = some (.iconst 1, 1) := by decide +kernel
theorem ze_194_91 : z_T g d 194 91 ls st h P = z_T g d 194 92 ls (.int (nI 1) :: st) h P := zt_iconst zi_194_91 rfl
theorem zi_194_92 : z_ins 194 92 = some (.iand, 1) := by decide +kernel
theorem ze_194_92 : z_T g d 194 92 ls (.int y :: .int x :: st) h P = z_T g d 194 93 ls (.int (x &&& y) :: st) h P := zt_bin (f := fun x y => x &&& y) zi_194_92 rfl (fun _ _ _ => rfl)
theorem zi_194_93 : z_ins 194 93 = some (.ifCond .ne 31, 3) := by decide +kernel
theorem ze_194_93 : z_T g d 194 93 ls (.int x :: st) h P = (if x = nI 0 then z_T g d 194 96 ls st h P else z_T g d 194 124 ls st h P) := zt_ifne zi_194_93 (by decide)
theorem zi_194_96 : z_ins 194 96 = some (.aload_n 0, 1) := by decide +kernel
theorem ze_194_96 : z_T g d 194 96 (.ref a :: ls) st h P = z_T g d 194 97 (.ref a :: ls) (.ref a :: st) h P := zt_aloadn zi_194_96 rfl rfl
theorem zi_194_97 : z_ins 194 97 = some (.getfield 13, 3) := by decide +kernel
theorem ze_194_97 : z_T g d 194 97 ls (.ref a :: st) h P = z_gR h.1 a 10 8 (fun x => z_T g d 194 100 ls (.ref x :: st) h P) := zt_getR zi_194_97 ((congrArg (fun o => z_fl o 13) zo_194).trans zf_LatinRectanglesModel_13)
theorem zi_194_100 : z_ins 194 100 = some (.iload_n 2, 1) := by decide +kernel
theorem ze_194_100 : z_T g d 194 100 (v0 :: v1 :: .int x :: ls) st h P = z_T g d 194 101 (v0 :: v1 :: .int x :: ls) (.int x :: st) h P := zt_iloadn zi_194_100 rfl rfl
theorem zi_194_101 : z_ins 194 101 = some (.iload 5, 2) := by decide +kernel
theorem ze_194_101 : z_T g d 194 101 (v0 :: v1 :: v2 :: v3 :: v4 :: .int x :: ls) st h P = z_T g d 194 103 (v0 :: v1 :: v2 :: v3 :: v4 :: .int x :: ls) (.int x :: st) h P := zt_iload zi_194_101 rfl
theorem zi_194_103 : z_ins 194 103 = some (.invokestatic 151, 3) := by decide +kernel
theorem ze_194_103 : z_T g d 194 103 ls (.int x1 :: .int x0 :: st) h P = ((z_okS 8 st = true ∧ 0 < d) ∧ z_Ca g (d - 1) 127 [.int x0, .int x1] h (fun r => z_k r (fun v h' => z_T g d 194 106 ls (z_push v st) h' P) P)) := zt_callS0 (as := [.int x0, .int x1]) zi_194_103 ((congrArg (fun o => z_lookup z_prs (o, 151)) zo_194).trans zp_LatinRectanglesModel_151) ((congrArg (fun o => z_clk o 151) zo_194).trans zk_LatinRectanglesModel_151) zh_194 rfl rfl rfl
theorem zi_194_106 : z_ins 194 106 = some (.iaload, 1) := by decide +kernel
theorem ze_194_106 : z_T g d 194 106 ls (.int x :: .ref a :: st) h P = z_aL h.1 a z_tI x (fun v => z_T g d 194 107 ls (.int v :: st) h P) := zt_iaload zi_194_106
theorem zi_194_107 : z_ins 194 107 = some (.aload_n 0, 1) := by decide +kernel
theorem ze_194_107 : z_T g d 194 107 (.ref a :: ls) st h P = z_T g d 194 108 (.ref a :: ls) (.ref a :: st) h P := zt_aloadn zi_194_107 rfl rfl
theorem zi_194_108 : z_ins 194 108 = some (.iload_n 1, 1) := by decide +kernel
theorem ze_194_108 : z_T g d 194 108 (v0 :: .int x :: ls) st h P = z_T g d 194 109 (v0 :: .int x :: ls) (.int x :: st) h P := zt_iloadn zi_194_108 rfl rfl
theorem zi_194_109 : z_ins 194 109 = some (.iload 5, 2) := by decide +kernel
theorem ze_194_109 : z_T g d 194 109 (v0 :: v1 :: v2 :: v3 :: v4 :: .int x :: ls) st h P = z_T g d 194 111 (v0 :: v1 :: v2 :: v3 :: v4 :: .int x :: ls) (.int x :: st) h P := zt_iload zi_194_109 rfl
theorem zi_194_111 : z_ins 194 111 = some (.invokevirtual 180, 3) := by decide +kernel
theorem ze_194_111 : z_T g d 194 111 ls (.int x1 :: .int x0 :: .ref a :: st) h P = ((z_okS 8 st = true ∧ z_gO h.1 a 10 ∧ 0 < d) ∧ z_Ca g (d - 1) 145 [.ref a, .int x0, .int x1] h (fun r => z_k r (fun v h' => z_T g d 194 114 ls (z_push v st) h' P) P)) := zt_callV (as := [.int x0, .int x1]) zi_194_111 ((congrArg (fun o => z_lookup z_prs (o, 180)) zo_194).trans zp_LatinRectanglesModel_180) ((congrArg (fun o => z_clk o 180) zo_194).trans zk_LatinRectanglesModel_180) zh_194 zc_145 rfl rfl rfl
theorem zi_194_114 : z_ins 194 114 = some (.ishr, 1) := by decide +kernel
theorem ze_194_114 : z_T g d 194 114 ls (.int y :: .int x :: st) h P = z_T g d 194 115 ls (.int (x >>> (y &&& 31)) :: st) h P := zt_bin (f := fun x y => x >>> (y &&& 31)) zi_194_114 rfl (fun _ _ _ => rfl)
theorem zi_194_115 : z_ins 194 115 = some (.iconst 1, 1) := by decide +kernel
theorem ze_194_115 : z_T g d 194 115 ls st h P = z_T g d 194 116 ls (.int (nI 1) :: st) h P := zt_iconst zi_194_115 rfl
theorem zi_194_116 : z_ins 194 116 = some (.iand, 1) := by decide +kernel
theorem ze_194_116 : z_T g d 194 116 ls (.int y :: .int x :: st) h P = z_T g d 194 117 ls (.int (x &&& y) :: st) h P := zt_bin (f := fun x y => x &&& y) zi_194_116 rfl (fun _ _ _ => rfl)
theorem zi_194_117 : z_ins 194 117 = some (.ifCond .ne 7, 3) := by decide +kernel
theorem ze_194_117 : z_T g d 194 117 ls (.int x :: st) h P = (if x = nI 0 then z_T g d 194 120 ls st h P else z_T g d 194 124 ls st h P) := zt_ifne zi_194_117 (by decide)
theorem zi_194_120 : z_ins 194 120 = some (.iconst 1, 1) := by decide +kernel
theorem ze_194_120 : z_T g d 194 120 ls st h P = z_T g d 194 121 ls (.int (nI 1) :: st) h P := zt_iconst zi_194_120 rfl
theorem zi_194_121 : z_ins 194 121 = some (.goto 4, 3) := by decide +kernel
theorem ze_194_121 : z_T g d 194 121 ls st h P = z_T g d 194 125 ls st h P := zt_goto zi_194_121 (by decide)
theorem zi_194_124 : z_ins 194 124 = some (.iconst 0, 1) := by decide +kernel
theorem ze_194_124 : z_T g d 194 124 ls st h P = z_T g d 194 125 ls (.int (nI 0) :: st) h P := zt_iconst zi_194_124 rfl
theorem zi_194_125 : z_ins 194 125 = some (.istore 4, 2) := by decide +kernel
theorem ze_194_125 : z_T g d 194 125 (v0 :: v1 :: v2 :: v3 :: v4 :: ls) (.int x :: st) h P = z_T g d 194 127 (v0 :: v1 :: v2 :: v3 :: .int x :: ls) st h P := zt_istore zi_194_125 (Nat.le_add_left 5 _)
theorem zi_194_127 : z_ins 194 127 = some (.iinc 5 1, 3) := by decide +kernel
theorem ze_194_127 : z_T g d 194 127 (v0 :: v1 :: v2 :: v3 :: v4 :: .int x :: ls) st h P = z_T g d 194 130 (v0 :: v1 :: v2 :: v3 :: v4 :: .int (x + (nI 1)) :: ls) st h P := zt_iinc zi_194_127 rfl rfl
theorem zi_194_130 : z_ins 194 130 = some (.goto (-124), 3) := by decide +kernel
theorem ze_194_130 : z_T g d 194 130 ls st h P = z_T g d 194 6 ls st h P := zt_goto zi_194_130 (by decide)
theorem zi_194_133 : z_ins 194 133 = some (.iload 4, 2) := by decide +kernel
theorem ze_194_133 : z_T g d 194 133 (v0 :: v1 :: v2 :: v3 :: .int x :: ls) st h P = z_T g d 194 135 (v0 :: v1 :: v2 :: v3 :: .int x :: ls) (.int x :: st) h P := zt_iload zi_194_133 rfl
theorem zi_194_135 : z_ins 194 135 = some (.ireturn, 1) := by decide +kernel
theorem ze_194_135 : z_T g d 194 135 ls [.int x] h P = ((x = nI 0 ∨ x = nI 1) ∧ P (.inr (some (.int x)), h)) := zt_zreturn zi_194_135 zr_194
-- LatinRectanglesModel.switchCycle(III)I
theorem zo_195 : z_own 195 = "LatinRectanglesModel" := by decide +kernel
theorem zm_195 : z_maxL 195 = 7 := by decide +kernel
theorem zh_195 : z_hds 195 = [] := by decide +kernel
theorem zr_195 : z_rt 195 = (some .int) := by decide +kernel
theorem zn_195 : z_Ca g d 195 [.ref a0, .int x1, .int x2, .int x3] h P = z_T g d 195 0 [.ref a0, .int x1, .int x2, .int x3, z_un, z_un, z_un] [] h P := z_Ca_ent zm_195 rfl rfl
theorem zi_195_0 : z_ins 195 0 = some (.aload_n 0, 1) := by decide +kernel
theorem ze_195_0 : z_T g d 195 0 (.ref a :: ls) st h P = z_T g d 195 1 (.ref a :: ls) (.ref a :: st) h P := zt_aloadn zi_195_0 rfl rfl
theorem zi_195_1 : z_ins 195 1 = some (.iload_n 1, 1) := by decide +kernel
theorem ze_195_1 : z_T g d 195 1 (v0 :: .int x :: ls) st h P = z_T g d 195 2 (v0 :: .int x :: ls) (.int x :: st) h P := zt_iloadn zi_195_1 rfl rfl
theorem zi_195_2 : z_ins 195 2 = some (.iload_n 2, 1) := by decide +kernel
theorem ze_195_2 : z_T g d 195 2 (v0 :: v1 :: .int x :: ls) st h P = z_T g d 195 3 (v0 :: v1 :: .int x :: ls) (.int x :: st) h P := zt_iloadn zi_195_2 rfl rfl
theorem zi_195_3 : z_ins 195 3 = some (.iload_n 3, 1) := by decide +kernel
theorem ze_195_3 : z_T g d 195 3 (v0 :: v1 :: v2 :: .int x :: ls) st h P = z_T g d 195 4 (v0 :: v1 :: v2 :: .int x :: ls) (.int x :: st) h P := zt_iloadn zi_195_3 rfl rfl
theorem zi_195_4 : z_ins 195 4 = some (.invokevirtual 234, 3) := by decide +kernel
theorem ze_195_4 : z_T g d 195 4 ls (.int x2 :: .int x1 :: .int x0 :: .ref a :: st) h P = ((z_okS 8 st = true ∧ z_gO h.1 a 10 ∧ 0 < d) ∧ z_Ca g (d - 1) 178 [.ref a, .int x0, .int x1, .int x2] h (fun r => z_k r (fun v h' => z_T g d 195 7 ls (z_push v st) h' P) P)) := zt_callV (as := [.int x0, .int x1, .int x2]) zi_195_4 ((congrArg (fun o => z_lookup z_prs (o, 234)) zo_195).trans zp_LatinRectanglesModel_234) ((congrArg (fun o => z_clk o 234) zo_195).trans zk_LatinRectanglesModel_234) zh_195 zc_178 rfl rfl rfl
theorem zi_195_7 : z_ins 195 7 = some (.ifCond .eq 5, 3) := by decide +kernel
theorem ze_195_7 : z_T g d 195 7 ls (.int x :: st) h P = (if x = nI 0 then z_T g d 195 12 ls st h P else z_T g d 195 10 ls st h P) := zt_ifeq zi_195_7 (by decide)
theorem zi_195_10 : z_ins 195 10 = some (.iconst 0, 1) := by decide +kernel
theorem ze_195_10 : z_T g d 195 10 ls st h P = z_T g d 195 11 ls (.int (nI 0) :: st) h P := zt_iconst zi_195_10 rfl
theorem zi_195_11 : z_ins 195 11 = some (.ireturn, 1) := by decide +kernel
theorem ze_195_11 : z_T g d 195 11 ls [.int x] h P = P (.inr (some (.int x)), h) := zt_ireturn zi_195_11 zr_195
theorem zi_195_12 : z_ins 195 12 = some (.aload_n 0, 1) := by decide +kernel
theorem ze_195_12 : z_T g d 195 12 (.ref a :: ls) st h P = z_T g d 195 13 (.ref a :: ls) (.ref a :: st) h P := zt_aloadn zi_195_12 rfl rfl
theorem zi_195_13 : z_ins 195 13 = some (.iload_n 1, 1) := by decide +kernel
theorem ze_195_13 : z_T g d 195 13 (v0 :: .int x :: ls) st h P = z_T g d 195 14 (v0 :: .int x :: ls) (.int x :: st) h P := zt_iloadn zi_195_13 rfl rfl
theorem zi_195_14 : z_ins 195 14 = some (.iload_n 2, 1) := by decide +kernel
theorem ze_195_14 : z_T g d 195 14 (v0 :: v1 :: .int x :: ls) st h P = z_T g d 195 15 (v0 :: v1 :: .int x :: ls) (.int x :: st) h P := zt_iloadn zi_195_14 rfl rfl
theorem zi_195_15 : z_ins 195 15 = some (.iload_n 3, 1) := by decide +kernel
theorem ze_195_15 : z_T g d 195 15 (v0 :: v1 :: v2 :: .int x :: ls) st h P = z_T g d 195 16 (v0 :: v1 :: v2 :: .int x :: ls) (.int x :: st) h P := zt_iloadn zi_195_15 rfl rfl
theorem zi_195_16 : z_ins 195 16 = some (.invokevirtual 237, 3) := by decide +kernel
theorem ze_195_16 : z_T g d 195 16 ls (.int x2 :: .int x1 :: .int x0 :: .ref a :: st) h P = ((z_okS 8 st = true ∧ z_gO h.1 a 10 ∧ 0 < d) ∧ z_Ca g (d - 1) 177 [.ref a, .int x0, .int x1, .int x2] h (fun r => z_k r (fun v h' => z_T g d 195 19 ls (z_push v st) h' P) P)) := zt_callV (as := [.int x0, .int x1, .int x2]) zi_195_16 ((congrArg (fun o => z_lookup z_prs (o, 237)) zo_195).trans zp_LatinRectanglesModel_237) ((congrArg (fun o => z_clk o 237) zo_195).trans zk_LatinRectanglesModel_237) zh_195 zc_177 rfl rfl rfl
theorem zi_195_19 : z_ins 195 19 = some (.istore 4, 2) := by decide +kernel
theorem ze_195_19 : z_T g d 195 19 (v0 :: v1 :: v2 :: v3 :: v4 :: ls) (.int x :: st) h P = z_T g d 195 21 (v0 :: v1 :: v2 :: v3 :: .int x :: ls) st h P := zt_istore zi_195_19 (Nat.le_add_left 5 _)
theorem zi_195_21 : z_ins 195 21 = some (.aload_n 0, 1) := by decide +kernel
theorem ze_195_21 : z_T g d 195 21 (.ref a :: ls) st h P = z_T g d 195 22 (.ref a :: ls) (.ref a :: st) h P := zt_aloadn zi_195_21 rfl rfl
theorem zi_195_22 : z_ins 195 22 = some (.aload_n 0, 1) := by decide +kernel
theorem ze_195_22 : z_T g d 195 22 (.ref a :: ls) st h P = z_T g d 195 23 (.ref a :: ls) (.ref a :: st) h P := zt_aloadn zi_195_22 rfl rfl
theorem zi_195_23 : z_ins 195 23 = some (.iload_n 1, 1) := by decide +kernel
theorem ze_195_23 : z_T g d 195 23 (v0 :: .int x :: ls) st h P = z_T g d 195 24 (v0 :: .int x :: ls) (.int x :: st) h P := zt_iloadn zi_195_23 rfl rfl
theorem zi_195_24 : z_ins 195 24 = some (.iload_n 2, 1) := by decide +kernel
theorem ze_195_24 : z_T g d 195 24 (v0 :: v1 :: .int x :: ls) st h P = z_T g d 195 25 (v0 :: v1 :: .int x :: ls) (.int x :: st) h P := zt_iloadn zi_195_24 rfl rfl
theorem zi_195_25 : z_ins 195 25 = some (.iload 4, 2) := by decide +kernel
theorem ze_195_25 : z_T g d 195 25 (v0 :: v1 :: v2 :: v3 :: .int x :: ls) st h P = z_T g d 195 27 (v0 :: v1 :: v2 :: v3 :: .int x :: ls) (.int x :: st) h P := zt_iload zi_195_25 rfl
theorem zi_195_27 : z_ins 195 27 = some (.invokevirtual 265, 3) := by decide +kernel
theorem ze_195_27 : z_T g d 195 27 ls (.int x2 :: .int x1 :: .int x0 :: .ref a :: st) h P = ((z_okS 8 st = true ∧ z_gO h.1 a 10 ∧ 0 < d) ∧ z_Ca g (d - 1) 194 [.ref a, .int x0, .int x1, .int x2] h (fun r => z_k r (fun v h' => z_T g d 195 30 ls (z_push v st) h' P) P)) := zt_callV (as := [.int x0, .int x1, .int x2]) zi_195_27 ((congrArg (fun o => z_lookup z_prs (o, 265)) zo_195).trans zp_LatinRectanglesModel_265) ((congrArg (fun o => z_clk o 265) zo_195).trans zk_LatinRectanglesModel_265) zh_195 zc_194 rfl rfl rfl
theorem zi_195_30 : z_ins 195 30 = some (.ifCond .ne 7, 3) := by decide +kernel
theorem ze_195_30 : z_T g d 195 30 ls (.int x :: st) h P = (if x = nI 0 then z_T g d 195 33 ls st h P else z_T g d 195 37 ls st h P) := zt_ifne zi_195_30 (by decide)
theorem zi_195_33 : z_ins 195 33 = some (.iconst 1, 1) := by decide +kernel
theorem ze_195_33 : z_T g d 195 33 ls st h P = z_T g d 195 34 ls (.int (nI 1) :: st) h P := zt_iconst zi_195_33 rfl
theorem zi_195_34 : z_ins 195 34 = some (.goto 4, 3) := by decide +kernel
theorem ze_195_34 : z_T g d 195 34 ls st h P = z_T g d 195 38 ls st h P := zt_goto zi_195_34 (by decide)
theorem zi_195_37 : z_ins 195 37 = some (.iconst 0, 1) := by decide +kernel
theorem ze_195_37 : z_T g d 195 37 ls st h P = z_T g d 195 38 ls (.int (nI 0) :: st) h P := zt_iconst zi_195_37 rfl
theorem zi_195_38 : z_ins 195 38 = some (.iconst 3, 1) := by decide +kernel
theorem ze_195_38 : z_T g d 195 38 ls st h P = z_T g d 195 39 ls (.int (nI 3) :: st) h P := zt_iconst zi_195_38 rfl
theorem zi_195_39 : z_ins 195 39 = some (.invokevirtual 167, 3) := by decide +kernel
theorem ze_195_39 : z_T g d 195 39 ls (.int x1 :: .int x0 :: .ref a :: st) h P = ((z_okS 8 st = true ∧ z_gO h.1 a 10 ∧ 0 < d) ∧ z_Ca g (d - 1) 123 [.ref a, .int x0, .int x1] h (fun r => z_k r (fun v h' => z_T g d 195 42 ls (z_push v st) h' P) P)) := zt_callV (as := [.int x0, .int x1]) zi_195_39 ((congrArg (fun o => z_lookup z_prs (o, 167)) zo_195).trans zp_LatinRectanglesModel_167) ((congrArg (fun o => z_clk o 167) zo_195).trans zk_LatinRectanglesModel_167) zh_195 zc_123 rfl rfl rfl
theorem zi_195_42 : z_ins 195 42 = some (.ifCond .eq 5, 3) := by decide +kernel
theorem ze_195_42 : z_T g d 195 42 ls (.int x :: st) h P = (if x = nI 0 then z_T g d 195 47 ls st h P else z_T g d 195 45 ls st h P) := zt_ifeq zi_195_42 (by decide)
theorem zi_195_45 : z_ins 195 45 = some (.iconst 0, 1) := by decide +kernel
theorem ze_195_45 : z_T g d 195 45 ls st h P = z_T g d 195 46 ls (.int (nI 0) :: st) h P := zt_iconst zi_195_45 rfl
theorem zi_195_46 : z_ins 195 46 = some (.ireturn, 1) := by decide +kernel
theorem ze_195_46 : z_T g d 195 46 ls [.int x] h P = P (.inr (some (.int x)), h) := zt_ireturn zi_195_46 zr_195
theorem zi_195_47 : z_ins 195 47 = some (.aload_n 0, 1) := by decide +kernel
theorem ze_195_47 : z_T g d 195 47 (.ref a :: ls) st h P = z_T g d 195 48 (.ref a :: ls) (.ref a :: st) h P := zt_aloadn zi_195_47 rfl rfl
theorem zi_195_48 : z_ins 195 48 = some (.invokevirtual 255, 3) := by decide +kernel
theorem ze_195_48 : z_T g d 195 48 ls (.ref a :: st) h P = ((z_okS 8 st = true ∧ z_gO h.1 a 10 ∧ 0 < d) ∧ z_Ca g (d - 1) 197 [.ref a] h (fun r => z_k r (fun v h' => z_T g d 195 51 ls (z_push v st) h' P) P)) := zt_callV (as := []) zi_195_48 ((congrArg (fun o => z_lookup z_prs (o, 255)) zo_195).trans zp_LatinRectanglesModel_255) ((congrArg (fun o => z_clk o 255) zo_195).trans zk_LatinRectanglesModel_255) zh_195 zc_197 rfl rfl rfl
theorem zi_195_51 : z_ins 195 51 = some (.iconst 0, 1) := by decide +kernel
theorem ze_195_51 : z_T g d 195 51 ls st h P = z_T g d 195 52 ls (.int (nI 0) :: st) h P := zt_iconst zi_195_51 rfl
theorem zi_195_52 : z_ins 195 52 = some (.istore 5, 2) := by decide +kernel
theorem ze_195_52 : z_T g d 195 52 (v0 :: v1 :: v2 :: v3 :: v4 :: v5 :: ls) (.int x :: st) h P = z_T g d 195 54 (v0 :: v1 :: v2 :: v3 :: v4 :: .int x :: ls) st h P := zt_istore zi_195_52 (Nat.le_add_left 6 _)
theorem zi_195_54 : z_ins 195 54 = some (.iload 5, 2) := by decide +kernel
theorem ze_195_54 : z_T g d 195 54 (v0 :: v1 :: v2 :: v3 :: v4 :: .int x :: ls) st h P = z_T g d 195 56 (v0 :: v1 :: v2 :: v3 :: v4 :: .int x :: ls) (.int x :: st) h P := zt_iload zi_195_54 rfl
theorem zi_195_56 : z_ins 195 56 = some (.aload_n 0, 1) := by decide +kernel
theorem ze_195_56 : z_T g d 195 56 (.ref a :: ls) st h P = z_T g d 195 57 (.ref a :: ls) (.ref a :: st) h P := zt_aloadn zi_195_56 rfl rfl
theorem zi_195_57 : z_ins 195 57 = some (.getfield 76, 3) := by decide +kernel
theorem ze_195_57 : z_T g d 195 57 ls (.ref a :: st) h P = z_gI h.1 a 10 2 (fun x => z_T g d 195 60 ls (.int x :: st) h P) := zt_getI zi_195_57 ((congrArg (fun o => z_fl o 76) zo_195).trans zf_LatinRectanglesModel_76)
theorem zi_195_60 : z_ins 195 60 = some (.if_icmp .ge 60, 3) := by decide +kernel
theorem ze_195_60 : z_T g d 195 60 ls (.int y :: .int x :: st) h P = (if x < y then z_T g d 195 63 ls st h P else z_T g d 195 120 ls st h P) := zt_icmpge zi_195_60 (by decide)
theorem zi_195_63 : z_ins 195 63 = some (.iload 4, 2) := by decide +kernel
theorem ze_195_63 : z_T g d 195 63 (v0 :: v1 :: v2 :: v3 :: .int x :: ls) st h P = z_T g d 195 65 (v0 :: v1 :: v2 :: v3 :: .int x :: ls) (.int x :: st) h P := zt_iload zi_195_63 rfl
theorem zi_195_65 : z_ins 195 65 = some (.iload 5, 2) := by decide +kernel
theorem ze_195_65 : z_T g d 195 65 (v0 :: v1 :: v2 :: v3 :: v4 :: .int x :: ls) st h P = z_T g d 195 67 (v0 :: v1 :: v2 :: v3 :: v4 :: .int x :: ls) (.int x :: st) h P := zt_iload zi_195_65 rfl
theorem zi_195_67 : z_ins 195 67 = some (.ishr, 1) := by decide +kernel
theorem ze_195_67 : z_T g d 195 67 ls (.int y :: .int x :: st) h P = z_T g d 195 68 ls (.int (x >>> (y &&& 31)) :: st) h P := zt_bin (f := fun x y => x >>> (y &&& 31)) zi_195_67 rfl (fun _ _ _ => rfl)
theorem zi_195_68 : z_ins 195 68 = some (.iconst 1, 1) := by decide +kernel
theorem ze_195_68 : z_T g d 195 68 ls st h P = z_T g d 195 69 ls (.int (nI 1) :: st) h P := zt_iconst zi_195_68 rfl
theorem zi_195_69 : z_ins 195 69 = some (.iand, 1) := by decide +kernel
theorem ze_195_69 : z_T g d 195 69 ls (.int y :: .int x :: st) h P = z_T g d 195 70 ls (.int (x &&& y) :: st) h P := zt_bin (f := fun x y => x &&& y) zi_195_69 rfl (fun _ _ _ => rfl)
theorem zi_195_70 : z_ins 195 70 = some (.iconst 1, 1) := by decide +kernel
theorem ze_195_70 : z_T g d 195 70 ls st h P = z_T g d 195 71 ls (.int (nI 1) :: st) h P := zt_iconst zi_195_70 rfl
theorem zi_195_71 : z_ins 195 71 = some (.if_icmp .ne 43, 3) := by decide +kernel
theorem ze_195_71 : z_T g d 195 71 ls (.int y :: .int x :: st) h P = (if x = y then z_T g d 195 74 ls st h P else z_T g d 195 114 ls st h P) := zt_icmpne zi_195_71 (by decide)
theorem zi_195_74 : z_ins 195 74 = some (.aload_n 0, 1) := by decide +kernel
theorem ze_195_74 : z_T g d 195 74 (.ref a :: ls) st h P = z_T g d 195 75 (.ref a :: ls) (.ref a :: st) h P := zt_aloadn zi_195_74 rfl rfl
theorem zi_195_75 : z_ins 195 75 = some (.iload_n 1, 1) := by decide +kernel
theorem ze_195_75 : z_T g d 195 75 (v0 :: .int x :: ls) st h P = z_T g d 195 76 (v0 :: .int x :: ls) (.int x :: st) h P := zt_iloadn zi_195_75 rfl rfl
theorem zi_195_76 : z_ins 195 76 = some (.iload 5, 2) := by decide +kernel
theorem ze_195_76 : z_T g d 195 76 (v0 :: v1 :: v2 :: v3 :: v4 :: .int x :: ls) st h P = z_T g d 195 78 (v0 :: v1 :: v2 :: v3 :: v4 :: .int x :: ls) (.int x :: st) h P := zt_iload zi_195_76 rfl
theorem zi_195_78 : z_ins 195 78 = some (.invokevirtual 180, 3) := by decide +kernel
theorem ze_195_78 : z_T g d 195 78 ls (.int x1 :: .int x0 :: .ref a :: st) h P = ((z_okS 8 st = true ∧ z_gO h.1 a 10 ∧ 0 < d) ∧ z_Ca g (d - 1) 145 [.ref a, .int x0, .int x1] h (fun r => z_k r (fun v h' => z_T g d 195 81 ls (z_push v st) h' P) P)) := zt_callV (as := [.int x0, .int x1]) zi_195_78 ((congrArg (fun o => z_lookup z_prs (o, 180)) zo_195).trans zp_LatinRectanglesModel_180) ((congrArg (fun o => z_clk o 180) zo_195).trans zk_LatinRectanglesModel_180) zh_195 zc_145 rfl rfl rfl
theorem zi_195_81 : z_ins 195 81 = some (.istore 6, 2) := by decide +kernel
theorem ze_195_81 : z_T g d 195 81 (v0 :: v1 :: v2 :: v3 :: v4 :: v5 :: v6 :: ls) (.int x :: st) h P = z_T g d 195 83 (v0 :: v1 :: v2 :: v3 :: v4 :: v5 :: .int x :: ls) st h P := zt_istore zi_195_81 (Nat.le_add_left 7 _)
theorem zi_195_83 : z_ins 195 83 = some (.aload_n 0, 1) := by decide +kernel
theorem ze_195_83 : z_T g d 195 83 (.ref a :: ls) st h P = z_T g d 195 84 (.ref a :: ls) (.ref a :: st) h P := zt_aloadn zi_195_83 rfl rfl
theorem zi_195_84 : z_ins 195 84 = some (.getfield 22, 3) := by decide +kernel
theorem ze_195_84 : z_T g d 195 84 ls (.ref a :: st) h P = z_gR h.1 a 10 11 (fun x => z_T g d 195 87 ls (.ref x :: st) h P) := zt_getR zi_195_84 ((congrArg (fun o => z_fl o 22) zo_195).trans zf_LatinRectanglesModel_22)
theorem zi_195_87 : z_ins 195 87 = some (.iload_n 1, 1) := by decide +kernel
theorem ze_195_87 : z_T g d 195 87 (v0 :: .int x :: ls) st h P = z_T g d 195 88 (v0 :: .int x :: ls) (.int x :: st) h P := zt_iloadn zi_195_87 rfl rfl
theorem zi_195_88 : z_ins 195 88 = some (.iload 5, 2) := by decide +kernel
theorem ze_195_88 : z_T g d 195 88 (v0 :: v1 :: v2 :: v3 :: v4 :: .int x :: ls) st h P = z_T g d 195 90 (v0 :: v1 :: v2 :: v3 :: v4 :: .int x :: ls) (.int x :: st) h P := zt_iload zi_195_88 rfl
theorem zi_195_90 : z_ins 195 90 = some (.invokestatic 151, 3) := by decide +kernel
theorem ze_195_90 : z_T g d 195 90 ls (.int x1 :: .int x0 :: st) h P = ((z_okS 8 st = true ∧ 0 < d) ∧ z_Ca g (d - 1) 127 [.int x0, .int x1] h (fun r => z_k r (fun v h' => z_T g d 195 93 ls (z_push v st) h' P) P)) := zt_callS0 (as := [.int x0, .int x1]) zi_195_90 ((congrArg (fun o => z_lookup z_prs (o, 151)) zo_195).trans zp_LatinRectanglesModel_151) ((congrArg (fun o => z_clk o 151) zo_195).trans zk_LatinRectanglesModel_151) zh_195 rfl rfl rfl
theorem zi_195_93 : z_ins 195 93 = some (.aload_n 0, 1) := by decide +kernel
theorem ze_195_93 : z_T g d 195 93 (.ref a :: ls) st h P = z_T g d 195 94 (.ref a :: ls) (.ref a :: st) h P := zt_aloadn zi_195_93 rfl rfl
theorem zi_195_94 : z_ins 195 94 = some (.iload_n 2, 1) := by decide +kernel
theorem ze_195_94 : z_T g d 195 94 (v0 :: v1 :: .int x :: ls) st h P = z_T g d 195 95 (v0 :: v1 :: .int x :: ls) (.int x :: st) h P := zt_iloadn zi_195_94 rfl rfl
theorem zi_195_95 : z_ins 195 95 = some (.iload 5, 2) := by decide +kernel
theorem ze_195_95 : z_T g d 195 95 (v0 :: v1 :: v2 :: v3 :: v4 :: .int x :: ls) st h P = z_T g d 195 97 (v0 :: v1 :: v2 :: v3 :: v4 :: .int x :: ls) (.int x :: st) h P := zt_iload zi_195_95 rfl
theorem zi_195_97 : z_ins 195 97 = some (.invokevirtual 180, 3) := by decide +kernel
theorem ze_195_97 : z_T g d 195 97 ls (.int x1 :: .int x0 :: .ref a :: st) h P = ((z_okS 8 st = true ∧ z_gO h.1 a 10 ∧ 0 < d) ∧ z_Ca g (d - 1) 145 [.ref a, .int x0, .int x1] h (fun r => z_k r (fun v h' => z_T g d 195 100 ls (z_push v st) h' P) P)) := zt_callV (as := [.int x0, .int x1]) zi_195_97 ((congrArg (fun o => z_lookup z_prs (o, 180)) zo_195).trans zp_LatinRectanglesModel_180) ((congrArg (fun o => z_clk o 180) zo_195).trans zk_LatinRectanglesModel_180) zh_195 zc_145 rfl rfl rfl
theorem zi_195_100 : z_ins 195 100 = some (.iastore, 1) := by decide +kernel
theorem ze_195_100 : z_T g d 195 100 ls (.int y :: .int x :: .ref a :: st) h P = z_aS h.1 a z_tI x y (fun f => z_T g d 195 101 ls st (f, h.2) P) := zt_iastore zi_195_100
theorem zi_195_101 : z_ins 195 101 = some (.aload_n 0, 1) := by decide +kernel
theorem ze_195_101 : z_T g d 195 101 (.ref a :: ls) st h P = z_T g d 195 102 (.ref a :: ls) (.ref a :: st) h P := zt_aloadn zi_195_101 rfl rfl
theorem zi_195_102 : z_ins 195 102 = some (.getfield 22, 3) := by decide +kernel
theorem ze_195_102 : z_T g d 195 102 ls (.ref a :: st) h P = z_gR h.1 a 10 11 (fun x => z_T g d 195 105 ls (.ref x :: st) h P) := zt_getR zi_195_102 ((congrArg (fun o => z_fl o 22) zo_195).trans zf_LatinRectanglesModel_22)
theorem zi_195_105 : z_ins 195 105 = some (.iload_n 2, 1) := by decide +kernel
theorem ze_195_105 : z_T g d 195 105 (v0 :: v1 :: .int x :: ls) st h P = z_T g d 195 106 (v0 :: v1 :: .int x :: ls) (.int x :: st) h P := zt_iloadn zi_195_105 rfl rfl
theorem zi_195_106 : z_ins 195 106 = some (.iload 5, 2) := by decide +kernel
theorem ze_195_106 : z_T g d 195 106 (v0 :: v1 :: v2 :: v3 :: v4 :: .int x :: ls) st h P = z_T g d 195 108 (v0 :: v1 :: v2 :: v3 :: v4 :: .int x :: ls) (.int x :: st) h P := zt_iload zi_195_106 rfl
theorem zi_195_108 : z_ins 195 108 = some (.invokestatic 151, 3) := by decide +kernel
theorem ze_195_108 : z_T g d 195 108 ls (.int x1 :: .int x0 :: st) h P = ((z_okS 8 st = true ∧ 0 < d) ∧ z_Ca g (d - 1) 127 [.int x0, .int x1] h (fun r => z_k r (fun v h' => z_T g d 195 111 ls (z_push v st) h' P) P)) := zt_callS0 (as := [.int x0, .int x1]) zi_195_108 ((congrArg (fun o => z_lookup z_prs (o, 151)) zo_195).trans zp_LatinRectanglesModel_151) ((congrArg (fun o => z_clk o 151) zo_195).trans zk_LatinRectanglesModel_151) zh_195 rfl rfl rfl
theorem zi_195_111 : z_ins 195 111 = some (.iload 6, 2) := by decide +kernel
theorem ze_195_111 : z_T g d 195 111 (v0 :: v1 :: v2 :: v3 :: v4 :: v5 :: .int x :: ls) st h P = z_T g d 195 113 (v0 :: v1 :: v2 :: v3 :: v4 :: v5 :: .int x :: ls) (.int x :: st) h P := zt_iload zi_195_111 rfl
theorem zi_195_113 : z_ins 195 113 = some (.iastore, 1) := by decide +kernel
theorem ze_195_113 : z_T g d 195 113 ls (.int y :: .int x :: .ref a :: st) h P = z_aS h.1 a z_tI x y (fun f => z_T g d 195 114 ls st (f, h.2) P) := zt_iastore zi_195_113
theorem zi_195_114 : z_ins 195 114 = some (.iinc 5 1, 3) := by decide +kernel
theorem ze_195_114 : z_T g d 195 114 (v0 :: v1 :: v2 :: v3 :: v4 :: .int x :: ls) st h P = z_T g d 195 117 (v0 :: v1 :: v2 :: v3 :: v4 :: .int (x + (nI 1)) :: ls) st h P := zt_iinc zi_195_114 rfl rfl
theorem zi_195_117 : z_ins 195 117 = some (.goto (-63), 3) := by decide +kernel
theorem ze_195_117 : z_T g d 195 117 ls st h P = z_T g d 195 54 ls st h P := zt_goto zi_195_117 (by decide)
theorem zi_195_120 : z_ins 195 120 = some (.iload 4, 2) := by decide +kernel
theorem ze_195_120 : z_T g d 195 120 (v0 :: v1 :: v2 :: v3 :: .int x :: ls) st h P = z_T g d 195 122 (v0 :: v1 :: v2 :: v3 :: .int x :: ls) (.int x :: st) h P := zt_iload zi_195_120 rfl
theorem zi_195_122 : z_ins 195 122 = some (.invokestatic 204, 3) := by decide +kernel
theorem ze_195_122 : z_T g d 195 122 ls (.int x0 :: st) h P = ((z_okS 8 st = true ∧ 0 < d) ∧ z_Ca g (d - 1) 150 [.int x0] h (fun r => z_k r (fun v h' => z_T g d 195 125 ls (z_push v st) h' P) P)) := zt_callS0 (as := [.int x0]) zi_195_122 ((congrArg (fun o => z_lookup z_prs (o, 204)) zo_195).trans zp_LatinRectanglesModel_204) ((congrArg (fun o => z_clk o 204) zo_195).trans zk_LatinRectanglesModel_204) zh_195 rfl rfl rfl
theorem zi_195_125 : z_ins 195 125 = some (.ireturn, 1) := by decide +kernel
theorem ze_195_125 : z_T g d 195 125 ls [.int x] h P = P (.inr (some (.int x)), h) := zt_ireturn zi_195_125 zr_195
-- LatinRectanglesModel.copies([II[III)V
theorem zo_196 : z_own 196 = "LatinRectanglesModel" := by decide +kernel
theorem zm_196 : z_maxL 196 = 6 := by decide +kernel
theorem zh_196 : z_hds 196 = [] := by decide +kernel
theorem zr_196 : z_rt 196 = none := by decide +kernel
theorem zn_196 : z_Ca g d 196 [.ref a0, .int x1, .ref a2, .int x3, .int x4] h P = z_T g d 196 0 [.ref a0, .int x1, .ref a2, .int x3, .int x4, z_un] [] h P := z_Ca_ent zm_196 rfl rfl
theorem zi_196_0 : z_ins 196 0 = some (.iconst 0, 1) := by decide +kernel
theorem ze_196_0 : z_T g d 196 0 ls st h P = z_T g d 196 1 ls (.int (nI 0) :: st) h P := zt_iconst zi_196_0 rfl
theorem zi_196_1 : z_ins 196 1 = some (.istore 5, 2) := by decide +kernel
theorem ze_196_1 : z_T g d 196 1 (v0 :: v1 :: v2 :: v3 :: v4 :: v5 :: ls) (.int x :: st) h P = z_T g d 196 3 (v0 :: v1 :: v2 :: v3 :: v4 :: .int x :: ls) st h P := zt_istore zi_196_1 (Nat.le_add_left 6 _)
theorem zi_196_3 : z_ins 196 3 = some (.iload 5, 2) := by decide +kernel
theorem ze_196_3 : z_T g d 196 3 (v0 :: v1 :: v2 :: v3 :: v4 :: .int x :: ls) st h P = z_T g d 196 5 (v0 :: v1 :: v2 :: v3 :: v4 :: .int x :: ls) (.int x :: st) h P := zt_iload zi_196_3 rfl
theorem zi_196_5 : z_ins 196 5 = some (.iload 4, 2) := by decide +kernel
theorem ze_196_5 : z_T g d 196 5 (v0 :: v1 :: v2 :: v3 :: .int x :: ls) st h P = z_T g d 196 7 (v0 :: v1 :: v2 :: v3 :: .int x :: ls) (.int x :: st) h P := zt_iload zi_196_5 rfl
theorem zi_196_7 : z_ins 196 7 = some (.if_icmp .ge 21, 3) := by decide +kernel
theorem ze_196_7 : z_T g d 196 7 ls (.int y :: .int x :: st) h P = (if x < y then z_T g d 196 10 ls st h P else z_T g d 196 28 ls st h P) := zt_icmpge zi_196_7 (by decide)
theorem zi_196_10 : z_ins 196 10 = some (.aload_n 2, 1) := by decide +kernel
theorem ze_196_10 : z_T g d 196 10 (v0 :: v1 :: .ref a :: ls) st h P = z_T g d 196 11 (v0 :: v1 :: .ref a :: ls) (.ref a :: st) h P := zt_aloadn zi_196_10 rfl rfl
theorem zi_196_11 : z_ins 196 11 = some (.iload_n 3, 1) := by decide +kernel
theorem ze_196_11 : z_T g d 196 11 (v0 :: v1 :: v2 :: .int x :: ls) st h P = z_T g d 196 12 (v0 :: v1 :: v2 :: .int x :: ls) (.int x :: st) h P := zt_iloadn zi_196_11 rfl rfl
theorem zi_196_12 : z_ins 196 12 = some (.iload 5, 2) := by decide +kernel
theorem ze_196_12 : z_T g d 196 12 (v0 :: v1 :: v2 :: v3 :: v4 :: .int x :: ls) st h P = z_T g d 196 14 (v0 :: v1 :: v2 :: v3 :: v4 :: .int x :: ls) (.int x :: st) h P := zt_iload zi_196_12 rfl
theorem zi_196_14 : z_ins 196 14 = some (.iadd, 1) := by decide +kernel
theorem ze_196_14 : z_T g d 196 14 ls (.int y :: .int x :: st) h P = z_T g d 196 15 ls (.int (x + y) :: st) h P := zt_bin (f := fun x y => x + y) zi_196_14 rfl (fun _ _ _ => rfl)
theorem zi_196_15 : z_ins 196 15 = some (.aload_n 0, 1) := by decide +kernel
theorem ze_196_15 : z_T g d 196 15 (.ref a :: ls) st h P = z_T g d 196 16 (.ref a :: ls) (.ref a :: st) h P := zt_aloadn zi_196_15 rfl rfl
theorem zi_196_16 : z_ins 196 16 = some (.iload_n 1, 1) := by decide +kernel
theorem ze_196_16 : z_T g d 196 16 (v0 :: .int x :: ls) st h P = z_T g d 196 17 (v0 :: .int x :: ls) (.int x :: st) h P := zt_iloadn zi_196_16 rfl rfl
theorem zi_196_17 : z_ins 196 17 = some (.iload 5, 2) := by decide +kernel
theorem ze_196_17 : z_T g d 196 17 (v0 :: v1 :: v2 :: v3 :: v4 :: .int x :: ls) st h P = z_T g d 196 19 (v0 :: v1 :: v2 :: v3 :: v4 :: .int x :: ls) (.int x :: st) h P := zt_iload zi_196_17 rfl
theorem zi_196_19 : z_ins 196 19 = some (.iadd, 1) := by decide +kernel
theorem ze_196_19 : z_T g d 196 19 ls (.int y :: .int x :: st) h P = z_T g d 196 20 ls (.int (x + y) :: st) h P := zt_bin (f := fun x y => x + y) zi_196_19 rfl (fun _ _ _ => rfl)
theorem zi_196_20 : z_ins 196 20 = some (.iaload, 1) := by decide +kernel
theorem ze_196_20 : z_T g d 196 20 ls (.int x :: .ref a :: st) h P = z_aL h.1 a z_tI x (fun v => z_T g d 196 21 ls (.int v :: st) h P) := zt_iaload zi_196_20
theorem zi_196_21 : z_ins 196 21 = some (.iastore, 1) := by decide +kernel
theorem ze_196_21 : z_T g d 196 21 ls (.int y :: .int x :: .ref a :: st) h P = z_aS h.1 a z_tI x y (fun f => z_T g d 196 22 ls st (f, h.2) P) := zt_iastore zi_196_21
theorem zi_196_22 : z_ins 196 22 = some (.iinc 5 1, 3) := by decide +kernel
theorem ze_196_22 : z_T g d 196 22 (v0 :: v1 :: v2 :: v3 :: v4 :: .int x :: ls) st h P = z_T g d 196 25 (v0 :: v1 :: v2 :: v3 :: v4 :: .int (x + (nI 1)) :: ls) st h P := zt_iinc zi_196_22 rfl rfl
theorem zi_196_25 : z_ins 196 25 = some (.goto (-22), 3) := by decide +kernel
theorem ze_196_25 : z_T g d 196 25 ls st h P = z_T g d 196 3 ls st h P := zt_goto zi_196_25 (by decide)
theorem zi_196_28 : z_ins 196 28 = some (.return_, 1) := by decide +kernel
theorem ze_196_28 : z_T g d 196 28 ls [] h P = P (.inr none, h) := zt_return zi_196_28 zr_196
-- LatinRectanglesModel.keeps()V
theorem zo_197 : z_own 197 = "LatinRectanglesModel" := by decide +kernel
theorem zm_197 : z_maxL 197 = 1 := by decide +kernel
theorem zh_197 : z_hds 197 = [] := by decide +kernel
theorem zr_197 : z_rt 197 = none := by decide +kernel
theorem zn_197 : z_Ca g d 197 [.ref a0] h P = z_T g d 197 0 [.ref a0] [] h P := z_Ca_ent zm_197 rfl rfl
theorem zi_197_0 : z_ins 197 0 = some (.aload_n 0, 1) := by decide +kernel
theorem ze_197_0 : z_T g d 197 0 (.ref a :: ls) st h P = z_T g d 197 1 (.ref a :: ls) (.ref a :: st) h P := zt_aloadn zi_197_0 rfl rfl
theorem zi_197_1 : z_ins 197 1 = some (.getfield 82, 3) := by decide +kernel
theorem ze_197_1 : z_T g d 197 1 ls (.ref a :: st) h P = z_gI h.1 a 10 23 (fun x => z_T g d 197 4 ls (.int x :: st) h P) := zt_getI zi_197_1 ((congrArg (fun o => z_fl o 82) zo_197).trans zf_LatinRectanglesModel_82)
theorem zi_197_4 : z_ins 197 4 = some (.bipush 10, 2) := by decide +kernel
theorem ze_197_4 : z_T g d 197 4 ls st h P = z_T g d 197 6 ls (.int (nI 10) :: st) h P := zt_bipush zi_197_4 rfl
theorem zi_197_6 : z_ins 197 6 = some (.if_icmp .ne 34, 3) := by decide +kernel
theorem ze_197_6 : z_T g d 197 6 ls (.int y :: .int x :: st) h P = (if x = y then z_T g d 197 9 ls st h P else z_T g d 197 40 ls st h P) := zt_icmpne zi_197_6 (by decide)
theorem zi_197_9 : z_ins 197 9 = some (.aload_n 0, 1) := by decide +kernel
theorem ze_197_9 : z_T g d 197 9 (.ref a :: ls) st h P = z_T g d 197 10 (.ref a :: ls) (.ref a :: st) h P := zt_aloadn zi_197_9 rfl rfl
theorem zi_197_10 : z_ins 197 10 = some (.dup, 1) := by decide +kernel
theorem ze_197_10 : z_T g d 197 10 ls (.ref a :: st) h P = z_T g d 197 11 ls (.ref a :: .ref a :: st) h P := zt_dupR zi_197_10
theorem ze_197_10_i : z_T g d 197 10 ls (.int x :: st) h P = z_T g d 197 11 ls (.int x :: .int x :: st) h P := zt_dupI zi_197_10
theorem zi_197_11 : z_ins 197 11 = some (.getfield 82, 3) := by decide +kernel
theorem ze_197_11 : z_T g d 197 11 ls (.ref a :: st) h P = z_gI h.1 a 10 23 (fun x => z_T g d 197 14 ls (.int x :: st) h P) := zt_getI zi_197_11 ((congrArg (fun o => z_fl o 82) zo_197).trans zf_LatinRectanglesModel_82)
theorem zi_197_14 : z_ins 197 14 = some (.iconst 1, 1) := by decide +kernel
theorem ze_197_14 : z_T g d 197 14 ls st h P = z_T g d 197 15 ls (.int (nI 1) :: st) h P := zt_iconst zi_197_14 rfl
theorem zi_197_15 : z_ins 197 15 = some (.isub, 1) := by decide +kernel
theorem ze_197_15 : z_T g d 197 15 ls (.int y :: .int x :: st) h P = z_T g d 197 16 ls (.int (x - y) :: st) h P := zt_bin (f := fun x y => x - y) zi_197_15 rfl (fun _ _ _ => rfl)
theorem zi_197_16 : z_ins 197 16 = some (.putfield 82, 3) := by decide +kernel
theorem ze_197_16 : z_T g d 197 16 ls (.int x :: .ref a :: st) h P = z_pF h.1 a 10 23 (.int x) (fun f => z_T g d 197 19 ls st (f, h.2) P) := zt_putI zi_197_16 ((congrArg (fun o => z_fl o 82) zo_197).trans zf_LatinRectanglesModel_82)
theorem zi_197_19 : z_ins 197 19 = some (.aload_n 0, 1) := by decide +kernel
theorem ze_197_19 : z_T g d 197 19 (.ref a :: ls) st h P = z_T g d 197 20 (.ref a :: ls) (.ref a :: st) h P := zt_aloadn zi_197_19 rfl rfl
theorem zi_197_20 : z_ins 197 20 = some (.getfield 36, 3) := by decide +kernel
theorem ze_197_20 : z_T g d 197 20 ls (.ref a :: st) h P = z_gR h.1 a 10 24 (fun x => z_T g d 197 23 ls (.ref x :: st) h P) := zt_getR zi_197_20 ((congrArg (fun o => z_fl o 36) zo_197).trans zf_LatinRectanglesModel_36)
theorem zi_197_23 : z_ins 197 23 = some (.bipush 25, 2) := by decide +kernel
theorem ze_197_23 : z_T g d 197 23 ls st h P = z_T g d 197 25 ls (.int (nI 25) :: st) h P := zt_bipush zi_197_23 rfl
theorem zi_197_25 : z_ins 197 25 = some (.aload_n 0, 1) := by decide +kernel
theorem ze_197_25 : z_T g d 197 25 (.ref a :: ls) st h P = z_T g d 197 26 (.ref a :: ls) (.ref a :: st) h P := zt_aloadn zi_197_25 rfl rfl
theorem zi_197_26 : z_ins 197 26 = some (.getfield 36, 3) := by decide +kernel
theorem ze_197_26 : z_T g d 197 26 ls (.ref a :: st) h P = z_gR h.1 a 10 24 (fun x => z_T g d 197 29 ls (.ref x :: st) h P) := zt_getR zi_197_26 ((congrArg (fun o => z_fl o 36) zo_197).trans zf_LatinRectanglesModel_36)
theorem zi_197_29 : z_ins 197 29 = some (.iconst 0, 1) := by decide +kernel
theorem ze_197_29 : z_T g d 197 29 ls st h P = z_T g d 197 30 ls (.int (nI 0) :: st) h P := zt_iconst zi_197_29 rfl
theorem zi_197_30 : z_ins 197 30 = some (.bipush 25, 2) := by decide +kernel
theorem ze_197_30 : z_T g d 197 30 ls st h P = z_T g d 197 32 ls (.int (nI 25) :: st) h P := zt_bipush zi_197_30 rfl
theorem zi_197_32 : z_ins 197 32 = some (.aload_n 0, 1) := by decide +kernel
theorem ze_197_32 : z_T g d 197 32 (.ref a :: ls) st h P = z_T g d 197 33 (.ref a :: ls) (.ref a :: st) h P := zt_aloadn zi_197_32 rfl rfl
theorem zi_197_33 : z_ins 197 33 = some (.getfield 82, 3) := by decide +kernel
theorem ze_197_33 : z_T g d 197 33 ls (.ref a :: st) h P = z_gI h.1 a 10 23 (fun x => z_T g d 197 36 ls (.int x :: st) h P) := zt_getI zi_197_33 ((congrArg (fun o => z_fl o 82) zo_197).trans zf_LatinRectanglesModel_82)
theorem zi_197_36 : z_ins 197 36 = some (.imul, 1) := by decide +kernel
theorem ze_197_36 : z_T g d 197 36 ls (.int y :: .int x :: st) h P = z_T g d 197 37 ls (.int (x * y) :: st) h P := zt_bin (f := fun x y => x * y) zi_197_36 rfl (fun _ _ _ => rfl)
theorem zi_197_37 : z_ins 197 37 = some (.invokestatic 261, 3) := by decide +kernel
theorem ze_197_37 : z_T g d 197 37 ls (.int x4 :: .int x3 :: .ref a2 :: .int x1 :: .ref a0 :: st) h P = ((z_okS 8 st = true ∧ 0 < d) ∧ z_Ca g (d - 1) 196 [.ref a0, .int x1, .ref a2, .int x3, .int x4] h (fun r => z_k r (fun v h' => z_T g d 197 40 ls (z_push v st) h' P) P)) := zt_callS0 (as := [.ref a0, .int x1, .ref a2, .int x3, .int x4]) zi_197_37 ((congrArg (fun o => z_lookup z_prs (o, 261)) zo_197).trans zp_LatinRectanglesModel_261) ((congrArg (fun o => z_clk o 261) zo_197).trans zk_LatinRectanglesModel_261) zh_197 rfl rfl rfl
theorem zi_197_40 : z_ins 197 40 = some (.aload_n 0, 1) := by decide +kernel
theorem ze_197_40 : z_T g d 197 40 (.ref a :: ls) st h P = z_T g d 197 41 (.ref a :: ls) (.ref a :: st) h P := zt_aloadn zi_197_40 rfl rfl
theorem zi_197_41 : z_ins 197 41 = some (.getfield 22, 3) := by decide +kernel
theorem ze_197_41 : z_T g d 197 41 ls (.ref a :: st) h P = z_gR h.1 a 10 11 (fun x => z_T g d 197 44 ls (.ref x :: st) h P) := zt_getR zi_197_41 ((congrArg (fun o => z_fl o 22) zo_197).trans zf_LatinRectanglesModel_22)
theorem zi_197_44 : z_ins 197 44 = some (.iconst 0, 1) := by decide +kernel
theorem ze_197_44 : z_T g d 197 44 ls st h P = z_T g d 197 45 ls (.int (nI 0) :: st) h P := zt_iconst zi_197_44 rfl
theorem zi_197_45 : z_ins 197 45 = some (.aload_n 0, 1) := by decide +kernel
theorem ze_197_45 : z_T g d 197 45 (.ref a :: ls) st h P = z_T g d 197 46 (.ref a :: ls) (.ref a :: st) h P := zt_aloadn zi_197_45 rfl rfl
theorem zi_197_46 : z_ins 197 46 = some (.getfield 36, 3) := by decide +kernel
theorem ze_197_46 : z_T g d 197 46 ls (.ref a :: st) h P = z_gR h.1 a 10 24 (fun x => z_T g d 197 49 ls (.ref x :: st) h P) := zt_getR zi_197_46 ((congrArg (fun o => z_fl o 36) zo_197).trans zf_LatinRectanglesModel_36)
theorem zi_197_49 : z_ins 197 49 = some (.bipush 25, 2) := by decide +kernel
theorem ze_197_49 : z_T g d 197 49 ls st h P = z_T g d 197 51 ls (.int (nI 25) :: st) h P := zt_bipush zi_197_49 rfl
theorem zi_197_51 : z_ins 197 51 = some (.aload_n 0, 1) := by decide +kernel
theorem ze_197_51 : z_T g d 197 51 (.ref a :: ls) st h P = z_T g d 197 52 (.ref a :: ls) (.ref a :: st) h P := zt_aloadn zi_197_51 rfl rfl
theorem zi_197_52 : z_ins 197 52 = some (.getfield 82, 3) := by decide +kernel
theorem ze_197_52 : z_T g d 197 52 ls (.ref a :: st) h P = z_gI h.1 a 10 23 (fun x => z_T g d 197 55 ls (.int x :: st) h P) := zt_getI zi_197_52 ((congrArg (fun o => z_fl o 82) zo_197).trans zf_LatinRectanglesModel_82)
theorem zi_197_55 : z_ins 197 55 = some (.imul, 1) := by decide +kernel
theorem ze_197_55 : z_T g d 197 55 ls (.int y :: .int x :: st) h P = z_T g d 197 56 ls (.int (x * y) :: st) h P := zt_bin (f := fun x y => x * y) zi_197_55 rfl (fun _ _ _ => rfl)
theorem zi_197_56 : z_ins 197 56 = some (.bipush 25, 2) := by decide +kernel
theorem ze_197_56 : z_T g d 197 56 ls st h P = z_T g d 197 58 ls (.int (nI 25) :: st) h P := zt_bipush zi_197_56 rfl
theorem zi_197_58 : z_ins 197 58 = some (.invokestatic 261, 3) := by decide +kernel
theorem ze_197_58 : z_T g d 197 58 ls (.int x4 :: .int x3 :: .ref a2 :: .int x1 :: .ref a0 :: st) h P = ((z_okS 8 st = true ∧ 0 < d) ∧ z_Ca g (d - 1) 196 [.ref a0, .int x1, .ref a2, .int x3, .int x4] h (fun r => z_k r (fun v h' => z_T g d 197 61 ls (z_push v st) h' P) P)) := zt_callS0 (as := [.ref a0, .int x1, .ref a2, .int x3, .int x4]) zi_197_58 ((congrArg (fun o => z_lookup z_prs (o, 261)) zo_197).trans zp_LatinRectanglesModel_261) ((congrArg (fun o => z_clk o 261) zo_197).trans zk_LatinRectanglesModel_261) zh_197 rfl rfl rfl
theorem zi_197_61 : z_ins 197 61 = some (.aload_n 0, 1) := by decide +kernel
theorem ze_197_61 : z_T g d 197 61 (.ref a :: ls) st h P = z_T g d 197 62 (.ref a :: ls) (.ref a :: st) h P := zt_aloadn zi_197_61 rfl rfl
theorem zi_197_62 : z_ins 197 62 = some (.dup, 1) := by decide +kernel
theorem ze_197_62 : z_T g d 197 62 ls (.ref a :: st) h P = z_T g d 197 63 ls (.ref a :: .ref a :: st) h P := zt_dupR zi_197_62
theorem ze_197_62_i : z_T g d 197 62 ls (.int x :: st) h P = z_T g d 197 63 ls (.int x :: .int x :: st) h P := zt_dupI zi_197_62
theorem zi_197_63 : z_ins 197 63 = some (.getfield 82, 3) := by decide +kernel
theorem ze_197_63 : z_T g d 197 63 ls (.ref a :: st) h P = z_gI h.1 a 10 23 (fun x => z_T g d 197 66 ls (.int x :: st) h P) := zt_getI zi_197_63 ((congrArg (fun o => z_fl o 82) zo_197).trans zf_LatinRectanglesModel_82)
theorem zi_197_66 : z_ins 197 66 = some (.iconst 1, 1) := by decide +kernel
theorem ze_197_66 : z_T g d 197 66 ls st h P = z_T g d 197 67 ls (.int (nI 1) :: st) h P := zt_iconst zi_197_66 rfl
theorem zi_197_67 : z_ins 197 67 = some (.iadd, 1) := by decide +kernel
theorem ze_197_67 : z_T g d 197 67 ls (.int y :: .int x :: st) h P = z_T g d 197 68 ls (.int (x + y) :: st) h P := zt_bin (f := fun x y => x + y) zi_197_67 rfl (fun _ _ _ => rfl)
theorem zi_197_68 : z_ins 197 68 = some (.putfield 82, 3) := by decide +kernel
theorem ze_197_68 : z_T g d 197 68 ls (.int x :: .ref a :: st) h P = z_pF h.1 a 10 23 (.int x) (fun f => z_T g d 197 71 ls st (f, h.2) P) := zt_putI zi_197_68 ((congrArg (fun o => z_fl o 82) zo_197).trans zf_LatinRectanglesModel_82)
theorem zi_197_71 : z_ins 197 71 = some (.return_, 1) := by decide +kernel
theorem ze_197_71 : z_T g d 197 71 ls [] h P = P (.inr none, h) := zt_return zi_197_71 zr_197
-- LatinRectanglesModel.undo()I
theorem zo_198 : z_own 198 = "LatinRectanglesModel" := by decide +kernel
theorem zm_198 : z_maxL 198 = 1 := by decide +kernel
theorem zh_198 : z_hds 198 = [] := by decide +kernel
theorem zr_198 : z_rt 198 = (some .int) := by decide +kernel
theorem zn_198 : z_Ca g d 198 [.ref a0] h P = z_T g d 198 0 [.ref a0] [] h P := z_Ca_ent zm_198 rfl rfl
theorem zi_198_0 : z_ins 198 0 = some (.aload_n 0, 1) := by decide +kernel
theorem ze_198_0 : z_T g d 198 0 (.ref a :: ls) st h P = z_T g d 198 1 (.ref a :: ls) (.ref a :: st) h P := zt_aloadn zi_198_0 rfl rfl
theorem zi_198_1 : z_ins 198 1 = some (.iconst 0, 1) := by decide +kernel
theorem ze_198_1 : z_T g d 198 1 ls st h P = z_T g d 198 2 ls (.int (nI 0) :: st) h P := zt_iconst zi_198_1 rfl
theorem zi_198_2 : z_ins 198 2 = some (.putfield 67, 3) := by decide +kernel
theorem ze_198_2 : z_T g d 198 2 ls (.int x :: .ref a :: st) h P = z_pF h.1 a 10 0 (.int x) (fun f => z_T g d 198 5 ls st (f, h.2) P) := zt_putI zi_198_2 ((congrArg (fun o => z_fl o 67) zo_198).trans zf_LatinRectanglesModel_67)
theorem zi_198_5 : z_ins 198 5 = some (.aload_n 0, 1) := by decide +kernel
theorem ze_198_5 : z_T g d 198 5 (.ref a :: ls) st h P = z_T g d 198 6 (.ref a :: ls) (.ref a :: st) h P := zt_aloadn zi_198_5 rfl rfl
theorem zi_198_6 : z_ins 198 6 = some (.getfield 82, 3) := by decide +kernel
theorem ze_198_6 : z_T g d 198 6 ls (.ref a :: st) h P = z_gI h.1 a 10 23 (fun x => z_T g d 198 9 ls (.int x :: st) h P) := zt_getI zi_198_6 ((congrArg (fun o => z_fl o 82) zo_198).trans zf_LatinRectanglesModel_82)
theorem zi_198_9 : z_ins 198 9 = some (.ifCond .ne 5, 3) := by decide +kernel
theorem ze_198_9 : z_T g d 198 9 ls (.int x :: st) h P = (if x = nI 0 then z_T g d 198 12 ls st h P else z_T g d 198 14 ls st h P) := zt_ifne zi_198_9 (by decide)
theorem zi_198_12 : z_ins 198 12 = some (.iconst (-1), 1) := by decide +kernel
theorem ze_198_12 : z_T g d 198 12 ls st h P = z_T g d 198 13 ls (.int (-1) :: st) h P := zt_iconst zi_198_12 rfl
theorem zi_198_13 : z_ins 198 13 = some (.ireturn, 1) := by decide +kernel
theorem ze_198_13 : z_T g d 198 13 ls [.int x] h P = P (.inr (some (.int x)), h) := zt_ireturn zi_198_13 zr_198
theorem zi_198_14 : z_ins 198 14 = some (.aload_n 0, 1) := by decide +kernel
theorem ze_198_14 : z_T g d 198 14 (.ref a :: ls) st h P = z_T g d 198 15 (.ref a :: ls) (.ref a :: st) h P := zt_aloadn zi_198_14 rfl rfl
theorem zi_198_15 : z_ins 198 15 = some (.dup, 1) := by decide +kernel
theorem ze_198_15 : z_T g d 198 15 ls (.ref a :: st) h P = z_T g d 198 16 ls (.ref a :: .ref a :: st) h P := zt_dupR zi_198_15
theorem ze_198_15_i : z_T g d 198 15 ls (.int x :: st) h P = z_T g d 198 16 ls (.int x :: .int x :: st) h P := zt_dupI zi_198_15
theorem zi_198_16 : z_ins 198 16 = some (.getfield 82, 3) := by decide +kernel
theorem ze_198_16 : z_T g d 198 16 ls (.ref a :: st) h P = z_gI h.1 a 10 23 (fun x => z_T g d 198 19 ls (.int x :: st) h P) := zt_getI zi_198_16 ((congrArg (fun o => z_fl o 82) zo_198).trans zf_LatinRectanglesModel_82)
theorem zi_198_19 : z_ins 198 19 = some (.iconst 1, 1) := by decide +kernel
theorem ze_198_19 : z_T g d 198 19 ls st h P = z_T g d 198 20 ls (.int (nI 1) :: st) h P := zt_iconst zi_198_19 rfl
theorem zi_198_20 : z_ins 198 20 = some (.isub, 1) := by decide +kernel
theorem ze_198_20 : z_T g d 198 20 ls (.int y :: .int x :: st) h P = z_T g d 198 21 ls (.int (x - y) :: st) h P := zt_bin (f := fun x y => x - y) zi_198_20 rfl (fun _ _ _ => rfl)
theorem zi_198_21 : z_ins 198 21 = some (.putfield 82, 3) := by decide +kernel
theorem ze_198_21 : z_T g d 198 21 ls (.int x :: .ref a :: st) h P = z_pF h.1 a 10 23 (.int x) (fun f => z_T g d 198 24 ls st (f, h.2) P) := zt_putI zi_198_21 ((congrArg (fun o => z_fl o 82) zo_198).trans zf_LatinRectanglesModel_82)
theorem zi_198_24 : z_ins 198 24 = some (.aload_n 0, 1) := by decide +kernel
theorem ze_198_24 : z_T g d 198 24 (.ref a :: ls) st h P = z_T g d 198 25 (.ref a :: ls) (.ref a :: st) h P := zt_aloadn zi_198_24 rfl rfl
theorem zi_198_25 : z_ins 198 25 = some (.getfield 36, 3) := by decide +kernel
theorem ze_198_25 : z_T g d 198 25 ls (.ref a :: st) h P = z_gR h.1 a 10 24 (fun x => z_T g d 198 28 ls (.ref x :: st) h P) := zt_getR zi_198_25 ((congrArg (fun o => z_fl o 36) zo_198).trans zf_LatinRectanglesModel_36)
theorem zi_198_28 : z_ins 198 28 = some (.bipush 25, 2) := by decide +kernel
theorem ze_198_28 : z_T g d 198 28 ls st h P = z_T g d 198 30 ls (.int (nI 25) :: st) h P := zt_bipush zi_198_28 rfl
theorem zi_198_30 : z_ins 198 30 = some (.aload_n 0, 1) := by decide +kernel
theorem ze_198_30 : z_T g d 198 30 (.ref a :: ls) st h P = z_T g d 198 31 (.ref a :: ls) (.ref a :: st) h P := zt_aloadn zi_198_30 rfl rfl
theorem zi_198_31 : z_ins 198 31 = some (.getfield 82, 3) := by decide +kernel
theorem ze_198_31 : z_T g d 198 31 ls (.ref a :: st) h P = z_gI h.1 a 10 23 (fun x => z_T g d 198 34 ls (.int x :: st) h P) := zt_getI zi_198_31 ((congrArg (fun o => z_fl o 82) zo_198).trans zf_LatinRectanglesModel_82)
theorem zi_198_34 : z_ins 198 34 = some (.imul, 1) := by decide +kernel
theorem ze_198_34 : z_T g d 198 34 ls (.int y :: .int x :: st) h P = z_T g d 198 35 ls (.int (x * y) :: st) h P := zt_bin (f := fun x y => x * y) zi_198_34 rfl (fun _ _ _ => rfl)
theorem zi_198_35 : z_ins 198 35 = some (.aload_n 0, 1) := by decide +kernel
theorem ze_198_35 : z_T g d 198 35 (.ref a :: ls) st h P = z_T g d 198 36 (.ref a :: ls) (.ref a :: st) h P := zt_aloadn zi_198_35 rfl rfl
theorem zi_198_36 : z_ins 198 36 = some (.getfield 22, 3) := by decide +kernel
theorem ze_198_36 : z_T g d 198 36 ls (.ref a :: st) h P = z_gR h.1 a 10 11 (fun x => z_T g d 198 39 ls (.ref x :: st) h P) := zt_getR zi_198_36 ((congrArg (fun o => z_fl o 22) zo_198).trans zf_LatinRectanglesModel_22)
theorem zi_198_39 : z_ins 198 39 = some (.iconst 0, 1) := by decide +kernel
theorem ze_198_39 : z_T g d 198 39 ls st h P = z_T g d 198 40 ls (.int (nI 0) :: st) h P := zt_iconst zi_198_39 rfl
theorem zi_198_40 : z_ins 198 40 = some (.bipush 25, 2) := by decide +kernel
theorem ze_198_40 : z_T g d 198 40 ls st h P = z_T g d 198 42 ls (.int (nI 25) :: st) h P := zt_bipush zi_198_40 rfl
theorem zi_198_42 : z_ins 198 42 = some (.invokestatic 261, 3) := by decide +kernel
theorem ze_198_42 : z_T g d 198 42 ls (.int x4 :: .int x3 :: .ref a2 :: .int x1 :: .ref a0 :: st) h P = ((z_okS 8 st = true ∧ 0 < d) ∧ z_Ca g (d - 1) 196 [.ref a0, .int x1, .ref a2, .int x3, .int x4] h (fun r => z_k r (fun v h' => z_T g d 198 45 ls (z_push v st) h' P) P)) := zt_callS0 (as := [.ref a0, .int x1, .ref a2, .int x3, .int x4]) zi_198_42 ((congrArg (fun o => z_lookup z_prs (o, 261)) zo_198).trans zp_LatinRectanglesModel_261) ((congrArg (fun o => z_clk o 261) zo_198).trans zk_LatinRectanglesModel_261) zh_198 rfl rfl rfl
theorem zi_198_45 : z_ins 198 45 = some (.aload_n 0, 1) := by decide +kernel
theorem ze_198_45 : z_T g d 198 45 (.ref a :: ls) st h P = z_T g d 198 46 (.ref a :: ls) (.ref a :: st) h P := zt_aloadn zi_198_45 rfl rfl
theorem zi_198_46 : z_ins 198 46 = some (.getfield 82, 3) := by decide +kernel
theorem ze_198_46 : z_T g d 198 46 ls (.ref a :: st) h P = z_gI h.1 a 10 23 (fun x => z_T g d 198 49 ls (.int x :: st) h P) := zt_getI zi_198_46 ((congrArg (fun o => z_fl o 82) zo_198).trans zf_LatinRectanglesModel_82)
theorem zi_198_49 : z_ins 198 49 = some (.ireturn, 1) := by decide +kernel
theorem ze_198_49 : z_T g d 198 49 ls [.int x] h P = P (.inr (some (.int x)), h) := zt_ireturn zi_198_49 zr_198
-- LatinRectanglesModel.saveSnapshot(I)Z
theorem zo_199 : z_own 199 = "LatinRectanglesModel" := by decide +kernel
theorem zm_199 : z_maxL 199 = 3 := by decide +kernel
theorem zh_199 : z_hds 199 = [] := by decide +kernel
theorem zr_199 : z_rt 199 = (some .boolean) := by decide +kernel
theorem zn_199 : z_Ca g d 199 [.ref a0, .int x1] h P = z_T g d 199 0 [.ref a0, .int x1, z_un] [] h P := z_Ca_ent zm_199 rfl rfl
theorem zi_199_0 : z_ins 199 0 = some (.aload_n 0, 1) := by decide +kernel
theorem ze_199_0 : z_T g d 199 0 (.ref a :: ls) st h P = z_T g d 199 1 (.ref a :: ls) (.ref a :: st) h P := zt_aloadn zi_199_0 rfl rfl
theorem zi_199_1 : z_ins 199 1 = some (.iload_n 1, 1) := by decide +kernel
theorem ze_199_1 : z_T g d 199 1 (v0 :: .int x :: ls) st h P = z_T g d 199 2 (v0 :: .int x :: ls) (.int x :: st) h P := zt_iloadn zi_199_1 rfl rfl
theorem zi_199_2 : z_ins 199 2 = some (.invokevirtual 243, 3) := by decide +kernel
theorem ze_199_2 : z_T g d 199 2 ls (.int x0 :: .ref a :: st) h P = ((z_okS 8 st = true ∧ z_gO h.1 a 10 ∧ 0 < d) ∧ z_Ca g (d - 1) 183 [.ref a, .int x0] h (fun r => z_k r (fun v h' => z_T g d 199 5 ls (z_push v st) h' P) P)) := zt_callV (as := [.int x0]) zi_199_2 ((congrArg (fun o => z_lookup z_prs (o, 243)) zo_199).trans zp_LatinRectanglesModel_243) ((congrArg (fun o => z_clk o 243) zo_199).trans zk_LatinRectanglesModel_243) zh_199 zc_183 rfl rfl rfl
theorem zi_199_5 : z_ins 199 5 = some (.ifCond .eq 5, 3) := by decide +kernel
theorem ze_199_5 : z_T g d 199 5 ls (.int x :: st) h P = (if x = nI 0 then z_T g d 199 10 ls st h P else z_T g d 199 8 ls st h P) := zt_ifeq zi_199_5 (by decide)
theorem zi_199_8 : z_ins 199 8 = some (.iconst 0, 1) := by decide +kernel
theorem ze_199_8 : z_T g d 199 8 ls st h P = z_T g d 199 9 ls (.int (nI 0) :: st) h P := zt_iconst zi_199_8 rfl
theorem zi_199_9 : z_ins 199 9 = some (.ireturn, 1) := by decide +kernel
theorem ze_199_9 : z_T g d 199 9 ls [.int x] h P = ((x = nI 0 ∨ x = nI 1) ∧ P (.inr (some (.int x)), h)) := zt_zreturn zi_199_9 zr_199
theorem zi_199_10 : z_ins 199 10 = some (.aload_n 0, 1) := by decide +kernel
theorem ze_199_10 : z_T g d 199 10 (.ref a :: ls) st h P = z_T g d 199 11 (.ref a :: ls) (.ref a :: st) h P := zt_aloadn zi_199_10 rfl rfl
theorem zi_199_11 : z_ins 199 11 = some (.getfield 48, 3) := by decide +kernel
theorem ze_199_11 : z_T g d 199 11 ls (.ref a :: st) h P = z_gR h.1 a 10 28 (fun x => z_T g d 199 14 ls (.ref x :: st) h P) := zt_getR zi_199_11 ((congrArg (fun o => z_fl o 48) zo_199).trans zf_LatinRectanglesModel_48)
theorem zi_199_14 : z_ins 199 14 = some (.iload_n 1, 1) := by decide +kernel
theorem ze_199_14 : z_T g d 199 14 (v0 :: .int x :: ls) st h P = z_T g d 199 15 (v0 :: .int x :: ls) (.int x :: st) h P := zt_iloadn zi_199_14 rfl rfl
theorem zi_199_15 : z_ins 199 15 = some (.baload, 1) := by decide +kernel
theorem ze_199_15 : z_T g d 199 15 ls (.int x :: .ref a :: st) h P = z_aL h.1 a z_tB x (fun v => z_T g d 199 16 ls (.int v :: st) h P) := zt_baload zi_199_15
theorem zi_199_16 : z_ins 199 16 = some (.istore_n 2, 1) := by decide +kernel
theorem ze_199_16 : z_T g d 199 16 (v0 :: v1 :: v2 :: ls) (.int x :: st) h P = z_T g d 199 17 (v0 :: v1 :: .int x :: ls) st h P := zt_istoren zi_199_16 rfl (Nat.le_add_left 3 _)
theorem zi_199_17 : z_ins 199 17 = some (.aload_n 0, 1) := by decide +kernel
theorem ze_199_17 : z_T g d 199 17 (.ref a :: ls) st h P = z_T g d 199 18 (.ref a :: ls) (.ref a :: st) h P := zt_aloadn zi_199_17 rfl rfl
theorem zi_199_18 : z_ins 199 18 = some (.getfield 22, 3) := by decide +kernel
theorem ze_199_18 : z_T g d 199 18 ls (.ref a :: st) h P = z_gR h.1 a 10 11 (fun x => z_T g d 199 21 ls (.ref x :: st) h P) := zt_getR zi_199_18 ((congrArg (fun o => z_fl o 22) zo_199).trans zf_LatinRectanglesModel_22)
theorem zi_199_21 : z_ins 199 21 = some (.iconst 0, 1) := by decide +kernel
theorem ze_199_21 : z_T g d 199 21 ls st h P = z_T g d 199 22 ls (.int (nI 0) :: st) h P := zt_iconst zi_199_21 rfl
theorem zi_199_22 : z_ins 199 22 = some (.aload_n 0, 1) := by decide +kernel
theorem ze_199_22 : z_T g d 199 22 (.ref a :: ls) st h P = z_T g d 199 23 (.ref a :: ls) (.ref a :: st) h P := zt_aloadn zi_199_22 rfl rfl
theorem zi_199_23 : z_ins 199 23 = some (.getfield 39, 3) := by decide +kernel
theorem ze_199_23 : z_T g d 199 23 ls (.ref a :: st) h P = z_gR h.1 a 10 25 (fun x => z_T g d 199 26 ls (.ref x :: st) h P) := zt_getR zi_199_23 ((congrArg (fun o => z_fl o 39) zo_199).trans zf_LatinRectanglesModel_39)
theorem zi_199_26 : z_ins 199 26 = some (.bipush 25, 2) := by decide +kernel
theorem ze_199_26 : z_T g d 199 26 ls st h P = z_T g d 199 28 ls (.int (nI 25) :: st) h P := zt_bipush zi_199_26 rfl
theorem zi_199_28 : z_ins 199 28 = some (.iload_n 1, 1) := by decide +kernel
theorem ze_199_28 : z_T g d 199 28 (v0 :: .int x :: ls) st h P = z_T g d 199 29 (v0 :: .int x :: ls) (.int x :: st) h P := zt_iloadn zi_199_28 rfl rfl
theorem zi_199_29 : z_ins 199 29 = some (.imul, 1) := by decide +kernel
theorem ze_199_29 : z_T g d 199 29 ls (.int y :: .int x :: st) h P = z_T g d 199 30 ls (.int (x * y) :: st) h P := zt_bin (f := fun x y => x * y) zi_199_29 rfl (fun _ _ _ => rfl)
theorem zi_199_30 : z_ins 199 30 = some (.bipush 25, 2) := by decide +kernel
theorem ze_199_30 : z_T g d 199 30 ls st h P = z_T g d 199 32 ls (.int (nI 25) :: st) h P := zt_bipush zi_199_30 rfl
theorem zi_199_32 : z_ins 199 32 = some (.invokestatic 261, 3) := by decide +kernel
theorem ze_199_32 : z_T g d 199 32 ls (.int x4 :: .int x3 :: .ref a2 :: .int x1 :: .ref a0 :: st) h P = ((z_okS 8 st = true ∧ 0 < d) ∧ z_Ca g (d - 1) 196 [.ref a0, .int x1, .ref a2, .int x3, .int x4] h (fun r => z_k r (fun v h' => z_T g d 199 35 ls (z_push v st) h' P) P)) := zt_callS0 (as := [.ref a0, .int x1, .ref a2, .int x3, .int x4]) zi_199_32 ((congrArg (fun o => z_lookup z_prs (o, 261)) zo_199).trans zp_LatinRectanglesModel_261) ((congrArg (fun o => z_clk o 261) zo_199).trans zk_LatinRectanglesModel_261) zh_199 rfl rfl rfl
theorem zi_199_35 : z_ins 199 35 = some (.aload_n 0, 1) := by decide +kernel
theorem ze_199_35 : z_T g d 199 35 (.ref a :: ls) st h P = z_T g d 199 36 (.ref a :: ls) (.ref a :: st) h P := zt_aloadn zi_199_35 rfl rfl
theorem zi_199_36 : z_ins 199 36 = some (.getfield 48, 3) := by decide +kernel
theorem ze_199_36 : z_T g d 199 36 ls (.ref a :: st) h P = z_gR h.1 a 10 28 (fun x => z_T g d 199 39 ls (.ref x :: st) h P) := zt_getR zi_199_36 ((congrArg (fun o => z_fl o 48) zo_199).trans zf_LatinRectanglesModel_48)
theorem zi_199_39 : z_ins 199 39 = some (.iload_n 1, 1) := by decide +kernel
theorem ze_199_39 : z_T g d 199 39 (v0 :: .int x :: ls) st h P = z_T g d 199 40 (v0 :: .int x :: ls) (.int x :: st) h P := zt_iloadn zi_199_39 rfl rfl
theorem zi_199_40 : z_ins 199 40 = some (.iconst 1, 1) := by decide +kernel
theorem ze_199_40 : z_T g d 199 40 ls st h P = z_T g d 199 41 ls (.int (nI 1) :: st) h P := zt_iconst zi_199_40 rfl
theorem zi_199_41 : z_ins 199 41 = some (.bastore, 1) := by decide +kernel
theorem ze_199_41 : z_T g d 199 41 ls (.int y :: .int x :: .ref a :: st) h P = z_aS h.1 a z_tB x y (fun f => z_T g d 199 42 ls st (f, h.2) P) := zt_bastore zi_199_41
theorem zi_199_42 : z_ins 199 42 = some (.iload_n 2, 1) := by decide +kernel
theorem ze_199_42 : z_T g d 199 42 (v0 :: v1 :: .int x :: ls) st h P = z_T g d 199 43 (v0 :: v1 :: .int x :: ls) (.int x :: st) h P := zt_iloadn zi_199_42 rfl rfl
theorem zi_199_43 : z_ins 199 43 = some (.ireturn, 1) := by decide +kernel
theorem ze_199_43 : z_T g d 199 43 ls [.int x] h P = ((x = nI 0 ∨ x = nI 1) ∧ P (.inr (some (.int x)), h)) := zt_zreturn zi_199_43 zr_199
-- LatinRectanglesModel.restoreSnapshot(I)I
theorem zo_200 : z_own 200 = "LatinRectanglesModel" := by decide +kernel
theorem zm_200 : z_maxL 200 = 2 := by decide +kernel
theorem zh_200 : z_hds 200 = [] := by decide +kernel
theorem zr_200 : z_rt 200 = (some .int) := by decide +kernel
theorem zn_200 : z_Ca g d 200 [.ref a0, .int x1] h P = z_T g d 200 0 [.ref a0, .int x1] [] h P := z_Ca_ent zm_200 rfl rfl
theorem zi_200_0 : z_ins 200 0 = some (.aload_n 0, 1) := by decide +kernel
theorem ze_200_0 : z_T g d 200 0 (.ref a :: ls) st h P = z_T g d 200 1 (.ref a :: ls) (.ref a :: st) h P := zt_aloadn zi_200_0 rfl rfl
theorem zi_200_1 : z_ins 200 1 = some (.iload_n 1, 1) := by decide +kernel
theorem ze_200_1 : z_T g d 200 1 (v0 :: .int x :: ls) st h P = z_T g d 200 2 (v0 :: .int x :: ls) (.int x :: st) h P := zt_iloadn zi_200_1 rfl rfl
theorem zi_200_2 : z_ins 200 2 = some (.invokevirtual 246, 3) := by decide +kernel
theorem ze_200_2 : z_T g d 200 2 ls (.int x0 :: .ref a :: st) h P = ((z_okS 8 st = true ∧ z_gO h.1 a 10 ∧ 0 < d) ∧ z_Ca g (d - 1) 184 [.ref a, .int x0] h (fun r => z_k r (fun v h' => z_T g d 200 5 ls (z_push v st) h' P) P)) := zt_callV (as := [.int x0]) zi_200_2 ((congrArg (fun o => z_lookup z_prs (o, 246)) zo_200).trans zp_LatinRectanglesModel_246) ((congrArg (fun o => z_clk o 246) zo_200).trans zk_LatinRectanglesModel_246) zh_200 zc_184 rfl rfl rfl
theorem zi_200_5 : z_ins 200 5 = some (.ifCond .eq 5, 3) := by decide +kernel
theorem ze_200_5 : z_T g d 200 5 ls (.int x :: st) h P = (if x = nI 0 then z_T g d 200 10 ls st h P else z_T g d 200 8 ls st h P) := zt_ifeq zi_200_5 (by decide)
theorem zi_200_8 : z_ins 200 8 = some (.iconst 0, 1) := by decide +kernel
theorem ze_200_8 : z_T g d 200 8 ls st h P = z_T g d 200 9 ls (.int (nI 0) :: st) h P := zt_iconst zi_200_8 rfl
theorem zi_200_9 : z_ins 200 9 = some (.ireturn, 1) := by decide +kernel
theorem ze_200_9 : z_T g d 200 9 ls [.int x] h P = P (.inr (some (.int x)), h) := zt_ireturn zi_200_9 zr_200
theorem zi_200_10 : z_ins 200 10 = some (.aload_n 0, 1) := by decide +kernel
theorem ze_200_10 : z_T g d 200 10 (.ref a :: ls) st h P = z_T g d 200 11 (.ref a :: ls) (.ref a :: st) h P := zt_aloadn zi_200_10 rfl rfl
theorem zi_200_11 : z_ins 200 11 = some (.getfield 39, 3) := by decide +kernel
theorem ze_200_11 : z_T g d 200 11 ls (.ref a :: st) h P = z_gR h.1 a 10 25 (fun x => z_T g d 200 14 ls (.ref x :: st) h P) := zt_getR zi_200_11 ((congrArg (fun o => z_fl o 39) zo_200).trans zf_LatinRectanglesModel_39)
theorem zi_200_14 : z_ins 200 14 = some (.bipush 25, 2) := by decide +kernel
theorem ze_200_14 : z_T g d 200 14 ls st h P = z_T g d 200 16 ls (.int (nI 25) :: st) h P := zt_bipush zi_200_14 rfl
theorem zi_200_16 : z_ins 200 16 = some (.iload_n 1, 1) := by decide +kernel
theorem ze_200_16 : z_T g d 200 16 (v0 :: .int x :: ls) st h P = z_T g d 200 17 (v0 :: .int x :: ls) (.int x :: st) h P := zt_iloadn zi_200_16 rfl rfl
theorem zi_200_17 : z_ins 200 17 = some (.imul, 1) := by decide +kernel
theorem ze_200_17 : z_T g d 200 17 ls (.int y :: .int x :: st) h P = z_T g d 200 18 ls (.int (x * y) :: st) h P := zt_bin (f := fun x y => x * y) zi_200_17 rfl (fun _ _ _ => rfl)
theorem zi_200_18 : z_ins 200 18 = some (.aload_n 0, 1) := by decide +kernel
theorem ze_200_18 : z_T g d 200 18 (.ref a :: ls) st h P = z_T g d 200 19 (.ref a :: ls) (.ref a :: st) h P := zt_aloadn zi_200_18 rfl rfl
theorem zi_200_19 : z_ins 200 19 = some (.getfield 22, 3) := by decide +kernel
theorem ze_200_19 : z_T g d 200 19 ls (.ref a :: st) h P = z_gR h.1 a 10 11 (fun x => z_T g d 200 22 ls (.ref x :: st) h P) := zt_getR zi_200_19 ((congrArg (fun o => z_fl o 22) zo_200).trans zf_LatinRectanglesModel_22)
theorem zi_200_22 : z_ins 200 22 = some (.iconst 0, 1) := by decide +kernel
theorem ze_200_22 : z_T g d 200 22 ls st h P = z_T g d 200 23 ls (.int (nI 0) :: st) h P := zt_iconst zi_200_22 rfl
theorem zi_200_23 : z_ins 200 23 = some (.bipush 25, 2) := by decide +kernel
theorem ze_200_23 : z_T g d 200 23 ls st h P = z_T g d 200 25 ls (.int (nI 25) :: st) h P := zt_bipush zi_200_23 rfl
theorem zi_200_25 : z_ins 200 25 = some (.invokestatic 261, 3) := by decide +kernel
theorem ze_200_25 : z_T g d 200 25 ls (.int x4 :: .int x3 :: .ref a2 :: .int x1 :: .ref a0 :: st) h P = ((z_okS 8 st = true ∧ 0 < d) ∧ z_Ca g (d - 1) 196 [.ref a0, .int x1, .ref a2, .int x3, .int x4] h (fun r => z_k r (fun v h' => z_T g d 200 28 ls (z_push v st) h' P) P)) := zt_callS0 (as := [.ref a0, .int x1, .ref a2, .int x3, .int x4]) zi_200_25 ((congrArg (fun o => z_lookup z_prs (o, 261)) zo_200).trans zp_LatinRectanglesModel_261) ((congrArg (fun o => z_clk o 261) zo_200).trans zk_LatinRectanglesModel_261) zh_200 rfl rfl rfl
theorem zi_200_28 : z_ins 200 28 = some (.aload_n 0, 1) := by decide +kernel
theorem ze_200_28 : z_T g d 200 28 (.ref a :: ls) st h P = z_T g d 200 29 (.ref a :: ls) (.ref a :: st) h P := zt_aloadn zi_200_28 rfl rfl
theorem zi_200_29 : z_ins 200 29 = some (.iconst 0, 1) := by decide +kernel
theorem ze_200_29 : z_T g d 200 29 ls st h P = z_T g d 200 30 ls (.int (nI 0) :: st) h P := zt_iconst zi_200_29 rfl
theorem zi_200_30 : z_ins 200 30 = some (.putfield 82, 3) := by decide +kernel
theorem ze_200_30 : z_T g d 200 30 ls (.int x :: .ref a :: st) h P = z_pF h.1 a 10 23 (.int x) (fun f => z_T g d 200 33 ls st (f, h.2) P) := zt_putI zi_200_30 ((congrArg (fun o => z_fl o 82) zo_200).trans zf_LatinRectanglesModel_82)
theorem zi_200_33 : z_ins 200 33 = some (.aload_n 0, 1) := by decide +kernel
theorem ze_200_33 : z_T g d 200 33 (.ref a :: ls) st h P = z_T g d 200 34 (.ref a :: ls) (.ref a :: st) h P := zt_aloadn zi_200_33 rfl rfl
theorem zi_200_34 : z_ins 200 34 = some (.invokevirtual 189, 3) := by decide +kernel
theorem ze_200_34 : z_T g d 200 34 ls (.ref a :: st) h P = ((z_okS 8 st = true ∧ z_gO h.1 a 10 ∧ 0 < d) ∧ z_Ca g (d - 1) 146 [.ref a] h (fun r => z_k r (fun v h' => z_T g d 200 37 ls (z_push v st) h' P) P)) := zt_callV (as := []) zi_200_34 ((congrArg (fun o => z_lookup z_prs (o, 189)) zo_200).trans zp_LatinRectanglesModel_189) ((congrArg (fun o => z_clk o 189) zo_200).trans zk_LatinRectanglesModel_189) zh_200 zc_146 rfl rfl rfl
theorem zi_200_37 : z_ins 200 37 = some (.ireturn, 1) := by decide +kernel
theorem ze_200_37 : z_T g d 200 37 ls [.int x] h P = P (.inr (some (.int x)), h) := zt_ireturn zi_200_37 zr_200
end
