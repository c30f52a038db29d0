section
variable {g : z_G} {d : Nat} {h : z_H} {P : z_Res → Prop} {ls st : List Value} {v0 v1 v2 v3 v4 v5 v6 v7 v8 v9 v10 v11 : Value} {x y x0 x1 x2 x3 x4 x5 x6 : Int32} {u w : Int64} {a b a0 a1 a2 a3 a4 a5 k0 k1 : Nat}
-- LatinRectanglesLaw.parse(LLatinRectangles;I[J)I
theorem zo_202 : z_own 202 = "LatinRectanglesLaw" := by decide +kernel
theorem zm_202 : z_maxL 202 = 4 := by decide +kernel
theorem zh_202 : z_hds 202 ≠ [] := by decide +kernel
theorem zr_202 : z_rt 202 = (some .int) := by decide +kernel
theorem zn_202 : z_Ca g d 202 [.ref a0, .int x1, .ref a2] h P = z_T g d 202 0 [.ref a0, .int x1, .ref a2, z_un] [] h P := z_Ca_ent zm_202 rfl rfl
theorem zi_202_0 : z_ins 202 0 = some (.aload_n 2, 1) := by decide +kernel
theorem ze_202_0 : z_T g d 202 0 (v0 :: v1 :: .ref a :: ls) st h P = z_T g d 202 1 (v0 :: v1 :: .ref a :: ls) (.ref a :: st) h P := zt_aloadn zi_202_0 rfl rfl
theorem zi_202_1 : z_ins 202 1 = some (.iconst 0, 1) := by decide +kernel
theorem ze_202_1 : z_T g d 202 1 ls st h P = z_T g d 202 2 ls (.int (nI 0) :: st) h P := zt_iconst zi_202_1 rfl
theorem zi_202_2 : z_ins 202 2 = some (.aload_n 0, 1) := by decide +kernel
theorem ze_202_2 : z_T g d 202 2 (.ref a :: ls) st h P = z_T g d 202 3 (.ref a :: ls) (.ref a :: st) h P := zt_aloadn zi_202_2 rfl rfl
theorem zi_202_3 : z_ins 202 3 = some (.iload_n 1, 1) := by decide +kernel
theorem ze_202_3 : z_T g d 202 3 (v0 :: .int x :: ls) st h P = z_T g d 202 4 (v0 :: .int x :: ls) (.int x :: st) h P := zt_iloadn zi_202_3 rfl rfl
theorem zi_202_4 : z_ins 202 4 = some (.invokevirtual 7, 3) := by decide +kernel
theorem ze_202_4 : z_T g d 202 4 ls (.int x0 :: .ref a :: st) h P = ((z_okS 8 st = true ∧ z_gO h.1 a 9 ∧ 0 < d) ∧ z_Ca g (d - 1) 81 [.ref a, .int x0] h (fun r => z_kH 202 4 ls r (fun v h' => z_T g d 202 7 ls (z_push v st) h' P) (fun pc' ls' h' => z_T g d 202 pc' ls' [] h' P))) := zt_callVH (as := [.int x0]) zi_202_4 ((congrArg (fun o => z_lookup z_prs (o, 7)) zo_202).trans zp_LatinRectanglesLaw_7) ((congrArg (fun o => z_clk o 7) zo_202).trans zk_LatinRectanglesLaw_7) zh_202 zc_81 rfl rfl rfl
theorem zi_202_7 : z_ins 202 7 = some (.i2l, 1) := by decide +kernel
theorem ze_202_7 : z_T g d 202 7 ls (.int x :: st) h P = z_T g d 202 8 ls (.long x.toInt64 :: st) h P := zt_i2l zi_202_7
theorem zi_202_8 : z_ins 202 8 = some (.lastore, 1) := by decide +kernel
theorem ze_202_8 : z_T g d 202 8 ls (.long u :: .int x :: .ref a :: st) h P = z_lS h.1 a x u (fun f => z_T g d 202 9 ls st (f, h.2) P) := zt_lastore zi_202_8
theorem zi_202_9 : z_ins 202 9 = some (.goto 6, 3) := by decide +kernel
theorem ze_202_9 : z_T g d 202 9 ls st h P = z_T g d 202 15 ls st h P := zt_goto zi_202_9 (by decide)
theorem zi_202_12 : z_ins 202 12 = some (.astore_n 3, 1) := by decide +kernel
theorem ze_202_12 : z_T g d 202 12 (v0 :: v1 :: v2 :: v3 :: ls) (.ref a :: st) h P = z_T g d 202 13 (v0 :: v1 :: v2 :: .ref a :: ls) st h P := zt_astoren zi_202_12 rfl (Nat.le_add_left 4 _)
theorem zi_202_13 : z_ins 202 13 = some (.iconst 1, 1) := by decide +kernel
theorem ze_202_13 : z_T g d 202 13 ls st h P = z_T g d 202 14 ls (.int (nI 1) :: st) h P := zt_iconst zi_202_13 rfl
theorem zi_202_14 : z_ins 202 14 = some (.ireturn, 1) := by decide +kernel
theorem ze_202_14 : z_T g d 202 14 ls [.int x] h P = P (.inr (some (.int x)), h) := zt_ireturn zi_202_14 zr_202
theorem zi_202_15 : z_ins 202 15 = some (.iconst 0, 1) := by decide +kernel
theorem ze_202_15 : z_T g d 202 15 ls st h P = z_T g d 202 16 ls (.int (nI 0) :: st) h P := zt_iconst zi_202_15 rfl
theorem zi_202_16 : z_ins 202 16 = some (.ireturn, 1) := by decide +kernel
theorem ze_202_16 : z_T g d 202 16 ls [.int x] h P = P (.inr (some (.int x)), h) := zt_ireturn zi_202_16 zr_202
-- LatinRectanglesLaw.size(LLatinRectangles;I[J)I
theorem zo_203 : z_own 203 = "LatinRectanglesLaw" := by decide +kernel
theorem zm_203 : z_maxL 203 = 4 := by decide +kernel
theorem zh_203 : z_hds 203 ≠ [] := by decide +kernel
theorem zr_203 : z_rt 203 = (some .int) := by decide +kernel
theorem zn_203 : z_Ca g d 203 [.ref a0, .int x1, .ref a2] h P = z_T g d 203 0 [.ref a0, .int x1, .ref a2, z_un] [] h P := z_Ca_ent zm_203 rfl rfl
theorem zi_203_0 : z_ins 203 0 = some (.aload_n 2, 1) := by decide +kernel
theorem ze_203_0 : z_T g d 203 0 (v0 :: v1 :: .ref a :: ls) st h P = z_T g d 203 1 (v0 :: v1 :: .ref a :: ls) (.ref a :: st) h P := zt_aloadn zi_203_0 rfl rfl
theorem zi_203_1 : z_ins 203 1 = some (.iconst 0, 1) := by decide +kernel
theorem ze_203_1 : z_T g d 203 1 ls st h P = z_T g d 203 2 ls (.int (nI 0) :: st) h P := zt_iconst zi_203_1 rfl
theorem zi_203_2 : z_ins 203 2 = some (.aload_n 0, 1) := by decide +kernel
theorem ze_203_2 : z_T g d 203 2 (.ref a :: ls) st h P = z_T g d 203 3 (.ref a :: ls) (.ref a :: st) h P := zt_aloadn zi_203_2 rfl rfl
theorem zi_203_3 : z_ins 203 3 = some (.iload_n 1, 1) := by decide +kernel
theorem ze_203_3 : z_T g d 203 3 (v0 :: .int x :: ls) st h P = z_T g d 203 4 (v0 :: .int x :: ls) (.int x :: st) h P := zt_iloadn zi_203_3 rfl rfl
theorem zi_203_4 : z_ins 203 4 = some (.invokevirtual 15, 3) := by decide +kernel
theorem ze_203_4 : z_T g d 203 4 ls (.int x0 :: .ref a :: st) h P = ((z_okS 8 st = true ∧ z_gO h.1 a 9 ∧ 0 < d) ∧ z_Ca g (d - 1) 83 [.ref a, .int x0] h (fun r => z_kH 203 4 ls r (fun v h' => z_T g d 203 7 ls (z_push v st) h' P) (fun pc' ls' h' => z_T g d 203 pc' ls' [] h' P))) := zt_callVH (as := [.int x0]) zi_203_4 ((congrArg (fun o => z_lookup z_prs (o, 15)) zo_203).trans zp_LatinRectanglesLaw_15) ((congrArg (fun o => z_clk o 15) zo_203).trans zk_LatinRectanglesLaw_15) zh_203 zc_83 rfl rfl rfl
theorem zi_203_7 : z_ins 203 7 = some (.i2l, 1) := by decide +kernel
theorem ze_203_7 : z_T g d 203 7 ls (.int x :: st) h P = z_T g d 203 8 ls (.long x.toInt64 :: st) h P := zt_i2l zi_203_7
theorem zi_203_8 : z_ins 203 8 = some (.lastore, 1) := by decide +kernel
theorem ze_203_8 : z_T g d 203 8 ls (.long u :: .int x :: .ref a :: st) h P = z_lS h.1 a x u (fun f => z_T g d 203 9 ls st (f, h.2) P) := zt_lastore zi_203_8
theorem zi_203_9 : z_ins 203 9 = some (.goto 6, 3) := by decide +kernel
theorem ze_203_9 : z_T g d 203 9 ls st h P = z_T g d 203 15 ls st h P := zt_goto zi_203_9 (by decide)
theorem zi_203_12 : z_ins 203 12 = some (.astore_n 3, 1) := by decide +kernel
theorem ze_203_12 : z_T g d 203 12 (v0 :: v1 :: v2 :: v3 :: ls) (.ref a :: st) h P = z_T g d 203 13 (v0 :: v1 :: v2 :: .ref a :: ls) st h P := zt_astoren zi_203_12 rfl (Nat.le_add_left 4 _)
theorem zi_203_13 : z_ins 203 13 = some (.iconst 1, 1) := by decide +kernel
theorem ze_203_13 : z_T g d 203 13 ls st h P = z_T g d 203 14 ls (.int (nI 1) :: st) h P := zt_iconst zi_203_13 rfl
theorem zi_203_14 : z_ins 203 14 = some (.ireturn, 1) := by decide +kernel
theorem ze_203_14 : z_T g d 203 14 ls [.int x] h P = P (.inr (some (.int x)), h) := zt_ireturn zi_203_14 zr_203
theorem zi_203_15 : z_ins 203 15 = some (.iconst 0, 1) := by decide +kernel
theorem ze_203_15 : z_T g d 203 15 ls st h P = z_T g d 203 16 ls (.int (nI 0) :: st) h P := zt_iconst zi_203_15 rfl
theorem zi_203_16 : z_ins 203 16 = some (.ireturn, 1) := by decide +kernel
theorem ze_203_16 : z_T g d 203 16 ls [.int x] h P = P (.inr (some (.int x)), h) := zt_ireturn zi_203_16 zr_203
-- LatinRectanglesLaw.symbol(LLatinRectangles;II[J)I
theorem zo_204 : z_own 204 = "LatinRectanglesLaw" := by decide +kernel
theorem zm_204 : z_maxL 204 = 5 := by decide +kernel
theorem zh_204 : z_hds 204 ≠ [] := by decide +kernel
theorem zr_204 : z_rt 204 = (some .int) := by decide +kernel
theorem zn_204 : z_Ca g d 204 [.ref a0, .int x1, .int x2, .ref a3] h P = z_T g d 204 0 [.ref a0, .int x1, .int x2, .ref a3, z_un] [] h P := z_Ca_ent zm_204 rfl rfl
theorem zi_204_0 : z_ins 204 0 = some (.aload_n 3, 1) := by decide +kernel
theorem ze_204_0 : z_T g d 204 0 (v0 :: v1 :: v2 :: .ref a :: ls) st h P = z_T g d 204 1 (v0 :: v1 :: v2 :: .ref a :: ls) (.ref a :: st) h P := zt_aloadn zi_204_0 rfl rfl
theorem zi_204_1 : z_ins 204 1 = some (.iconst 0, 1) := by decide +kernel
theorem ze_204_1 : z_T g d 204 1 ls st h P = z_T g d 204 2 ls (.int (nI 0) :: st) h P := zt_iconst zi_204_1 rfl
theorem zi_204_2 : z_ins 204 2 = some (.aload_n 0, 1) := by decide +kernel
theorem ze_204_2 : z_T g d 204 2 (.ref a :: ls) st h P = z_T g d 204 3 (.ref a :: ls) (.ref a :: st) h P := zt_aloadn zi_204_2 rfl rfl
theorem zi_204_3 : z_ins 204 3 = some (.iload_n 1, 1) := by decide +kernel
theorem ze_204_3 : z_T g d 204 3 (v0 :: .int x :: ls) st h P = z_T g d 204 4 (v0 :: .int x :: ls) (.int x :: st) h P := zt_iloadn zi_204_3 rfl rfl
theorem zi_204_4 : z_ins 204 4 = some (.iload_n 2, 1) := by decide +kernel
theorem ze_204_4 : z_T g d 204 4 (v0 :: v1 :: .int x :: ls) st h P = z_T g d 204 5 (v0 :: v1 :: .int x :: ls) (.int x :: st) h P := zt_iloadn zi_204_4 rfl rfl
theorem zi_204_5 : z_ins 204 5 = some (.invokevirtual 18, 3) := by decide +kernel
theorem ze_204_5 : z_T g d 204 5 ls (.int x1 :: .int x0 :: .ref a :: st) h P = ((z_okS 8 st = true ∧ z_gO h.1 a 9 ∧ 0 < d) ∧ z_Ca g (d - 1) 84 [.ref a, .int x0, .int x1] h (fun r => z_kH 204 5 ls r (fun v h' => z_T g d 204 8 ls (z_push v st) h' P) (fun pc' ls' h' => z_T g d 204 pc' ls' [] h' P))) := zt_callVH (as := [.int x0, .int x1]) zi_204_5 ((congrArg (fun o => z_lookup z_prs (o, 18)) zo_204).trans zp_LatinRectanglesLaw_18) ((congrArg (fun o => z_clk o 18) zo_204).trans zk_LatinRectanglesLaw_18) zh_204 zc_84 rfl rfl rfl
theorem zi_204_8 : z_ins 204 8 = some (.i2l, 1) := by decide +kernel
theorem ze_204_8 : z_T g d 204 8 ls (.int x :: st) h P = z_T g d 204 9 ls (.long x.toInt64 :: st) h P := zt_i2l zi_204_8
theorem zi_204_9 : z_ins 204 9 = some (.lastore, 1) := by decide +kernel
theorem ze_204_9 : z_T g d 204 9 ls (.long u :: .int x :: .ref a :: st) h P = z_lS h.1 a x u (fun f => z_T g d 204 10 ls st (f, h.2) P) := zt_lastore zi_204_9
theorem zi_204_10 : z_ins 204 10 = some (.goto 7, 3) := by decide +kernel
theorem ze_204_10 : z_T g d 204 10 ls st h P = z_T g d 204 17 ls st h P := zt_goto zi_204_10 (by decide)
theorem zi_204_13 : z_ins 204 13 = some (.astore 4, 2) := by decide +kernel
theorem ze_204_13 : z_T g d 204 13 (v0 :: v1 :: v2 :: v3 :: v4 :: ls) (.ref a :: st) h P = z_T g d 204 15 (v0 :: v1 :: v2 :: v3 :: .ref a :: ls) st h P := zt_astore zi_204_13 (Nat.le_add_left 5 _)
theorem zi_204_15 : z_ins 204 15 = some (.iconst 1, 1) := by decide +kernel
theorem ze_204_15 : z_T g d 204 15 ls st h P = z_T g d 204 16 ls (.int (nI 1) :: st) h P := zt_iconst zi_204_15 rfl
theorem zi_204_16 : z_ins 204 16 = some (.ireturn, 1) := by decide +kernel
theorem ze_204_16 : z_T g d 204 16 ls [.int x] h P = P (.inr (some (.int x)), h) := zt_ireturn zi_204_16 zr_204
theorem zi_204_17 : z_ins 204 17 = some (.iconst 0, 1) := by decide +kernel
theorem ze_204_17 : z_T g d 204 17 ls st h P = z_T g d 204 18 ls (.int (nI 0) :: st) h P := zt_iconst zi_204_17 rfl
theorem zi_204_18 : z_ins 204 18 = some (.ireturn, 1) := by decide +kernel
theorem ze_204_18 : z_T g d 204 18 ls [.int x] h P = P (.inr (some (.int x)), h) := zt_ireturn zi_204_18 zr_204
-- LatinRectanglesLaw.isGiven(LLatinRectangles;II[J)I
theorem zo_205 : z_own 205 = "LatinRectanglesLaw" := by decide +kernel
theorem zm_205 : z_maxL 205 = 5 := by decide +kernel
theorem zh_205 : z_hds 205 ≠ [] := by decide +kernel
theorem zr_205 : z_rt 205 = (some .int) := by decide +kernel
theorem zn_205 : z_Ca g d 205 [.ref a0, .int x1, .int x2, .ref a3] h P = z_T g d 205 0 [.ref a0, .int x1, .int x2, .ref a3, z_un] [] h P := z_Ca_ent zm_205 rfl rfl
theorem zi_205_0 : z_ins 205 0 = some (.aload_n 3, 1) := by decide +kernel
theorem ze_205_0 : z_T g d 205 0 (v0 :: v1 :: v2 :: .ref a :: ls) st h P = z_T g d 205 1 (v0 :: v1 :: v2 :: .ref a :: ls) (.ref a :: st) h P := zt_aloadn zi_205_0 rfl rfl
theorem zi_205_1 : z_ins 205 1 = some (.iconst 0, 1) := by decide +kernel
theorem ze_205_1 : z_T g d 205 1 ls st h P = z_T g d 205 2 ls (.int (nI 0) :: st) h P := zt_iconst zi_205_1 rfl
theorem zi_205_2 : z_ins 205 2 = some (.aload_n 0, 1) := by decide +kernel
theorem ze_205_2 : z_T g d 205 2 (.ref a :: ls) st h P = z_T g d 205 3 (.ref a :: ls) (.ref a :: st) h P := zt_aloadn zi_205_2 rfl rfl
theorem zi_205_3 : z_ins 205 3 = some (.iload_n 1, 1) := by decide +kernel
theorem ze_205_3 : z_T g d 205 3 (v0 :: .int x :: ls) st h P = z_T g d 205 4 (v0 :: .int x :: ls) (.int x :: st) h P := zt_iloadn zi_205_3 rfl rfl
theorem zi_205_4 : z_ins 205 4 = some (.iload_n 2, 1) := by decide +kernel
theorem ze_205_4 : z_T g d 205 4 (v0 :: v1 :: .int x :: ls) st h P = z_T g d 205 5 (v0 :: v1 :: .int x :: ls) (.int x :: st) h P := zt_iloadn zi_205_4 rfl rfl
theorem zi_205_5 : z_ins 205 5 = some (.invokevirtual 24, 3) := by decide +kernel
theorem ze_205_5 : z_T g d 205 5 ls (.int x1 :: .int x0 :: .ref a :: st) h P = ((z_okS 8 st = true ∧ z_gO h.1 a 9 ∧ 0 < d) ∧ z_Ca g (d - 1) 85 [.ref a, .int x0, .int x1] h (fun r => z_kH 205 5 ls r (fun v h' => z_T g d 205 8 ls (z_push v st) h' P) (fun pc' ls' h' => z_T g d 205 pc' ls' [] h' P))) := zt_callVH (as := [.int x0, .int x1]) zi_205_5 ((congrArg (fun o => z_lookup z_prs (o, 24)) zo_205).trans zp_LatinRectanglesLaw_24) ((congrArg (fun o => z_clk o 24) zo_205).trans zk_LatinRectanglesLaw_24) zh_205 zc_85 rfl rfl rfl
theorem zi_205_8 : z_ins 205 8 = some (.ifCond .eq 7, 3) := by decide +kernel
theorem ze_205_8 : z_T g d 205 8 ls (.int x :: st) h P = (if x = nI 0 then z_T g d 205 15 ls st h P else z_T g d 205 11 ls st h P) := zt_ifeq zi_205_8 (by decide)
theorem zi_205_11 : z_ins 205 11 = some (.lconst 1, 1) := by decide +kernel
theorem ze_205_11 : z_T g d 205 11 ls st h P = z_T g d 205 12 ls (.long 1 :: st) h P := zt_lconst zi_205_11 rfl
theorem zi_205_12 : z_ins 205 12 = some (.goto 4, 3) := by decide +kernel
theorem ze_205_12 : z_T g d 205 12 ls st h P = z_T g d 205 16 ls st h P := zt_goto zi_205_12 (by decide)
theorem zi_205_15 : z_ins 205 15 = some (.lconst 0, 1) := by decide +kernel
theorem ze_205_15 : z_T g d 205 15 ls st h P = z_T g d 205 16 ls (.long 0 :: st) h P := zt_lconst zi_205_15 rfl
theorem zi_205_16 : z_ins 205 16 = some (.lastore, 1) := by decide +kernel
theorem ze_205_16 : z_T g d 205 16 ls (.long u :: .int x :: .ref a :: st) h P = z_lS h.1 a x u (fun f => z_T g d 205 17 ls st (f, h.2) P) := zt_lastore zi_205_16
theorem zi_205_17 : z_ins 205 17 = some (.goto 7, 3) := by decide +kernel
theorem ze_205_17 : z_T g d 205 17 ls st h P = z_T g d 205 24 ls st h P := zt_goto zi_205_17 (by decide)
theorem zi_205_20 : z_ins 205 20 = some (.astore 4, 2) := by decide +kernel
theorem ze_205_20 : z_T g d 205 20 (v0 :: v1 :: v2 :: v3 :: v4 :: ls) (.ref a :: st) h P = z_T g d 205 22 (v0 :: v1 :: v2 :: v3 :: .ref a :: ls) st h P := zt_astore zi_205_20 (Nat.le_add_left 5 _)
theorem zi_205_22 : z_ins 205 22 = some (.iconst 1, 1) := by decide +kernel
theorem ze_205_22 : z_T g d 205 22 ls st h P = z_T g d 205 23 ls (.int (nI 1) :: st) h P := zt_iconst zi_205_22 rfl
theorem zi_205_23 : z_ins 205 23 = some (.ireturn, 1) := by decide +kernel
theorem ze_205_23 : z_T g d 205 23 ls [.int x] h P = P (.inr (some (.int x)), h) := zt_ireturn zi_205_23 zr_205
theorem zi_205_24 : z_ins 205 24 = some (.iconst 0, 1) := by decide +kernel
theorem ze_205_24 : z_T g d 205 24 ls st h P = z_T g d 205 25 ls (.int (nI 0) :: st) h P := zt_iconst zi_205_24 rfl
theorem zi_205_25 : z_ins 205 25 = some (.ireturn, 1) := by decide +kernel
theorem ze_205_25 : z_T g d 205 25 ls [.int x] h P = P (.inr (some (.int x)), h) := zt_ireturn zi_205_25 zr_205
-- LatinRectanglesLaw.candidates(LLatinRectangles;II[J)I
theorem zo_206 : z_own 206 = "LatinRectanglesLaw" := by decide +kernel
theorem zm_206 : z_maxL 206 = 5 := by decide +kernel
theorem zh_206 : z_hds 206 ≠ [] := by decide +kernel
theorem zr_206 : z_rt 206 = (some .int) := by decide +kernel
theorem zn_206 : z_Ca g d 206 [.ref a0, .int x1, .int x2, .ref a3] h P = z_T g d 206 0 [.ref a0, .int x1, .int x2, .ref a3, z_un] [] h P := z_Ca_ent zm_206 rfl rfl
theorem zi_206_0 : z_ins 206 0 = some (.aload_n 3, 1) := by decide +kernel
theorem ze_206_0 : z_T g d 206 0 (v0 :: v1 :: v2 :: .ref a :: ls) st h P = z_T g d 206 1 (v0 :: v1 :: v2 :: .ref a :: ls) (.ref a :: st) h P := zt_aloadn zi_206_0 rfl rfl
theorem zi_206_1 : z_ins 206 1 = some (.iconst 0, 1) := by decide +kernel
theorem ze_206_1 : z_T g d 206 1 ls st h P = z_T g d 206 2 ls (.int (nI 0) :: st) h P := zt_iconst zi_206_1 rfl
theorem zi_206_2 : z_ins 206 2 = some (.aload_n 0, 1) := by decide +kernel
theorem ze_206_2 : z_T g d 206 2 (.ref a :: ls) st h P = z_T g d 206 3 (.ref a :: ls) (.ref a :: st) h P := zt_aloadn zi_206_2 rfl rfl
theorem zi_206_3 : z_ins 206 3 = some (.iload_n 1, 1) := by decide +kernel
theorem ze_206_3 : z_T g d 206 3 (v0 :: .int x :: ls) st h P = z_T g d 206 4 (v0 :: .int x :: ls) (.int x :: st) h P := zt_iloadn zi_206_3 rfl rfl
theorem zi_206_4 : z_ins 206 4 = some (.iload_n 2, 1) := by decide +kernel
theorem ze_206_4 : z_T g d 206 4 (v0 :: v1 :: .int x :: ls) st h P = z_T g d 206 5 (v0 :: v1 :: .int x :: ls) (.int x :: st) h P := zt_iloadn zi_206_4 rfl rfl
theorem zi_206_5 : z_ins 206 5 = some (.invokevirtual 28, 3) := by decide +kernel
theorem ze_206_5 : z_T g d 206 5 ls (.int x1 :: .int x0 :: .ref a :: st) h P = ((z_okS 8 st = true ∧ z_gO h.1 a 9 ∧ 0 < d) ∧ z_Ca g (d - 1) 86 [.ref a, .int x0, .int x1] h (fun r => z_kH 206 5 ls r (fun v h' => z_T g d 206 8 ls (z_push v st) h' P) (fun pc' ls' h' => z_T g d 206 pc' ls' [] h' P))) := zt_callVH (as := [.int x0, .int x1]) zi_206_5 ((congrArg (fun o => z_lookup z_prs (o, 28)) zo_206).trans zp_LatinRectanglesLaw_28) ((congrArg (fun o => z_clk o 28) zo_206).trans zk_LatinRectanglesLaw_28) zh_206 zc_86 rfl rfl rfl
theorem zi_206_8 : z_ins 206 8 = some (.i2l, 1) := by decide +kernel
theorem ze_206_8 : z_T g d 206 8 ls (.int x :: st) h P = z_T g d 206 9 ls (.long x.toInt64 :: st) h P := zt_i2l zi_206_8
theorem zi_206_9 : z_ins 206 9 = some (.lastore, 1) := by decide +kernel
theorem ze_206_9 : z_T g d 206 9 ls (.long u :: .int x :: .ref a :: st) h P = z_lS h.1 a x u (fun f => z_T g d 206 10 ls st (f, h.2) P) := zt_lastore zi_206_9
theorem zi_206_10 : z_ins 206 10 = some (.goto 7, 3) := by decide +kernel
theorem ze_206_10 : z_T g d 206 10 ls st h P = z_T g d 206 17 ls st h P := zt_goto zi_206_10 (by decide)
theorem zi_206_13 : z_ins 206 13 = some (.astore 4, 2) := by decide +kernel
theorem ze_206_13 : z_T g d 206 13 (v0 :: v1 :: v2 :: v3 :: v4 :: ls) (.ref a :: st) h P = z_T g d 206 15 (v0 :: v1 :: v2 :: v3 :: .ref a :: ls) st h P := zt_astore zi_206_13 (Nat.le_add_left 5 _)
theorem zi_206_15 : z_ins 206 15 = some (.iconst 1, 1) := by decide +kernel
theorem ze_206_15 : z_T g d 206 15 ls st h P = z_T g d 206 16 ls (.int (nI 1) :: st) h P := zt_iconst zi_206_15 rfl
theorem zi_206_16 : z_ins 206 16 = some (.ireturn, 1) := by decide +kernel
theorem ze_206_16 : z_T g d 206 16 ls [.int x] h P = P (.inr (some (.int x)), h) := zt_ireturn zi_206_16 zr_206
theorem zi_206_17 : z_ins 206 17 = some (.iconst 0, 1) := by decide +kernel
theorem ze_206_17 : z_T g d 206 17 ls st h P = z_T g d 206 18 ls (.int (nI 0) :: st) h P := zt_iconst zi_206_17 rfl
theorem zi_206_18 : z_ins 206 18 = some (.ireturn, 1) := by decide +kernel
theorem ze_206_18 : z_T g d 206 18 ls [.int x] h P = P (.inr (some (.int x)), h) := zt_ireturn zi_206_18 zr_206
-- LatinRectanglesLaw.forced(LLatinRectangles;II[J)I
theorem zo_207 : z_own 207 = "LatinRectanglesLaw" := by decide +kernel
theorem zm_207 : z_maxL 207 = 5 := by decide +kernel
theorem zh_207 : z_hds 207 ≠ [] := by decide +kernel
theorem zr_207 : z_rt 207 = (some .int) := by decide +kernel
theorem zn_207 : z_Ca g d 207 [.ref a0, .int x1, .int x2, .ref a3] h P = z_T g d 207 0 [.ref a0, .int x1, .int x2, .ref a3, z_un] [] h P := z_Ca_ent zm_207 rfl rfl
theorem zi_207_0 : z_ins 207 0 = some (.aload_n 3, 1) := by decide +kernel
theorem ze_207_0 : z_T g d 207 0 (v0 :: v1 :: v2 :: .ref a :: ls) st h P = z_T g d 207 1 (v0 :: v1 :: v2 :: .ref a :: ls) (.ref a :: st) h P := zt_aloadn zi_207_0 rfl rfl
theorem zi_207_1 : z_ins 207 1 = some (.iconst 0, 1) := by decide +kernel
theorem ze_207_1 : z_T g d 207 1 ls st h P = z_T g d 207 2 ls (.int (nI 0) :: st) h P := zt_iconst zi_207_1 rfl
theorem zi_207_2 : z_ins 207 2 = some (.aload_n 0, 1) := by decide +kernel
theorem ze_207_2 : z_T g d 207 2 (.ref a :: ls) st h P = z_T g d 207 3 (.ref a :: ls) (.ref a :: st) h P := zt_aloadn zi_207_2 rfl rfl
theorem zi_207_3 : z_ins 207 3 = some (.iload_n 1, 1) := by decide +kernel
theorem ze_207_3 : z_T g d 207 3 (v0 :: .int x :: ls) st h P = z_T g d 207 4 (v0 :: .int x :: ls) (.int x :: st) h P := zt_iloadn zi_207_3 rfl rfl
theorem zi_207_4 : z_ins 207 4 = some (.iload_n 2, 1) := by decide +kernel
theorem ze_207_4 : z_T g d 207 4 (v0 :: v1 :: .int x :: ls) st h P = z_T g d 207 5 (v0 :: v1 :: .int x :: ls) (.int x :: st) h P := zt_iloadn zi_207_4 rfl rfl
theorem zi_207_5 : z_ins 207 5 = some (.invokevirtual 31, 3) := by decide +kernel
theorem ze_207_5 : z_T g d 207 5 ls (.int x1 :: .int x0 :: .ref a :: st) h P = ((z_okS 8 st = true ∧ z_gO h.1 a 9 ∧ 0 < d) ∧ z_Ca g (d - 1) 88 [.ref a, .int x0, .int x1] h (fun r => z_kH 207 5 ls r (fun v h' => z_T g d 207 8 ls (z_push v st) h' P) (fun pc' ls' h' => z_T g d 207 pc' ls' [] h' P))) := zt_callVH (as := [.int x0, .int x1]) zi_207_5 ((congrArg (fun o => z_lookup z_prs (o, 31)) zo_207).trans zp_LatinRectanglesLaw_31) ((congrArg (fun o => z_clk o 31) zo_207).trans zk_LatinRectanglesLaw_31) zh_207 zc_88 rfl rfl rfl
theorem zi_207_8 : z_ins 207 8 = some (.i2l, 1) := by decide +kernel
theorem ze_207_8 : z_T g d 207 8 ls (.int x :: st) h P = z_T g d 207 9 ls (.long x.toInt64 :: st) h P := zt_i2l zi_207_8
theorem zi_207_9 : z_ins 207 9 = some (.lastore, 1) := by decide +kernel
theorem ze_207_9 : z_T g d 207 9 ls (.long u :: .int x :: .ref a :: st) h P = z_lS h.1 a x u (fun f => z_T g d 207 10 ls st (f, h.2) P) := zt_lastore zi_207_9
theorem zi_207_10 : z_ins 207 10 = some (.goto 7, 3) := by decide +kernel
theorem ze_207_10 : z_T g d 207 10 ls st h P = z_T g d 207 17 ls st h P := zt_goto zi_207_10 (by decide)
theorem zi_207_13 : z_ins 207 13 = some (.astore 4, 2) := by decide +kernel
theorem ze_207_13 : z_T g d 207 13 (v0 :: v1 :: v2 :: v3 :: v4 :: ls) (.ref a :: st) h P = z_T g d 207 15 (v0 :: v1 :: v2 :: v3 :: .ref a :: ls) st h P := zt_astore zi_207_13 (Nat.le_add_left 5 _)
theorem zi_207_15 : z_ins 207 15 = some (.iconst 1, 1) := by decide +kernel
theorem ze_207_15 : z_T g d 207 15 ls st h P = z_T g d 207 16 ls (.int (nI 1) :: st) h P := zt_iconst zi_207_15 rfl
theorem zi_207_16 : z_ins 207 16 = some (.ireturn, 1) := by decide +kernel
theorem ze_207_16 : z_T g d 207 16 ls [.int x] h P = P (.inr (some (.int x)), h) := zt_ireturn zi_207_16 zr_207
theorem zi_207_17 : z_ins 207 17 = some (.iconst 0, 1) := by decide +kernel
theorem ze_207_17 : z_T g d 207 17 ls st h P = z_T g d 207 18 ls (.int (nI 0) :: st) h P := zt_iconst zi_207_17 rfl
theorem zi_207_18 : z_ins 207 18 = some (.ireturn, 1) := by decide +kernel
theorem ze_207_18 : z_T g d 207 18 ls [.int x] h P = P (.inr (some (.int x)), h) := zt_ireturn zi_207_18 zr_207
-- LatinRectanglesLaw.emptyCell(LLatinRectangles;II[J)I
theorem zo_208 : z_own 208 = "LatinRectanglesLaw" := by decide +kernel
theorem zm_208 : z_maxL 208 = 5 := by decide +kernel
theorem zh_208 : z_hds 208 ≠ [] := by decide +kernel
theorem zr_208 : z_rt 208 = (some .int) := by decide +kernel
theorem zn_208 : z_Ca g d 208 [.ref a0, .int x1, .int x2, .ref a3] h P = z_T g d 208 0 [.ref a0, .int x1, .int x2, .ref a3, z_un] [] h P := z_Ca_ent zm_208 rfl rfl
theorem zi_208_0 : z_ins 208 0 = some (.aload_n 3, 1) := by decide +kernel
theorem ze_208_0 : z_T g d 208 0 (v0 :: v1 :: v2 :: .ref a :: ls) st h P = z_T g d 208 1 (v0 :: v1 :: v2 :: .ref a :: ls) (.ref a :: st) h P := zt_aloadn zi_208_0 rfl rfl
theorem zi_208_1 : z_ins 208 1 = some (.iconst 0, 1) := by decide +kernel
theorem ze_208_1 : z_T g d 208 1 ls st h P = z_T g d 208 2 ls (.int (nI 0) :: st) h P := zt_iconst zi_208_1 rfl
theorem zi_208_2 : z_ins 208 2 = some (.aload_n 0, 1) := by decide +kernel
theorem ze_208_2 : z_T g d 208 2 (.ref a :: ls) st h P = z_T g d 208 3 (.ref a :: ls) (.ref a :: st) h P := zt_aloadn zi_208_2 rfl rfl
theorem zi_208_3 : z_ins 208 3 = some (.iload_n 1, 1) := by decide +kernel
theorem ze_208_3 : z_T g d 208 3 (v0 :: .int x :: ls) st h P = z_T g d 208 4 (v0 :: .int x :: ls) (.int x :: st) h P := zt_iloadn zi_208_3 rfl rfl
theorem zi_208_4 : z_ins 208 4 = some (.iload_n 2, 1) := by decide +kernel
theorem ze_208_4 : z_T g d 208 4 (v0 :: v1 :: .int x :: ls) st h P = z_T g d 208 5 (v0 :: v1 :: .int x :: ls) (.int x :: st) h P := zt_iloadn zi_208_4 rfl rfl
theorem zi_208_5 : z_ins 208 5 = some (.invokevirtual 34, 3) := by decide +kernel
theorem ze_208_5 : z_T g d 208 5 ls (.int x1 :: .int x0 :: .ref a :: st) h P = ((z_okS 8 st = true ∧ z_gO h.1 a 9 ∧ 0 < d) ∧ z_Ca g (d - 1) 89 [.ref a, .int x0, .int x1] h (fun r => z_kH 208 5 ls r (fun v h' => z_T g d 208 8 ls (z_push v st) h' P) (fun pc' ls' h' => z_T g d 208 pc' ls' [] h' P))) := zt_callVH (as := [.int x0, .int x1]) zi_208_5 ((congrArg (fun o => z_lookup z_prs (o, 34)) zo_208).trans zp_LatinRectanglesLaw_34) ((congrArg (fun o => z_clk o 34) zo_208).trans zk_LatinRectanglesLaw_34) zh_208 zc_89 rfl rfl rfl
theorem zi_208_8 : z_ins 208 8 = some (.i2l, 1) := by decide +kernel
theorem ze_208_8 : z_T g d 208 8 ls (.int x :: st) h P = z_T g d 208 9 ls (.long x.toInt64 :: st) h P := zt_i2l zi_208_8
theorem zi_208_9 : z_ins 208 9 = some (.lastore, 1) := by decide +kernel
theorem ze_208_9 : z_T g d 208 9 ls (.long u :: .int x :: .ref a :: st) h P = z_lS h.1 a x u (fun f => z_T g d 208 10 ls st (f, h.2) P) := zt_lastore zi_208_9
theorem zi_208_10 : z_ins 208 10 = some (.goto 7, 3) := by decide +kernel
theorem ze_208_10 : z_T g d 208 10 ls st h P = z_T g d 208 17 ls st h P := zt_goto zi_208_10 (by decide)
theorem zi_208_13 : z_ins 208 13 = some (.astore 4, 2) := by decide +kernel
theorem ze_208_13 : z_T g d 208 13 (v0 :: v1 :: v2 :: v3 :: v4 :: ls) (.ref a :: st) h P = z_T g d 208 15 (v0 :: v1 :: v2 :: v3 :: .ref a :: ls) st h P := zt_astore zi_208_13 (Nat.le_add_left 5 _)
theorem zi_208_15 : z_ins 208 15 = some (.iconst 1, 1) := by decide +kernel
theorem ze_208_15 : z_T g d 208 15 ls st h P = z_T g d 208 16 ls (.int (nI 1) :: st) h P := zt_iconst zi_208_15 rfl
theorem zi_208_16 : z_ins 208 16 = some (.ireturn, 1) := by decide +kernel
theorem ze_208_16 : z_T g d 208 16 ls [.int x] h P = P (.inr (some (.int x)), h) := zt_ireturn zi_208_16 zr_208
theorem zi_208_17 : z_ins 208 17 = some (.iconst 0, 1) := by decide +kernel
theorem ze_208_17 : z_T g d 208 17 ls st h P = z_T g d 208 18 ls (.int (nI 0) :: st) h P := zt_iconst zi_208_17 rfl
theorem zi_208_18 : z_ins 208 18 = some (.ireturn, 1) := by decide +kernel
theorem ze_208_18 : z_T g d 208 18 ls [.int x] h P = P (.inr (some (.int x)), h) := zt_ireturn zi_208_18 zr_208
-- LatinRectanglesLaw.completions(LLatinRectangles;I[J)I
theorem zo_209 : z_own 209 = "LatinRectanglesLaw" := by decide +kernel
theorem zm_209 : z_maxL 209 = 4 := by decide +kernel
theorem zh_209 : z_hds 209 ≠ [] := by decide +kernel
theorem zr_209 : z_rt 209 = (some .int) := by decide +kernel
theorem zn_209 : z_Ca g d 209 [.ref a0, .int x1, .ref a2] h P = z_T g d 209 0 [.ref a0, .int x1, .ref a2, z_un] [] h P := z_Ca_ent zm_209 rfl rfl
theorem zi_209_0 : z_ins 209 0 = some (.aload_n 2, 1) := by decide +kernel
theorem ze_209_0 : z_T g d 209 0 (v0 :: v1 :: .ref a :: ls) st h P = z_T g d 209 1 (v0 :: v1 :: .ref a :: ls) (.ref a :: st) h P := zt_aloadn zi_209_0 rfl rfl
theorem zi_209_1 : z_ins 209 1 = some (.iconst 0, 1) := by decide +kernel
theorem ze_209_1 : z_T g d 209 1 ls st h P = z_T g d 209 2 ls (.int (nI 0) :: st) h P := zt_iconst zi_209_1 rfl
theorem zi_209_2 : z_ins 209 2 = some (.aload_n 0, 1) := by decide +kernel
theorem ze_209_2 : z_T g d 209 2 (.ref a :: ls) st h P = z_T g d 209 3 (.ref a :: ls) (.ref a :: st) h P := zt_aloadn zi_209_2 rfl rfl
theorem zi_209_3 : z_ins 209 3 = some (.iload_n 1, 1) := by decide +kernel
theorem ze_209_3 : z_T g d 209 3 (v0 :: .int x :: ls) st h P = z_T g d 209 4 (v0 :: .int x :: ls) (.int x :: st) h P := zt_iloadn zi_209_3 rfl rfl
theorem zi_209_4 : z_ins 209 4 = some (.invokevirtual 37, 3) := by decide +kernel
theorem ze_209_4 : z_T g d 209 4 ls (.int x0 :: .ref a :: st) h P = ((z_okS 8 st = true ∧ z_gO h.1 a 9 ∧ 0 < d) ∧ z_Ca g (d - 1) 92 [.ref a, .int x0] h (fun r => z_kH 209 4 ls r (fun v h' => z_T g d 209 7 ls (z_push v st) h' P) (fun pc' ls' h' => z_T g d 209 pc' ls' [] h' P))) := zt_callVH (as := [.int x0]) zi_209_4 ((congrArg (fun o => z_lookup z_prs (o, 37)) zo_209).trans zp_LatinRectanglesLaw_37) ((congrArg (fun o => z_clk o 37) zo_209).trans zk_LatinRectanglesLaw_37) zh_209 zc_92 rfl rfl rfl
theorem zi_209_7 : z_ins 209 7 = some (.i2l, 1) := by decide +kernel
theorem ze_209_7 : z_T g d 209 7 ls (.int x :: st) h P = z_T g d 209 8 ls (.long x.toInt64 :: st) h P := zt_i2l zi_209_7
theorem zi_209_8 : z_ins 209 8 = some (.lastore, 1) := by decide +kernel
theorem ze_209_8 : z_T g d 209 8 ls (.long u :: .int x :: .ref a :: st) h P = z_lS h.1 a x u (fun f => z_T g d 209 9 ls st (f, h.2) P) := zt_lastore zi_209_8
theorem zi_209_9 : z_ins 209 9 = some (.goto 6, 3) := by decide +kernel
theorem ze_209_9 : z_T g d 209 9 ls st h P = z_T g d 209 15 ls st h P := zt_goto zi_209_9 (by decide)
theorem zi_209_12 : z_ins 209 12 = some (.astore_n 3, 1) := by decide +kernel
theorem ze_209_12 : z_T g d 209 12 (v0 :: v1 :: v2 :: v3 :: ls) (.ref a :: st) h P = z_T g d 209 13 (v0 :: v1 :: v2 :: .ref a :: ls) st h P := zt_astoren zi_209_12 rfl (Nat.le_add_left 4 _)
theorem zi_209_13 : z_ins 209 13 = some (.iconst 1, 1) := by decide +kernel
theorem ze_209_13 : z_T g d 209 13 ls st h P = z_T g d 209 14 ls (.int (nI 1) :: st) h P := zt_iconst zi_209_13 rfl
theorem zi_209_14 : z_ins 209 14 = some (.ireturn, 1) := by decide +kernel
theorem ze_209_14 : z_T g d 209 14 ls [.int x] h P = P (.inr (some (.int x)), h) := zt_ireturn zi_209_14 zr_209
theorem zi_209_15 : z_ins 209 15 = some (.iconst 0, 1) := by decide +kernel
theorem ze_209_15 : z_T g d 209 15 ls st h P = z_T g d 209 16 ls (.int (nI 0) :: st) h P := zt_iconst zi_209_15 rfl
theorem zi_209_16 : z_ins 209 16 = some (.ireturn, 1) := by decide +kernel
theorem ze_209_16 : z_T g d 209 16 ls [.int x] h P = P (.inr (some (.int x)), h) := zt_ireturn zi_209_16 zr_209
-- LatinRectanglesLaw.completed(LLatinRectangles;II[J)I
theorem zo_210 : z_own 210 = "LatinRectanglesLaw" := by decide +kernel
theorem zm_210 : z_maxL 210 = 5 := by decide +kernel
theorem zh_210 : z_hds 210 ≠ [] := by decide +kernel
theorem zr_210 : z_rt 210 = (some .int) := by decide +kernel
theorem zn_210 : z_Ca g d 210 [.ref a0, .int x1, .int x2, .ref a3] h P = z_T g d 210 0 [.ref a0, .int x1, .int x2, .ref a3, z_un] [] h P := z_Ca_ent zm_210 rfl rfl
theorem zi_210_0 : z_ins 210 0 = some (.aload_n 3, 1) := by decide +kernel
theorem ze_210_0 : z_T g d 210 0 (v0 :: v1 :: v2 :: .ref a :: ls) st h P = z_T g d 210 1 (v0 :: v1 :: v2 :: .ref a :: ls) (.ref a :: st) h P := zt_aloadn zi_210_0 rfl rfl
theorem zi_210_1 : z_ins 210 1 = some (.iconst 0, 1) := by decide +kernel
theorem ze_210_1 : z_T g d 210 1 ls st h P = z_T g d 210 2 ls (.int (nI 0) :: st) h P := zt_iconst zi_210_1 rfl
theorem zi_210_2 : z_ins 210 2 = some (.aload_n 0, 1) := by decide +kernel
theorem ze_210_2 : z_T g d 210 2 (.ref a :: ls) st h P = z_T g d 210 3 (.ref a :: ls) (.ref a :: st) h P := zt_aloadn zi_210_2 rfl rfl
theorem zi_210_3 : z_ins 210 3 = some (.iload_n 1, 1) := by decide +kernel
theorem ze_210_3 : z_T g d 210 3 (v0 :: .int x :: ls) st h P = z_T g d 210 4 (v0 :: .int x :: ls) (.int x :: st) h P := zt_iloadn zi_210_3 rfl rfl
theorem zi_210_4 : z_ins 210 4 = some (.iload_n 2, 1) := by decide +kernel
theorem ze_210_4 : z_T g d 210 4 (v0 :: v1 :: .int x :: ls) st h P = z_T g d 210 5 (v0 :: v1 :: .int x :: ls) (.int x :: st) h P := zt_iloadn zi_210_4 rfl rfl
theorem zi_210_5 : z_ins 210 5 = some (.invokevirtual 40, 3) := by decide +kernel
theorem ze_210_5 : z_T g d 210 5 ls (.int x1 :: .int x0 :: .ref a :: st) h P = ((z_okS 8 st = true ∧ z_gO h.1 a 9 ∧ 0 < d) ∧ z_Ca g (d - 1) 93 [.ref a, .int x0, .int x1] h (fun r => z_kH 210 5 ls r (fun v h' => z_T g d 210 8 ls (z_push v st) h' P) (fun pc' ls' h' => z_T g d 210 pc' ls' [] h' P))) := zt_callVH (as := [.int x0, .int x1]) zi_210_5 ((congrArg (fun o => z_lookup z_prs (o, 40)) zo_210).trans zp_LatinRectanglesLaw_40) ((congrArg (fun o => z_clk o 40) zo_210).trans zk_LatinRectanglesLaw_40) zh_210 zc_93 rfl rfl rfl
theorem zi_210_8 : z_ins 210 8 = some (.i2l, 1) := by decide +kernel
theorem ze_210_8 : z_T g d 210 8 ls (.int x :: st) h P = z_T g d 210 9 ls (.long x.toInt64 :: st) h P := zt_i2l zi_210_8
theorem zi_210_9 : z_ins 210 9 = some (.lastore, 1) := by decide +kernel
theorem ze_210_9 : z_T g d 210 9 ls (.long u :: .int x :: .ref a :: st) h P = z_lS h.1 a x u (fun f => z_T g d 210 10 ls st (f, h.2) P) := zt_lastore zi_210_9
theorem zi_210_10 : z_ins 210 10 = some (.goto 7, 3) := by decide +kernel
theorem ze_210_10 : z_T g d 210 10 ls st h P = z_T g d 210 17 ls st h P := zt_goto zi_210_10 (by decide)
theorem zi_210_13 : z_ins 210 13 = some (.astore 4, 2) := by decide +kernel
theorem ze_210_13 : z_T g d 210 13 (v0 :: v1 :: v2 :: v3 :: v4 :: ls) (.ref a :: st) h P = z_T g d 210 15 (v0 :: v1 :: v2 :: v3 :: .ref a :: ls) st h P := zt_astore zi_210_13 (Nat.le_add_left 5 _)
theorem zi_210_15 : z_ins 210 15 = some (.iconst 1, 1) := by decide +kernel
theorem ze_210_15 : z_T g d 210 15 ls st h P = z_T g d 210 16 ls (.int (nI 1) :: st) h P := zt_iconst zi_210_15 rfl
theorem zi_210_16 : z_ins 210 16 = some (.ireturn, 1) := by decide +kernel
theorem ze_210_16 : z_T g d 210 16 ls [.int x] h P = P (.inr (some (.int x)), h) := zt_ireturn zi_210_16 zr_210
theorem zi_210_17 : z_ins 210 17 = some (.iconst 0, 1) := by decide +kernel
theorem ze_210_17 : z_T g d 210 17 ls st h P = z_T g d 210 18 ls (.int (nI 0) :: st) h P := zt_iconst zi_210_17 rfl
theorem zi_210_18 : z_ins 210 18 = some (.ireturn, 1) := by decide +kernel
theorem ze_210_18 : z_T g d 210 18 ls [.int x] h P = P (.inr (some (.int x)), h) := zt_ireturn zi_210_18 zr_210
-- LatinRectanglesLaw.possible(LLatinRectangles;II[J)I
theorem zo_211 : z_own 211 = "LatinRectanglesLaw" := by decide +kernel
theorem zm_211 : z_maxL 211 = 5 := by decide +kernel
theorem zh_211 : z_hds 211 ≠ [] := by decide +kernel
theorem zr_211 : z_rt 211 = (some .int) := by decide +kernel
theorem zn_211 : z_Ca g d 211 [.ref a0, .int x1, .int x2, .ref a3] h P = z_T g d 211 0 [.ref a0, .int x1, .int x2, .ref a3, z_un] [] h P := z_Ca_ent zm_211 rfl rfl
theorem zi_211_0 : z_ins 211 0 = some (.aload_n 3, 1) := by decide +kernel
theorem ze_211_0 : z_T g d 211 0 (v0 :: v1 :: v2 :: .ref a :: ls) st h P = z_T g d 211 1 (v0 :: v1 :: v2 :: .ref a :: ls) (.ref a :: st) h P := zt_aloadn zi_211_0 rfl rfl
theorem zi_211_1 : z_ins 211 1 = some (.iconst 0, 1) := by decide +kernel
theorem ze_211_1 : z_T g d 211 1 ls st h P = z_T g d 211 2 ls (.int (nI 0) :: st) h P := zt_iconst zi_211_1 rfl
theorem zi_211_2 : z_ins 211 2 = some (.aload_n 0, 1) := by decide +kernel
theorem ze_211_2 : z_T g d 211 2 (.ref a :: ls) st h P = z_T g d 211 3 (.ref a :: ls) (.ref a :: st) h P := zt_aloadn zi_211_2 rfl rfl
theorem zi_211_3 : z_ins 211 3 = some (.iload_n 1, 1) := by decide +kernel
theorem ze_211_3 : z_T g d 211 3 (v0 :: .int x :: ls) st h P = z_T g d 211 4 (v0 :: .int x :: ls) (.int x :: st) h P := zt_iloadn zi_211_3 rfl rfl
theorem zi_211_4 : z_ins 211 4 = some (.iload_n 2, 1) := by decide +kernel
theorem ze_211_4 : z_T g d 211 4 (v0 :: v1 :: .int x :: ls) st h P = z_T g d 211 5 (v0 :: v1 :: .int x :: ls) (.int x :: st) h P := zt_iloadn zi_211_4 rfl rfl
theorem zi_211_5 : z_ins 211 5 = some (.invokevirtual 43, 3) := by decide +kernel
theorem ze_211_5 : z_T g d 211 5 ls (.int x1 :: .int x0 :: .ref a :: st) h P = ((z_okS 8 st = true ∧ z_gO h.1 a 9 ∧ 0 < d) ∧ z_Ca g (d - 1) 94 [.ref a, .int x0, .int x1] h (fun r => z_kH 211 5 ls r (fun v h' => z_T g d 211 8 ls (z_push v st) h' P) (fun pc' ls' h' => z_T g d 211 pc' ls' [] h' P))) := zt_callVH (as := [.int x0, .int x1]) zi_211_5 ((congrArg (fun o => z_lookup z_prs (o, 43)) zo_211).trans zp_LatinRectanglesLaw_43) ((congrArg (fun o => z_clk o 43) zo_211).trans zk_LatinRectanglesLaw_43) zh_211 zc_94 rfl rfl rfl
theorem zi_211_8 : z_ins 211 8 = some (.i2l, 1) := by decide +kernel
theorem ze_211_8 : z_T g d 211 8 ls (.int x :: st) h P = z_T g d 211 9 ls (.long x.toInt64 :: st) h P := zt_i2l zi_211_8
theorem zi_211_9 : z_ins 211 9 = some (.lastore, 1) := by decide +kernel
theorem ze_211_9 : z_T g d 211 9 ls (.long u :: .int x :: .ref a :: st) h P = z_lS h.1 a x u (fun f => z_T g d 211 10 ls st (f, h.2) P) := zt_lastore zi_211_9
theorem zi_211_10 : z_ins 211 10 = some (.goto 7, 3) := by decide +kernel
theorem ze_211_10 : z_T g d 211 10 ls st h P = z_T g d 211 17 ls st h P := zt_goto zi_211_10 (by decide)
theorem zi_211_13 : z_ins 211 13 = some (.astore 4, 2) := by decide +kernel
theorem ze_211_13 : z_T g d 211 13 (v0 :: v1 :: v2 :: v3 :: v4 :: ls) (.ref a :: st) h P = z_T g d 211 15 (v0 :: v1 :: v2 :: v3 :: .ref a :: ls) st h P := zt_astore zi_211_13 (Nat.le_add_left 5 _)
theorem zi_211_15 : z_ins 211 15 = some (.iconst 1, 1) := by decide +kernel
theorem ze_211_15 : z_T g d 211 15 ls st h P = z_T g d 211 16 ls (.int (nI 1) :: st) h P := zt_iconst zi_211_15 rfl
theorem zi_211_16 : z_ins 211 16 = some (.ireturn, 1) := by decide +kernel
theorem ze_211_16 : z_T g d 211 16 ls [.int x] h P = P (.inr (some (.int x)), h) := zt_ireturn zi_211_16 zr_211
theorem zi_211_17 : z_ins 211 17 = some (.iconst 0, 1) := by decide +kernel
theorem ze_211_17 : z_T g d 211 17 ls st h P = z_T g d 211 18 ls (.int (nI 0) :: st) h P := zt_iconst zi_211_17 rfl
theorem zi_211_18 : z_ins 211 18 = some (.ireturn, 1) := by decide +kernel
theorem ze_211_18 : z_T g d 211 18 ls [.int x] h P = P (.inr (some (.int x)), h) := zt_ireturn zi_211_18 zr_211
-- LatinRectanglesLaw.transversalsThrough(LLatinRectangles;II[J)I
theorem zo_212 : z_own 212 = "LatinRectanglesLaw" := by decide +kernel
theorem zm_212 : z_maxL 212 = 5 := by decide +kernel
theorem zh_212 : z_hds 212 ≠ [] := by decide +kernel
theorem zr_212 : z_rt 212 = (some .int) := by decide +kernel
theorem zn_212 : z_Ca g d 212 [.ref a0, .int x1, .int x2, .ref a3] h P = z_T g d 212 0 [.ref a0, .int x1, .int x2, .ref a3, z_un] [] h P := z_Ca_ent zm_212 rfl rfl
theorem zi_212_0 : z_ins 212 0 = some (.aload_n 3, 1) := by decide +kernel
theorem ze_212_0 : z_T g d 212 0 (v0 :: v1 :: v2 :: .ref a :: ls) st h P = z_T g d 212 1 (v0 :: v1 :: v2 :: .ref a :: ls) (.ref a :: st) h P := zt_aloadn zi_212_0 rfl rfl
theorem zi_212_1 : z_ins 212 1 = some (.iconst 0, 1) := by decide +kernel
theorem ze_212_1 : z_T g d 212 1 ls st h P = z_T g d 212 2 ls (.int (nI 0) :: st) h P := zt_iconst zi_212_1 rfl
theorem zi_212_2 : z_ins 212 2 = some (.aload_n 0, 1) := by decide +kernel
theorem ze_212_2 : z_T g d 212 2 (.ref a :: ls) st h P = z_T g d 212 3 (.ref a :: ls) (.ref a :: st) h P := zt_aloadn zi_212_2 rfl rfl
theorem zi_212_3 : z_ins 212 3 = some (.iload_n 1, 1) := by decide +kernel
theorem ze_212_3 : z_T g d 212 3 (v0 :: .int x :: ls) st h P = z_T g d 212 4 (v0 :: .int x :: ls) (.int x :: st) h P := zt_iloadn zi_212_3 rfl rfl
theorem zi_212_4 : z_ins 212 4 = some (.iload_n 2, 1) := by decide +kernel
theorem ze_212_4 : z_T g d 212 4 (v0 :: v1 :: .int x :: ls) st h P = z_T g d 212 5 (v0 :: v1 :: .int x :: ls) (.int x :: st) h P := zt_iloadn zi_212_4 rfl rfl
theorem zi_212_5 : z_ins 212 5 = some (.invokevirtual 46, 3) := by decide +kernel
theorem ze_212_5 : z_T g d 212 5 ls (.int x1 :: .int x0 :: .ref a :: st) h P = ((z_okS 8 st = true ∧ z_gO h.1 a 9 ∧ 0 < d) ∧ z_Ca g (d - 1) 96 [.ref a, .int x0, .int x1] h (fun r => z_kH 212 5 ls r (fun v h' => z_T g d 212 8 ls (z_push v st) h' P) (fun pc' ls' h' => z_T g d 212 pc' ls' [] h' P))) := zt_callVH (as := [.int x0, .int x1]) zi_212_5 ((congrArg (fun o => z_lookup z_prs (o, 46)) zo_212).trans zp_LatinRectanglesLaw_46) ((congrArg (fun o => z_clk o 46) zo_212).trans zk_LatinRectanglesLaw_46) zh_212 zc_96 rfl rfl rfl
theorem zi_212_8 : z_ins 212 8 = some (.i2l, 1) := by decide +kernel
theorem ze_212_8 : z_T g d 212 8 ls (.int x :: st) h P = z_T g d 212 9 ls (.long x.toInt64 :: st) h P := zt_i2l zi_212_8
theorem zi_212_9 : z_ins 212 9 = some (.lastore, 1) := by decide +kernel
theorem ze_212_9 : z_T g d 212 9 ls (.long u :: .int x :: .ref a :: st) h P = z_lS h.1 a x u (fun f => z_T g d 212 10 ls st (f, h.2) P) := zt_lastore zi_212_9
theorem zi_212_10 : z_ins 212 10 = some (.goto 7, 3) := by decide +kernel
theorem ze_212_10 : z_T g d 212 10 ls st h P = z_T g d 212 17 ls st h P := zt_goto zi_212_10 (by decide)
theorem zi_212_13 : z_ins 212 13 = some (.astore 4, 2) := by decide +kernel
theorem ze_212_13 : z_T g d 212 13 (v0 :: v1 :: v2 :: v3 :: v4 :: ls) (.ref a :: st) h P = z_T g d 212 15 (v0 :: v1 :: v2 :: v3 :: .ref a :: ls) st h P := zt_astore zi_212_13 (Nat.le_add_left 5 _)
theorem zi_212_15 : z_ins 212 15 = some (.iconst 1, 1) := by decide +kernel
theorem ze_212_15 : z_T g d 212 15 ls st h P = z_T g d 212 16 ls (.int (nI 1) :: st) h P := zt_iconst zi_212_15 rfl
theorem zi_212_16 : z_ins 212 16 = some (.ireturn, 1) := by decide +kernel
theorem ze_212_16 : z_T g d 212 16 ls [.int x] h P = P (.inr (some (.int x)), h) := zt_ireturn zi_212_16 zr_212
theorem zi_212_17 : z_ins 212 17 = some (.iconst 0, 1) := by decide +kernel
theorem ze_212_17 : z_T g d 212 17 ls st h P = z_T g d 212 18 ls (.int (nI 0) :: st) h P := zt_iconst zi_212_17 rfl
theorem zi_212_18 : z_ins 212 18 = some (.ireturn, 1) := by decide +kernel
theorem ze_212_18 : z_T g d 212 18 ls [.int x] h P = P (.inr (some (.int x)), h) := zt_ireturn zi_212_18 zr_212
-- LatinRectanglesLaw.firstTransversal(LLatinRectangles;I[J)I
theorem zo_213 : z_own 213 = "LatinRectanglesLaw" := by decide +kernel
theorem zm_213 : z_maxL 213 = 4 := by decide +kernel
theorem zh_213 : z_hds 213 ≠ [] := by decide +kernel
theorem zr_213 : z_rt 213 = (some .int) := by decide +kernel
theorem zn_213 : z_Ca g d 213 [.ref a0, .int x1, .ref a2] h P = z_T g d 213 0 [.ref a0, .int x1, .ref a2, z_un] [] h P := z_Ca_ent zm_213 rfl rfl
theorem zi_213_0 : z_ins 213 0 = some (.aload_n 2, 1) := by decide +kernel
theorem ze_213_0 : z_T g d 213 0 (v0 :: v1 :: .ref a :: ls) st h P = z_T g d 213 1 (v0 :: v1 :: .ref a :: ls) (.ref a :: st) h P := zt_aloadn zi_213_0 rfl rfl
theorem zi_213_1 : z_ins 213 1 = some (.iconst 0, 1) := by decide +kernel
theorem ze_213_1 : z_T g d 213 1 ls st h P = z_T g d 213 2 ls (.int (nI 0) :: st) h P := zt_iconst zi_213_1 rfl
theorem zi_213_2 : z_ins 213 2 = some (.aload_n 0, 1) := by decide +kernel
theorem ze_213_2 : z_T g d 213 2 (.ref a :: ls) st h P = z_T g d 213 3 (.ref a :: ls) (.ref a :: st) h P := zt_aloadn zi_213_2 rfl rfl
theorem zi_213_3 : z_ins 213 3 = some (.iload_n 1, 1) := by decide +kernel
theorem ze_213_3 : z_T g d 213 3 (v0 :: .int x :: ls) st h P = z_T g d 213 4 (v0 :: .int x :: ls) (.int x :: st) h P := zt_iloadn zi_213_3 rfl rfl
theorem zi_213_4 : z_ins 213 4 = some (.invokevirtual 49, 3) := by decide +kernel
theorem ze_213_4 : z_T g d 213 4 ls (.int x0 :: .ref a :: st) h P = ((z_okS 8 st = true ∧ z_gO h.1 a 9 ∧ 0 < d) ∧ z_Ca g (d - 1) 97 [.ref a, .int x0] h (fun r => z_kH 213 4 ls r (fun v h' => z_T g d 213 7 ls (z_push v st) h' P) (fun pc' ls' h' => z_T g d 213 pc' ls' [] h' P))) := zt_callVH (as := [.int x0]) zi_213_4 ((congrArg (fun o => z_lookup z_prs (o, 49)) zo_213).trans zp_LatinRectanglesLaw_49) ((congrArg (fun o => z_clk o 49) zo_213).trans zk_LatinRectanglesLaw_49) zh_213 zc_97 rfl rfl rfl
theorem zi_213_7 : z_ins 213 7 = some (.i2l, 1) := by decide +kernel
theorem ze_213_7 : z_T g d 213 7 ls (.int x :: st) h P = z_T g d 213 8 ls (.long x.toInt64 :: st) h P := zt_i2l zi_213_7
theorem zi_213_8 : z_ins 213 8 = some (.lastore, 1) := by decide +kernel
theorem ze_213_8 : z_T g d 213 8 ls (.long u :: .int x :: .ref a :: st) h P = z_lS h.1 a x u (fun f => z_T g d 213 9 ls st (f, h.2) P) := zt_lastore zi_213_8
theorem zi_213_9 : z_ins 213 9 = some (.goto 6, 3) := by decide +kernel
theorem ze_213_9 : z_T g d 213 9 ls st h P = z_T g d 213 15 ls st h P := zt_goto zi_213_9 (by decide)
theorem zi_213_12 : z_ins 213 12 = some (.astore_n 3, 1) := by decide +kernel
theorem ze_213_12 : z_T g d 213 12 (v0 :: v1 :: v2 :: v3 :: ls) (.ref a :: st) h P = z_T g d 213 13 (v0 :: v1 :: v2 :: .ref a :: ls) st h P := zt_astoren zi_213_12 rfl (Nat.le_add_left 4 _)
theorem zi_213_13 : z_ins 213 13 = some (.iconst 1, 1) := by decide +kernel
theorem ze_213_13 : z_T g d 213 13 ls st h P = z_T g d 213 14 ls (.int (nI 1) :: st) h P := zt_iconst zi_213_13 rfl
theorem zi_213_14 : z_ins 213 14 = some (.ireturn, 1) := by decide +kernel
theorem ze_213_14 : z_T g d 213 14 ls [.int x] h P = P (.inr (some (.int x)), h) := zt_ireturn zi_213_14 zr_213
theorem zi_213_15 : z_ins 213 15 = some (.iconst 0, 1) := by decide +kernel
theorem ze_213_15 : z_T g d 213 15 ls st h P = z_T g d 213 16 ls (.int (nI 0) :: st) h P := zt_iconst zi_213_15 rfl
theorem zi_213_16 : z_ins 213 16 = some (.ireturn, 1) := by decide +kernel
theorem ze_213_16 : z_T g d 213 16 ls [.int x] h P = P (.inr (some (.int x)), h) := zt_ireturn zi_213_16 zr_213
-- LatinRectanglesLaw.cycle(LLatinRectangles;III[J)I
theorem zo_214 : z_own 214 = "LatinRectanglesLaw" := by decide +kernel
theorem zm_214 : z_maxL 214 = 6 := by decide +kernel
theorem zh_214 : z_hds 214 ≠ [] := by decide +kernel
theorem zr_214 : z_rt 214 = (some .int) := by decide +kernel
theorem zn_214 : z_Ca g d 214 [.ref a0, .int x1, .int x2, .int x3, .ref a4] h P = z_T g d 214 0 [.ref a0, .int x1, .int x2, .int x3, .ref a4, z_un] [] h P := z_Ca_ent zm_214 rfl rfl
theorem zi_214_0 : z_ins 214 0 = some (.aload 4, 2) := by decide +kernel
theorem ze_214_0 : z_T g d 214 0 (v0 :: v1 :: v2 :: v3 :: .ref a :: ls) st h P = z_T g d 214 2 (v0 :: v1 :: v2 :: v3 :: .ref a :: ls) (.ref a :: st) h P := zt_aload zi_214_0 rfl
theorem zi_214_2 : z_ins 214 2 = some (.iconst 0, 1) := by decide +kernel
theorem ze_214_2 : z_T g d 214 2 ls st h P = z_T g d 214 3 ls (.int (nI 0) :: st) h P := zt_iconst zi_214_2 rfl
theorem zi_214_3 : z_ins 214 3 = some (.aload_n 0, 1) := by decide +kernel
theorem ze_214_3 : z_T g d 214 3 (.ref a :: ls) st h P = z_T g d 214 4 (.ref a :: ls) (.ref a :: st) h P := zt_aloadn zi_214_3 rfl rfl
theorem zi_214_4 : z_ins 214 4 = some (.iload_n 1, 1) := by decide +kernel
theorem ze_214_4 : z_T g d 214 4 (v0 :: .int x :: ls) st h P = z_T g d 214 5 (v0 :: .int x :: ls) (.int x :: st) h P := zt_iloadn zi_214_4 rfl rfl
theorem zi_214_5 : z_ins 214 5 = some (.iload_n 2, 1) := by decide +kernel
theorem ze_214_5 : z_T g d 214 5 (v0 :: v1 :: .int x :: ls) st h P = z_T g d 214 6 (v0 :: v1 :: .int x :: ls) (.int x :: st) h P := zt_iloadn zi_214_5 rfl rfl
theorem zi_214_6 : z_ins 214 6 = some (.iload_n 3, 1) := by decide +kernel
theorem ze_214_6 : z_T g d 214 6 (v0 :: v1 :: v2 :: .int x :: ls) st h P = z_T g d 214 7 (v0 :: v1 :: v2 :: .int x :: ls) (.int x :: st) h P := zt_iloadn zi_214_6 rfl rfl
theorem zi_214_7 : z_ins 214 7 = some (.invokevirtual 52, 3) := by decide +kernel
theorem ze_214_7 : z_T g d 214 7 ls (.int x2 :: .int x1 :: .int x0 :: .ref a :: st) h P = ((z_okS 8 st = true ∧ z_gO h.1 a 9 ∧ 0 < d) ∧ z_Ca g (d - 1) 99 [.ref a, .int x0, .int x1, .int x2] h (fun r => z_kH 214 7 ls r (fun v h' => z_T g d 214 10 ls (z_push v st) h' P) (fun pc' ls' h' => z_T g d 214 pc' ls' [] h' P))) := zt_callVH (as := [.int x0, .int x1, .int x2]) zi_214_7 ((congrArg (fun o => z_lookup z_prs (o, 52)) zo_214).trans zp_LatinRectanglesLaw_52) ((congrArg (fun o => z_clk o 52) zo_214).trans zk_LatinRectanglesLaw_52) zh_214 zc_99 rfl rfl rfl
theorem zi_214_10 : z_ins 214 10 = some (.i2l, 1) := by decide +kernel
theorem ze_214_10 : z_T g d 214 10 ls (.int x :: st) h P = z_T g d 214 11 ls (.long x.toInt64 :: st) h P := zt_i2l zi_214_10
theorem zi_214_11 : z_ins 214 11 = some (.lastore, 1) := by decide +kernel
theorem ze_214_11 : z_T g d 214 11 ls (.long u :: .int x :: .ref a :: st) h P = z_lS h.1 a x u (fun f => z_T g d 214 12 ls st (f, h.2) P) := zt_lastore zi_214_11
theorem zi_214_12 : z_ins 214 12 = some (.goto 15, 3) := by decide +kernel
theorem ze_214_12 : z_T g d 214 12 ls st h P = z_T g d 214 27 ls st h P := zt_goto zi_214_12 (by decide)
theorem zi_214_15 : z_ins 214 15 = some (.astore 5, 2) := by decide +kernel
theorem ze_214_15 : z_T g d 214 15 (v0 :: v1 :: v2 :: v3 :: v4 :: v5 :: ls) (.ref a :: st) h P = z_T g d 214 17 (v0 :: v1 :: v2 :: v3 :: v4 :: .ref a :: ls) st h P := zt_astore zi_214_15 (Nat.le_add_left 6 _)
theorem zi_214_17 : z_ins 214 17 = some (.iconst 1, 1) := by decide +kernel
theorem ze_214_17 : z_T g d 214 17 ls st h P = z_T g d 214 18 ls (.int (nI 1) :: st) h P := zt_iconst zi_214_17 rfl
theorem zi_214_18 : z_ins 214 18 = some (.ireturn, 1) := by decide +kernel
theorem ze_214_18 : z_T g d 214 18 ls [.int x] h P = P (.inr (some (.int x)), h) := zt_ireturn zi_214_18 zr_214
theorem zi_214_19 : z_ins 214 19 = some (.astore 5, 2) := by decide +kernel
theorem ze_214_19 : z_T g d 214 19 (v0 :: v1 :: v2 :: v3 :: v4 :: v5 :: ls) (.ref a :: st) h P = z_T g d 214 21 (v0 :: v1 :: v2 :: v3 :: v4 :: .ref a :: ls) st h P := zt_astore zi_214_19 (Nat.le_add_left 6 _)
theorem zi_214_21 : z_ins 214 21 = some (.iconst 2, 1) := by decide +kernel
theorem ze_214_21 : z_T g d 214 21 ls st h P = z_T g d 214 22 ls (.int (nI 2) :: st) h P := zt_iconst zi_214_21 rfl
theorem zi_214_22 : z_ins 214 22 = some (.ireturn, 1) := by decide +kernel
theorem ze_214_22 : z_T g d 214 22 ls [.int x] h P = P (.inr (some (.int x)), h) := zt_ireturn zi_214_22 zr_214
theorem zi_214_23 : z_ins 214 23 = some (.astore 5, 2) := by decide +kernel
theorem ze_214_23 : z_T g d 214 23 (v0 :: v1 :: v2 :: v3 :: v4 :: v5 :: ls) (.ref a :: st) h P = z_T g d 214 25 (v0 :: v1 :: v2 :: v3 :: v4 :: .ref a :: ls) st h P := zt_astore zi_214_23 (Nat.le_add_left 6 _)
theorem zi_214_25 : z_ins 214 25 = some (.iconst 3, 1) := by decide +kernel
theorem ze_214_25 : z_T g d 214 25 ls st h P = z_T g d 214 26 ls (.int (nI 3) :: st) h P := zt_iconst zi_214_25 rfl
theorem zi_214_26 : z_ins 214 26 = some (.ireturn, 1) := by decide +kernel
theorem ze_214_26 : z_T g d 214 26 ls [.int x] h P = P (.inr (some (.int x)), h) := zt_ireturn zi_214_26 zr_214
theorem zi_214_27 : z_ins 214 27 = some (.iconst 0, 1) := by decide +kernel
theorem ze_214_27 : z_T g d 214 27 ls st h P = z_T g d 214 28 ls (.int (nI 0) :: st) h P := zt_iconst zi_214_27 rfl
theorem zi_214_28 : z_ins 214 28 = some (.ireturn, 1) := by decide +kernel
theorem ze_214_28 : z_T g d 214 28 ls [.int x] h P = P (.inr (some (.int x)), h) := zt_ireturn zi_214_28 zr_214
-- LatinRectanglesLaw.cycleBySize(LLatinRectangles;II[J)I
theorem zo_215 : z_own 215 = "LatinRectanglesLaw" := by decide +kernel
theorem zm_215 : z_maxL 215 = 5 := by decide +kernel
theorem zh_215 : z_hds 215 ≠ [] := by decide +kernel
theorem zr_215 : z_rt 215 = (some .int) := by decide +kernel
theorem zn_215 : z_Ca g d 215 [.ref a0, .int x1, .int x2, .ref a3] h P = z_T g d 215 0 [.ref a0, .int x1, .int x2, .ref a3, z_un] [] h P := z_Ca_ent zm_215 rfl rfl
theorem zi_215_0 : z_ins 215 0 = some (.aload_n 3, 1) := by decide +kernel
theorem ze_215_0 : z_T g d 215 0 (v0 :: v1 :: v2 :: .ref a :: ls) st h P = z_T g d 215 1 (v0 :: v1 :: v2 :: .ref a :: ls) (.ref a :: st) h P := zt_aloadn zi_215_0 rfl rfl
theorem zi_215_1 : z_ins 215 1 = some (.iconst 0, 1) := by decide +kernel
theorem ze_215_1 : z_T g d 215 1 ls st h P = z_T g d 215 2 ls (.int (nI 0) :: st) h P := zt_iconst zi_215_1 rfl
theorem zi_215_2 : z_ins 215 2 = some (.aload_n 0, 1) := by decide +kernel
theorem ze_215_2 : z_T g d 215 2 (.ref a :: ls) st h P = z_T g d 215 3 (.ref a :: ls) (.ref a :: st) h P := zt_aloadn zi_215_2 rfl rfl
theorem zi_215_3 : z_ins 215 3 = some (.iload_n 1, 1) := by decide +kernel
theorem ze_215_3 : z_T g d 215 3 (v0 :: .int x :: ls) st h P = z_T g d 215 4 (v0 :: .int x :: ls) (.int x :: st) h P := zt_iloadn zi_215_3 rfl rfl
theorem zi_215_4 : z_ins 215 4 = some (.iload_n 2, 1) := by decide +kernel
theorem ze_215_4 : z_T g d 215 4 (v0 :: v1 :: .int x :: ls) st h P = z_T g d 215 5 (v0 :: v1 :: .int x :: ls) (.int x :: st) h P := zt_iloadn zi_215_4 rfl rfl
theorem zi_215_5 : z_ins 215 5 = some (.invokevirtual 58, 3) := by decide +kernel
theorem ze_215_5 : z_T g d 215 5 ls (.int x1 :: .int x0 :: .ref a :: st) h P = ((z_okS 8 st = true ∧ z_gO h.1 a 9 ∧ 0 < d) ∧ z_Ca g (d - 1) 100 [.ref a, .int x0, .int x1] h (fun r => z_kH 215 5 ls r (fun v h' => z_T g d 215 8 ls (z_push v st) h' P) (fun pc' ls' h' => z_T g d 215 pc' ls' [] h' P))) := zt_callVH (as := [.int x0, .int x1]) zi_215_5 ((congrArg (fun o => z_lookup z_prs (o, 58)) zo_215).trans zp_LatinRectanglesLaw_58) ((congrArg (fun o => z_clk o 58) zo_215).trans zk_LatinRectanglesLaw_58) zh_215 zc_100 rfl rfl rfl
theorem zi_215_8 : z_ins 215 8 = some (.i2l, 1) := by decide +kernel
theorem ze_215_8 : z_T g d 215 8 ls (.int x :: st) h P = z_T g d 215 9 ls (.long x.toInt64 :: st) h P := zt_i2l zi_215_8
theorem zi_215_9 : z_ins 215 9 = some (.lastore, 1) := by decide +kernel
theorem ze_215_9 : z_T g d 215 9 ls (.long u :: .int x :: .ref a :: st) h P = z_lS h.1 a x u (fun f => z_T g d 215 10 ls st (f, h.2) P) := zt_lastore zi_215_9
theorem zi_215_10 : z_ins 215 10 = some (.goto 7, 3) := by decide +kernel
theorem ze_215_10 : z_T g d 215 10 ls st h P = z_T g d 215 17 ls st h P := zt_goto zi_215_10 (by decide)
theorem zi_215_13 : z_ins 215 13 = some (.astore 4, 2) := by decide +kernel
theorem ze_215_13 : z_T g d 215 13 (v0 :: v1 :: v2 :: v3 :: v4 :: ls) (.ref a :: st) h P = z_T g d 215 15 (v0 :: v1 :: v2 :: v3 :: .ref a :: ls) st h P := zt_astore zi_215_13 (Nat.le_add_left 5 _)
theorem zi_215_15 : z_ins 215 15 = some (.iconst 1, 1) := by decide +kernel
theorem ze_215_15 : z_T g d 215 15 ls st h P = z_T g d 215 16 ls (.int (nI 1) :: st) h P := zt_iconst zi_215_15 rfl
theorem zi_215_16 : z_ins 215 16 = some (.ireturn, 1) := by decide +kernel
theorem ze_215_16 : z_T g d 215 16 ls [.int x] h P = P (.inr (some (.int x)), h) := zt_ireturn zi_215_16 zr_215
theorem zi_215_17 : z_ins 215 17 = some (.iconst 0, 1) := by decide +kernel
theorem ze_215_17 : z_T g d 215 17 ls st h P = z_T g d 215 18 ls (.int (nI 0) :: st) h P := zt_iconst zi_215_17 rfl
theorem zi_215_18 : z_ins 215 18 = some (.ireturn, 1) := by decide +kernel
theorem ze_215_18 : z_T g d 215 18 ls [.int x] h P = P (.inr (some (.int x)), h) := zt_ireturn zi_215_18 zr_215
-- LatinRectanglesLaw.tradeSize(LLatinRectangles;I[J)I
theorem zo_216 : z_own 216 = "LatinRectanglesLaw" := by decide +kernel
theorem zm_216 : z_maxL 216 = 4 := by decide +kernel
theorem zh_216 : z_hds 216 ≠ [] := by decide +kernel
theorem zr_216 : z_rt 216 = (some .int) := by decide +kernel
theorem zn_216 : z_Ca g d 216 [.ref a0, .int x1, .ref a2] h P = z_T g d 216 0 [.ref a0, .int x1, .ref a2, z_un] [] h P := z_Ca_ent zm_216 rfl rfl
theorem zi_216_0 : z_ins 216 0 = some (.aload_n 2, 1) := by decide +kernel
theorem ze_216_0 : z_T g d 216 0 (v0 :: v1 :: .ref a :: ls) st h P = z_T g d 216 1 (v0 :: v1 :: .ref a :: ls) (.ref a :: st) h P := zt_aloadn zi_216_0 rfl rfl
theorem zi_216_1 : z_ins 216 1 = some (.iconst 0, 1) := by decide +kernel
theorem ze_216_1 : z_T g d 216 1 ls st h P = z_T g d 216 2 ls (.int (nI 0) :: st) h P := zt_iconst zi_216_1 rfl
theorem zi_216_2 : z_ins 216 2 = some (.aload_n 0, 1) := by decide +kernel
theorem ze_216_2 : z_T g d 216 2 (.ref a :: ls) st h P = z_T g d 216 3 (.ref a :: ls) (.ref a :: st) h P := zt_aloadn zi_216_2 rfl rfl
theorem zi_216_3 : z_ins 216 3 = some (.iload_n 1, 1) := by decide +kernel
theorem ze_216_3 : z_T g d 216 3 (v0 :: .int x :: ls) st h P = z_T g d 216 4 (v0 :: .int x :: ls) (.int x :: st) h P := zt_iloadn zi_216_3 rfl rfl
theorem zi_216_4 : z_ins 216 4 = some (.invokevirtual 61, 3) := by decide +kernel
theorem ze_216_4 : z_T g d 216 4 ls (.int x0 :: .ref a :: st) h P = ((z_okS 8 st = true ∧ z_gO h.1 a 9 ∧ 0 < d) ∧ z_Ca g (d - 1) 102 [.ref a, .int x0] h (fun r => z_kH 216 4 ls r (fun v h' => z_T g d 216 7 ls (z_push v st) h' P) (fun pc' ls' h' => z_T g d 216 pc' ls' [] h' P))) := zt_callVH (as := [.int x0]) zi_216_4 ((congrArg (fun o => z_lookup z_prs (o, 61)) zo_216).trans zp_LatinRectanglesLaw_61) ((congrArg (fun o => z_clk o 61) zo_216).trans zk_LatinRectanglesLaw_61) zh_216 zc_102 rfl rfl rfl
theorem zi_216_7 : z_ins 216 7 = some (.i2l, 1) := by decide +kernel
theorem ze_216_7 : z_T g d 216 7 ls (.int x :: st) h P = z_T g d 216 8 ls (.long x.toInt64 :: st) h P := zt_i2l zi_216_7
theorem zi_216_8 : z_ins 216 8 = some (.lastore, 1) := by decide +kernel
theorem ze_216_8 : z_T g d 216 8 ls (.long u :: .int x :: .ref a :: st) h P = z_lS h.1 a x u (fun f => z_T g d 216 9 ls st (f, h.2) P) := zt_lastore zi_216_8
theorem zi_216_9 : z_ins 216 9 = some (.goto 9, 3) := by decide +kernel
theorem ze_216_9 : z_T g d 216 9 ls st h P = z_T g d 216 18 ls st h P := zt_goto zi_216_9 (by decide)
theorem zi_216_12 : z_ins 216 12 = some (.astore_n 3, 1) := by decide +kernel
theorem ze_216_12 : z_T g d 216 12 (v0 :: v1 :: v2 :: v3 :: ls) (.ref a :: st) h P = z_T g d 216 13 (v0 :: v1 :: v2 :: .ref a :: ls) st h P := zt_astoren zi_216_12 rfl (Nat.le_add_left 4 _)
theorem zi_216_13 : z_ins 216 13 = some (.iconst 1, 1) := by decide +kernel
theorem ze_216_13 : z_T g d 216 13 ls st h P = z_T g d 216 14 ls (.int (nI 1) :: st) h P := zt_iconst zi_216_13 rfl
theorem zi_216_14 : z_ins 216 14 = some (.ireturn, 1) := by decide +kernel
theorem ze_216_14 : z_T g d 216 14 ls [.int x] h P = P (.inr (some (.int x)), h) := zt_ireturn zi_216_14 zr_216
theorem zi_216_15 : z_ins 216 15 = some (.astore_n 3, 1) := by decide +kernel
theorem ze_216_15 : z_T g d 216 15 (v0 :: v1 :: v2 :: v3 :: ls) (.ref a :: st) h P = z_T g d 216 16 (v0 :: v1 :: v2 :: .ref a :: ls) st h P := zt_astoren zi_216_15 rfl (Nat.le_add_left 4 _)
theorem zi_216_16 : z_ins 216 16 = some (.iconst 2, 1) := by decide +kernel
theorem ze_216_16 : z_T g d 216 16 ls st h P = z_T g d 216 17 ls (.int (nI 2) :: st) h P := zt_iconst zi_216_16 rfl
theorem zi_216_17 : z_ins 216 17 = some (.ireturn, 1) := by decide +kernel
theorem ze_216_17 : z_T g d 216 17 ls [.int x] h P = P (.inr (some (.int x)), h) := zt_ireturn zi_216_17 zr_216
theorem zi_216_18 : z_ins 216 18 = some (.iconst 0, 1) := by decide +kernel
theorem ze_216_18 : z_T g d 216 18 ls st h P = z_T g d 216 19 ls (.int (nI 0) :: st) h P := zt_iconst zi_216_18 rfl
theorem zi_216_19 : z_ins 216 19 = some (.ireturn, 1) := by decide +kernel
theorem ze_216_19 : z_T g d 216 19 ls [.int x] h P = P (.inr (some (.int x)), h) := zt_ireturn zi_216_19 zr_216
-- LatinRectanglesLaw.isTrade(LLatinRectangles;I[J)I
theorem zo_217 : z_own 217 = "LatinRectanglesLaw" := by decide +kernel
theorem zm_217 : z_maxL 217 = 4 := by decide +kernel
theorem zh_217 : z_hds 217 ≠ [] := by decide +kernel
theorem zr_217 : z_rt 217 = (some .int) := by decide +kernel
theorem zn_217 : z_Ca g d 217 [.ref a0, .int x1, .ref a2] h P = z_T g d 217 0 [.ref a0, .int x1, .ref a2, z_un] [] h P := z_Ca_ent zm_217 rfl rfl
theorem zi_217_0 : z_ins 217 0 = some (.aload_n 2, 1) := by decide +kernel
theorem ze_217_0 : z_T g d 217 0 (v0 :: v1 :: .ref a :: ls) st h P = z_T g d 217 1 (v0 :: v1 :: .ref a :: ls) (.ref a :: st) h P := zt_aloadn zi_217_0 rfl rfl
theorem zi_217_1 : z_ins 217 1 = some (.iconst 0, 1) := by decide +kernel
theorem ze_217_1 : z_T g d 217 1 ls st h P = z_T g d 217 2 ls (.int (nI 0) :: st) h P := zt_iconst zi_217_1 rfl
theorem zi_217_2 : z_ins 217 2 = some (.aload_n 0, 1) := by decide +kernel
theorem ze_217_2 : z_T g d 217 2 (.ref a :: ls) st h P = z_T g d 217 3 (.ref a :: ls) (.ref a :: st) h P := zt_aloadn zi_217_2 rfl rfl
theorem zi_217_3 : z_ins 217 3 = some (.iload_n 1, 1) := by decide +kernel
theorem ze_217_3 : z_T g d 217 3 (v0 :: .int x :: ls) st h P = z_T g d 217 4 (v0 :: .int x :: ls) (.int x :: st) h P := zt_iloadn zi_217_3 rfl rfl
theorem zi_217_4 : z_ins 217 4 = some (.invokevirtual 64, 3) := by decide +kernel
theorem ze_217_4 : z_T g d 217 4 ls (.int x0 :: .ref a :: st) h P = ((z_okS 8 st = true ∧ z_gO h.1 a 9 ∧ 0 < d) ∧ z_Ca g (d - 1) 103 [.ref a, .int x0] h (fun r => z_kH 217 4 ls r (fun v h' => z_T g d 217 7 ls (z_push v st) h' P) (fun pc' ls' h' => z_T g d 217 pc' ls' [] h' P))) := zt_callVH (as := [.int x0]) zi_217_4 ((congrArg (fun o => z_lookup z_prs (o, 64)) zo_217).trans zp_LatinRectanglesLaw_64) ((congrArg (fun o => z_clk o 64) zo_217).trans zk_LatinRectanglesLaw_64) zh_217 zc_103 rfl rfl rfl
theorem zi_217_7 : z_ins 217 7 = some (.ifCond .eq 7, 3) := by decide +kernel
theorem ze_217_7 : z_T g d 217 7 ls (.int x :: st) h P = (if x = nI 0 then z_T g d 217 14 ls st h P else z_T g d 217 10 ls st h P) := zt_ifeq zi_217_7 (by decide)
theorem zi_217_10 : z_ins 217 10 = some (.lconst 1, 1) := by decide +kernel
theorem ze_217_10 : z_T g d 217 10 ls st h P = z_T g d 217 11 ls (.long 1 :: st) h P := zt_lconst zi_217_10 rfl
theorem zi_217_11 : z_ins 217 11 = some (.goto 4, 3) := by decide +kernel
theorem ze_217_11 : z_T g d 217 11 ls st h P = z_T g d 217 15 ls st h P := zt_goto zi_217_11 (by decide)
theorem zi_217_14 : z_ins 217 14 = some (.lconst 0, 1) := by decide +kernel
theorem ze_217_14 : z_T g d 217 14 ls st h P = z_T g d 217 15 ls (.long 0 :: st) h P := zt_lconst zi_217_14 rfl
theorem zi_217_15 : z_ins 217 15 = some (.lastore, 1) := by decide +kernel
theorem ze_217_15 : z_T g d 217 15 ls (.long u :: .int x :: .ref a :: st) h P = z_lS h.1 a x u (fun f => z_T g d 217 16 ls st (f, h.2) P) := zt_lastore zi_217_15
theorem zi_217_16 : z_ins 217 16 = some (.goto 9, 3) := by decide +kernel
theorem ze_217_16 : z_T g d 217 16 ls st h P = z_T g d 217 25 ls st h P := zt_goto zi_217_16 (by decide)
theorem zi_217_19 : z_ins 217 19 = some (.astore_n 3, 1) := by decide +kernel
theorem ze_217_19 : z_T g d 217 19 (v0 :: v1 :: v2 :: v3 :: ls) (.ref a :: st) h P = z_T g d 217 20 (v0 :: v1 :: v2 :: .ref a :: ls) st h P := zt_astoren zi_217_19 rfl (Nat.le_add_left 4 _)
theorem zi_217_20 : z_ins 217 20 = some (.iconst 1, 1) := by decide +kernel
theorem ze_217_20 : z_T g d 217 20 ls st h P = z_T g d 217 21 ls (.int (nI 1) :: st) h P := zt_iconst zi_217_20 rfl
theorem zi_217_21 : z_ins 217 21 = some (.ireturn, 1) := by decide +kernel
theorem ze_217_21 : z_T g d 217 21 ls [.int x] h P = P (.inr (some (.int x)), h) := zt_ireturn zi_217_21 zr_217
theorem zi_217_22 : z_ins 217 22 = some (.astore_n 3, 1) := by decide +kernel
theorem ze_217_22 : z_T g d 217 22 (v0 :: v1 :: v2 :: v3 :: ls) (.ref a :: st) h P = z_T g d 217 23 (v0 :: v1 :: v2 :: .ref a :: ls) st h P := zt_astoren zi_217_22 rfl (Nat.le_add_left 4 _)
theorem zi_217_23 : z_ins 217 23 = some (.iconst 2, 1) := by decide +kernel
theorem ze_217_23 : z_T g d 217 23 ls st h P = z_T g d 217 24 ls (.int (nI 2) :: st) h P := zt_iconst zi_217_23 rfl
theorem zi_217_24 : z_ins 217 24 = some (.ireturn, 1) := by decide +kernel
theorem ze_217_24 : z_T g d 217 24 ls [.int x] h P = P (.inr (some (.int x)), h) := zt_ireturn zi_217_24 zr_217
theorem zi_217_25 : z_ins 217 25 = some (.iconst 0, 1) := by decide +kernel
theorem ze_217_25 : z_T g d 217 25 ls st h P = z_T g d 217 26 ls (.int (nI 0) :: st) h P := zt_iconst zi_217_25 rfl
theorem zi_217_26 : z_ins 217 26 = some (.ireturn, 1) := by decide +kernel
theorem ze_217_26 : z_T g d 217 26 ls [.int x] h P = P (.inr (some (.int x)), h) := zt_ireturn zi_217_26 zr_217
-- LatinRectanglesLaw.fill(LLatinRectangles;III[J)I
theorem zo_218 : z_own 218 = "LatinRectanglesLaw" := by decide +kernel
theorem zm_218 : z_maxL 218 = 6 := by decide +kernel
theorem zh_218 : z_hds 218 ≠ [] := by decide +kernel
theorem zr_218 : z_rt 218 = (some .int) := by decide +kernel
theorem zn_218 : z_Ca g d 218 [.ref a0, .int x1, .int x2, .int x3, .ref a4] h P = z_T g d 218 0 [.ref a0, .int x1, .int x2, .int x3, .ref a4, z_un] [] h P := z_Ca_ent zm_218 rfl rfl
theorem zi_218_0 : z_ins 218 0 = some (.aload 4, 2) := by decide +kernel
theorem ze_218_0 : z_T g d 218 0 (v0 :: v1 :: v2 :: v3 :: .ref a :: ls) st h P = z_T g d 218 2 (v0 :: v1 :: v2 :: v3 :: .ref a :: ls) (.ref a :: st) h P := zt_aload zi_218_0 rfl
theorem zi_218_2 : z_ins 218 2 = some (.iconst 0, 1) := by decide +kernel
theorem ze_218_2 : z_T g d 218 2 ls st h P = z_T g d 218 3 ls (.int (nI 0) :: st) h P := zt_iconst zi_218_2 rfl
theorem zi_218_3 : z_ins 218 3 = some (.aload_n 0, 1) := by decide +kernel
theorem ze_218_3 : z_T g d 218 3 (.ref a :: ls) st h P = z_T g d 218 4 (.ref a :: ls) (.ref a :: st) h P := zt_aloadn zi_218_3 rfl rfl
theorem zi_218_4 : z_ins 218 4 = some (.iload_n 1, 1) := by decide +kernel
theorem ze_218_4 : z_T g d 218 4 (v0 :: .int x :: ls) st h P = z_T g d 218 5 (v0 :: .int x :: ls) (.int x :: st) h P := zt_iloadn zi_218_4 rfl rfl
theorem zi_218_5 : z_ins 218 5 = some (.iload_n 2, 1) := by decide +kernel
theorem ze_218_5 : z_T g d 218 5 (v0 :: v1 :: .int x :: ls) st h P = z_T g d 218 6 (v0 :: v1 :: .int x :: ls) (.int x :: st) h P := zt_iloadn zi_218_5 rfl rfl
theorem zi_218_6 : z_ins 218 6 = some (.iload_n 3, 1) := by decide +kernel
theorem ze_218_6 : z_T g d 218 6 (v0 :: v1 :: v2 :: .int x :: ls) st h P = z_T g d 218 7 (v0 :: v1 :: v2 :: .int x :: ls) (.int x :: st) h P := zt_iloadn zi_218_6 rfl rfl
theorem zi_218_7 : z_ins 218 7 = some (.invokevirtual 68, 3) := by decide +kernel
theorem ze_218_7 : z_T g d 218 7 ls (.int x2 :: .int x1 :: .int x0 :: .ref a :: st) h P = ((z_okS 8 st = true ∧ z_gO h.1 a 9 ∧ 0 < d) ∧ z_Ca g (d - 1) 104 [.ref a, .int x0, .int x1, .int x2] h (fun r => z_kH 218 7 ls r (fun v h' => z_T g d 218 10 ls (z_push v st) h' P) (fun pc' ls' h' => z_T g d 218 pc' ls' [] h' P))) := zt_callVH (as := [.int x0, .int x1, .int x2]) zi_218_7 ((congrArg (fun o => z_lookup z_prs (o, 68)) zo_218).trans zp_LatinRectanglesLaw_68) ((congrArg (fun o => z_clk o 68) zo_218).trans zk_LatinRectanglesLaw_68) zh_218 zc_104 rfl rfl rfl
theorem zi_218_10 : z_ins 218 10 = some (.i2l, 1) := by decide +kernel
theorem ze_218_10 : z_T g d 218 10 ls (.int x :: st) h P = z_T g d 218 11 ls (.long x.toInt64 :: st) h P := zt_i2l zi_218_10
theorem zi_218_11 : z_ins 218 11 = some (.lastore, 1) := by decide +kernel
theorem ze_218_11 : z_T g d 218 11 ls (.long u :: .int x :: .ref a :: st) h P = z_lS h.1 a x u (fun f => z_T g d 218 12 ls st (f, h.2) P) := zt_lastore zi_218_11
theorem zi_218_12 : z_ins 218 12 = some (.goto 15, 3) := by decide +kernel
theorem ze_218_12 : z_T g d 218 12 ls st h P = z_T g d 218 27 ls st h P := zt_goto zi_218_12 (by decide)
theorem zi_218_15 : z_ins 218 15 = some (.astore 5, 2) := by decide +kernel
theorem ze_218_15 : z_T g d 218 15 (v0 :: v1 :: v2 :: v3 :: v4 :: v5 :: ls) (.ref a :: st) h P = z_T g d 218 17 (v0 :: v1 :: v2 :: v3 :: v4 :: .ref a :: ls) st h P := zt_astore zi_218_15 (Nat.le_add_left 6 _)
theorem zi_218_17 : z_ins 218 17 = some (.iconst 1, 1) := by decide +kernel
theorem ze_218_17 : z_T g d 218 17 ls st h P = z_T g d 218 18 ls (.int (nI 1) :: st) h P := zt_iconst zi_218_17 rfl
theorem zi_218_18 : z_ins 218 18 = some (.ireturn, 1) := by decide +kernel
theorem ze_218_18 : z_T g d 218 18 ls [.int x] h P = P (.inr (some (.int x)), h) := zt_ireturn zi_218_18 zr_218
theorem zi_218_19 : z_ins 218 19 = some (.astore 5, 2) := by decide +kernel
theorem ze_218_19 : z_T g d 218 19 (v0 :: v1 :: v2 :: v3 :: v4 :: v5 :: ls) (.ref a :: st) h P = z_T g d 218 21 (v0 :: v1 :: v2 :: v3 :: v4 :: .ref a :: ls) st h P := zt_astore zi_218_19 (Nat.le_add_left 6 _)
theorem zi_218_21 : z_ins 218 21 = some (.iconst 2, 1) := by decide +kernel
theorem ze_218_21 : z_T g d 218 21 ls st h P = z_T g d 218 22 ls (.int (nI 2) :: st) h P := zt_iconst zi_218_21 rfl
theorem zi_218_22 : z_ins 218 22 = some (.ireturn, 1) := by decide +kernel
theorem ze_218_22 : z_T g d 218 22 ls [.int x] h P = P (.inr (some (.int x)), h) := zt_ireturn zi_218_22 zr_218
theorem zi_218_23 : z_ins 218 23 = some (.astore 5, 2) := by decide +kernel
theorem ze_218_23 : z_T g d 218 23 (v0 :: v1 :: v2 :: v3 :: v4 :: v5 :: ls) (.ref a :: st) h P = z_T g d 218 25 (v0 :: v1 :: v2 :: v3 :: v4 :: .ref a :: ls) st h P := zt_astore zi_218_23 (Nat.le_add_left 6 _)
theorem zi_218_25 : z_ins 218 25 = some (.iconst 3, 1) := by decide +kernel
theorem ze_218_25 : z_T g d 218 25 ls st h P = z_T g d 218 26 ls (.int (nI 3) :: st) h P := zt_iconst zi_218_25 rfl
theorem zi_218_26 : z_ins 218 26 = some (.ireturn, 1) := by decide +kernel
theorem ze_218_26 : z_T g d 218 26 ls [.int x] h P = P (.inr (some (.int x)), h) := zt_ireturn zi_218_26 zr_218
theorem zi_218_27 : z_ins 218 27 = some (.iconst 0, 1) := by decide +kernel
theorem ze_218_27 : z_T g d 218 27 ls st h P = z_T g d 218 28 ls (.int (nI 0) :: st) h P := zt_iconst zi_218_27 rfl
theorem zi_218_28 : z_ins 218 28 = some (.ireturn, 1) := by decide +kernel
theorem ze_218_28 : z_T g d 218 28 ls [.int x] h P = P (.inr (some (.int x)), h) := zt_ireturn zi_218_28 zr_218
-- LatinRectanglesLaw.empty(LLatinRectangles;II[J)I
theorem zo_219 : z_own 219 = "LatinRectanglesLaw" := by decide +kernel
theorem zm_219 : z_maxL 219 = 5 := by decide +kernel
theorem zh_219 : z_hds 219 ≠ [] := by decide +kernel
theorem zr_219 : z_rt 219 = (some .int) := by decide +kernel
theorem zn_219 : z_Ca g d 219 [.ref a0, .int x1, .int x2, .ref a3] h P = z_T g d 219 0 [.ref a0, .int x1, .int x2, .ref a3, z_un] [] h P := z_Ca_ent zm_219 rfl rfl
theorem zi_219_0 : z_ins 219 0 = some (.aload_n 3, 1) := by decide +kernel
theorem ze_219_0 : z_T g d 219 0 (v0 :: v1 :: v2 :: .ref a :: ls) st h P = z_T g d 219 1 (v0 :: v1 :: v2 :: .ref a :: ls) (.ref a :: st) h P := zt_aloadn zi_219_0 rfl rfl
theorem zi_219_1 : z_ins 219 1 = some (.iconst 0, 1) := by decide +kernel
theorem ze_219_1 : z_T g d 219 1 ls st h P = z_T g d 219 2 ls (.int (nI 0) :: st) h P := zt_iconst zi_219_1 rfl
theorem zi_219_2 : z_ins 219 2 = some (.aload_n 0, 1) := by decide +kernel
theorem ze_219_2 : z_T g d 219 2 (.ref a :: ls) st h P = z_T g d 219 3 (.ref a :: ls) (.ref a :: st) h P := zt_aloadn zi_219_2 rfl rfl
theorem zi_219_3 : z_ins 219 3 = some (.iload_n 1, 1) := by decide +kernel
theorem ze_219_3 : z_T g d 219 3 (v0 :: .int x :: ls) st h P = z_T g d 219 4 (v0 :: .int x :: ls) (.int x :: st) h P := zt_iloadn zi_219_3 rfl rfl
theorem zi_219_4 : z_ins 219 4 = some (.iload_n 2, 1) := by decide +kernel
theorem ze_219_4 : z_T g d 219 4 (v0 :: v1 :: .int x :: ls) st h P = z_T g d 219 5 (v0 :: v1 :: .int x :: ls) (.int x :: st) h P := zt_iloadn zi_219_4 rfl rfl
theorem zi_219_5 : z_ins 219 5 = some (.invokevirtual 71, 3) := by decide +kernel
theorem ze_219_5 : z_T g d 219 5 ls (.int x1 :: .int x0 :: .ref a :: st) h P = ((z_okS 8 st = true ∧ z_gO h.1 a 9 ∧ 0 < d) ∧ z_Ca g (d - 1) 105 [.ref a, .int x0, .int x1] h (fun r => z_kH 219 5 ls r (fun v h' => z_T g d 219 8 ls (z_push v st) h' P) (fun pc' ls' h' => z_T g d 219 pc' ls' [] h' P))) := zt_callVH (as := [.int x0, .int x1]) zi_219_5 ((congrArg (fun o => z_lookup z_prs (o, 71)) zo_219).trans zp_LatinRectanglesLaw_71) ((congrArg (fun o => z_clk o 71) zo_219).trans zk_LatinRectanglesLaw_71) zh_219 zc_105 rfl rfl rfl
theorem zi_219_8 : z_ins 219 8 = some (.i2l, 1) := by decide +kernel
theorem ze_219_8 : z_T g d 219 8 ls (.int x :: st) h P = z_T g d 219 9 ls (.long x.toInt64 :: st) h P := zt_i2l zi_219_8
theorem zi_219_9 : z_ins 219 9 = some (.lastore, 1) := by decide +kernel
theorem ze_219_9 : z_T g d 219 9 ls (.long u :: .int x :: .ref a :: st) h P = z_lS h.1 a x u (fun f => z_T g d 219 10 ls st (f, h.2) P) := zt_lastore zi_219_9
theorem zi_219_10 : z_ins 219 10 = some (.goto 11, 3) := by decide +kernel
theorem ze_219_10 : z_T g d 219 10 ls st h P = z_T g d 219 21 ls st h P := zt_goto zi_219_10 (by decide)
theorem zi_219_13 : z_ins 219 13 = some (.astore 4, 2) := by decide +kernel
theorem ze_219_13 : z_T g d 219 13 (v0 :: v1 :: v2 :: v3 :: v4 :: ls) (.ref a :: st) h P = z_T g d 219 15 (v0 :: v1 :: v2 :: v3 :: .ref a :: ls) st h P := zt_astore zi_219_13 (Nat.le_add_left 5 _)
theorem zi_219_15 : z_ins 219 15 = some (.iconst 1, 1) := by decide +kernel
theorem ze_219_15 : z_T g d 219 15 ls st h P = z_T g d 219 16 ls (.int (nI 1) :: st) h P := zt_iconst zi_219_15 rfl
theorem zi_219_16 : z_ins 219 16 = some (.ireturn, 1) := by decide +kernel
theorem ze_219_16 : z_T g d 219 16 ls [.int x] h P = P (.inr (some (.int x)), h) := zt_ireturn zi_219_16 zr_219
theorem zi_219_17 : z_ins 219 17 = some (.astore 4, 2) := by decide +kernel
theorem ze_219_17 : z_T g d 219 17 (v0 :: v1 :: v2 :: v3 :: v4 :: ls) (.ref a :: st) h P = z_T g d 219 19 (v0 :: v1 :: v2 :: v3 :: .ref a :: ls) st h P := zt_astore zi_219_17 (Nat.le_add_left 5 _)
theorem zi_219_19 : z_ins 219 19 = some (.iconst 2, 1) := by decide +kernel
theorem ze_219_19 : z_T g d 219 19 ls st h P = z_T g d 219 20 ls (.int (nI 2) :: st) h P := zt_iconst zi_219_19 rfl
theorem zi_219_20 : z_ins 219 20 = some (.ireturn, 1) := by decide +kernel
theorem ze_219_20 : z_T g d 219 20 ls [.int x] h P = P (.inr (some (.int x)), h) := zt_ireturn zi_219_20 zr_219
theorem zi_219_21 : z_ins 219 21 = some (.iconst 0, 1) := by decide +kernel
theorem ze_219_21 : z_T g d 219 21 ls st h P = z_T g d 219 22 ls (.int (nI 0) :: st) h P := zt_iconst zi_219_21 rfl
theorem zi_219_22 : z_ins 219 22 = some (.ireturn, 1) := by decide +kernel
theorem ze_219_22 : z_T g d 219 22 ls [.int x] h P = P (.inr (some (.int x)), h) := zt_ireturn zi_219_22 zr_219
-- LatinRectanglesLaw.fillRow(LLatinRectangles;I[J)I
theorem zo_220 : z_own 220 = "LatinRectanglesLaw" := by decide +kernel
theorem zm_220 : z_maxL 220 = 4 := by decide +kernel
theorem zh_220 : z_hds 220 ≠ [] := by decide +kernel
theorem zr_220 : z_rt 220 = (some .int) := by decide +kernel
theorem zn_220 : z_Ca g d 220 [.ref a0, .int x1, .ref a2] h P = z_T g d 220 0 [.ref a0, .int x1, .ref a2, z_un] [] h P := z_Ca_ent zm_220 rfl rfl
theorem zi_220_0 : z_ins 220 0 = some (.aload_n 2, 1) := by decide +kernel
theorem ze_220_0 : z_T g d 220 0 (v0 :: v1 :: .ref a :: ls) st h P = z_T g d 220 1 (v0 :: v1 :: .ref a :: ls) (.ref a :: st) h P := zt_aloadn zi_220_0 rfl rfl
theorem zi_220_1 : z_ins 220 1 = some (.iconst 0, 1) := by decide +kernel
theorem ze_220_1 : z_T g d 220 1 ls st h P = z_T g d 220 2 ls (.int (nI 0) :: st) h P := zt_iconst zi_220_1 rfl
theorem zi_220_2 : z_ins 220 2 = some (.aload_n 0, 1) := by decide +kernel
theorem ze_220_2 : z_T g d 220 2 (.ref a :: ls) st h P = z_T g d 220 3 (.ref a :: ls) (.ref a :: st) h P := zt_aloadn zi_220_2 rfl rfl
theorem zi_220_3 : z_ins 220 3 = some (.iload_n 1, 1) := by decide +kernel
theorem ze_220_3 : z_T g d 220 3 (v0 :: .int x :: ls) st h P = z_T g d 220 4 (v0 :: .int x :: ls) (.int x :: st) h P := zt_iloadn zi_220_3 rfl rfl
theorem zi_220_4 : z_ins 220 4 = some (.invokevirtual 74, 3) := by decide +kernel
theorem ze_220_4 : z_T g d 220 4 ls (.int x0 :: .ref a :: st) h P = ((z_okS 8 st = true ∧ z_gO h.1 a 9 ∧ 0 < d) ∧ z_Ca g (d - 1) 107 [.ref a, .int x0] h (fun r => z_kH 220 4 ls r (fun v h' => z_T g d 220 7 ls (z_push v st) h' P) (fun pc' ls' h' => z_T g d 220 pc' ls' [] h' P))) := zt_callVH (as := [.int x0]) zi_220_4 ((congrArg (fun o => z_lookup z_prs (o, 74)) zo_220).trans zp_LatinRectanglesLaw_74) ((congrArg (fun o => z_clk o 74) zo_220).trans zk_LatinRectanglesLaw_74) zh_220 zc_107 rfl rfl rfl
theorem zi_220_7 : z_ins 220 7 = some (.i2l, 1) := by decide +kernel
theorem ze_220_7 : z_T g d 220 7 ls (.int x :: st) h P = z_T g d 220 8 ls (.long x.toInt64 :: st) h P := zt_i2l zi_220_7
theorem zi_220_8 : z_ins 220 8 = some (.lastore, 1) := by decide +kernel
theorem ze_220_8 : z_T g d 220 8 ls (.long u :: .int x :: .ref a :: st) h P = z_lS h.1 a x u (fun f => z_T g d 220 9 ls st (f, h.2) P) := zt_lastore zi_220_8
theorem zi_220_9 : z_ins 220 9 = some (.goto 9, 3) := by decide +kernel
theorem ze_220_9 : z_T g d 220 9 ls st h P = z_T g d 220 18 ls st h P := zt_goto zi_220_9 (by decide)
theorem zi_220_12 : z_ins 220 12 = some (.astore_n 3, 1) := by decide +kernel
theorem ze_220_12 : z_T g d 220 12 (v0 :: v1 :: v2 :: v3 :: ls) (.ref a :: st) h P = z_T g d 220 13 (v0 :: v1 :: v2 :: .ref a :: ls) st h P := zt_astoren zi_220_12 rfl (Nat.le_add_left 4 _)
theorem zi_220_13 : z_ins 220 13 = some (.iconst 1, 1) := by decide +kernel
theorem ze_220_13 : z_T g d 220 13 ls st h P = z_T g d 220 14 ls (.int (nI 1) :: st) h P := zt_iconst zi_220_13 rfl
theorem zi_220_14 : z_ins 220 14 = some (.ireturn, 1) := by decide +kernel
theorem ze_220_14 : z_T g d 220 14 ls [.int x] h P = P (.inr (some (.int x)), h) := zt_ireturn zi_220_14 zr_220
theorem zi_220_15 : z_ins 220 15 = some (.astore_n 3, 1) := by decide +kernel
theorem ze_220_15 : z_T g d 220 15 (v0 :: v1 :: v2 :: v3 :: ls) (.ref a :: st) h P = z_T g d 220 16 (v0 :: v1 :: v2 :: .ref a :: ls) st h P := zt_astoren zi_220_15 rfl (Nat.le_add_left 4 _)
theorem zi_220_16 : z_ins 220 16 = some (.iconst 2, 1) := by decide +kernel
theorem ze_220_16 : z_T g d 220 16 ls st h P = z_T g d 220 17 ls (.int (nI 2) :: st) h P := zt_iconst zi_220_16 rfl
theorem zi_220_17 : z_ins 220 17 = some (.ireturn, 1) := by decide +kernel
theorem ze_220_17 : z_T g d 220 17 ls [.int x] h P = P (.inr (some (.int x)), h) := zt_ireturn zi_220_17 zr_220
theorem zi_220_18 : z_ins 220 18 = some (.iconst 0, 1) := by decide +kernel
theorem ze_220_18 : z_T g d 220 18 ls st h P = z_T g d 220 19 ls (.int (nI 0) :: st) h P := zt_iconst zi_220_18 rfl
theorem zi_220_19 : z_ins 220 19 = some (.ireturn, 1) := by decide +kernel
theorem ze_220_19 : z_T g d 220 19 ls [.int x] h P = P (.inr (some (.int x)), h) := zt_ireturn zi_220_19 zr_220
-- LatinRectanglesLaw.switchCycle(LLatinRectangles;III[J)I
theorem zo_221 : z_own 221 = "LatinRectanglesLaw" := by decide +kernel
theorem zm_221 : z_maxL 221 = 6 := by decide +kernel
theorem zh_221 : z_hds 221 ≠ [] := by decide +kernel
theorem zr_221 : z_rt 221 = (some .int) := by decide +kernel
theorem zn_221 : z_Ca g d 221 [.ref a0, .int x1, .int x2, .int x3, .ref a4] h P = z_T g d 221 0 [.ref a0, .int x1, .int x2, .int x3, .ref a4, z_un] [] h P := z_Ca_ent zm_221 rfl rfl
theorem zi_221_0 : z_ins 221 0 = some (.aload 4, 2) := by decide +kernel
theorem ze_221_0 : z_T g d 221 0 (v0 :: v1 :: v2 :: v3 :: .ref a :: ls) st h P = z_T g d 221 2 (v0 :: v1 :: v2 :: v3 :: .ref a :: ls) (.ref a :: st) h P := zt_aload zi_221_0 rfl
theorem zi_221_2 : z_ins 221 2 = some (.iconst 0, 1) := by decide +kernel
theorem ze_221_2 : z_T g d 221 2 ls st h P = z_T g d 221 3 ls (.int (nI 0) :: st) h P := zt_iconst zi_221_2 rfl
theorem zi_221_3 : z_ins 221 3 = some (.aload_n 0, 1) := by decide +kernel
theorem ze_221_3 : z_T g d 221 3 (.ref a :: ls) st h P = z_T g d 221 4 (.ref a :: ls) (.ref a :: st) h P := zt_aloadn zi_221_3 rfl rfl
theorem zi_221_4 : z_ins 221 4 = some (.iload_n 1, 1) := by decide +kernel
theorem ze_221_4 : z_T g d 221 4 (v0 :: .int x :: ls) st h P = z_T g d 221 5 (v0 :: .int x :: ls) (.int x :: st) h P := zt_iloadn zi_221_4 rfl rfl
theorem zi_221_5 : z_ins 221 5 = some (.iload_n 2, 1) := by decide +kernel
theorem ze_221_5 : z_T g d 221 5 (v0 :: v1 :: .int x :: ls) st h P = z_T g d 221 6 (v0 :: v1 :: .int x :: ls) (.int x :: st) h P := zt_iloadn zi_221_5 rfl rfl
theorem zi_221_6 : z_ins 221 6 = some (.iload_n 3, 1) := by decide +kernel
theorem ze_221_6 : z_T g d 221 6 (v0 :: v1 :: v2 :: .int x :: ls) st h P = z_T g d 221 7 (v0 :: v1 :: v2 :: .int x :: ls) (.int x :: st) h P := zt_iloadn zi_221_6 rfl rfl
theorem zi_221_7 : z_ins 221 7 = some (.invokevirtual 77, 3) := by decide +kernel
theorem ze_221_7 : z_T g d 221 7 ls (.int x2 :: .int x1 :: .int x0 :: .ref a :: st) h P = ((z_okS 8 st = true ∧ z_gO h.1 a 9 ∧ 0 < d) ∧ z_Ca g (d - 1) 108 [.ref a, .int x0, .int x1, .int x2] h (fun r => z_kH 221 7 ls r (fun v h' => z_T g d 221 10 ls (z_push v st) h' P) (fun pc' ls' h' => z_T g d 221 pc' ls' [] h' P))) := zt_callVH (as := [.int x0, .int x1, .int x2]) zi_221_7 ((congrArg (fun o => z_lookup z_prs (o, 77)) zo_221).trans zp_LatinRectanglesLaw_77) ((congrArg (fun o => z_clk o 77) zo_221).trans zk_LatinRectanglesLaw_77) zh_221 zc_108 rfl rfl rfl
theorem zi_221_10 : z_ins 221 10 = some (.i2l, 1) := by decide +kernel
theorem ze_221_10 : z_T g d 221 10 ls (.int x :: st) h P = z_T g d 221 11 ls (.long x.toInt64 :: st) h P := zt_i2l zi_221_10
theorem zi_221_11 : z_ins 221 11 = some (.lastore, 1) := by decide +kernel
theorem ze_221_11 : z_T g d 221 11 ls (.long u :: .int x :: .ref a :: st) h P = z_lS h.1 a x u (fun f => z_T g d 221 12 ls st (f, h.2) P) := zt_lastore zi_221_11
theorem zi_221_12 : z_ins 221 12 = some (.goto 15, 3) := by decide +kernel
theorem ze_221_12 : z_T g d 221 12 ls st h P = z_T g d 221 27 ls st h P := zt_goto zi_221_12 (by decide)
theorem zi_221_15 : z_ins 221 15 = some (.astore 5, 2) := by decide +kernel
theorem ze_221_15 : z_T g d 221 15 (v0 :: v1 :: v2 :: v3 :: v4 :: v5 :: ls) (.ref a :: st) h P = z_T g d 221 17 (v0 :: v1 :: v2 :: v3 :: v4 :: .ref a :: ls) st h P := zt_astore zi_221_15 (Nat.le_add_left 6 _)
theorem zi_221_17 : z_ins 221 17 = some (.iconst 1, 1) := by decide +kernel
theorem ze_221_17 : z_T g d 221 17 ls st h P = z_T g d 221 18 ls (.int (nI 1) :: st) h P := zt_iconst zi_221_17 rfl
theorem zi_221_18 : z_ins 221 18 = some (.ireturn, 1) := by decide +kernel
theorem ze_221_18 : z_T g d 221 18 ls [.int x] h P = P (.inr (some (.int x)), h) := zt_ireturn zi_221_18 zr_221
theorem zi_221_19 : z_ins 221 19 = some (.astore 5, 2) := by decide +kernel
theorem ze_221_19 : z_T g d 221 19 (v0 :: v1 :: v2 :: v3 :: v4 :: v5 :: ls) (.ref a :: st) h P = z_T g d 221 21 (v0 :: v1 :: v2 :: v3 :: v4 :: .ref a :: ls) st h P := zt_astore zi_221_19 (Nat.le_add_left 6 _)
theorem zi_221_21 : z_ins 221 21 = some (.iconst 2, 1) := by decide +kernel
theorem ze_221_21 : z_T g d 221 21 ls st h P = z_T g d 221 22 ls (.int (nI 2) :: st) h P := zt_iconst zi_221_21 rfl
theorem zi_221_22 : z_ins 221 22 = some (.ireturn, 1) := by decide +kernel
theorem ze_221_22 : z_T g d 221 22 ls [.int x] h P = P (.inr (some (.int x)), h) := zt_ireturn zi_221_22 zr_221
theorem zi_221_23 : z_ins 221 23 = some (.astore 5, 2) := by decide +kernel
theorem ze_221_23 : z_T g d 221 23 (v0 :: v1 :: v2 :: v3 :: v4 :: v5 :: ls) (.ref a :: st) h P = z_T g d 221 25 (v0 :: v1 :: v2 :: v3 :: v4 :: .ref a :: ls) st h P := zt_astore zi_221_23 (Nat.le_add_left 6 _)
theorem zi_221_25 : z_ins 221 25 = some (.iconst 3, 1) := by decide +kernel
theorem ze_221_25 : z_T g d 221 25 ls st h P = z_T g d 221 26 ls (.int (nI 3) :: st) h P := zt_iconst zi_221_25 rfl
theorem zi_221_26 : z_ins 221 26 = some (.ireturn, 1) := by decide +kernel
theorem ze_221_26 : z_T g d 221 26 ls [.int x] h P = P (.inr (some (.int x)), h) := zt_ireturn zi_221_26 zr_221
theorem zi_221_27 : z_ins 221 27 = some (.iconst 0, 1) := by decide +kernel
theorem ze_221_27 : z_T g d 221 27 ls st h P = z_T g d 221 28 ls (.int (nI 0) :: st) h P := zt_iconst zi_221_27 rfl
theorem zi_221_28 : z_ins 221 28 = some (.ireturn, 1) := by decide +kernel
theorem ze_221_28 : z_T g d 221 28 ls [.int x] h P = P (.inr (some (.int x)), h) := zt_ireturn zi_221_28 zr_221
-- LatinRectanglesLaw.saveSnapshot(LLatinRectangles;I[J)I
theorem zo_222 : z_own 222 = "LatinRectanglesLaw" := by decide +kernel
theorem zm_222 : z_maxL 222 = 4 := by decide +kernel
theorem zh_222 : z_hds 222 ≠ [] := by decide +kernel
theorem zr_222 : z_rt 222 = (some .int) := by decide +kernel
theorem zn_222 : z_Ca g d 222 [.ref a0, .int x1, .ref a2] h P = z_T g d 222 0 [.ref a0, .int x1, .ref a2, z_un] [] h P := z_Ca_ent zm_222 rfl rfl
theorem zi_222_0 : z_ins 222 0 = some (.aload_n 2, 1) := by decide +kernel
theorem ze_222_0 : z_T g d 222 0 (v0 :: v1 :: .ref a :: ls) st h P = z_T g d 222 1 (v0 :: v1 :: .ref a :: ls) (.ref a :: st) h P := zt_aloadn zi_222_0 rfl rfl
theorem zi_222_1 : z_ins 222 1 = some (.iconst 0, 1) := by decide +kernel
theorem ze_222_1 : z_T g d 222 1 ls st h P = z_T g d 222 2 ls (.int (nI 0) :: st) h P := zt_iconst zi_222_1 rfl
theorem zi_222_2 : z_ins 222 2 = some (.aload_n 0, 1) := by decide +kernel
theorem ze_222_2 : z_T g d 222 2 (.ref a :: ls) st h P = z_T g d 222 3 (.ref a :: ls) (.ref a :: st) h P := zt_aloadn zi_222_2 rfl rfl
theorem zi_222_3 : z_ins 222 3 = some (.iload_n 1, 1) := by decide +kernel
theorem ze_222_3 : z_T g d 222 3 (v0 :: .int x :: ls) st h P = z_T g d 222 4 (v0 :: .int x :: ls) (.int x :: st) h P := zt_iloadn zi_222_3 rfl rfl
theorem zi_222_4 : z_ins 222 4 = some (.invokevirtual 80, 3) := by decide +kernel
theorem ze_222_4 : z_T g d 222 4 ls (.int x0 :: .ref a :: st) h P = ((z_okS 8 st = true ∧ z_gO h.1 a 9 ∧ 0 < d) ∧ z_Ca g (d - 1) 110 [.ref a, .int x0] h (fun r => z_kH 222 4 ls r (fun v h' => z_T g d 222 7 ls (z_push v st) h' P) (fun pc' ls' h' => z_T g d 222 pc' ls' [] h' P))) := zt_callVH (as := [.int x0]) zi_222_4 ((congrArg (fun o => z_lookup z_prs (o, 80)) zo_222).trans zp_LatinRectanglesLaw_80) ((congrArg (fun o => z_clk o 80) zo_222).trans zk_LatinRectanglesLaw_80) zh_222 zc_110 rfl rfl rfl
theorem zi_222_7 : z_ins 222 7 = some (.ifCond .eq 7, 3) := by decide +kernel
theorem ze_222_7 : z_T g d 222 7 ls (.int x :: st) h P = (if x = nI 0 then z_T g d 222 14 ls st h P else z_T g d 222 10 ls st h P) := zt_ifeq zi_222_7 (by decide)
theorem zi_222_10 : z_ins 222 10 = some (.lconst 1, 1) := by decide +kernel
theorem ze_222_10 : z_T g d 222 10 ls st h P = z_T g d 222 11 ls (.long 1 :: st) h P := zt_lconst zi_222_10 rfl
theorem zi_222_11 : z_ins 222 11 = some (.goto 4, 3) := by decide +kernel
theorem ze_222_11 : z_T g d 222 11 ls st h P = z_T g d 222 15 ls st h P := zt_goto zi_222_11 (by decide)
theorem zi_222_14 : z_ins 222 14 = some (.lconst 0, 1) := by decide +kernel
theorem ze_222_14 : z_T g d 222 14 ls st h P = z_T g d 222 15 ls (.long 0 :: st) h P := zt_lconst zi_222_14 rfl
theorem zi_222_15 : z_ins 222 15 = some (.lastore, 1) := by decide +kernel
theorem ze_222_15 : z_T g d 222 15 ls (.long u :: .int x :: .ref a :: st) h P = z_lS h.1 a x u (fun f => z_T g d 222 16 ls st (f, h.2) P) := zt_lastore zi_222_15
theorem zi_222_16 : z_ins 222 16 = some (.goto 6, 3) := by decide +kernel
theorem ze_222_16 : z_T g d 222 16 ls st h P = z_T g d 222 22 ls st h P := zt_goto zi_222_16 (by decide)
theorem zi_222_19 : z_ins 222 19 = some (.astore_n 3, 1) := by decide +kernel
theorem ze_222_19 : z_T g d 222 19 (v0 :: v1 :: v2 :: v3 :: ls) (.ref a :: st) h P = z_T g d 222 20 (v0 :: v1 :: v2 :: .ref a :: ls) st h P := zt_astoren zi_222_19 rfl (Nat.le_add_left 4 _)
theorem zi_222_20 : z_ins 222 20 = some (.iconst 1, 1) := by decide +kernel
theorem ze_222_20 : z_T g d 222 20 ls st h P = z_T g d 222 21 ls (.int (nI 1) :: st) h P := zt_iconst zi_222_20 rfl
theorem zi_222_21 : z_ins 222 21 = some (.ireturn, 1) := by decide +kernel
theorem ze_222_21 : z_T g d 222 21 ls [.int x] h P = P (.inr (some (.int x)), h) := zt_ireturn zi_222_21 zr_222
theorem zi_222_22 : z_ins 222 22 = some (.iconst 0, 1) := by decide +kernel
theorem ze_222_22 : z_T g d 222 22 ls st h P = z_T g d 222 23 ls (.int (nI 0) :: st) h P := zt_iconst zi_222_22 rfl
theorem zi_222_23 : z_ins 222 23 = some (.ireturn, 1) := by decide +kernel
theorem ze_222_23 : z_T g d 222 23 ls [.int x] h P = P (.inr (some (.int x)), h) := zt_ireturn zi_222_23 zr_222
-- LatinRectanglesLaw.restoreSnapshot(LLatinRectangles;I[J)I
theorem zo_223 : z_own 223 = "LatinRectanglesLaw" := by decide +kernel
theorem zm_223 : z_maxL 223 = 4 := by decide +kernel
theorem zh_223 : z_hds 223 ≠ [] := by decide +kernel
theorem zr_223 : z_rt 223 = (some .int) := by decide +kernel
theorem zn_223 : z_Ca g d 223 [.ref a0, .int x1, .ref a2] h P = z_T g d 223 0 [.ref a0, .int x1, .ref a2, z_un] [] h P := z_Ca_ent zm_223 rfl rfl
theorem zi_223_0 : z_ins 223 0 = some (.aload_n 2, 1) := by decide +kernel
theorem ze_223_0 : z_T g d 223 0 (v0 :: v1 :: .ref a :: ls) st h P = z_T g d 223 1 (v0 :: v1 :: .ref a :: ls) (.ref a :: st) h P := zt_aloadn zi_223_0 rfl rfl
theorem zi_223_1 : z_ins 223 1 = some (.iconst 0, 1) := by decide +kernel
theorem ze_223_1 : z_T g d 223 1 ls st h P = z_T g d 223 2 ls (.int (nI 0) :: st) h P := zt_iconst zi_223_1 rfl
theorem zi_223_2 : z_ins 223 2 = some (.aload_n 0, 1) := by decide +kernel
theorem ze_223_2 : z_T g d 223 2 (.ref a :: ls) st h P = z_T g d 223 3 (.ref a :: ls) (.ref a :: st) h P := zt_aloadn zi_223_2 rfl rfl
theorem zi_223_3 : z_ins 223 3 = some (.iload_n 1, 1) := by decide +kernel
theorem ze_223_3 : z_T g d 223 3 (v0 :: .int x :: ls) st h P = z_T g d 223 4 (v0 :: .int x :: ls) (.int x :: st) h P := zt_iloadn zi_223_3 rfl rfl
theorem zi_223_4 : z_ins 223 4 = some (.invokevirtual 83, 3) := by decide +kernel
theorem ze_223_4 : z_T g d 223 4 ls (.int x0 :: .ref a :: st) h P = ((z_okS 8 st = true ∧ z_gO h.1 a 9 ∧ 0 < d) ∧ z_Ca g (d - 1) 111 [.ref a, .int x0] h (fun r => z_kH 223 4 ls r (fun v h' => z_T g d 223 7 ls (z_push v st) h' P) (fun pc' ls' h' => z_T g d 223 pc' ls' [] h' P))) := zt_callVH (as := [.int x0]) zi_223_4 ((congrArg (fun o => z_lookup z_prs (o, 83)) zo_223).trans zp_LatinRectanglesLaw_83) ((congrArg (fun o => z_clk o 83) zo_223).trans zk_LatinRectanglesLaw_83) zh_223 zc_111 rfl rfl rfl
theorem zi_223_7 : z_ins 223 7 = some (.i2l, 1) := by decide +kernel
theorem ze_223_7 : z_T g d 223 7 ls (.int x :: st) h P = z_T g d 223 8 ls (.long x.toInt64 :: st) h P := zt_i2l zi_223_7
theorem zi_223_8 : z_ins 223 8 = some (.lastore, 1) := by decide +kernel
theorem ze_223_8 : z_T g d 223 8 ls (.long u :: .int x :: .ref a :: st) h P = z_lS h.1 a x u (fun f => z_T g d 223 9 ls st (f, h.2) P) := zt_lastore zi_223_8
theorem zi_223_9 : z_ins 223 9 = some (.goto 9, 3) := by decide +kernel
theorem ze_223_9 : z_T g d 223 9 ls st h P = z_T g d 223 18 ls st h P := zt_goto zi_223_9 (by decide)
theorem zi_223_12 : z_ins 223 12 = some (.astore_n 3, 1) := by decide +kernel
theorem ze_223_12 : z_T g d 223 12 (v0 :: v1 :: v2 :: v3 :: ls) (.ref a :: st) h P = z_T g d 223 13 (v0 :: v1 :: v2 :: .ref a :: ls) st h P := zt_astoren zi_223_12 rfl (Nat.le_add_left 4 _)
theorem zi_223_13 : z_ins 223 13 = some (.iconst 1, 1) := by decide +kernel
theorem ze_223_13 : z_T g d 223 13 ls st h P = z_T g d 223 14 ls (.int (nI 1) :: st) h P := zt_iconst zi_223_13 rfl
theorem zi_223_14 : z_ins 223 14 = some (.ireturn, 1) := by decide +kernel
theorem ze_223_14 : z_T g d 223 14 ls [.int x] h P = P (.inr (some (.int x)), h) := zt_ireturn zi_223_14 zr_223
theorem zi_223_15 : z_ins 223 15 = some (.astore_n 3, 1) := by decide +kernel
theorem ze_223_15 : z_T g d 223 15 (v0 :: v1 :: v2 :: v3 :: ls) (.ref a :: st) h P = z_T g d 223 16 (v0 :: v1 :: v2 :: .ref a :: ls) st h P := zt_astoren zi_223_15 rfl (Nat.le_add_left 4 _)
theorem zi_223_16 : z_ins 223 16 = some (.iconst 2, 1) := by decide +kernel
theorem ze_223_16 : z_T g d 223 16 ls st h P = z_T g d 223 17 ls (.int (nI 2) :: st) h P := zt_iconst zi_223_16 rfl
theorem zi_223_17 : z_ins 223 17 = some (.ireturn, 1) := by decide +kernel
theorem ze_223_17 : z_T g d 223 17 ls [.int x] h P = P (.inr (some (.int x)), h) := zt_ireturn zi_223_17 zr_223
theorem zi_223_18 : z_ins 223 18 = some (.iconst 0, 1) := by decide +kernel
theorem ze_223_18 : z_T g d 223 18 ls st h P = z_T g d 223 19 ls (.int (nI 0) :: st) h P := zt_iconst zi_223_18 rfl
theorem zi_223_19 : z_ins 223 19 = some (.ireturn, 1) := by decide +kernel
theorem ze_223_19 : z_T g d 223 19 ls [.int x] h P = P (.inr (some (.int x)), h) := zt_ireturn zi_223_19 zr_223
-- LatinRectanglesLaw.law([I)Z
theorem zo_224 : z_own 224 = "LatinRectanglesLaw" := by decide +kernel
theorem zm_224 : z_maxL 224 = 7 := by decide +kernel
theorem zh_224 : z_hds 224 = [] := by decide +kernel
theorem zr_224 : z_rt 224 = (some .boolean) := by decide +kernel
theorem zn_224 : z_Ca g d 224 [.retAddr k0] h P = z_T g d 224 0 [.retAddr k0, z_un, z_un, z_un, z_un, z_un, z_un] [] h P := z_Ca_ent zm_224 rfl rfl
theorem zi_224_0 : z_ins 224 0 = some (.new 8, 3) := by decide +kernel
theorem ze_224_0 : z_T g d 224 0 ls st h P = z_nO h 9 11 [.null, .null, .null, .null, .null, .null, .null, .null, .null, .null, .int 0] (fun q h' => z_T g d 224 3 ls (.ref q :: st) h' P) := zt_new zi_224_0 (by decide +kernel)
theorem zi_224_3 : z_ins 224 3 = some (.dup, 1) := by decide +kernel
theorem ze_224_3 : z_T g d 224 3 ls (.ref a :: st) h P = z_T g d 224 4 ls (.ref a :: .ref a :: st) h P := zt_dupR zi_224_3
theorem ze_224_3_i : z_T g d 224 3 ls (.int x :: st) h P = z_T g d 224 4 ls (.int x :: .int x :: st) h P := zt_dupI zi_224_3
theorem zi_224_4 : z_ins 224 4 = some (.invokespecial 86, 3) := by decide +kernel
theorem ze_224_4 : z_T g d 224 4 ls (.ref a :: st) h P = ((z_okS 8 st = true ∧ 0 < d) ∧ z_Ca g (d - 1) 79 [.ref a] h (fun r => z_k r (fun v h' => z_T g d 224 7 ls (z_push v st) h' P) P)) := zt_callI (as := []) zi_224_4 ((congrArg (fun o => z_lookup z_ois (o, 86)) zo_224).trans zp_LatinRectanglesLaw_86) ((congrArg (fun o => z_clk o 86) zo_224).trans zk_LatinRectanglesLaw_86) (by decide) zh_224 rfl rfl rfl
theorem zi_224_7 : z_ins 224 7 = some (.astore_n 1, 1) := by decide +kernel
theorem ze_224_7 : z_T g d 224 7 (v0 :: v1 :: ls) (.ref a :: st) h P = z_T g d 224 8 (v0 :: .ref a :: ls) st h P := zt_astoren zi_224_7 rfl (Nat.le_add_left 2 _)
theorem zi_224_8 : z_ins 224 8 = some (.new 87, 3) := by decide +kernel
theorem ze_224_8 : z_T g d 224 8 ls st h P = z_nO h 10 29 [.int 0, .int 0, .int 0, .int 0, .int 0, .int 0, .int 0, .null, .null, .null, .null, .null, .null, .int 0, .int 0, .int 0, .int 0, .int 0, .int 0, .int 0, .int 0, .int 0, .null, .int 0, .null, .null, .null, .null, .null] (fun q h' => z_T g d 224 11 ls (.ref q :: st) h' P) := zt_new zi_224_8 (by decide +kernel)
theorem zi_224_11 : z_ins 224 11 = some (.dup, 1) := by decide +kernel
theorem ze_224_11 : z_T g d 224 11 ls (.ref a :: st) h P = z_T g d 224 12 ls (.ref a :: .ref a :: st) h P := zt_dupR zi_224_11
theorem ze_224_11_i : z_T g d 224 11 ls (.int x :: st) h P = z_T g d 224 12 ls (.int x :: .int x :: st) h P := zt_dupI zi_224_11
theorem zi_224_12 : z_ins 224 12 = some (.invokespecial 89, 3) := by decide +kernel
theorem ze_224_12 : z_T g d 224 12 ls (.ref a :: st) h P = ((z_okS 8 st = true ∧ 0 < d) ∧ z_Ca g (d - 1) 120 [.ref a] h (fun r => z_k r (fun v h' => z_T g d 224 15 ls (z_push v st) h' P) P)) := zt_callI (as := []) zi_224_12 ((congrArg (fun o => z_lookup z_ois (o, 89)) zo_224).trans zp_LatinRectanglesLaw_89) ((congrArg (fun o => z_clk o 89) zo_224).trans zk_LatinRectanglesLaw_89) (by decide) zh_224 rfl rfl rfl
theorem zi_224_15 : z_ins 224 15 = some (.astore_n 2, 1) := by decide +kernel
theorem ze_224_15 : z_T g d 224 15 (v0 :: v1 :: v2 :: ls) (.ref a :: st) h P = z_T g d 224 16 (v0 :: v1 :: .ref a :: ls) st h P := zt_astoren zi_224_15 rfl (Nat.le_add_left 3 _)
theorem zi_224_16 : z_ins 224 16 = some (.iconst 1, 1) := by decide +kernel
theorem ze_224_16 : z_T g d 224 16 ls st h P = z_T g d 224 17 ls (.int (nI 1) :: st) h P := zt_iconst zi_224_16 rfl
theorem zi_224_17 : z_ins 224 17 = some (.newarray .long, 2) := by decide +kernel
theorem ze_224_17 : z_T g d 224 17 ls (.int x :: st) h P = z_nA h .long x (fun q h' => z_T g d 224 19 ls (.ref q :: st) h' P) := zt_newarray zi_224_17
theorem zi_224_19 : z_ins 224 19 = some (.astore_n 3, 1) := by decide +kernel
theorem ze_224_19 : z_T g d 224 19 (v0 :: v1 :: v2 :: v3 :: ls) (.ref a :: st) h P = z_T g d 224 20 (v0 :: v1 :: v2 :: .ref a :: ls) st h P := zt_astoren zi_224_19 rfl (Nat.le_add_left 4 _)
theorem zi_224_20 : z_ins 224 20 = some (.iconst 0, 1) := by decide +kernel
theorem ze_224_20 : z_T g d 224 20 ls st h P = z_T g d 224 21 ls (.int (nI 0) :: st) h P := zt_iconst zi_224_20 rfl
theorem zi_224_21 : z_ins 224 21 = some (.istore 4, 2) := by decide +kernel
theorem ze_224_21 : z_T g d 224 21 (v0 :: v1 :: v2 :: v3 :: v4 :: ls) (.int x :: st) h P = z_T g d 224 23 (v0 :: v1 :: v2 :: v3 :: .int x :: ls) st h P := zt_istore zi_224_21 (Nat.le_add_left 5 _)
theorem zi_224_23 : z_ins 224 23 = some (.iload 4, 2) := by decide +kernel
theorem ze_224_23 : z_T g d 224 23 (v0 :: v1 :: v2 :: v3 :: .int x :: ls) st h P = z_T g d 224 25 (v0 :: v1 :: v2 :: v3 :: .int x :: ls) (.int x :: st) h P := zt_iload zi_224_23 rfl
theorem zi_224_25 : z_ins 224 25 = some (.aload_n 0, 1) := by decide +kernel
theorem ze_224_25 : z_T g d 224 25 (.retAddr b :: ls) st h P = z_T g d 224 26 (.retAddr b :: ls) (.retAddr b :: st) h P := zt_aloadnS zi_224_25 rfl rfl
theorem zi_224_26 : z_ins 224 26 = some (.arraylength, 1) := by decide +kernel
theorem ze_224_26 : z_T g d 224 26 ls (.retAddr 99 :: st) h P = z_T g d 224 27 ls (.int (nI g.1) :: st) h P := zt_slen zi_224_26
theorem zi_224_27 : z_ins 224 27 = some (.bipush 6, 2) := by decide +kernel
theorem ze_224_27 : z_T g d 224 27 ls st h P = z_T g d 224 29 ls (.int (nI 6) :: st) h P := zt_bipush zi_224_27 rfl
theorem zi_224_29 : z_ins 224 29 = some (.isub, 1) := by decide +kernel
theorem ze_224_29 : z_T g d 224 29 ls (.int y :: .int x :: st) h P = z_T g d 224 30 ls (.int (x - y) :: st) h P := zt_bin (f := fun x y => x - y) zi_224_29 rfl (fun _ _ _ => rfl)
theorem zi_224_30 : z_ins 224 30 = some (.if_icmp .gt 1819, 3) := by decide +kernel
theorem ze_224_30 : z_T g d 224 30 ls (.int y :: .int x :: st) h P = (if y < x then z_T g d 224 1849 ls st h P else z_T g d 224 33 ls st h P) := zt_icmpgt zi_224_30 (by decide)
theorem zi_224_33 : z_ins 224 33 = some (.aload_n 0, 1) := by decide +kernel
theorem ze_224_33 : z_T g d 224 33 (.retAddr b :: ls) st h P = z_T g d 224 34 (.retAddr b :: ls) (.retAddr b :: st) h P := zt_aloadnS zi_224_33 rfl rfl
theorem zi_224_34 : z_ins 224 34 = some (.iload 4, 2) := by decide +kernel
theorem ze_224_34 : z_T g d 224 34 (v0 :: v1 :: v2 :: v3 :: .int x :: ls) st h P = z_T g d 224 36 (v0 :: v1 :: v2 :: v3 :: .int x :: ls) (.int x :: st) h P := zt_iload zi_224_34 rfl
theorem zi_224_36 : z_ins 224 36 = some (.iaload, 1) := by decide +kernel
theorem ze_224_36 (hx : z_idx x g.1 = true) : z_T g d 224 36 ls (.int x :: .retAddr 99 :: st) h P = z_T g d 224 37 ls (.int (g.2 x.toNatClampNeg) :: st) h P := zt_script zi_224_36 hx
theorem zi_224_37 : z_ins 224 37 = some (.bipush 31, 2) := by decide +kernel
theorem ze_224_37 : z_T g d 224 37 ls st h P = z_T g d 224 39 ls (.int (nI 31) :: st) h P := zt_bipush zi_224_37 rfl
theorem zi_224_39 : z_ins 224 39 = some (.iand, 1) := by decide +kernel
theorem ze_224_39 : z_T g d 224 39 ls (.int y :: .int x :: st) h P = z_T g d 224 40 ls (.int (x &&& y) :: st) h P := zt_bin (f := fun x y => x &&& y) zi_224_39 rfl (fun _ _ _ => rfl)
theorem zi_224_40 : z_ins 224 40 = some (.tableswitch 1803 0 31 #[144, 217, 273, 286, 342, 410, 485, 553, 566, 634, 702, 727, 752, 808, 876, 944, 957, 1025, 1081, 1094, 1174, 1242, 1255, 1311, 1374, 1454, 1522, 1535, 1591, 1671, 1684, 1747], 144) := by decide +kernel
theorem ze_224_40_0 : z_T g d 224 40 ls (.int (nI 0) :: st) h P = z_T g d 224 184 ls st h P := zt_swIn zi_224_40 (by decide) (by decide) rfl (by decide)
theorem ze_224_40_1 : z_T g d 224 40 ls (.int (nI 1) :: st) h P = z_T g d 224 257 ls st h P := zt_swIn zi_224_40 (by decide) (by decide) rfl (by decide)
theorem ze_224_40_2 : z_T g d 224 40 ls (.int (nI 2) :: st) h P = z_T g d 224 313 ls st h P := zt_swIn zi_224_40 (by decide) (by decide) rfl (by decide)
theorem ze_224_40_3 : z_T g d 224 40 ls (.int (nI 3) :: st) h P = z_T g d 224 326 ls st h P := zt_swIn zi_224_40 (by decide) (by decide) rfl (by decide)
theorem ze_224_40_4 : z_T g d 224 40 ls (.int (nI 4) :: st) h P = z_T g d 224 382 ls st h P := zt_swIn zi_224_40 (by decide) (by decide) rfl (by decide)
theorem ze_224_40_5 : z_T g d 224 40 ls (.int (nI 5) :: st) h P = z_T g d 224 450 ls st h P := zt_swIn zi_224_40 (by decide) (by decide) rfl (by decide)
theorem ze_224_40_6 : z_T g d 224 40 ls (.int (nI 6) :: st) h P = z_T g d 224 525 ls st h P := zt_swIn zi_224_40 (by decide) (by decide) rfl (by decide)
theorem ze_224_40_7 : z_T g d 224 40 ls (.int (nI 7) :: st) h P = z_T g d 224 593 ls st h P := zt_swIn zi_224_40 (by decide) (by decide) rfl (by decide)
theorem ze_224_40_8 : z_T g d 224 40 ls (.int (nI 8) :: st) h P = z_T g d 224 606 ls st h P := zt_swIn zi_224_40 (by decide) (by decide) rfl (by decide)
theorem ze_224_40_9 : z_T g d 224 40 ls (.int (nI 9) :: st) h P = z_T g d 224 674 ls st h P := zt_swIn zi_224_40 (by decide) (by decide) rfl (by decide)
theorem ze_224_40_10 : z_T g d 224 40 ls (.int (nI 10) :: st) h P = z_T g d 224 742 ls st h P := zt_swIn zi_224_40 (by decide) (by decide) rfl (by decide)
theorem ze_224_40_11 : z_T g d 224 40 ls (.int (nI 11) :: st) h P = z_T g d 224 767 ls st h P := zt_swIn zi_224_40 (by decide) (by decide) rfl (by decide)
theorem ze_224_40_12 : z_T g d 224 40 ls (.int (nI 12) :: st) h P = z_T g d 224 792 ls st h P := zt_swIn zi_224_40 (by decide) (by decide) rfl (by decide)
theorem ze_224_40_13 : z_T g d 224 40 ls (.int (nI 13) :: st) h P = z_T g d 224 848 ls st h P := zt_swIn zi_224_40 (by decide) (by decide) rfl (by decide)
theorem ze_224_40_14 : z_T g d 224 40 ls (.int (nI 14) :: st) h P = z_T g d 224 916 ls st h P := zt_swIn zi_224_40 (by decide) (by decide) rfl (by decide)
theorem ze_224_40_15 : z_T g d 224 40 ls (.int (nI 15) :: st) h P = z_T g d 224 984 ls st h P := zt_swIn zi_224_40 (by decide) (by decide) rfl (by decide)
theorem ze_224_40_16 : z_T g d 224 40 ls (.int (nI 16) :: st) h P = z_T g d 224 997 ls st h P := zt_swIn zi_224_40 (by decide) (by decide) rfl (by decide)
theorem ze_224_40_17 : z_T g d 224 40 ls (.int (nI 17) :: st) h P = z_T g d 224 1065 ls st h P := zt_swIn zi_224_40 (by decide) (by decide) rfl (by decide)
theorem ze_224_40_18 : z_T g d 224 40 ls (.int (nI 18) :: st) h P = z_T g d 224 1121 ls st h P := zt_swIn zi_224_40 (by decide) (by decide) rfl (by decide)
theorem ze_224_40_19 : z_T g d 224 40 ls (.int (nI 19) :: st) h P = z_T g d 224 1134 ls st h P := zt_swIn zi_224_40 (by decide) (by decide) rfl (by decide)
theorem ze_224_40_20 : z_T g d 224 40 ls (.int (nI 20) :: st) h P = z_T g d 224 1214 ls st h P := zt_swIn zi_224_40 (by decide) (by decide) rfl (by decide)
theorem ze_224_40_21 : z_T g d 224 40 ls (.int (nI 21) :: st) h P = z_T g d 224 1282 ls st h P := zt_swIn zi_224_40 (by decide) (by decide) rfl (by decide)
theorem ze_224_40_22 : z_T g d 224 40 ls (.int (nI 22) :: st) h P = z_T g d 224 1295 ls st h P := zt_swIn zi_224_40 (by decide) (by decide) rfl (by decide)
theorem ze_224_40_23 : z_T g d 224 40 ls (.int (nI 23) :: st) h P = z_T g d 224 1351 ls st h P := zt_swIn zi_224_40 (by decide) (by decide) rfl (by decide)
theorem ze_224_40_24 : z_T g d 224 40 ls (.int (nI 24) :: st) h P = z_T g d 224 1414 ls st h P := zt_swIn zi_224_40 (by decide) (by decide) rfl (by decide)
theorem ze_224_40_25 : z_T g d 224 40 ls (.int (nI 25) :: st) h P = z_T g d 224 1494 ls st h P := zt_swIn zi_224_40 (by decide) (by decide) rfl (by decide)
theorem ze_224_40_26 : z_T g d 224 40 ls (.int (nI 26) :: st) h P = z_T g d 224 1562 ls st h P := zt_swIn zi_224_40 (by decide) (by decide) rfl (by decide)
theorem ze_224_40_27 : z_T g d 224 40 ls (.int (nI 27) :: st) h P = z_T g d 224 1575 ls st h P := zt_swIn zi_224_40 (by decide) (by decide) rfl (by decide)
theorem ze_224_40_28 : z_T g d 224 40 ls (.int (nI 28) :: st) h P = z_T g d 224 1631 ls st h P := zt_swIn zi_224_40 (by decide) (by decide) rfl (by decide)
theorem ze_224_40_29 : z_T g d 224 40 ls (.int (nI 29) :: st) h P = z_T g d 224 1711 ls st h P := zt_swIn zi_224_40 (by decide) (by decide) rfl (by decide)
theorem ze_224_40_30 : z_T g d 224 40 ls (.int (nI 30) :: st) h P = z_T g d 224 1724 ls st h P := zt_swIn zi_224_40 (by decide) (by decide) rfl (by decide)
theorem ze_224_40_31 : z_T g d 224 40 ls (.int (nI 31) :: st) h P = z_T g d 224 1787 ls st h P := zt_swIn zi_224_40 (by decide) (by decide) rfl (by decide)
theorem ze_224_40_32 : z_T g d 224 40 ls (.int (nI 32) :: st) h P = z_T g d 224 1843 ls st h P := zt_swOut zi_224_40 (by decide) (by decide)
theorem zi_224_184 : z_ins 224 184 = some (.aload_n 1, 1) := by decide +kernel
theorem ze_224_184 : z_T g d 224 184 (v0 :: .ref a :: ls) st h P = z_T g d 224 185 (v0 :: .ref a :: ls) (.ref a :: st) h P := zt_aloadn zi_224_184 rfl rfl
theorem zi_224_185 : z_ins 224 185 = some (.aload_n 0, 1) := by decide +kernel
theorem ze_224_185 : z_T g d 224 185 (.retAddr b :: ls) st h P = z_T g d 224 186 (.retAddr b :: ls) (.retAddr b :: st) h P := zt_aloadnS zi_224_185 rfl rfl
theorem zi_224_186 : z_ins 224 186 = some (.iload 4, 2) := by decide +kernel
theorem ze_224_186 : z_T g d 224 186 (v0 :: v1 :: v2 :: v3 :: .int x :: ls) st h P = z_T g d 224 188 (v0 :: v1 :: v2 :: v3 :: .int x :: ls) (.int x :: st) h P := zt_iload zi_224_186 rfl
theorem zi_224_188 : z_ins 224 188 = some (.iconst 1, 1) := by decide +kernel
theorem ze_224_188 : z_T g d 224 188 ls st h P = z_T g d 224 189 ls (.int (nI 1) :: st) h P := zt_iconst zi_224_188 rfl
theorem zi_224_189 : z_ins 224 189 = some (.iadd, 1) := by decide +kernel
theorem ze_224_189 : z_T g d 224 189 ls (.int y :: .int x :: st) h P = z_T g d 224 190 ls (.int (x + y) :: st) h P := zt_bin (f := fun x y => x + y) zi_224_189 rfl (fun _ _ _ => rfl)
theorem zi_224_190 : z_ins 224 190 = some (.iaload, 1) := by decide +kernel
theorem ze_224_190 (hx : z_idx x g.1 = true) : z_T g d 224 190 ls (.int x :: .retAddr 99 :: st) h P = z_T g d 224 191 ls (.int (g.2 x.toNatClampNeg) :: st) h P := zt_script zi_224_190 hx
theorem zi_224_191 : z_ins 224 191 = some (.aload_n 0, 1) := by decide +kernel
theorem ze_224_191 : z_T g d 224 191 (.retAddr b :: ls) st h P = z_T g d 224 192 (.retAddr b :: ls) (.retAddr b :: st) h P := zt_aloadnS zi_224_191 rfl rfl
theorem zi_224_192 : z_ins 224 192 = some (.iload 4, 2) := by decide +kernel
theorem ze_224_192 : z_T g d 224 192 (v0 :: v1 :: v2 :: v3 :: .int x :: ls) st h P = z_T g d 224 194 (v0 :: v1 :: v2 :: v3 :: .int x :: ls) (.int x :: st) h P := zt_iload zi_224_192 rfl
theorem zi_224_194 : z_ins 224 194 = some (.iconst 2, 1) := by decide +kernel
theorem ze_224_194 : z_T g d 224 194 ls st h P = z_T g d 224 195 ls (.int (nI 2) :: st) h P := zt_iconst zi_224_194 rfl
theorem zi_224_195 : z_ins 224 195 = some (.iadd, 1) := by decide +kernel
theorem ze_224_195 : z_T g d 224 195 ls (.int y :: .int x :: st) h P = z_T g d 224 196 ls (.int (x + y) :: st) h P := zt_bin (f := fun x y => x + y) zi_224_195 rfl (fun _ _ _ => rfl)
theorem zi_224_196 : z_ins 224 196 = some (.iaload, 1) := by decide +kernel
theorem ze_224_196 (hx : z_idx x g.1 = true) : z_T g d 224 196 ls (.int x :: .retAddr 99 :: st) h P = z_T g d 224 197 ls (.int (g.2 x.toNatClampNeg) :: st) h P := zt_script zi_224_196 hx
theorem zi_224_197 : z_ins 224 197 = some (.aload_n 0, 1) := by decide +kernel
theorem ze_224_197 : z_T g d 224 197 (.retAddr b :: ls) st h P = z_T g d 224 198 (.retAddr b :: ls) (.retAddr b :: st) h P := zt_aloadnS zi_224_197 rfl rfl
theorem zi_224_198 : z_ins 224 198 = some (.iload 4, 2) := by decide +kernel
theorem ze_224_198 : z_T g d 224 198 (v0 :: v1 :: v2 :: v3 :: .int x :: ls) st h P = z_T g d 224 200 (v0 :: v1 :: v2 :: v3 :: .int x :: ls) (.int x :: st) h P := zt_iload zi_224_198 rfl
theorem zi_224_200 : z_ins 224 200 = some (.iconst 3, 1) := by decide +kernel
theorem ze_224_200 : z_T g d 224 200 ls st h P = z_T g d 224 201 ls (.int (nI 3) :: st) h P := zt_iconst zi_224_200 rfl
theorem zi_224_201 : z_ins 224 201 = some (.iadd, 1) := by decide +kernel
theorem ze_224_201 : z_T g d 224 201 ls (.int y :: .int x :: st) h P = z_T g d 224 202 ls (.int (x + y) :: st) h P := zt_bin (f := fun x y => x + y) zi_224_201 rfl (fun _ _ _ => rfl)
theorem zi_224_202 : z_ins 224 202 = some (.iaload, 1) := by decide +kernel
theorem ze_224_202 (hx : z_idx x g.1 = true) : z_T g d 224 202 ls (.int x :: .retAddr 99 :: st) h P = z_T g d 224 203 ls (.int (g.2 x.toNatClampNeg) :: st) h P := zt_script zi_224_202 hx
theorem zi_224_203 : z_ins 224 203 = some (.aload_n 0, 1) := by decide +kernel
theorem ze_224_203 : z_T g d 224 203 (.retAddr b :: ls) st h P = z_T g d 224 204 (.retAddr b :: ls) (.retAddr b :: st) h P := zt_aloadnS zi_224_203 rfl rfl
theorem zi_224_204 : z_ins 224 204 = some (.iload 4, 2) := by decide +kernel
theorem ze_224_204 : z_T g d 224 204 (v0 :: v1 :: v2 :: v3 :: .int x :: ls) st h P = z_T g d 224 206 (v0 :: v1 :: v2 :: v3 :: .int x :: ls) (.int x :: st) h P := zt_iload zi_224_204 rfl
theorem zi_224_206 : z_ins 224 206 = some (.iconst 4, 1) := by decide +kernel
theorem ze_224_206 : z_T g d 224 206 ls st h P = z_T g d 224 207 ls (.int (nI 4) :: st) h P := zt_iconst zi_224_206 rfl
theorem zi_224_207 : z_ins 224 207 = some (.iadd, 1) := by decide +kernel
theorem ze_224_207 : z_T g d 224 207 ls (.int y :: .int x :: st) h P = z_T g d 224 208 ls (.int (x + y) :: st) h P := zt_bin (f := fun x y => x + y) zi_224_207 rfl (fun _ _ _ => rfl)
theorem zi_224_208 : z_ins 224 208 = some (.iaload, 1) := by decide +kernel
theorem ze_224_208 (hx : z_idx x g.1 = true) : z_T g d 224 208 ls (.int x :: .retAddr 99 :: st) h P = z_T g d 224 209 ls (.int (g.2 x.toNatClampNeg) :: st) h P := zt_script zi_224_208 hx
theorem zi_224_209 : z_ins 224 209 = some (.aload_n 0, 1) := by decide +kernel
theorem ze_224_209 : z_T g d 224 209 (.retAddr b :: ls) st h P = z_T g d 224 210 (.retAddr b :: ls) (.retAddr b :: st) h P := zt_aloadnS zi_224_209 rfl rfl
theorem zi_224_210 : z_ins 224 210 = some (.iload 4, 2) := by decide +kernel
theorem ze_224_210 : z_T g d 224 210 (v0 :: v1 :: v2 :: v3 :: .int x :: ls) st h P = z_T g d 224 212 (v0 :: v1 :: v2 :: v3 :: .int x :: ls) (.int x :: st) h P := zt_iload zi_224_210 rfl
theorem zi_224_212 : z_ins 224 212 = some (.iconst 5, 1) := by decide +kernel
theorem ze_224_212 : z_T g d 224 212 ls st h P = z_T g d 224 213 ls (.int (nI 5) :: st) h P := zt_iconst zi_224_212 rfl
theorem zi_224_213 : z_ins 224 213 = some (.iadd, 1) := by decide +kernel
theorem ze_224_213 : z_T g d 224 213 ls (.int y :: .int x :: st) h P = z_T g d 224 214 ls (.int (x + y) :: st) h P := zt_bin (f := fun x y => x + y) zi_224_213 rfl (fun _ _ _ => rfl)
theorem zi_224_214 : z_ins 224 214 = some (.iaload, 1) := by decide +kernel
theorem ze_224_214 (hx : z_idx x g.1 = true) : z_T g d 224 214 ls (.int x :: .retAddr 99 :: st) h P = z_T g d 224 215 ls (.int (g.2 x.toNatClampNeg) :: st) h P := zt_script zi_224_214 hx
theorem zi_224_215 : z_ins 224 215 = some (.invokevirtual 90, 3) := by decide +kernel
theorem ze_224_215 : z_T g d 224 215 ls (.int x4 :: .int x3 :: .int x2 :: .int x1 :: .int x0 :: .ref a :: st) h P = ((z_okS 8 st = true ∧ z_gO h.1 a 9 ∧ 0 < d) ∧ z_Ca g (d - 1) 80 [.ref a, .int x0, .int x1, .int x2, .int x3, .int x4] h (fun r => z_k r (fun v h' => z_T g d 224 218 ls (z_push v st) h' P) P)) := zt_callV (as := [.int x0, .int x1, .int x2, .int x3, .int x4]) zi_224_215 ((congrArg (fun o => z_lookup z_prs (o, 90)) zo_224).trans zp_LatinRectanglesLaw_90) ((congrArg (fun o => z_clk o 90) zo_224).trans zk_LatinRectanglesLaw_90) zh_224 zc_80 rfl rfl rfl
theorem zi_224_218 : z_ins 224 218 = some (.aload_n 2, 1) := by decide +kernel
theorem ze_224_218 : z_T g d 224 218 (v0 :: v1 :: .ref a :: ls) st h P = z_T g d 224 219 (v0 :: v1 :: .ref a :: ls) (.ref a :: st) h P := zt_aloadn zi_224_218 rfl rfl
theorem zi_224_219 : z_ins 224 219 = some (.aload_n 0, 1) := by decide +kernel
theorem ze_224_219 : z_T g d 224 219 (.retAddr b :: ls) st h P = z_T g d 224 220 (.retAddr b :: ls) (.retAddr b :: st) h P := zt_aloadnS zi_224_219 rfl rfl
theorem zi_224_220 : z_ins 224 220 = some (.iload 4, 2) := by decide +kernel
theorem ze_224_220 : z_T g d 224 220 (v0 :: v1 :: v2 :: v3 :: .int x :: ls) st h P = z_T g d 224 222 (v0 :: v1 :: v2 :: v3 :: .int x :: ls) (.int x :: st) h P := zt_iload zi_224_220 rfl
theorem zi_224_222 : z_ins 224 222 = some (.iconst 1, 1) := by decide +kernel
theorem ze_224_222 : z_T g d 224 222 ls st h P = z_T g d 224 223 ls (.int (nI 1) :: st) h P := zt_iconst zi_224_222 rfl
theorem zi_224_223 : z_ins 224 223 = some (.iadd, 1) := by decide +kernel
theorem ze_224_223 : z_T g d 224 223 ls (.int y :: .int x :: st) h P = z_T g d 224 224 ls (.int (x + y) :: st) h P := zt_bin (f := fun x y => x + y) zi_224_223 rfl (fun _ _ _ => rfl)
theorem zi_224_224 : z_ins 224 224 = some (.iaload, 1) := by decide +kernel
theorem ze_224_224 (hx : z_idx x g.1 = true) : z_T g d 224 224 ls (.int x :: .retAddr 99 :: st) h P = z_T g d 224 225 ls (.int (g.2 x.toNatClampNeg) :: st) h P := zt_script zi_224_224 hx
theorem zi_224_225 : z_ins 224 225 = some (.aload_n 0, 1) := by decide +kernel
theorem ze_224_225 : z_T g d 224 225 (.retAddr b :: ls) st h P = z_T g d 224 226 (.retAddr b :: ls) (.retAddr b :: st) h P := zt_aloadnS zi_224_225 rfl rfl
theorem zi_224_226 : z_ins 224 226 = some (.iload 4, 2) := by decide +kernel
theorem ze_224_226 : z_T g d 224 226 (v0 :: v1 :: v2 :: v3 :: .int x :: ls) st h P = z_T g d 224 228 (v0 :: v1 :: v2 :: v3 :: .int x :: ls) (.int x :: st) h P := zt_iload zi_224_226 rfl
theorem zi_224_228 : z_ins 224 228 = some (.iconst 2, 1) := by decide +kernel
theorem ze_224_228 : z_T g d 224 228 ls st h P = z_T g d 224 229 ls (.int (nI 2) :: st) h P := zt_iconst zi_224_228 rfl
theorem zi_224_229 : z_ins 224 229 = some (.iadd, 1) := by decide +kernel
theorem ze_224_229 : z_T g d 224 229 ls (.int y :: .int x :: st) h P = z_T g d 224 230 ls (.int (x + y) :: st) h P := zt_bin (f := fun x y => x + y) zi_224_229 rfl (fun _ _ _ => rfl)
theorem zi_224_230 : z_ins 224 230 = some (.iaload, 1) := by decide +kernel
theorem ze_224_230 (hx : z_idx x g.1 = true) : z_T g d 224 230 ls (.int x :: .retAddr 99 :: st) h P = z_T g d 224 231 ls (.int (g.2 x.toNatClampNeg) :: st) h P := zt_script zi_224_230 hx
theorem zi_224_231 : z_ins 224 231 = some (.aload_n 0, 1) := by decide +kernel
theorem ze_224_231 : z_T g d 224 231 (.retAddr b :: ls) st h P = z_T g d 224 232 (.retAddr b :: ls) (.retAddr b :: st) h P := zt_aloadnS zi_224_231 rfl rfl
theorem zi_224_232 : z_ins 224 232 = some (.iload 4, 2) := by decide +kernel
theorem ze_224_232 : z_T g d 224 232 (v0 :: v1 :: v2 :: v3 :: .int x :: ls) st h P = z_T g d 224 234 (v0 :: v1 :: v2 :: v3 :: .int x :: ls) (.int x :: st) h P := zt_iload zi_224_232 rfl
theorem zi_224_234 : z_ins 224 234 = some (.iconst 3, 1) := by decide +kernel
theorem ze_224_234 : z_T g d 224 234 ls st h P = z_T g d 224 235 ls (.int (nI 3) :: st) h P := zt_iconst zi_224_234 rfl
theorem zi_224_235 : z_ins 224 235 = some (.iadd, 1) := by decide +kernel
theorem ze_224_235 : z_T g d 224 235 ls (.int y :: .int x :: st) h P = z_T g d 224 236 ls (.int (x + y) :: st) h P := zt_bin (f := fun x y => x + y) zi_224_235 rfl (fun _ _ _ => rfl)
theorem zi_224_236 : z_ins 224 236 = some (.iaload, 1) := by decide +kernel
theorem ze_224_236 (hx : z_idx x g.1 = true) : z_T g d 224 236 ls (.int x :: .retAddr 99 :: st) h P = z_T g d 224 237 ls (.int (g.2 x.toNatClampNeg) :: st) h P := zt_script zi_224_236 hx
theorem zi_224_237 : z_ins 224 237 = some (.aload_n 0, 1) := by decide +kernel
theorem ze_224_237 : z_T g d 224 237 (.retAddr b :: ls) st h P = z_T g d 224 238 (.retAddr b :: ls) (.retAddr b :: st) h P := zt_aloadnS zi_224_237 rfl rfl
theorem zi_224_238 : z_ins 224 238 = some (.iload 4, 2) := by decide +kernel
theorem ze_224_238 : z_T g d 224 238 (v0 :: v1 :: v2 :: v3 :: .int x :: ls) st h P = z_T g d 224 240 (v0 :: v1 :: v2 :: v3 :: .int x :: ls) (.int x :: st) h P := zt_iload zi_224_238 rfl
theorem zi_224_240 : z_ins 224 240 = some (.iconst 4, 1) := by decide +kernel
theorem ze_224_240 : z_T g d 224 240 ls st h P = z_T g d 224 241 ls (.int (nI 4) :: st) h P := zt_iconst zi_224_240 rfl
theorem zi_224_241 : z_ins 224 241 = some (.iadd, 1) := by decide +kernel
theorem ze_224_241 : z_T g d 224 241 ls (.int y :: .int x :: st) h P = z_T g d 224 242 ls (.int (x + y) :: st) h P := zt_bin (f := fun x y => x + y) zi_224_241 rfl (fun _ _ _ => rfl)
theorem zi_224_242 : z_ins 224 242 = some (.iaload, 1) := by decide +kernel
theorem ze_224_242 (hx : z_idx x g.1 = true) : z_T g d 224 242 ls (.int x :: .retAddr 99 :: st) h P = z_T g d 224 243 ls (.int (g.2 x.toNatClampNeg) :: st) h P := zt_script zi_224_242 hx
theorem zi_224_243 : z_ins 224 243 = some (.aload_n 0, 1) := by decide +kernel
theorem ze_224_243 : z_T g d 224 243 (.retAddr b :: ls) st h P = z_T g d 224 244 (.retAddr b :: ls) (.retAddr b :: st) h P := zt_aloadnS zi_224_243 rfl rfl
theorem zi_224_244 : z_ins 224 244 = some (.iload 4, 2) := by decide +kernel
theorem ze_224_244 : z_T g d 224 244 (v0 :: v1 :: v2 :: v3 :: .int x :: ls) st h P = z_T g d 224 246 (v0 :: v1 :: v2 :: v3 :: .int x :: ls) (.int x :: st) h P := zt_iload zi_224_244 rfl
theorem zi_224_246 : z_ins 224 246 = some (.iconst 5, 1) := by decide +kernel
theorem ze_224_246 : z_T g d 224 246 ls st h P = z_T g d 224 247 ls (.int (nI 5) :: st) h P := zt_iconst zi_224_246 rfl
theorem zi_224_247 : z_ins 224 247 = some (.iadd, 1) := by decide +kernel
theorem ze_224_247 : z_T g d 224 247 ls (.int y :: .int x :: st) h P = z_T g d 224 248 ls (.int (x + y) :: st) h P := zt_bin (f := fun x y => x + y) zi_224_247 rfl (fun _ _ _ => rfl)
theorem zi_224_248 : z_ins 224 248 = some (.iaload, 1) := by decide +kernel
theorem ze_224_248 (hx : z_idx x g.1 = true) : z_T g d 224 248 ls (.int x :: .retAddr 99 :: st) h P = z_T g d 224 249 ls (.int (g.2 x.toNatClampNeg) :: st) h P := zt_script zi_224_248 hx
theorem zi_224_249 : z_ins 224 249 = some (.invokevirtual 94, 3) := by decide +kernel
theorem ze_224_249 : z_T g d 224 249 ls (.int x4 :: .int x3 :: .int x2 :: .int x1 :: .int x0 :: .ref a :: st) h P = ((z_okS 8 st = true ∧ z_gO h.1 a 10 ∧ 0 < d) ∧ z_Ca g (d - 1) 128 [.ref a, .int x0, .int x1, .int x2, .int x3, .int x4] h (fun r => z_k r (fun v h' => z_T g d 224 252 ls (z_push v st) h' P) P)) := zt_callV (as := [.int x0, .int x1, .int x2, .int x3, .int x4]) zi_224_249 ((congrArg (fun o => z_lookup z_prs (o, 94)) zo_224).trans zp_LatinRectanglesLaw_94) ((congrArg (fun o => z_clk o 94) zo_224).trans zk_LatinRectanglesLaw_94) zh_224 zc_128 rfl rfl rfl
theorem zi_224_252 : z_ins 224 252 = some (.if_icmp .eq 1591, 3) := by decide +kernel
theorem ze_224_252 : z_T g d 224 252 ls (.int y :: .int x :: st) h P = (if x = y then z_T g d 224 1843 ls st h P else z_T g d 224 255 ls st h P) := zt_icmpeq zi_224_252 (by decide)
theorem zi_224_255 : z_ins 224 255 = some (.iconst 0, 1) := by decide +kernel
theorem ze_224_255 : z_T g d 224 255 ls st h P = z_T g d 224 256 ls (.int (nI 0) :: st) h P := zt_iconst zi_224_255 rfl
theorem zi_224_256 : z_ins 224 256 = some (.ireturn, 1) := by decide +kernel
theorem ze_224_256 : z_T g d 224 256 ls [.int x] h P = ((x = nI 0 ∨ x = nI 1) ∧ P (.inr (some (.int x)), h)) := zt_zreturn zi_224_256 zr_224
theorem zi_224_257 : z_ins 224 257 = some (.aload_n 1, 1) := by decide +kernel
theorem ze_224_257 : z_T g d 224 257 (v0 :: .ref a :: ls) st h P = z_T g d 224 258 (v0 :: .ref a :: ls) (.ref a :: st) h P := zt_aloadn zi_224_257 rfl rfl
theorem zi_224_258 : z_ins 224 258 = some (.aload_n 0, 1) := by decide +kernel
theorem ze_224_258 : z_T g d 224 258 (.retAddr b :: ls) st h P = z_T g d 224 259 (.retAddr b :: ls) (.retAddr b :: st) h P := zt_aloadnS zi_224_258 rfl rfl
theorem zi_224_259 : z_ins 224 259 = some (.iload 4, 2) := by decide +kernel
theorem ze_224_259 : z_T g d 224 259 (v0 :: v1 :: v2 :: v3 :: .int x :: ls) st h P = z_T g d 224 261 (v0 :: v1 :: v2 :: v3 :: .int x :: ls) (.int x :: st) h P := zt_iload zi_224_259 rfl
theorem zi_224_261 : z_ins 224 261 = some (.iconst 1, 1) := by decide +kernel
theorem ze_224_261 : z_T g d 224 261 ls st h P = z_T g d 224 262 ls (.int (nI 1) :: st) h P := zt_iconst zi_224_261 rfl
theorem zi_224_262 : z_ins 224 262 = some (.iadd, 1) := by decide +kernel
theorem ze_224_262 : z_T g d 224 262 ls (.int y :: .int x :: st) h P = z_T g d 224 263 ls (.int (x + y) :: st) h P := zt_bin (f := fun x y => x + y) zi_224_262 rfl (fun _ _ _ => rfl)
theorem zi_224_263 : z_ins 224 263 = some (.iaload, 1) := by decide +kernel
theorem ze_224_263 (hx : z_idx x g.1 = true) : z_T g d 224 263 ls (.int x :: .retAddr 99 :: st) h P = z_T g d 224 264 ls (.int (g.2 x.toNatClampNeg) :: st) h P := zt_script zi_224_263 hx
theorem zi_224_264 : z_ins 224 264 = some (.aload_n 3, 1) := by decide +kernel
theorem ze_224_264 : z_T g d 224 264 (v0 :: v1 :: v2 :: .ref a :: ls) st h P = z_T g d 224 265 (v0 :: v1 :: v2 :: .ref a :: ls) (.ref a :: st) h P := zt_aloadn zi_224_264 rfl rfl
theorem zi_224_265 : z_ins 224 265 = some (.invokestatic 95, 3) := by decide +kernel
theorem ze_224_265 : z_T g d 224 265 ls (.ref a2 :: .int x1 :: .ref a0 :: st) h P = ((z_okS 8 st = true ∧ 0 < d) ∧ z_Ca g (d - 1) 202 [.ref a0, .int x1, .ref a2] h (fun r => z_k r (fun v h' => z_T g d 224 268 ls (z_push v st) h' P) P)) := zt_callS0 (as := [.ref a0, .int x1, .ref a2]) zi_224_265 ((congrArg (fun o => z_lookup z_prs (o, 95)) zo_224).trans zp_LatinRectanglesLaw_95) ((congrArg (fun o => z_clk o 95) zo_224).trans zk_LatinRectanglesLaw_95) zh_224 rfl rfl rfl
theorem zi_224_268 : z_ins 224 268 = some (.istore 5, 2) := by decide +kernel
theorem ze_224_268 : z_T g d 224 268 (v0 :: v1 :: v2 :: v3 :: v4 :: v5 :: ls) (.int x :: st) h P = z_T g d 224 270 (v0 :: v1 :: v2 :: v3 :: v4 :: .int x :: ls) st h P := zt_istore zi_224_268 (Nat.le_add_left 6 _)
theorem zi_224_270 : z_ins 224 270 = some (.aload_n 2, 1) := by decide +kernel
theorem ze_224_270 : z_T g d 224 270 (v0 :: v1 :: .ref a :: ls) st h P = z_T g d 224 271 (v0 :: v1 :: .ref a :: ls) (.ref a :: st) h P := zt_aloadn zi_224_270 rfl rfl
theorem zi_224_271 : z_ins 224 271 = some (.aload_n 0, 1) := by decide +kernel
theorem ze_224_271 : z_T g d 224 271 (.retAddr b :: ls) st h P = z_T g d 224 272 (.retAddr b :: ls) (.retAddr b :: st) h P := zt_aloadnS zi_224_271 rfl rfl
theorem zi_224_272 : z_ins 224 272 = some (.iload 4, 2) := by decide +kernel
theorem ze_224_272 : z_T g d 224 272 (v0 :: v1 :: v2 :: v3 :: .int x :: ls) st h P = z_T g d 224 274 (v0 :: v1 :: v2 :: v3 :: .int x :: ls) (.int x :: st) h P := zt_iload zi_224_272 rfl
theorem zi_224_274 : z_ins 224 274 = some (.iconst 1, 1) := by decide +kernel
theorem ze_224_274 : z_T g d 224 274 ls st h P = z_T g d 224 275 ls (.int (nI 1) :: st) h P := zt_iconst zi_224_274 rfl
theorem zi_224_275 : z_ins 224 275 = some (.iadd, 1) := by decide +kernel
theorem ze_224_275 : z_T g d 224 275 ls (.int y :: .int x :: st) h P = z_T g d 224 276 ls (.int (x + y) :: st) h P := zt_bin (f := fun x y => x + y) zi_224_275 rfl (fun _ _ _ => rfl)
theorem zi_224_276 : z_ins 224 276 = some (.iaload, 1) := by decide +kernel
theorem ze_224_276 (hx : z_idx x g.1 = true) : z_T g d 224 276 ls (.int x :: .retAddr 99 :: st) h P = z_T g d 224 277 ls (.int (g.2 x.toNatClampNeg) :: st) h P := zt_script zi_224_276 hx
theorem zi_224_277 : z_ins 224 277 = some (.invokevirtual 100, 3) := by decide +kernel
theorem ze_224_277 : z_T g d 224 277 ls (.int x0 :: .ref a :: st) h P = ((z_okS 8 st = true ∧ z_gO h.1 a 10 ∧ 0 < d) ∧ z_Ca g (d - 1) 141 [.ref a, .int x0] h (fun r => z_k r (fun v h' => z_T g d 224 280 ls (z_push v st) h' P) P)) := zt_callV (as := [.int x0]) zi_224_277 ((congrArg (fun o => z_lookup z_prs (o, 100)) zo_224).trans zp_LatinRectanglesLaw_100) ((congrArg (fun o => z_clk o 100) zo_224).trans zk_LatinRectanglesLaw_100) zh_224 zc_141 rfl rfl rfl
theorem zi_224_280 : z_ins 224 280 = some (.istore 6, 2) := by decide +kernel
theorem ze_224_280 : z_T g d 224 280 (v0 :: v1 :: v2 :: v3 :: v4 :: v5 :: v6 :: ls) (.int x :: st) h P = z_T g d 224 282 (v0 :: v1 :: v2 :: v3 :: v4 :: v5 :: .int x :: ls) st h P := zt_istore zi_224_280 (Nat.le_add_left 7 _)
theorem zi_224_282 : z_ins 224 282 = some (.aload_n 2, 1) := by decide +kernel
theorem ze_224_282 : z_T g d 224 282 (v0 :: v1 :: .ref a :: ls) st h P = z_T g d 224 283 (v0 :: v1 :: .ref a :: ls) (.ref a :: st) h P := zt_aloadn zi_224_282 rfl rfl
theorem zi_224_283 : z_ins 224 283 = some (.invokevirtual 101, 3) := by decide +kernel
theorem ze_224_283 : z_T g d 224 283 ls (.ref a :: st) h P = ((z_okS 8 st = true ∧ z_gO h.1 a 10 ∧ 0 < d) ∧ z_Ca g (d - 1) 121 [.ref a] h (fun r => z_k r (fun v h' => z_T g d 224 286 ls (z_push v st) h' P) P)) := zt_callV (as := []) zi_224_283 ((congrArg (fun o => z_lookup z_prs (o, 101)) zo_224).trans zp_LatinRectanglesLaw_101) ((congrArg (fun o => z_clk o 101) zo_224).trans zk_LatinRectanglesLaw_101) zh_224 zc_121 rfl rfl rfl
theorem zi_224_286 : z_ins 224 286 = some (.iload 5, 2) := by decide +kernel
theorem ze_224_286 : z_T g d 224 286 (v0 :: v1 :: v2 :: v3 :: v4 :: .int x :: ls) st h P = z_T g d 224 288 (v0 :: v1 :: v2 :: v3 :: v4 :: .int x :: ls) (.int x :: st) h P := zt_iload zi_224_286 rfl
theorem zi_224_288 : z_ins 224 288 = some (.if_icmp .eq 5, 3) := by decide +kernel
theorem ze_224_288 : z_T g d 224 288 ls (.int y :: .int x :: st) h P = (if x = y then z_T g d 224 293 ls st h P else z_T g d 224 291 ls st h P) := zt_icmpeq zi_224_288 (by decide)
theorem zi_224_291 : z_ins 224 291 = some (.iconst 0, 1) := by decide +kernel
theorem ze_224_291 : z_T g d 224 291 ls st h P = z_T g d 224 292 ls (.int (nI 0) :: st) h P := zt_iconst zi_224_291 rfl
theorem zi_224_292 : z_ins 224 292 = some (.ireturn, 1) := by decide +kernel
theorem ze_224_292 : z_T g d 224 292 ls [.int x] h P = ((x = nI 0 ∨ x = nI 1) ∧ P (.inr (some (.int x)), h)) := zt_zreturn zi_224_292 zr_224
theorem zi_224_293 : z_ins 224 293 = some (.iload 5, 2) := by decide +kernel
theorem ze_224_293 : z_T g d 224 293 (v0 :: v1 :: v2 :: v3 :: v4 :: .int x :: ls) st h P = z_T g d 224 295 (v0 :: v1 :: v2 :: v3 :: v4 :: .int x :: ls) (.int x :: st) h P := zt_iload zi_224_293 rfl
theorem zi_224_295 : z_ins 224 295 = some (.ifCond .ne 15, 3) := by decide +kernel
theorem ze_224_295 : z_T g d 224 295 ls (.int x :: st) h P = (if x = nI 0 then z_T g d 224 298 ls st h P else z_T g d 224 310 ls st h P) := zt_ifne zi_224_295 (by decide)
theorem zi_224_298 : z_ins 224 298 = some (.aload_n 3, 1) := by decide +kernel
theorem ze_224_298 : z_T g d 224 298 (v0 :: v1 :: v2 :: .ref a :: ls) st h P = z_T g d 224 299 (v0 :: v1 :: v2 :: .ref a :: ls) (.ref a :: st) h P := zt_aloadn zi_224_298 rfl rfl
theorem zi_224_299 : z_ins 224 299 = some (.iconst 0, 1) := by decide +kernel
theorem ze_224_299 : z_T g d 224 299 ls st h P = z_T g d 224 300 ls (.int (nI 0) :: st) h P := zt_iconst zi_224_299 rfl
theorem zi_224_300 : z_ins 224 300 = some (.laload, 1) := by decide +kernel
theorem ze_224_300 : z_T g d 224 300 ls (.int x :: .ref a :: st) h P = z_lL h.1 a x (fun v => z_T g d 224 301 ls (.long v :: st) h P) := zt_laload zi_224_300
theorem zi_224_301 : z_ins 224 301 = some (.iload 6, 2) := by decide +kernel
theorem ze_224_301 : z_T g d 224 301 (v0 :: v1 :: v2 :: v3 :: v4 :: v5 :: .int x :: ls) st h P = z_T g d 224 303 (v0 :: v1 :: v2 :: v3 :: v4 :: v5 :: .int x :: ls) (.int x :: st) h P := zt_iload zi_224_301 rfl
theorem zi_224_303 : z_ins 224 303 = some (.i2l, 1) := by decide +kernel
theorem ze_224_303 : z_T g d 224 303 ls (.int x :: st) h P = z_T g d 224 304 ls (.long x.toInt64 :: st) h P := zt_i2l zi_224_303
theorem zi_224_304 : z_ins 224 304 = some (.lcmp, 1) := by decide +kernel
theorem ze_224_304 : z_T g d 224 304 ls (.long w :: .long u :: st) h P = z_T g d 224 305 ls (.int (lg_cmp u w) :: st) h P := zt_lcmp zi_224_304
theorem zi_224_305 : z_ins 224 305 = some (.ifCond .eq 5, 3) := by decide +kernel
theorem ze_224_305 : z_T g d 224 305 ls (.int x :: st) h P = (if x = nI 0 then z_T g d 224 310 ls st h P else z_T g d 224 308 ls st h P) := zt_ifeq zi_224_305 (by decide)
theorem zi_224_308 : z_ins 224 308 = some (.iconst 0, 1) := by decide +kernel
theorem ze_224_308 : z_T g d 224 308 ls st h P = z_T g d 224 309 ls (.int (nI 0) :: st) h P := zt_iconst zi_224_308 rfl
theorem zi_224_309 : z_ins 224 309 = some (.ireturn, 1) := by decide +kernel
theorem ze_224_309 : z_T g d 224 309 ls [.int x] h P = ((x = nI 0 ∨ x = nI 1) ∧ P (.inr (some (.int x)), h)) := zt_zreturn zi_224_309 zr_224
theorem zi_224_310 : z_ins 224 310 = some (.goto 1533, 3) := by decide +kernel
theorem ze_224_310 : z_T g d 224 310 ls st h P = z_T g d 224 1843 ls st h P := zt_goto zi_224_310 (by decide)
theorem zi_224_313 : z_ins 224 313 = some (.aload_n 1, 1) := by decide +kernel
theorem ze_224_313 : z_T g d 224 313 (v0 :: .ref a :: ls) st h P = z_T g d 224 314 (v0 :: .ref a :: ls) (.ref a :: st) h P := zt_aloadn zi_224_313 rfl rfl
theorem zi_224_314 : z_ins 224 314 = some (.invokevirtual 105, 3) := by decide +kernel
theorem ze_224_314 : z_T g d 224 314 ls (.ref a :: st) h P = ((z_okS 8 st = true ∧ z_gO h.1 a 9 ∧ 0 < d) ∧ z_Ca g (d - 1) 82 [.ref a] h (fun r => z_k r (fun v h' => z_T g d 224 317 ls (z_push v st) h' P) P)) := zt_callV (as := []) zi_224_314 ((congrArg (fun o => z_lookup z_prs (o, 105)) zo_224).trans zp_LatinRectanglesLaw_105) ((congrArg (fun o => z_clk o 105) zo_224).trans zk_LatinRectanglesLaw_105) zh_224 zc_82 rfl rfl rfl
theorem zi_224_317 : z_ins 224 317 = some (.aload_n 2, 1) := by decide +kernel
theorem ze_224_317 : z_T g d 224 317 (v0 :: v1 :: .ref a :: ls) st h P = z_T g d 224 318 (v0 :: v1 :: .ref a :: ls) (.ref a :: st) h P := zt_aloadn zi_224_317 rfl rfl
theorem zi_224_318 : z_ins 224 318 = some (.invokevirtual 108, 3) := by decide +kernel
theorem ze_224_318 : z_T g d 224 318 ls (.ref a :: st) h P = ((z_okS 8 st = true ∧ z_gO h.1 a 10 ∧ 0 < d) ∧ z_Ca g (d - 1) 142 [.ref a] h (fun r => z_k r (fun v h' => z_T g d 224 321 ls (z_push v st) h' P) P)) := zt_callV (as := []) zi_224_318 ((congrArg (fun o => z_lookup z_prs (o, 108)) zo_224).trans zp_LatinRectanglesLaw_108) ((congrArg (fun o => z_clk o 108) zo_224).trans zk_LatinRectanglesLaw_108) zh_224 zc_142 rfl rfl rfl
theorem zi_224_321 : z_ins 224 321 = some (.if_icmp .eq 1522, 3) := by decide +kernel
theorem ze_224_321 : z_T g d 224 321 ls (.int y :: .int x :: st) h P = (if x = y then z_T g d 224 1843 ls st h P else z_T g d 224 324 ls st h P) := zt_icmpeq zi_224_321 (by decide)
theorem zi_224_324 : z_ins 224 324 = some (.iconst 0, 1) := by decide +kernel
theorem ze_224_324 : z_T g d 224 324 ls st h P = z_T g d 224 325 ls (.int (nI 0) :: st) h P := zt_iconst zi_224_324 rfl
theorem zi_224_325 : z_ins 224 325 = some (.ireturn, 1) := by decide +kernel
theorem ze_224_325 : z_T g d 224 325 ls [.int x] h P = ((x = nI 0 ∨ x = nI 1) ∧ P (.inr (some (.int x)), h)) := zt_zreturn zi_224_325 zr_224
theorem zi_224_326 : z_ins 224 326 = some (.aload_n 1, 1) := by decide +kernel
theorem ze_224_326 : z_T g d 224 326 (v0 :: .ref a :: ls) st h P = z_T g d 224 327 (v0 :: .ref a :: ls) (.ref a :: st) h P := zt_aloadn zi_224_326 rfl rfl
theorem zi_224_327 : z_ins 224 327 = some (.aload_n 0, 1) := by decide +kernel
theorem ze_224_327 : z_T g d 224 327 (.retAddr b :: ls) st h P = z_T g d 224 328 (.retAddr b :: ls) (.retAddr b :: st) h P := zt_aloadnS zi_224_327 rfl rfl
theorem zi_224_328 : z_ins 224 328 = some (.iload 4, 2) := by decide +kernel
theorem ze_224_328 : z_T g d 224 328 (v0 :: v1 :: v2 :: v3 :: .int x :: ls) st h P = z_T g d 224 330 (v0 :: v1 :: v2 :: v3 :: .int x :: ls) (.int x :: st) h P := zt_iload zi_224_328 rfl
theorem zi_224_330 : z_ins 224 330 = some (.iconst 1, 1) := by decide +kernel
theorem ze_224_330 : z_T g d 224 330 ls st h P = z_T g d 224 331 ls (.int (nI 1) :: st) h P := zt_iconst zi_224_330 rfl
theorem zi_224_331 : z_ins 224 331 = some (.iadd, 1) := by decide +kernel
theorem ze_224_331 : z_T g d 224 331 ls (.int y :: .int x :: st) h P = z_T g d 224 332 ls (.int (x + y) :: st) h P := zt_bin (f := fun x y => x + y) zi_224_331 rfl (fun _ _ _ => rfl)
theorem zi_224_332 : z_ins 224 332 = some (.iaload, 1) := by decide +kernel
theorem ze_224_332 (hx : z_idx x g.1 = true) : z_T g d 224 332 ls (.int x :: .retAddr 99 :: st) h P = z_T g d 224 333 ls (.int (g.2 x.toNatClampNeg) :: st) h P := zt_script zi_224_332 hx
theorem zi_224_333 : z_ins 224 333 = some (.aload_n 3, 1) := by decide +kernel
theorem ze_224_333 : z_T g d 224 333 (v0 :: v1 :: v2 :: .ref a :: ls) st h P = z_T g d 224 334 (v0 :: v1 :: v2 :: .ref a :: ls) (.ref a :: st) h P := zt_aloadn zi_224_333 rfl rfl
theorem zi_224_334 : z_ins 224 334 = some (.invokestatic 109, 3) := by decide +kernel
theorem ze_224_334 : z_T g d 224 334 ls (.ref a2 :: .int x1 :: .ref a0 :: st) h P = ((z_okS 8 st = true ∧ 0 < d) ∧ z_Ca g (d - 1) 203 [.ref a0, .int x1, .ref a2] h (fun r => z_k r (fun v h' => z_T g d 224 337 ls (z_push v st) h' P) P)) := zt_callS0 (as := [.ref a0, .int x1, .ref a2]) zi_224_334 ((congrArg (fun o => z_lookup z_prs (o, 109)) zo_224).trans zp_LatinRectanglesLaw_109) ((congrArg (fun o => z_clk o 109) zo_224).trans zk_LatinRectanglesLaw_109) zh_224 rfl rfl rfl
theorem zi_224_337 : z_ins 224 337 = some (.istore 5, 2) := by decide +kernel
theorem ze_224_337 : z_T g d 224 337 (v0 :: v1 :: v2 :: v3 :: v4 :: v5 :: ls) (.int x :: st) h P = z_T g d 224 339 (v0 :: v1 :: v2 :: v3 :: v4 :: .int x :: ls) st h P := zt_istore zi_224_337 (Nat.le_add_left 6 _)
theorem zi_224_339 : z_ins 224 339 = some (.aload_n 2, 1) := by decide +kernel
theorem ze_224_339 : z_T g d 224 339 (v0 :: v1 :: .ref a :: ls) st h P = z_T g d 224 340 (v0 :: v1 :: .ref a :: ls) (.ref a :: st) h P := zt_aloadn zi_224_339 rfl rfl
theorem zi_224_340 : z_ins 224 340 = some (.aload_n 0, 1) := by decide +kernel
theorem ze_224_340 : z_T g d 224 340 (.retAddr b :: ls) st h P = z_T g d 224 341 (.retAddr b :: ls) (.retAddr b :: st) h P := zt_aloadnS zi_224_340 rfl rfl
theorem zi_224_341 : z_ins 224 341 = some (.iload 4, 2) := by decide +kernel
theorem ze_224_341 : z_T g d 224 341 (v0 :: v1 :: v2 :: v3 :: .int x :: ls) st h P = z_T g d 224 343 (v0 :: v1 :: v2 :: v3 :: .int x :: ls) (.int x :: st) h P := zt_iload zi_224_341 rfl
theorem zi_224_343 : z_ins 224 343 = some (.iconst 1, 1) := by decide +kernel
theorem ze_224_343 : z_T g d 224 343 ls st h P = z_T g d 224 344 ls (.int (nI 1) :: st) h P := zt_iconst zi_224_343 rfl
theorem zi_224_344 : z_ins 224 344 = some (.iadd, 1) := by decide +kernel
theorem ze_224_344 : z_T g d 224 344 ls (.int y :: .int x :: st) h P = z_T g d 224 345 ls (.int (x + y) :: st) h P := zt_bin (f := fun x y => x + y) zi_224_344 rfl (fun _ _ _ => rfl)
theorem zi_224_345 : z_ins 224 345 = some (.iaload, 1) := by decide +kernel
theorem ze_224_345 (hx : z_idx x g.1 = true) : z_T g d 224 345 ls (.int x :: .retAddr 99 :: st) h P = z_T g d 224 346 ls (.int (g.2 x.toNatClampNeg) :: st) h P := zt_script zi_224_345 hx
theorem zi_224_346 : z_ins 224 346 = some (.invokevirtual 111, 3) := by decide +kernel
theorem ze_224_346 : z_T g d 224 346 ls (.int x0 :: .ref a :: st) h P = ((z_okS 8 st = true ∧ z_gO h.1 a 10 ∧ 0 < d) ∧ z_Ca g (d - 1) 154 [.ref a, .int x0] h (fun r => z_k r (fun v h' => z_T g d 224 349 ls (z_push v st) h' P) P)) := zt_callV (as := [.int x0]) zi_224_346 ((congrArg (fun o => z_lookup z_prs (o, 111)) zo_224).trans zp_LatinRectanglesLaw_111) ((congrArg (fun o => z_clk o 111) zo_224).trans zk_LatinRectanglesLaw_111) zh_224 zc_154 rfl rfl rfl
theorem zi_224_349 : z_ins 224 349 = some (.istore 6, 2) := by decide +kernel
theorem ze_224_349 : z_T g d 224 349 (v0 :: v1 :: v2 :: v3 :: v4 :: v5 :: v6 :: ls) (.int x :: st) h P = z_T g d 224 351 (v0 :: v1 :: v2 :: v3 :: v4 :: v5 :: .int x :: ls) st h P := zt_istore zi_224_349 (Nat.le_add_left 7 _)
theorem zi_224_351 : z_ins 224 351 = some (.aload_n 2, 1) := by decide +kernel
theorem ze_224_351 : z_T g d 224 351 (v0 :: v1 :: .ref a :: ls) st h P = z_T g d 224 352 (v0 :: v1 :: .ref a :: ls) (.ref a :: st) h P := zt_aloadn zi_224_351 rfl rfl
theorem zi_224_352 : z_ins 224 352 = some (.invokevirtual 101, 3) := by decide +kernel
theorem ze_224_352 : z_T g d 224 352 ls (.ref a :: st) h P = ((z_okS 8 st = true ∧ z_gO h.1 a 10 ∧ 0 < d) ∧ z_Ca g (d - 1) 121 [.ref a] h (fun r => z_k r (fun v h' => z_T g d 224 355 ls (z_push v st) h' P) P)) := zt_callV (as := []) zi_224_352 ((congrArg (fun o => z_lookup z_prs (o, 101)) zo_224).trans zp_LatinRectanglesLaw_101) ((congrArg (fun o => z_clk o 101) zo_224).trans zk_LatinRectanglesLaw_101) zh_224 zc_121 rfl rfl rfl
theorem zi_224_355 : z_ins 224 355 = some (.iload 5, 2) := by decide +kernel
theorem ze_224_355 : z_T g d 224 355 (v0 :: v1 :: v2 :: v3 :: v4 :: .int x :: ls) st h P = z_T g d 224 357 (v0 :: v1 :: v2 :: v3 :: v4 :: .int x :: ls) (.int x :: st) h P := zt_iload zi_224_355 rfl
theorem zi_224_357 : z_ins 224 357 = some (.if_icmp .eq 5, 3) := by decide +kernel
theorem ze_224_357 : z_T g d 224 357 ls (.int y :: .int x :: st) h P = (if x = y then z_T g d 224 362 ls st h P else z_T g d 224 360 ls st h P) := zt_icmpeq zi_224_357 (by decide)
theorem zi_224_360 : z_ins 224 360 = some (.iconst 0, 1) := by decide +kernel
theorem ze_224_360 : z_T g d 224 360 ls st h P = z_T g d 224 361 ls (.int (nI 0) :: st) h P := zt_iconst zi_224_360 rfl
theorem zi_224_361 : z_ins 224 361 = some (.ireturn, 1) := by decide +kernel
theorem ze_224_361 : z_T g d 224 361 ls [.int x] h P = ((x = nI 0 ∨ x = nI 1) ∧ P (.inr (some (.int x)), h)) := zt_zreturn zi_224_361 zr_224
theorem zi_224_362 : z_ins 224 362 = some (.iload 5, 2) := by decide +kernel
theorem ze_224_362 : z_T g d 224 362 (v0 :: v1 :: v2 :: v3 :: v4 :: .int x :: ls) st h P = z_T g d 224 364 (v0 :: v1 :: v2 :: v3 :: v4 :: .int x :: ls) (.int x :: st) h P := zt_iload zi_224_362 rfl
theorem zi_224_364 : z_ins 224 364 = some (.ifCond .ne 15, 3) := by decide +kernel
theorem ze_224_364 : z_T g d 224 364 ls (.int x :: st) h P = (if x = nI 0 then z_T g d 224 367 ls st h P else z_T g d 224 379 ls st h P) := zt_ifne zi_224_364 (by decide)
theorem zi_224_367 : z_ins 224 367 = some (.aload_n 3, 1) := by decide +kernel
theorem ze_224_367 : z_T g d 224 367 (v0 :: v1 :: v2 :: .ref a :: ls) st h P = z_T g d 224 368 (v0 :: v1 :: v2 :: .ref a :: ls) (.ref a :: st) h P := zt_aloadn zi_224_367 rfl rfl
theorem zi_224_368 : z_ins 224 368 = some (.iconst 0, 1) := by decide +kernel
theorem ze_224_368 : z_T g d 224 368 ls st h P = z_T g d 224 369 ls (.int (nI 0) :: st) h P := zt_iconst zi_224_368 rfl
theorem zi_224_369 : z_ins 224 369 = some (.laload, 1) := by decide +kernel
theorem ze_224_369 : z_T g d 224 369 ls (.int x :: .ref a :: st) h P = z_lL h.1 a x (fun v => z_T g d 224 370 ls (.long v :: st) h P) := zt_laload zi_224_369
theorem zi_224_370 : z_ins 224 370 = some (.iload 6, 2) := by decide +kernel
theorem ze_224_370 : z_T g d 224 370 (v0 :: v1 :: v2 :: v3 :: v4 :: v5 :: .int x :: ls) st h P = z_T g d 224 372 (v0 :: v1 :: v2 :: v3 :: v4 :: v5 :: .int x :: ls) (.int x :: st) h P := zt_iload zi_224_370 rfl
theorem zi_224_372 : z_ins 224 372 = some (.i2l, 1) := by decide +kernel
theorem ze_224_372 : z_T g d 224 372 ls (.int x :: st) h P = z_T g d 224 373 ls (.long x.toInt64 :: st) h P := zt_i2l zi_224_372
theorem zi_224_373 : z_ins 224 373 = some (.lcmp, 1) := by decide +kernel
theorem ze_224_373 : z_T g d 224 373 ls (.long w :: .long u :: st) h P = z_T g d 224 374 ls (.int (lg_cmp u w) :: st) h P := zt_lcmp zi_224_373
theorem zi_224_374 : z_ins 224 374 = some (.ifCond .eq 5, 3) := by decide +kernel
theorem ze_224_374 : z_T g d 224 374 ls (.int x :: st) h P = (if x = nI 0 then z_T g d 224 379 ls st h P else z_T g d 224 377 ls st h P) := zt_ifeq zi_224_374 (by decide)
theorem zi_224_377 : z_ins 224 377 = some (.iconst 0, 1) := by decide +kernel
theorem ze_224_377 : z_T g d 224 377 ls st h P = z_T g d 224 378 ls (.int (nI 0) :: st) h P := zt_iconst zi_224_377 rfl
theorem zi_224_378 : z_ins 224 378 = some (.ireturn, 1) := by decide +kernel
theorem ze_224_378 : z_T g d 224 378 ls [.int x] h P = ((x = nI 0 ∨ x = nI 1) ∧ P (.inr (some (.int x)), h)) := zt_zreturn zi_224_378 zr_224
theorem zi_224_379 : z_ins 224 379 = some (.goto 1464, 3) := by decide +kernel
theorem ze_224_379 : z_T g d 224 379 ls st h P = z_T g d 224 1843 ls st h P := zt_goto zi_224_379 (by decide)
theorem zi_224_382 : z_ins 224 382 = some (.aload_n 1, 1) := by decide +kernel
theorem ze_224_382 : z_T g d 224 382 (v0 :: .ref a :: ls) st h P = z_T g d 224 383 (v0 :: .ref a :: ls) (.ref a :: st) h P := zt_aloadn zi_224_382 rfl rfl
theorem zi_224_383 : z_ins 224 383 = some (.aload_n 0, 1) := by decide +kernel
theorem ze_224_383 : z_T g d 224 383 (.retAddr b :: ls) st h P = z_T g d 224 384 (.retAddr b :: ls) (.retAddr b :: st) h P := zt_aloadnS zi_224_383 rfl rfl
theorem zi_224_384 : z_ins 224 384 = some (.iload 4, 2) := by decide +kernel
theorem ze_224_384 : z_T g d 224 384 (v0 :: v1 :: v2 :: v3 :: .int x :: ls) st h P = z_T g d 224 386 (v0 :: v1 :: v2 :: v3 :: .int x :: ls) (.int x :: st) h P := zt_iload zi_224_384 rfl
theorem zi_224_386 : z_ins 224 386 = some (.iconst 1, 1) := by decide +kernel
theorem ze_224_386 : z_T g d 224 386 ls st h P = z_T g d 224 387 ls (.int (nI 1) :: st) h P := zt_iconst zi_224_386 rfl
theorem zi_224_387 : z_ins 224 387 = some (.iadd, 1) := by decide +kernel
theorem ze_224_387 : z_T g d 224 387 ls (.int y :: .int x :: st) h P = z_T g d 224 388 ls (.int (x + y) :: st) h P := zt_bin (f := fun x y => x + y) zi_224_387 rfl (fun _ _ _ => rfl)
theorem zi_224_388 : z_ins 224 388 = some (.iaload, 1) := by decide +kernel
theorem ze_224_388 (hx : z_idx x g.1 = true) : z_T g d 224 388 ls (.int x :: .retAddr 99 :: st) h P = z_T g d 224 389 ls (.int (g.2 x.toNatClampNeg) :: st) h P := zt_script zi_224_388 hx
theorem zi_224_389 : z_ins 224 389 = some (.aload_n 0, 1) := by decide +kernel
theorem ze_224_389 : z_T g d 224 389 (.retAddr b :: ls) st h P = z_T g d 224 390 (.retAddr b :: ls) (.retAddr b :: st) h P := zt_aloadnS zi_224_389 rfl rfl
theorem zi_224_390 : z_ins 224 390 = some (.iload 4, 2) := by decide +kernel
theorem ze_224_390 : z_T g d 224 390 (v0 :: v1 :: v2 :: v3 :: .int x :: ls) st h P = z_T g d 224 392 (v0 :: v1 :: v2 :: v3 :: .int x :: ls) (.int x :: st) h P := zt_iload zi_224_390 rfl
theorem zi_224_392 : z_ins 224 392 = some (.iconst 2, 1) := by decide +kernel
theorem ze_224_392 : z_T g d 224 392 ls st h P = z_T g d 224 393 ls (.int (nI 2) :: st) h P := zt_iconst zi_224_392 rfl
theorem zi_224_393 : z_ins 224 393 = some (.iadd, 1) := by decide +kernel
theorem ze_224_393 : z_T g d 224 393 ls (.int y :: .int x :: st) h P = z_T g d 224 394 ls (.int (x + y) :: st) h P := zt_bin (f := fun x y => x + y) zi_224_393 rfl (fun _ _ _ => rfl)
theorem zi_224_394 : z_ins 224 394 = some (.iaload, 1) := by decide +kernel
theorem ze_224_394 (hx : z_idx x g.1 = true) : z_T g d 224 394 ls (.int x :: .retAddr 99 :: st) h P = z_T g d 224 395 ls (.int (g.2 x.toNatClampNeg) :: st) h P := zt_script zi_224_394 hx
theorem zi_224_395 : z_ins 224 395 = some (.aload_n 3, 1) := by decide +kernel
theorem ze_224_395 : z_T g d 224 395 (v0 :: v1 :: v2 :: .ref a :: ls) st h P = z_T g d 224 396 (v0 :: v1 :: v2 :: .ref a :: ls) (.ref a :: st) h P := zt_aloadn zi_224_395 rfl rfl
theorem zi_224_396 : z_ins 224 396 = some (.invokestatic 112, 3) := by decide +kernel
theorem ze_224_396 : z_T g d 224 396 ls (.ref a3 :: .int x2 :: .int x1 :: .ref a0 :: st) h P = ((z_okS 8 st = true ∧ 0 < d) ∧ z_Ca g (d - 1) 204 [.ref a0, .int x1, .int x2, .ref a3] h (fun r => z_k r (fun v h' => z_T g d 224 399 ls (z_push v st) h' P) P)) := zt_callS0 (as := [.ref a0, .int x1, .int x2, .ref a3]) zi_224_396 ((congrArg (fun o => z_lookup z_prs (o, 112)) zo_224).trans zp_LatinRectanglesLaw_112) ((congrArg (fun o => z_clk o 112) zo_224).trans zk_LatinRectanglesLaw_112) zh_224 rfl rfl rfl
theorem zi_224_399 : z_ins 224 399 = some (.istore 5, 2) := by decide +kernel
theorem ze_224_399 : z_T g d 224 399 (v0 :: v1 :: v2 :: v3 :: v4 :: v5 :: ls) (.int x :: st) h P = z_T g d 224 401 (v0 :: v1 :: v2 :: v3 :: v4 :: .int x :: ls) st h P := zt_istore zi_224_399 (Nat.le_add_left 6 _)
theorem zi_224_401 : z_ins 224 401 = some (.aload_n 2, 1) := by decide +kernel
theorem ze_224_401 : z_T g d 224 401 (v0 :: v1 :: .ref a :: ls) st h P = z_T g d 224 402 (v0 :: v1 :: .ref a :: ls) (.ref a :: st) h P := zt_aloadn zi_224_401 rfl rfl
theorem zi_224_402 : z_ins 224 402 = some (.aload_n 0, 1) := by decide +kernel
theorem ze_224_402 : z_T g d 224 402 (.retAddr b :: ls) st h P = z_T g d 224 403 (.retAddr b :: ls) (.retAddr b :: st) h P := zt_aloadnS zi_224_402 rfl rfl
theorem zi_224_403 : z_ins 224 403 = some (.iload 4, 2) := by decide +kernel
theorem ze_224_403 : z_T g d 224 403 (v0 :: v1 :: v2 :: v3 :: .int x :: ls) st h P = z_T g d 224 405 (v0 :: v1 :: v2 :: v3 :: .int x :: ls) (.int x :: st) h P := zt_iload zi_224_403 rfl
theorem zi_224_405 : z_ins 224 405 = some (.iconst 1, 1) := by decide +kernel
theorem ze_224_405 : z_T g d 224 405 ls st h P = z_T g d 224 406 ls (.int (nI 1) :: st) h P := zt_iconst zi_224_405 rfl
theorem zi_224_406 : z_ins 224 406 = some (.iadd, 1) := by decide +kernel
theorem ze_224_406 : z_T g d 224 406 ls (.int y :: .int x :: st) h P = z_T g d 224 407 ls (.int (x + y) :: st) h P := zt_bin (f := fun x y => x + y) zi_224_406 rfl (fun _ _ _ => rfl)
theorem zi_224_407 : z_ins 224 407 = some (.iaload, 1) := by decide +kernel
theorem ze_224_407 (hx : z_idx x g.1 = true) : z_T g d 224 407 ls (.int x :: .retAddr 99 :: st) h P = z_T g d 224 408 ls (.int (g.2 x.toNatClampNeg) :: st) h P := zt_script zi_224_407 hx
theorem zi_224_408 : z_ins 224 408 = some (.aload_n 0, 1) := by decide +kernel
theorem ze_224_408 : z_T g d 224 408 (.retAddr b :: ls) st h P = z_T g d 224 409 (.retAddr b :: ls) (.retAddr b :: st) h P := zt_aloadnS zi_224_408 rfl rfl
theorem zi_224_409 : z_ins 224 409 = some (.iload 4, 2) := by decide +kernel
theorem ze_224_409 : z_T g d 224 409 (v0 :: v1 :: v2 :: v3 :: .int x :: ls) st h P = z_T g d 224 411 (v0 :: v1 :: v2 :: v3 :: .int x :: ls) (.int x :: st) h P := zt_iload zi_224_409 rfl
theorem zi_224_411 : z_ins 224 411 = some (.iconst 2, 1) := by decide +kernel
theorem ze_224_411 : z_T g d 224 411 ls st h P = z_T g d 224 412 ls (.int (nI 2) :: st) h P := zt_iconst zi_224_411 rfl
theorem zi_224_412 : z_ins 224 412 = some (.iadd, 1) := by decide +kernel
theorem ze_224_412 : z_T g d 224 412 ls (.int y :: .int x :: st) h P = z_T g d 224 413 ls (.int (x + y) :: st) h P := zt_bin (f := fun x y => x + y) zi_224_412 rfl (fun _ _ _ => rfl)
theorem zi_224_413 : z_ins 224 413 = some (.iaload, 1) := by decide +kernel
theorem ze_224_413 (hx : z_idx x g.1 = true) : z_T g d 224 413 ls (.int x :: .retAddr 99 :: st) h P = z_T g d 224 414 ls (.int (g.2 x.toNatClampNeg) :: st) h P := zt_script zi_224_413 hx
theorem zi_224_414 : z_ins 224 414 = some (.invokevirtual 115, 3) := by decide +kernel
theorem ze_224_414 : z_T g d 224 414 ls (.int x1 :: .int x0 :: .ref a :: st) h P = ((z_okS 8 st = true ∧ z_gO h.1 a 10 ∧ 0 < d) ∧ z_Ca g (d - 1) 155 [.ref a, .int x0, .int x1] h (fun r => z_k r (fun v h' => z_T g d 224 417 ls (z_push v st) h' P) P)) := zt_callV (as := [.int x0, .int x1]) zi_224_414 ((congrArg (fun o => z_lookup z_prs (o, 115)) zo_224).trans zp_LatinRectanglesLaw_115) ((congrArg (fun o => z_clk o 115) zo_224).trans zk_LatinRectanglesLaw_115) zh_224 zc_155 rfl rfl rfl
theorem zi_224_417 : z_ins 224 417 = some (.istore 6, 2) := by decide +kernel
theorem ze_224_417 : z_T g d 224 417 (v0 :: v1 :: v2 :: v3 :: v4 :: v5 :: v6 :: ls) (.int x :: st) h P = z_T g d 224 419 (v0 :: v1 :: v2 :: v3 :: v4 :: v5 :: .int x :: ls) st h P := zt_istore zi_224_417 (Nat.le_add_left 7 _)
theorem zi_224_419 : z_ins 224 419 = some (.aload_n 2, 1) := by decide +kernel
theorem ze_224_419 : z_T g d 224 419 (v0 :: v1 :: .ref a :: ls) st h P = z_T g d 224 420 (v0 :: v1 :: .ref a :: ls) (.ref a :: st) h P := zt_aloadn zi_224_419 rfl rfl
theorem zi_224_420 : z_ins 224 420 = some (.invokevirtual 101, 3) := by decide +kernel
theorem ze_224_420 : z_T g d 224 420 ls (.ref a :: st) h P = ((z_okS 8 st = true ∧ z_gO h.1 a 10 ∧ 0 < d) ∧ z_Ca g (d - 1) 121 [.ref a] h (fun r => z_k r (fun v h' => z_T g d 224 423 ls (z_push v st) h' P) P)) := zt_callV (as := []) zi_224_420 ((congrArg (fun o => z_lookup z_prs (o, 101)) zo_224).trans zp_LatinRectanglesLaw_101) ((congrArg (fun o => z_clk o 101) zo_224).trans zk_LatinRectanglesLaw_101) zh_224 zc_121 rfl rfl rfl
theorem zi_224_423 : z_ins 224 423 = some (.iload 5, 2) := by decide +kernel
theorem ze_224_423 : z_T g d 224 423 (v0 :: v1 :: v2 :: v3 :: v4 :: .int x :: ls) st h P = z_T g d 224 425 (v0 :: v1 :: v2 :: v3 :: v4 :: .int x :: ls) (.int x :: st) h P := zt_iload zi_224_423 rfl
theorem zi_224_425 : z_ins 224 425 = some (.if_icmp .eq 5, 3) := by decide +kernel
theorem ze_224_425 : z_T g d 224 425 ls (.int y :: .int x :: st) h P = (if x = y then z_T g d 224 430 ls st h P else z_T g d 224 428 ls st h P) := zt_icmpeq zi_224_425 (by decide)
theorem zi_224_428 : z_ins 224 428 = some (.iconst 0, 1) := by decide +kernel
theorem ze_224_428 : z_T g d 224 428 ls st h P = z_T g d 224 429 ls (.int (nI 0) :: st) h P := zt_iconst zi_224_428 rfl
theorem zi_224_429 : z_ins 224 429 = some (.ireturn, 1) := by decide +kernel
theorem ze_224_429 : z_T g d 224 429 ls [.int x] h P = ((x = nI 0 ∨ x = nI 1) ∧ P (.inr (some (.int x)), h)) := zt_zreturn zi_224_429 zr_224
theorem zi_224_430 : z_ins 224 430 = some (.iload 5, 2) := by decide +kernel
theorem ze_224_430 : z_T g d 224 430 (v0 :: v1 :: v2 :: v3 :: v4 :: .int x :: ls) st h P = z_T g d 224 432 (v0 :: v1 :: v2 :: v3 :: v4 :: .int x :: ls) (.int x :: st) h P := zt_iload zi_224_430 rfl
theorem zi_224_432 : z_ins 224 432 = some (.ifCond .ne 15, 3) := by decide +kernel
theorem ze_224_432 : z_T g d 224 432 ls (.int x :: st) h P = (if x = nI 0 then z_T g d 224 435 ls st h P else z_T g d 224 447 ls st h P) := zt_ifne zi_224_432 (by decide)
theorem zi_224_435 : z_ins 224 435 = some (.aload_n 3, 1) := by decide +kernel
theorem ze_224_435 : z_T g d 224 435 (v0 :: v1 :: v2 :: .ref a :: ls) st h P = z_T g d 224 436 (v0 :: v1 :: v2 :: .ref a :: ls) (.ref a :: st) h P := zt_aloadn zi_224_435 rfl rfl
theorem zi_224_436 : z_ins 224 436 = some (.iconst 0, 1) := by decide +kernel
theorem ze_224_436 : z_T g d 224 436 ls st h P = z_T g d 224 437 ls (.int (nI 0) :: st) h P := zt_iconst zi_224_436 rfl
theorem zi_224_437 : z_ins 224 437 = some (.laload, 1) := by decide +kernel
theorem ze_224_437 : z_T g d 224 437 ls (.int x :: .ref a :: st) h P = z_lL h.1 a x (fun v => z_T g d 224 438 ls (.long v :: st) h P) := zt_laload zi_224_437
theorem zi_224_438 : z_ins 224 438 = some (.iload 6, 2) := by decide +kernel
theorem ze_224_438 : z_T g d 224 438 (v0 :: v1 :: v2 :: v3 :: v4 :: v5 :: .int x :: ls) st h P = z_T g d 224 440 (v0 :: v1 :: v2 :: v3 :: v4 :: v5 :: .int x :: ls) (.int x :: st) h P := zt_iload zi_224_438 rfl
theorem zi_224_440 : z_ins 224 440 = some (.i2l, 1) := by decide +kernel
theorem ze_224_440 : z_T g d 224 440 ls (.int x :: st) h P = z_T g d 224 441 ls (.long x.toInt64 :: st) h P := zt_i2l zi_224_440
theorem zi_224_441 : z_ins 224 441 = some (.lcmp, 1) := by decide +kernel
theorem ze_224_441 : z_T g d 224 441 ls (.long w :: .long u :: st) h P = z_T g d 224 442 ls (.int (lg_cmp u w) :: st) h P := zt_lcmp zi_224_441
theorem zi_224_442 : z_ins 224 442 = some (.ifCond .eq 5, 3) := by decide +kernel
theorem ze_224_442 : z_T g d 224 442 ls (.int x :: st) h P = (if x = nI 0 then z_T g d 224 447 ls st h P else z_T g d 224 445 ls st h P) := zt_ifeq zi_224_442 (by decide)
theorem zi_224_445 : z_ins 224 445 = some (.iconst 0, 1) := by decide +kernel
theorem ze_224_445 : z_T g d 224 445 ls st h P = z_T g d 224 446 ls (.int (nI 0) :: st) h P := zt_iconst zi_224_445 rfl
theorem zi_224_446 : z_ins 224 446 = some (.ireturn, 1) := by decide +kernel
theorem ze_224_446 : z_T g d 224 446 ls [.int x] h P = ((x = nI 0 ∨ x = nI 1) ∧ P (.inr (some (.int x)), h)) := zt_zreturn zi_224_446 zr_224
theorem zi_224_447 : z_ins 224 447 = some (.goto 1396, 3) := by decide +kernel
theorem ze_224_447 : z_T g d 224 447 ls st h P = z_T g d 224 1843 ls st h P := zt_goto zi_224_447 (by decide)
theorem zi_224_450 : z_ins 224 450 = some (.aload_n 1, 1) := by decide +kernel
theorem ze_224_450 : z_T g d 224 450 (v0 :: .ref a :: ls) st h P = z_T g d 224 451 (v0 :: .ref a :: ls) (.ref a :: st) h P := zt_aloadn zi_224_450 rfl rfl
theorem zi_224_451 : z_ins 224 451 = some (.aload_n 0, 1) := by decide +kernel
theorem ze_224_451 : z_T g d 224 451 (.retAddr b :: ls) st h P = z_T g d 224 452 (.retAddr b :: ls) (.retAddr b :: st) h P := zt_aloadnS zi_224_451 rfl rfl
theorem zi_224_452 : z_ins 224 452 = some (.iload 4, 2) := by decide +kernel
theorem ze_224_452 : z_T g d 224 452 (v0 :: v1 :: v2 :: v3 :: .int x :: ls) st h P = z_T g d 224 454 (v0 :: v1 :: v2 :: v3 :: .int x :: ls) (.int x :: st) h P := zt_iload zi_224_452 rfl
theorem zi_224_454 : z_ins 224 454 = some (.iconst 1, 1) := by decide +kernel
theorem ze_224_454 : z_T g d 224 454 ls st h P = z_T g d 224 455 ls (.int (nI 1) :: st) h P := zt_iconst zi_224_454 rfl
theorem zi_224_455 : z_ins 224 455 = some (.iadd, 1) := by decide +kernel
theorem ze_224_455 : z_T g d 224 455 ls (.int y :: .int x :: st) h P = z_T g d 224 456 ls (.int (x + y) :: st) h P := zt_bin (f := fun x y => x + y) zi_224_455 rfl (fun _ _ _ => rfl)
theorem zi_224_456 : z_ins 224 456 = some (.iaload, 1) := by decide +kernel
theorem ze_224_456 (hx : z_idx x g.1 = true) : z_T g d 224 456 ls (.int x :: .retAddr 99 :: st) h P = z_T g d 224 457 ls (.int (g.2 x.toNatClampNeg) :: st) h P := zt_script zi_224_456 hx
theorem zi_224_457 : z_ins 224 457 = some (.aload_n 0, 1) := by decide +kernel
theorem ze_224_457 : z_T g d 224 457 (.retAddr b :: ls) st h P = z_T g d 224 458 (.retAddr b :: ls) (.retAddr b :: st) h P := zt_aloadnS zi_224_457 rfl rfl
theorem zi_224_458 : z_ins 224 458 = some (.iload 4, 2) := by decide +kernel
theorem ze_224_458 : z_T g d 224 458 (v0 :: v1 :: v2 :: v3 :: .int x :: ls) st h P = z_T g d 224 460 (v0 :: v1 :: v2 :: v3 :: .int x :: ls) (.int x :: st) h P := zt_iload zi_224_458 rfl
theorem zi_224_460 : z_ins 224 460 = some (.iconst 2, 1) := by decide +kernel
theorem ze_224_460 : z_T g d 224 460 ls st h P = z_T g d 224 461 ls (.int (nI 2) :: st) h P := zt_iconst zi_224_460 rfl
theorem zi_224_461 : z_ins 224 461 = some (.iadd, 1) := by decide +kernel
theorem ze_224_461 : z_T g d 224 461 ls (.int y :: .int x :: st) h P = z_T g d 224 462 ls (.int (x + y) :: st) h P := zt_bin (f := fun x y => x + y) zi_224_461 rfl (fun _ _ _ => rfl)
theorem zi_224_462 : z_ins 224 462 = some (.iaload, 1) := by decide +kernel
theorem ze_224_462 (hx : z_idx x g.1 = true) : z_T g d 224 462 ls (.int x :: .retAddr 99 :: st) h P = z_T g d 224 463 ls (.int (g.2 x.toNatClampNeg) :: st) h P := zt_script zi_224_462 hx
theorem zi_224_463 : z_ins 224 463 = some (.aload_n 3, 1) := by decide +kernel
theorem ze_224_463 : z_T g d 224 463 (v0 :: v1 :: v2 :: .ref a :: ls) st h P = z_T g d 224 464 (v0 :: v1 :: v2 :: .ref a :: ls) (.ref a :: st) h P := zt_aloadn zi_224_463 rfl rfl
theorem zi_224_464 : z_ins 224 464 = some (.invokestatic 116, 3) := by decide +kernel
theorem ze_224_464 : z_T g d 224 464 ls (.ref a3 :: .int x2 :: .int x1 :: .ref a0 :: st) h P = ((z_okS 8 st = true ∧ 0 < d) ∧ z_Ca g (d - 1) 205 [.ref a0, .int x1, .int x2, .ref a3] h (fun r => z_k r (fun v h' => z_T g d 224 467 ls (z_push v st) h' P) P)) := zt_callS0 (as := [.ref a0, .int x1, .int x2, .ref a3]) zi_224_464 ((congrArg (fun o => z_lookup z_prs (o, 116)) zo_224).trans zp_LatinRectanglesLaw_116) ((congrArg (fun o => z_clk o 116) zo_224).trans zk_LatinRectanglesLaw_116) zh_224 rfl rfl rfl
theorem zi_224_467 : z_ins 224 467 = some (.istore 5, 2) := by decide +kernel
theorem ze_224_467 : z_T g d 224 467 (v0 :: v1 :: v2 :: v3 :: v4 :: v5 :: ls) (.int x :: st) h P = z_T g d 224 469 (v0 :: v1 :: v2 :: v3 :: v4 :: .int x :: ls) st h P := zt_istore zi_224_467 (Nat.le_add_left 6 _)
theorem zi_224_469 : z_ins 224 469 = some (.aload_n 2, 1) := by decide +kernel
theorem ze_224_469 : z_T g d 224 469 (v0 :: v1 :: .ref a :: ls) st h P = z_T g d 224 470 (v0 :: v1 :: .ref a :: ls) (.ref a :: st) h P := zt_aloadn zi_224_469 rfl rfl
theorem zi_224_470 : z_ins 224 470 = some (.aload_n 0, 1) := by decide +kernel
theorem ze_224_470 : z_T g d 224 470 (.retAddr b :: ls) st h P = z_T g d 224 471 (.retAddr b :: ls) (.retAddr b :: st) h P := zt_aloadnS zi_224_470 rfl rfl
theorem zi_224_471 : z_ins 224 471 = some (.iload 4, 2) := by decide +kernel
theorem ze_224_471 : z_T g d 224 471 (v0 :: v1 :: v2 :: v3 :: .int x :: ls) st h P = z_T g d 224 473 (v0 :: v1 :: v2 :: v3 :: .int x :: ls) (.int x :: st) h P := zt_iload zi_224_471 rfl
theorem zi_224_473 : z_ins 224 473 = some (.iconst 1, 1) := by decide +kernel
theorem ze_224_473 : z_T g d 224 473 ls st h P = z_T g d 224 474 ls (.int (nI 1) :: st) h P := zt_iconst zi_224_473 rfl
theorem zi_224_474 : z_ins 224 474 = some (.iadd, 1) := by decide +kernel
theorem ze_224_474 : z_T g d 224 474 ls (.int y :: .int x :: st) h P = z_T g d 224 475 ls (.int (x + y) :: st) h P := zt_bin (f := fun x y => x + y) zi_224_474 rfl (fun _ _ _ => rfl)
theorem zi_224_475 : z_ins 224 475 = some (.iaload, 1) := by decide +kernel
theorem ze_224_475 (hx : z_idx x g.1 = true) : z_T g d 224 475 ls (.int x :: .retAddr 99 :: st) h P = z_T g d 224 476 ls (.int (g.2 x.toNatClampNeg) :: st) h P := zt_script zi_224_475 hx
theorem zi_224_476 : z_ins 224 476 = some (.aload_n 0, 1) := by decide +kernel
theorem ze_224_476 : z_T g d 224 476 (.retAddr b :: ls) st h P = z_T g d 224 477 (.retAddr b :: ls) (.retAddr b :: st) h P := zt_aloadnS zi_224_476 rfl rfl
theorem zi_224_477 : z_ins 224 477 = some (.iload 4, 2) := by decide +kernel
theorem ze_224_477 : z_T g d 224 477 (v0 :: v1 :: v2 :: v3 :: .int x :: ls) st h P = z_T g d 224 479 (v0 :: v1 :: v2 :: v3 :: .int x :: ls) (.int x :: st) h P := zt_iload zi_224_477 rfl
theorem zi_224_479 : z_ins 224 479 = some (.iconst 2, 1) := by decide +kernel
theorem ze_224_479 : z_T g d 224 479 ls st h P = z_T g d 224 480 ls (.int (nI 2) :: st) h P := zt_iconst zi_224_479 rfl
theorem zi_224_480 : z_ins 224 480 = some (.iadd, 1) := by decide +kernel
theorem ze_224_480 : z_T g d 224 480 ls (.int y :: .int x :: st) h P = z_T g d 224 481 ls (.int (x + y) :: st) h P := zt_bin (f := fun x y => x + y) zi_224_480 rfl (fun _ _ _ => rfl)
theorem zi_224_481 : z_ins 224 481 = some (.iaload, 1) := by decide +kernel
theorem ze_224_481 (hx : z_idx x g.1 = true) : z_T g d 224 481 ls (.int x :: .retAddr 99 :: st) h P = z_T g d 224 482 ls (.int (g.2 x.toNatClampNeg) :: st) h P := zt_script zi_224_481 hx
theorem zi_224_482 : z_ins 224 482 = some (.invokevirtual 118, 3) := by decide +kernel
theorem ze_224_482 : z_T g d 224 482 ls (.int x1 :: .int x0 :: .ref a :: st) h P = ((z_okS 8 st = true ∧ z_gO h.1 a 10 ∧ 0 < d) ∧ z_Ca g (d - 1) 156 [.ref a, .int x0, .int x1] h (fun r => z_k r (fun v h' => z_T g d 224 485 ls (z_push v st) h' P) P)) := zt_callV (as := [.int x0, .int x1]) zi_224_482 ((congrArg (fun o => z_lookup z_prs (o, 118)) zo_224).trans zp_LatinRectanglesLaw_118) ((congrArg (fun o => z_clk o 118) zo_224).trans zk_LatinRectanglesLaw_118) zh_224 zc_156 rfl rfl rfl
theorem zi_224_485 : z_ins 224 485 = some (.istore 6, 2) := by decide +kernel
theorem ze_224_485 : z_T g d 224 485 (v0 :: v1 :: v2 :: v3 :: v4 :: v5 :: v6 :: ls) (.int x :: st) h P = z_T g d 224 487 (v0 :: v1 :: v2 :: v3 :: v4 :: v5 :: .int x :: ls) st h P := zt_istore zi_224_485 (Nat.le_add_left 7 _)
theorem zi_224_487 : z_ins 224 487 = some (.aload_n 2, 1) := by decide +kernel
theorem ze_224_487 : z_T g d 224 487 (v0 :: v1 :: .ref a :: ls) st h P = z_T g d 224 488 (v0 :: v1 :: .ref a :: ls) (.ref a :: st) h P := zt_aloadn zi_224_487 rfl rfl
theorem zi_224_488 : z_ins 224 488 = some (.invokevirtual 101, 3) := by decide +kernel
theorem ze_224_488 : z_T g d 224 488 ls (.ref a :: st) h P = ((z_okS 8 st = true ∧ z_gO h.1 a 10 ∧ 0 < d) ∧ z_Ca g (d - 1) 121 [.ref a] h (fun r => z_k r (fun v h' => z_T g d 224 491 ls (z_push v st) h' P) P)) := zt_callV (as := []) zi_224_488 ((congrArg (fun o => z_lookup z_prs (o, 101)) zo_224).trans zp_LatinRectanglesLaw_101) ((congrArg (fun o => z_clk o 101) zo_224).trans zk_LatinRectanglesLaw_101) zh_224 zc_121 rfl rfl rfl
theorem zi_224_491 : z_ins 224 491 = some (.iload 5, 2) := by decide +kernel
theorem ze_224_491 : z_T g d 224 491 (v0 :: v1 :: v2 :: v3 :: v4 :: .int x :: ls) st h P = z_T g d 224 493 (v0 :: v1 :: v2 :: v3 :: v4 :: .int x :: ls) (.int x :: st) h P := zt_iload zi_224_491 rfl
theorem zi_224_493 : z_ins 224 493 = some (.if_icmp .eq 5, 3) := by decide +kernel
theorem ze_224_493 : z_T g d 224 493 ls (.int y :: .int x :: st) h P = (if x = y then z_T g d 224 498 ls st h P else z_T g d 224 496 ls st h P) := zt_icmpeq zi_224_493 (by decide)
theorem zi_224_496 : z_ins 224 496 = some (.iconst 0, 1) := by decide +kernel
theorem ze_224_496 : z_T g d 224 496 ls st h P = z_T g d 224 497 ls (.int (nI 0) :: st) h P := zt_iconst zi_224_496 rfl
theorem zi_224_497 : z_ins 224 497 = some (.ireturn, 1) := by decide +kernel
theorem ze_224_497 : z_T g d 224 497 ls [.int x] h P = ((x = nI 0 ∨ x = nI 1) ∧ P (.inr (some (.int x)), h)) := zt_zreturn zi_224_497 zr_224
theorem zi_224_498 : z_ins 224 498 = some (.iload 5, 2) := by decide +kernel
theorem ze_224_498 : z_T g d 224 498 (v0 :: v1 :: v2 :: v3 :: v4 :: .int x :: ls) st h P = z_T g d 224 500 (v0 :: v1 :: v2 :: v3 :: v4 :: .int x :: ls) (.int x :: st) h P := zt_iload zi_224_498 rfl
theorem zi_224_500 : z_ins 224 500 = some (.ifCond .ne 22, 3) := by decide +kernel
theorem ze_224_500 : z_T g d 224 500 ls (.int x :: st) h P = (if x = nI 0 then z_T g d 224 503 ls st h P else z_T g d 224 522 ls st h P) := zt_ifne zi_224_500 (by decide)
theorem zi_224_503 : z_ins 224 503 = some (.aload_n 3, 1) := by decide +kernel
theorem ze_224_503 : z_T g d 224 503 (v0 :: v1 :: v2 :: .ref a :: ls) st h P = z_T g d 224 504 (v0 :: v1 :: v2 :: .ref a :: ls) (.ref a :: st) h P := zt_aloadn zi_224_503 rfl rfl
theorem zi_224_504 : z_ins 224 504 = some (.iconst 0, 1) := by decide +kernel
theorem ze_224_504 : z_T g d 224 504 ls st h P = z_T g d 224 505 ls (.int (nI 0) :: st) h P := zt_iconst zi_224_504 rfl
theorem zi_224_505 : z_ins 224 505 = some (.laload, 1) := by decide +kernel
theorem ze_224_505 : z_T g d 224 505 ls (.int x :: .ref a :: st) h P = z_lL h.1 a x (fun v => z_T g d 224 506 ls (.long v :: st) h P) := zt_laload zi_224_505
theorem zi_224_506 : z_ins 224 506 = some (.iload 6, 2) := by decide +kernel
theorem ze_224_506 : z_T g d 224 506 (v0 :: v1 :: v2 :: v3 :: v4 :: v5 :: .int x :: ls) st h P = z_T g d 224 508 (v0 :: v1 :: v2 :: v3 :: v4 :: v5 :: .int x :: ls) (.int x :: st) h P := zt_iload zi_224_506 rfl
theorem zi_224_508 : z_ins 224 508 = some (.ifCond .eq 7, 3) := by decide +kernel
theorem ze_224_508 : z_T g d 224 508 ls (.int x :: st) h P = (if x = nI 0 then z_T g d 224 515 ls st h P else z_T g d 224 511 ls st h P) := zt_ifeq zi_224_508 (by decide)
theorem zi_224_511 : z_ins 224 511 = some (.lconst 1, 1) := by decide +kernel
theorem ze_224_511 : z_T g d 224 511 ls st h P = z_T g d 224 512 ls (.long 1 :: st) h P := zt_lconst zi_224_511 rfl
theorem zi_224_512 : z_ins 224 512 = some (.goto 4, 3) := by decide +kernel
theorem ze_224_512 : z_T g d 224 512 ls st h P = z_T g d 224 516 ls st h P := zt_goto zi_224_512 (by decide)
theorem zi_224_515 : z_ins 224 515 = some (.lconst 0, 1) := by decide +kernel
theorem ze_224_515 : z_T g d 224 515 ls st h P = z_T g d 224 516 ls (.long 0 :: st) h P := zt_lconst zi_224_515 rfl
theorem zi_224_516 : z_ins 224 516 = some (.lcmp, 1) := by decide +kernel
theorem ze_224_516 : z_T g d 224 516 ls (.long w :: .long u :: st) h P = z_T g d 224 517 ls (.int (lg_cmp u w) :: st) h P := zt_lcmp zi_224_516
theorem zi_224_517 : z_ins 224 517 = some (.ifCond .eq 5, 3) := by decide +kernel
theorem ze_224_517 : z_T g d 224 517 ls (.int x :: st) h P = (if x = nI 0 then z_T g d 224 522 ls st h P else z_T g d 224 520 ls st h P) := zt_ifeq zi_224_517 (by decide)
theorem zi_224_520 : z_ins 224 520 = some (.iconst 0, 1) := by decide +kernel
theorem ze_224_520 : z_T g d 224 520 ls st h P = z_T g d 224 521 ls (.int (nI 0) :: st) h P := zt_iconst zi_224_520 rfl
theorem zi_224_521 : z_ins 224 521 = some (.ireturn, 1) := by decide +kernel
theorem ze_224_521 : z_T g d 224 521 ls [.int x] h P = ((x = nI 0 ∨ x = nI 1) ∧ P (.inr (some (.int x)), h)) := zt_zreturn zi_224_521 zr_224
theorem zi_224_522 : z_ins 224 522 = some (.goto 1321, 3) := by decide +kernel
theorem ze_224_522 : z_T g d 224 522 ls st h P = z_T g d 224 1843 ls st h P := zt_goto zi_224_522 (by decide)
theorem zi_224_525 : z_ins 224 525 = some (.aload_n 1, 1) := by decide +kernel
theorem ze_224_525 : z_T g d 224 525 (v0 :: .ref a :: ls) st h P = z_T g d 224 526 (v0 :: .ref a :: ls) (.ref a :: st) h P := zt_aloadn zi_224_525 rfl rfl
theorem zi_224_526 : z_ins 224 526 = some (.aload_n 0, 1) := by decide +kernel
theorem ze_224_526 : z_T g d 224 526 (.retAddr b :: ls) st h P = z_T g d 224 527 (.retAddr b :: ls) (.retAddr b :: st) h P := zt_aloadnS zi_224_526 rfl rfl
theorem zi_224_527 : z_ins 224 527 = some (.iload 4, 2) := by decide +kernel
theorem ze_224_527 : z_T g d 224 527 (v0 :: v1 :: v2 :: v3 :: .int x :: ls) st h P = z_T g d 224 529 (v0 :: v1 :: v2 :: v3 :: .int x :: ls) (.int x :: st) h P := zt_iload zi_224_527 rfl
theorem zi_224_529 : z_ins 224 529 = some (.iconst 1, 1) := by decide +kernel
theorem ze_224_529 : z_T g d 224 529 ls st h P = z_T g d 224 530 ls (.int (nI 1) :: st) h P := zt_iconst zi_224_529 rfl
theorem zi_224_530 : z_ins 224 530 = some (.iadd, 1) := by decide +kernel
theorem ze_224_530 : z_T g d 224 530 ls (.int y :: .int x :: st) h P = z_T g d 224 531 ls (.int (x + y) :: st) h P := zt_bin (f := fun x y => x + y) zi_224_530 rfl (fun _ _ _ => rfl)
theorem zi_224_531 : z_ins 224 531 = some (.iaload, 1) := by decide +kernel
theorem ze_224_531 (hx : z_idx x g.1 = true) : z_T g d 224 531 ls (.int x :: .retAddr 99 :: st) h P = z_T g d 224 532 ls (.int (g.2 x.toNatClampNeg) :: st) h P := zt_script zi_224_531 hx
theorem zi_224_532 : z_ins 224 532 = some (.aload_n 0, 1) := by decide +kernel
theorem ze_224_532 : z_T g d 224 532 (.retAddr b :: ls) st h P = z_T g d 224 533 (.retAddr b :: ls) (.retAddr b :: st) h P := zt_aloadnS zi_224_532 rfl rfl
theorem zi_224_533 : z_ins 224 533 = some (.iload 4, 2) := by decide +kernel
theorem ze_224_533 : z_T g d 224 533 (v0 :: v1 :: v2 :: v3 :: .int x :: ls) st h P = z_T g d 224 535 (v0 :: v1 :: v2 :: v3 :: .int x :: ls) (.int x :: st) h P := zt_iload zi_224_533 rfl
theorem zi_224_535 : z_ins 224 535 = some (.iconst 2, 1) := by decide +kernel
theorem ze_224_535 : z_T g d 224 535 ls st h P = z_T g d 224 536 ls (.int (nI 2) :: st) h P := zt_iconst zi_224_535 rfl
theorem zi_224_536 : z_ins 224 536 = some (.iadd, 1) := by decide +kernel
theorem ze_224_536 : z_T g d 224 536 ls (.int y :: .int x :: st) h P = z_T g d 224 537 ls (.int (x + y) :: st) h P := zt_bin (f := fun x y => x + y) zi_224_536 rfl (fun _ _ _ => rfl)
theorem zi_224_537 : z_ins 224 537 = some (.iaload, 1) := by decide +kernel
theorem ze_224_537 (hx : z_idx x g.1 = true) : z_T g d 224 537 ls (.int x :: .retAddr 99 :: st) h P = z_T g d 224 538 ls (.int (g.2 x.toNatClampNeg) :: st) h P := zt_script zi_224_537 hx
theorem zi_224_538 : z_ins 224 538 = some (.aload_n 3, 1) := by decide +kernel
theorem ze_224_538 : z_T g d 224 538 (v0 :: v1 :: v2 :: .ref a :: ls) st h P = z_T g d 224 539 (v0 :: v1 :: v2 :: .ref a :: ls) (.ref a :: st) h P := zt_aloadn zi_224_538 rfl rfl
theorem zi_224_539 : z_ins 224 539 = some (.invokestatic 119, 3) := by decide +kernel
theorem ze_224_539 : z_T g d 224 539 ls (.ref a3 :: .int x2 :: .int x1 :: .ref a0 :: st) h P = ((z_okS 8 st = true ∧ 0 < d) ∧ z_Ca g (d - 1) 206 [.ref a0, .int x1, .int x2, .ref a3] h (fun r => z_k r (fun v h' => z_T g d 224 542 ls (z_push v st) h' P) P)) := zt_callS0 (as := [.ref a0, .int x1, .int x2, .ref a3]) zi_224_539 ((congrArg (fun o => z_lookup z_prs (o, 119)) zo_224).trans zp_LatinRectanglesLaw_119) ((congrArg (fun o => z_clk o 119) zo_224).trans zk_LatinRectanglesLaw_119) zh_224 rfl rfl rfl
theorem zi_224_542 : z_ins 224 542 = some (.istore 5, 2) := by decide +kernel
theorem ze_224_542 : z_T g d 224 542 (v0 :: v1 :: v2 :: v3 :: v4 :: v5 :: ls) (.int x :: st) h P = z_T g d 224 544 (v0 :: v1 :: v2 :: v3 :: v4 :: .int x :: ls) st h P := zt_istore zi_224_542 (Nat.le_add_left 6 _)
theorem zi_224_544 : z_ins 224 544 = some (.aload_n 2, 1) := by decide +kernel
theorem ze_224_544 : z_T g d 224 544 (v0 :: v1 :: .ref a :: ls) st h P = z_T g d 224 545 (v0 :: v1 :: .ref a :: ls) (.ref a :: st) h P := zt_aloadn zi_224_544 rfl rfl
theorem zi_224_545 : z_ins 224 545 = some (.aload_n 0, 1) := by decide +kernel
theorem ze_224_545 : z_T g d 224 545 (.retAddr b :: ls) st h P = z_T g d 224 546 (.retAddr b :: ls) (.retAddr b :: st) h P := zt_aloadnS zi_224_545 rfl rfl
theorem zi_224_546 : z_ins 224 546 = some (.iload 4, 2) := by decide +kernel
theorem ze_224_546 : z_T g d 224 546 (v0 :: v1 :: v2 :: v3 :: .int x :: ls) st h P = z_T g d 224 548 (v0 :: v1 :: v2 :: v3 :: .int x :: ls) (.int x :: st) h P := zt_iload zi_224_546 rfl
theorem zi_224_548 : z_ins 224 548 = some (.iconst 1, 1) := by decide +kernel
theorem ze_224_548 : z_T g d 224 548 ls st h P = z_T g d 224 549 ls (.int (nI 1) :: st) h P := zt_iconst zi_224_548 rfl
theorem zi_224_549 : z_ins 224 549 = some (.iadd, 1) := by decide +kernel
theorem ze_224_549 : z_T g d 224 549 ls (.int y :: .int x :: st) h P = z_T g d 224 550 ls (.int (x + y) :: st) h P := zt_bin (f := fun x y => x + y) zi_224_549 rfl (fun _ _ _ => rfl)
theorem zi_224_550 : z_ins 224 550 = some (.iaload, 1) := by decide +kernel
theorem ze_224_550 (hx : z_idx x g.1 = true) : z_T g d 224 550 ls (.int x :: .retAddr 99 :: st) h P = z_T g d 224 551 ls (.int (g.2 x.toNatClampNeg) :: st) h P := zt_script zi_224_550 hx
theorem zi_224_551 : z_ins 224 551 = some (.aload_n 0, 1) := by decide +kernel
theorem ze_224_551 : z_T g d 224 551 (.retAddr b :: ls) st h P = z_T g d 224 552 (.retAddr b :: ls) (.retAddr b :: st) h P := zt_aloadnS zi_224_551 rfl rfl
theorem zi_224_552 : z_ins 224 552 = some (.iload 4, 2) := by decide +kernel
theorem ze_224_552 : z_T g d 224 552 (v0 :: v1 :: v2 :: v3 :: .int x :: ls) st h P = z_T g d 224 554 (v0 :: v1 :: v2 :: v3 :: .int x :: ls) (.int x :: st) h P := zt_iload zi_224_552 rfl
theorem zi_224_554 : z_ins 224 554 = some (.iconst 2, 1) := by decide +kernel
theorem ze_224_554 : z_T g d 224 554 ls st h P = z_T g d 224 555 ls (.int (nI 2) :: st) h P := zt_iconst zi_224_554 rfl
theorem zi_224_555 : z_ins 224 555 = some (.iadd, 1) := by decide +kernel
theorem ze_224_555 : z_T g d 224 555 ls (.int y :: .int x :: st) h P = z_T g d 224 556 ls (.int (x + y) :: st) h P := zt_bin (f := fun x y => x + y) zi_224_555 rfl (fun _ _ _ => rfl)
theorem zi_224_556 : z_ins 224 556 = some (.iaload, 1) := by decide +kernel
theorem ze_224_556 (hx : z_idx x g.1 = true) : z_T g d 224 556 ls (.int x :: .retAddr 99 :: st) h P = z_T g d 224 557 ls (.int (g.2 x.toNatClampNeg) :: st) h P := zt_script zi_224_556 hx
theorem zi_224_557 : z_ins 224 557 = some (.invokevirtual 121, 3) := by decide +kernel
theorem ze_224_557 : z_T g d 224 557 ls (.int x1 :: .int x0 :: .ref a :: st) h P = ((z_okS 8 st = true ∧ z_gO h.1 a 10 ∧ 0 < d) ∧ z_Ca g (d - 1) 157 [.ref a, .int x0, .int x1] h (fun r => z_k r (fun v h' => z_T g d 224 560 ls (z_push v st) h' P) P)) := zt_callV (as := [.int x0, .int x1]) zi_224_557 ((congrArg (fun o => z_lookup z_prs (o, 121)) zo_224).trans zp_LatinRectanglesLaw_121) ((congrArg (fun o => z_clk o 121) zo_224).trans zk_LatinRectanglesLaw_121) zh_224 zc_157 rfl rfl rfl
theorem zi_224_560 : z_ins 224 560 = some (.istore 6, 2) := by decide +kernel
theorem ze_224_560 : z_T g d 224 560 (v0 :: v1 :: v2 :: v3 :: v4 :: v5 :: v6 :: ls) (.int x :: st) h P = z_T g d 224 562 (v0 :: v1 :: v2 :: v3 :: v4 :: v5 :: .int x :: ls) st h P := zt_istore zi_224_560 (Nat.le_add_left 7 _)
theorem zi_224_562 : z_ins 224 562 = some (.aload_n 2, 1) := by decide +kernel
theorem ze_224_562 : z_T g d 224 562 (v0 :: v1 :: .ref a :: ls) st h P = z_T g d 224 563 (v0 :: v1 :: .ref a :: ls) (.ref a :: st) h P := zt_aloadn zi_224_562 rfl rfl
theorem zi_224_563 : z_ins 224 563 = some (.invokevirtual 101, 3) := by decide +kernel
theorem ze_224_563 : z_T g d 224 563 ls (.ref a :: st) h P = ((z_okS 8 st = true ∧ z_gO h.1 a 10 ∧ 0 < d) ∧ z_Ca g (d - 1) 121 [.ref a] h (fun r => z_k r (fun v h' => z_T g d 224 566 ls (z_push v st) h' P) P)) := zt_callV (as := []) zi_224_563 ((congrArg (fun o => z_lookup z_prs (o, 101)) zo_224).trans zp_LatinRectanglesLaw_101) ((congrArg (fun o => z_clk o 101) zo_224).trans zk_LatinRectanglesLaw_101) zh_224 zc_121 rfl rfl rfl
theorem zi_224_566 : z_ins 224 566 = some (.iload 5, 2) := by decide +kernel
theorem ze_224_566 : z_T g d 224 566 (v0 :: v1 :: v2 :: v3 :: v4 :: .int x :: ls) st h P = z_T g d 224 568 (v0 :: v1 :: v2 :: v3 :: v4 :: .int x :: ls) (.int x :: st) h P := zt_iload zi_224_566 rfl
theorem zi_224_568 : z_ins 224 568 = some (.if_icmp .eq 5, 3) := by decide +kernel
theorem ze_224_568 : z_T g d 224 568 ls (.int y :: .int x :: st) h P = (if x = y then z_T g d 224 573 ls st h P else z_T g d 224 571 ls st h P) := zt_icmpeq zi_224_568 (by decide)
theorem zi_224_571 : z_ins 224 571 = some (.iconst 0, 1) := by decide +kernel
theorem ze_224_571 : z_T g d 224 571 ls st h P = z_T g d 224 572 ls (.int (nI 0) :: st) h P := zt_iconst zi_224_571 rfl
theorem zi_224_572 : z_ins 224 572 = some (.ireturn, 1) := by decide +kernel
theorem ze_224_572 : z_T g d 224 572 ls [.int x] h P = ((x = nI 0 ∨ x = nI 1) ∧ P (.inr (some (.int x)), h)) := zt_zreturn zi_224_572 zr_224
theorem zi_224_573 : z_ins 224 573 = some (.iload 5, 2) := by decide +kernel
theorem ze_224_573 : z_T g d 224 573 (v0 :: v1 :: v2 :: v3 :: v4 :: .int x :: ls) st h P = z_T g d 224 575 (v0 :: v1 :: v2 :: v3 :: v4 :: .int x :: ls) (.int x :: st) h P := zt_iload zi_224_573 rfl
theorem zi_224_575 : z_ins 224 575 = some (.ifCond .ne 15, 3) := by decide +kernel
theorem ze_224_575 : z_T g d 224 575 ls (.int x :: st) h P = (if x = nI 0 then z_T g d 224 578 ls st h P else z_T g d 224 590 ls st h P) := zt_ifne zi_224_575 (by decide)
theorem zi_224_578 : z_ins 224 578 = some (.aload_n 3, 1) := by decide +kernel
theorem ze_224_578 : z_T g d 224 578 (v0 :: v1 :: v2 :: .ref a :: ls) st h P = z_T g d 224 579 (v0 :: v1 :: v2 :: .ref a :: ls) (.ref a :: st) h P := zt_aloadn zi_224_578 rfl rfl
theorem zi_224_579 : z_ins 224 579 = some (.iconst 0, 1) := by decide +kernel
theorem ze_224_579 : z_T g d 224 579 ls st h P = z_T g d 224 580 ls (.int (nI 0) :: st) h P := zt_iconst zi_224_579 rfl
theorem zi_224_580 : z_ins 224 580 = some (.laload, 1) := by decide +kernel
theorem ze_224_580 : z_T g d 224 580 ls (.int x :: .ref a :: st) h P = z_lL h.1 a x (fun v => z_T g d 224 581 ls (.long v :: st) h P) := zt_laload zi_224_580
theorem zi_224_581 : z_ins 224 581 = some (.iload 6, 2) := by decide +kernel
theorem ze_224_581 : z_T g d 224 581 (v0 :: v1 :: v2 :: v3 :: v4 :: v5 :: .int x :: ls) st h P = z_T g d 224 583 (v0 :: v1 :: v2 :: v3 :: v4 :: v5 :: .int x :: ls) (.int x :: st) h P := zt_iload zi_224_581 rfl
theorem zi_224_583 : z_ins 224 583 = some (.i2l, 1) := by decide +kernel
theorem ze_224_583 : z_T g d 224 583 ls (.int x :: st) h P = z_T g d 224 584 ls (.long x.toInt64 :: st) h P := zt_i2l zi_224_583
theorem zi_224_584 : z_ins 224 584 = some (.lcmp, 1) := by decide +kernel
theorem ze_224_584 : z_T g d 224 584 ls (.long w :: .long u :: st) h P = z_T g d 224 585 ls (.int (lg_cmp u w) :: st) h P := zt_lcmp zi_224_584
theorem zi_224_585 : z_ins 224 585 = some (.ifCond .eq 5, 3) := by decide +kernel
theorem ze_224_585 : z_T g d 224 585 ls (.int x :: st) h P = (if x = nI 0 then z_T g d 224 590 ls st h P else z_T g d 224 588 ls st h P) := zt_ifeq zi_224_585 (by decide)
theorem zi_224_588 : z_ins 224 588 = some (.iconst 0, 1) := by decide +kernel
theorem ze_224_588 : z_T g d 224 588 ls st h P = z_T g d 224 589 ls (.int (nI 0) :: st) h P := zt_iconst zi_224_588 rfl
theorem zi_224_589 : z_ins 224 589 = some (.ireturn, 1) := by decide +kernel
theorem ze_224_589 : z_T g d 224 589 ls [.int x] h P = ((x = nI 0 ∨ x = nI 1) ∧ P (.inr (some (.int x)), h)) := zt_zreturn zi_224_589 zr_224
theorem zi_224_590 : z_ins 224 590 = some (.goto 1253, 3) := by decide +kernel
theorem ze_224_590 : z_T g d 224 590 ls st h P = z_T g d 224 1843 ls st h P := zt_goto zi_224_590 (by decide)
theorem zi_224_593 : z_ins 224 593 = some (.aload_n 1, 1) := by decide +kernel
theorem ze_224_593 : z_T g d 224 593 (v0 :: .ref a :: ls) st h P = z_T g d 224 594 (v0 :: .ref a :: ls) (.ref a :: st) h P := zt_aloadn zi_224_593 rfl rfl
theorem zi_224_594 : z_ins 224 594 = some (.invokevirtual 122, 3) := by decide +kernel
theorem ze_224_594 : z_T g d 224 594 ls (.ref a :: st) h P = ((z_okS 8 st = true ∧ z_gO h.1 a 9 ∧ 0 < d) ∧ z_Ca g (d - 1) 87 [.ref a] h (fun r => z_k r (fun v h' => z_T g d 224 597 ls (z_push v st) h' P) P)) := zt_callV (as := []) zi_224_594 ((congrArg (fun o => z_lookup z_prs (o, 122)) zo_224).trans zp_LatinRectanglesLaw_122) ((congrArg (fun o => z_clk o 122) zo_224).trans zk_LatinRectanglesLaw_122) zh_224 zc_87 rfl rfl rfl
theorem zi_224_597 : z_ins 224 597 = some (.aload_n 2, 1) := by decide +kernel
theorem ze_224_597 : z_T g d 224 597 (v0 :: v1 :: .ref a :: ls) st h P = z_T g d 224 598 (v0 :: v1 :: .ref a :: ls) (.ref a :: st) h P := zt_aloadn zi_224_597 rfl rfl
theorem zi_224_598 : z_ins 224 598 = some (.invokevirtual 125, 3) := by decide +kernel
theorem ze_224_598 : z_T g d 224 598 ls (.ref a :: st) h P = ((z_okS 8 st = true ∧ z_gO h.1 a 10 ∧ 0 < d) ∧ z_Ca g (d - 1) 161 [.ref a] h (fun r => z_k r (fun v h' => z_T g d 224 601 ls (z_push v st) h' P) P)) := zt_callV (as := []) zi_224_598 ((congrArg (fun o => z_lookup z_prs (o, 125)) zo_224).trans zp_LatinRectanglesLaw_125) ((congrArg (fun o => z_clk o 125) zo_224).trans zk_LatinRectanglesLaw_125) zh_224 zc_161 rfl rfl rfl
theorem zi_224_601 : z_ins 224 601 = some (.if_icmp .eq 1242, 3) := by decide +kernel
theorem ze_224_601 : z_T g d 224 601 ls (.int y :: .int x :: st) h P = (if x = y then z_T g d 224 1843 ls st h P else z_T g d 224 604 ls st h P) := zt_icmpeq zi_224_601 (by decide)
theorem zi_224_604 : z_ins 224 604 = some (.iconst 0, 1) := by decide +kernel
theorem ze_224_604 : z_T g d 224 604 ls st h P = z_T g d 224 605 ls (.int (nI 0) :: st) h P := zt_iconst zi_224_604 rfl
theorem zi_224_605 : z_ins 224 605 = some (.ireturn, 1) := by decide +kernel
theorem ze_224_605 : z_T g d 224 605 ls [.int x] h P = ((x = nI 0 ∨ x = nI 1) ∧ P (.inr (some (.int x)), h)) := zt_zreturn zi_224_605 zr_224
theorem zi_224_606 : z_ins 224 606 = some (.aload_n 1, 1) := by decide +kernel
theorem ze_224_606 : z_T g d 224 606 (v0 :: .ref a :: ls) st h P = z_T g d 224 607 (v0 :: .ref a :: ls) (.ref a :: st) h P := zt_aloadn zi_224_606 rfl rfl
theorem zi_224_607 : z_ins 224 607 = some (.aload_n 0, 1) := by decide +kernel
theorem ze_224_607 : z_T g d 224 607 (.retAddr b :: ls) st h P = z_T g d 224 608 (.retAddr b :: ls) (.retAddr b :: st) h P := zt_aloadnS zi_224_607 rfl rfl
theorem zi_224_608 : z_ins 224 608 = some (.iload 4, 2) := by decide +kernel
theorem ze_224_608 : z_T g d 224 608 (v0 :: v1 :: v2 :: v3 :: .int x :: ls) st h P = z_T g d 224 610 (v0 :: v1 :: v2 :: v3 :: .int x :: ls) (.int x :: st) h P := zt_iload zi_224_608 rfl
theorem zi_224_610 : z_ins 224 610 = some (.iconst 1, 1) := by decide +kernel
theorem ze_224_610 : z_T g d 224 610 ls st h P = z_T g d 224 611 ls (.int (nI 1) :: st) h P := zt_iconst zi_224_610 rfl
theorem zi_224_611 : z_ins 224 611 = some (.iadd, 1) := by decide +kernel
theorem ze_224_611 : z_T g d 224 611 ls (.int y :: .int x :: st) h P = z_T g d 224 612 ls (.int (x + y) :: st) h P := zt_bin (f := fun x y => x + y) zi_224_611 rfl (fun _ _ _ => rfl)
theorem zi_224_612 : z_ins 224 612 = some (.iaload, 1) := by decide +kernel
theorem ze_224_612 (hx : z_idx x g.1 = true) : z_T g d 224 612 ls (.int x :: .retAddr 99 :: st) h P = z_T g d 224 613 ls (.int (g.2 x.toNatClampNeg) :: st) h P := zt_script zi_224_612 hx
theorem zi_224_613 : z_ins 224 613 = some (.aload_n 0, 1) := by decide +kernel
theorem ze_224_613 : z_T g d 224 613 (.retAddr b :: ls) st h P = z_T g d 224 614 (.retAddr b :: ls) (.retAddr b :: st) h P := zt_aloadnS zi_224_613 rfl rfl
theorem zi_224_614 : z_ins 224 614 = some (.iload 4, 2) := by decide +kernel
theorem ze_224_614 : z_T g d 224 614 (v0 :: v1 :: v2 :: v3 :: .int x :: ls) st h P = z_T g d 224 616 (v0 :: v1 :: v2 :: v3 :: .int x :: ls) (.int x :: st) h P := zt_iload zi_224_614 rfl
theorem zi_224_616 : z_ins 224 616 = some (.iconst 2, 1) := by decide +kernel
theorem ze_224_616 : z_T g d 224 616 ls st h P = z_T g d 224 617 ls (.int (nI 2) :: st) h P := zt_iconst zi_224_616 rfl
theorem zi_224_617 : z_ins 224 617 = some (.iadd, 1) := by decide +kernel
theorem ze_224_617 : z_T g d 224 617 ls (.int y :: .int x :: st) h P = z_T g d 224 618 ls (.int (x + y) :: st) h P := zt_bin (f := fun x y => x + y) zi_224_617 rfl (fun _ _ _ => rfl)
theorem zi_224_618 : z_ins 224 618 = some (.iaload, 1) := by decide +kernel
theorem ze_224_618 (hx : z_idx x g.1 = true) : z_T g d 224 618 ls (.int x :: .retAddr 99 :: st) h P = z_T g d 224 619 ls (.int (g.2 x.toNatClampNeg) :: st) h P := zt_script zi_224_618 hx
theorem zi_224_619 : z_ins 224 619 = some (.aload_n 3, 1) := by decide +kernel
theorem ze_224_619 : z_T g d 224 619 (v0 :: v1 :: v2 :: .ref a :: ls) st h P = z_T g d 224 620 (v0 :: v1 :: v2 :: .ref a :: ls) (.ref a :: st) h P := zt_aloadn zi_224_619 rfl rfl
theorem zi_224_620 : z_ins 224 620 = some (.invokestatic 126, 3) := by decide +kernel
theorem ze_224_620 : z_T g d 224 620 ls (.ref a3 :: .int x2 :: .int x1 :: .ref a0 :: st) h P = ((z_okS 8 st = true ∧ 0 < d) ∧ z_Ca g (d - 1) 207 [.ref a0, .int x1, .int x2, .ref a3] h (fun r => z_k r (fun v h' => z_T g d 224 623 ls (z_push v st) h' P) P)) := zt_callS0 (as := [.ref a0, .int x1, .int x2, .ref a3]) zi_224_620 ((congrArg (fun o => z_lookup z_prs (o, 126)) zo_224).trans zp_LatinRectanglesLaw_126) ((congrArg (fun o => z_clk o 126) zo_224).trans zk_LatinRectanglesLaw_126) zh_224 rfl rfl rfl
theorem zi_224_623 : z_ins 224 623 = some (.istore 5, 2) := by decide +kernel
theorem ze_224_623 : z_T g d 224 623 (v0 :: v1 :: v2 :: v3 :: v4 :: v5 :: ls) (.int x :: st) h P = z_T g d 224 625 (v0 :: v1 :: v2 :: v3 :: v4 :: .int x :: ls) st h P := zt_istore zi_224_623 (Nat.le_add_left 6 _)
theorem zi_224_625 : z_ins 224 625 = some (.aload_n 2, 1) := by decide +kernel
theorem ze_224_625 : z_T g d 224 625 (v0 :: v1 :: .ref a :: ls) st h P = z_T g d 224 626 (v0 :: v1 :: .ref a :: ls) (.ref a :: st) h P := zt_aloadn zi_224_625 rfl rfl
theorem zi_224_626 : z_ins 224 626 = some (.aload_n 0, 1) := by decide +kernel
theorem ze_224_626 : z_T g d 224 626 (.retAddr b :: ls) st h P = z_T g d 224 627 (.retAddr b :: ls) (.retAddr b :: st) h P := zt_aloadnS zi_224_626 rfl rfl
theorem zi_224_627 : z_ins 224 627 = some (.iload 4, 2) := by decide +kernel
theorem ze_224_627 : z_T g d 224 627 (v0 :: v1 :: v2 :: v3 :: .int x :: ls) st h P = z_T g d 224 629 (v0 :: v1 :: v2 :: v3 :: .int x :: ls) (.int x :: st) h P := zt_iload zi_224_627 rfl
theorem zi_224_629 : z_ins 224 629 = some (.iconst 1, 1) := by decide +kernel
theorem ze_224_629 : z_T g d 224 629 ls st h P = z_T g d 224 630 ls (.int (nI 1) :: st) h P := zt_iconst zi_224_629 rfl
theorem zi_224_630 : z_ins 224 630 = some (.iadd, 1) := by decide +kernel
theorem ze_224_630 : z_T g d 224 630 ls (.int y :: .int x :: st) h P = z_T g d 224 631 ls (.int (x + y) :: st) h P := zt_bin (f := fun x y => x + y) zi_224_630 rfl (fun _ _ _ => rfl)
theorem zi_224_631 : z_ins 224 631 = some (.iaload, 1) := by decide +kernel
theorem ze_224_631 (hx : z_idx x g.1 = true) : z_T g d 224 631 ls (.int x :: .retAddr 99 :: st) h P = z_T g d 224 632 ls (.int (g.2 x.toNatClampNeg) :: st) h P := zt_script zi_224_631 hx
theorem zi_224_632 : z_ins 224 632 = some (.aload_n 0, 1) := by decide +kernel
theorem ze_224_632 : z_T g d 224 632 (.retAddr b :: ls) st h P = z_T g d 224 633 (.retAddr b :: ls) (.retAddr b :: st) h P := zt_aloadnS zi_224_632 rfl rfl
theorem zi_224_633 : z_ins 224 633 = some (.iload 4, 2) := by decide +kernel
theorem ze_224_633 : z_T g d 224 633 (v0 :: v1 :: v2 :: v3 :: .int x :: ls) st h P = z_T g d 224 635 (v0 :: v1 :: v2 :: v3 :: .int x :: ls) (.int x :: st) h P := zt_iload zi_224_633 rfl
theorem zi_224_635 : z_ins 224 635 = some (.iconst 2, 1) := by decide +kernel
theorem ze_224_635 : z_T g d 224 635 ls st h P = z_T g d 224 636 ls (.int (nI 2) :: st) h P := zt_iconst zi_224_635 rfl
theorem zi_224_636 : z_ins 224 636 = some (.iadd, 1) := by decide +kernel
theorem ze_224_636 : z_T g d 224 636 ls (.int y :: .int x :: st) h P = z_T g d 224 637 ls (.int (x + y) :: st) h P := zt_bin (f := fun x y => x + y) zi_224_636 rfl (fun _ _ _ => rfl)
theorem zi_224_637 : z_ins 224 637 = some (.iaload, 1) := by decide +kernel
theorem ze_224_637 (hx : z_idx x g.1 = true) : z_T g d 224 637 ls (.int x :: .retAddr 99 :: st) h P = z_T g d 224 638 ls (.int (g.2 x.toNatClampNeg) :: st) h P := zt_script zi_224_637 hx
theorem zi_224_638 : z_ins 224 638 = some (.invokevirtual 128, 3) := by decide +kernel
theorem ze_224_638 : z_T g d 224 638 ls (.int x1 :: .int x0 :: .ref a :: st) h P = ((z_okS 8 st = true ∧ z_gO h.1 a 10 ∧ 0 < d) ∧ z_Ca g (d - 1) 162 [.ref a, .int x0, .int x1] h (fun r => z_k r (fun v h' => z_T g d 224 641 ls (z_push v st) h' P) P)) := zt_callV (as := [.int x0, .int x1]) zi_224_638 ((congrArg (fun o => z_lookup z_prs (o, 128)) zo_224).trans zp_LatinRectanglesLaw_128) ((congrArg (fun o => z_clk o 128) zo_224).trans zk_LatinRectanglesLaw_128) zh_224 zc_162 rfl rfl rfl
theorem zi_224_641 : z_ins 224 641 = some (.istore 6, 2) := by decide +kernel
theorem ze_224_641 : z_T g d 224 641 (v0 :: v1 :: v2 :: v3 :: v4 :: v5 :: v6 :: ls) (.int x :: st) h P = z_T g d 224 643 (v0 :: v1 :: v2 :: v3 :: v4 :: v5 :: .int x :: ls) st h P := zt_istore zi_224_641 (Nat.le_add_left 7 _)
theorem zi_224_643 : z_ins 224 643 = some (.aload_n 2, 1) := by decide +kernel
theorem ze_224_643 : z_T g d 224 643 (v0 :: v1 :: .ref a :: ls) st h P = z_T g d 224 644 (v0 :: v1 :: .ref a :: ls) (.ref a :: st) h P := zt_aloadn zi_224_643 rfl rfl
theorem zi_224_644 : z_ins 224 644 = some (.invokevirtual 101, 3) := by decide +kernel
theorem ze_224_644 : z_T g d 224 644 ls (.ref a :: st) h P = ((z_okS 8 st = true ∧ z_gO h.1 a 10 ∧ 0 < d) ∧ z_Ca g (d - 1) 121 [.ref a] h (fun r => z_k r (fun v h' => z_T g d 224 647 ls (z_push v st) h' P) P)) := zt_callV (as := []) zi_224_644 ((congrArg (fun o => z_lookup z_prs (o, 101)) zo_224).trans zp_LatinRectanglesLaw_101) ((congrArg (fun o => z_clk o 101) zo_224).trans zk_LatinRectanglesLaw_101) zh_224 zc_121 rfl rfl rfl
theorem zi_224_647 : z_ins 224 647 = some (.iload 5, 2) := by decide +kernel
theorem ze_224_647 : z_T g d 224 647 (v0 :: v1 :: v2 :: v3 :: v4 :: .int x :: ls) st h P = z_T g d 224 649 (v0 :: v1 :: v2 :: v3 :: v4 :: .int x :: ls) (.int x :: st) h P := zt_iload zi_224_647 rfl
theorem zi_224_649 : z_ins 224 649 = some (.if_icmp .eq 5, 3) := by decide +kernel
theorem ze_224_649 : z_T g d 224 649 ls (.int y :: .int x :: st) h P = (if x = y then z_T g d 224 654 ls st h P else z_T g d 224 652 ls st h P) := zt_icmpeq zi_224_649 (by decide)
theorem zi_224_652 : z_ins 224 652 = some (.iconst 0, 1) := by decide +kernel
theorem ze_224_652 : z_T g d 224 652 ls st h P = z_T g d 224 653 ls (.int (nI 0) :: st) h P := zt_iconst zi_224_652 rfl
theorem zi_224_653 : z_ins 224 653 = some (.ireturn, 1) := by decide +kernel
theorem ze_224_653 : z_T g d 224 653 ls [.int x] h P = ((x = nI 0 ∨ x = nI 1) ∧ P (.inr (some (.int x)), h)) := zt_zreturn zi_224_653 zr_224
theorem zi_224_654 : z_ins 224 654 = some (.iload 5, 2) := by decide +kernel
theorem ze_224_654 : z_T g d 224 654 (v0 :: v1 :: v2 :: v3 :: v4 :: .int x :: ls) st h P = z_T g d 224 656 (v0 :: v1 :: v2 :: v3 :: v4 :: .int x :: ls) (.int x :: st) h P := zt_iload zi_224_654 rfl
theorem zi_224_656 : z_ins 224 656 = some (.ifCond .ne 15, 3) := by decide +kernel
theorem ze_224_656 : z_T g d 224 656 ls (.int x :: st) h P = (if x = nI 0 then z_T g d 224 659 ls st h P else z_T g d 224 671 ls st h P) := zt_ifne zi_224_656 (by decide)
theorem zi_224_659 : z_ins 224 659 = some (.aload_n 3, 1) := by decide +kernel
theorem ze_224_659 : z_T g d 224 659 (v0 :: v1 :: v2 :: .ref a :: ls) st h P = z_T g d 224 660 (v0 :: v1 :: v2 :: .ref a :: ls) (.ref a :: st) h P := zt_aloadn zi_224_659 rfl rfl
theorem zi_224_660 : z_ins 224 660 = some (.iconst 0, 1) := by decide +kernel
theorem ze_224_660 : z_T g d 224 660 ls st h P = z_T g d 224 661 ls (.int (nI 0) :: st) h P := zt_iconst zi_224_660 rfl
theorem zi_224_661 : z_ins 224 661 = some (.laload, 1) := by decide +kernel
theorem ze_224_661 : z_T g d 224 661 ls (.int x :: .ref a :: st) h P = z_lL h.1 a x (fun v => z_T g d 224 662 ls (.long v :: st) h P) := zt_laload zi_224_661
theorem zi_224_662 : z_ins 224 662 = some (.iload 6, 2) := by decide +kernel
theorem ze_224_662 : z_T g d 224 662 (v0 :: v1 :: v2 :: v3 :: v4 :: v5 :: .int x :: ls) st h P = z_T g d 224 664 (v0 :: v1 :: v2 :: v3 :: v4 :: v5 :: .int x :: ls) (.int x :: st) h P := zt_iload zi_224_662 rfl
theorem zi_224_664 : z_ins 224 664 = some (.i2l, 1) := by decide +kernel
theorem ze_224_664 : z_T g d 224 664 ls (.int x :: st) h P = z_T g d 224 665 ls (.long x.toInt64 :: st) h P := zt_i2l zi_224_664
theorem zi_224_665 : z_ins 224 665 = some (.lcmp, 1) := by decide +kernel
theorem ze_224_665 : z_T g d 224 665 ls (.long w :: .long u :: st) h P = z_T g d 224 666 ls (.int (lg_cmp u w) :: st) h P := zt_lcmp zi_224_665
theorem zi_224_666 : z_ins 224 666 = some (.ifCond .eq 5, 3) := by decide +kernel
theorem ze_224_666 : z_T g d 224 666 ls (.int x :: st) h P = (if x = nI 0 then z_T g d 224 671 ls st h P else z_T g d 224 669 ls st h P) := zt_ifeq zi_224_666 (by decide)
theorem zi_224_669 : z_ins 224 669 = some (.iconst 0, 1) := by decide +kernel
theorem ze_224_669 : z_T g d 224 669 ls st h P = z_T g d 224 670 ls (.int (nI 0) :: st) h P := zt_iconst zi_224_669 rfl
theorem zi_224_670 : z_ins 224 670 = some (.ireturn, 1) := by decide +kernel
theorem ze_224_670 : z_T g d 224 670 ls [.int x] h P = ((x = nI 0 ∨ x = nI 1) ∧ P (.inr (some (.int x)), h)) := zt_zreturn zi_224_670 zr_224
theorem zi_224_671 : z_ins 224 671 = some (.goto 1172, 3) := by decide +kernel
theorem ze_224_671 : z_T g d 224 671 ls st h P = z_T g d 224 1843 ls st h P := zt_goto zi_224_671 (by decide)
theorem zi_224_674 : z_ins 224 674 = some (.aload_n 1, 1) := by decide +kernel
theorem ze_224_674 : z_T g d 224 674 (v0 :: .ref a :: ls) st h P = z_T g d 224 675 (v0 :: .ref a :: ls) (.ref a :: st) h P := zt_aloadn zi_224_674 rfl rfl
theorem zi_224_675 : z_ins 224 675 = some (.aload_n 0, 1) := by decide +kernel
theorem ze_224_675 : z_T g d 224 675 (.retAddr b :: ls) st h P = z_T g d 224 676 (.retAddr b :: ls) (.retAddr b :: st) h P := zt_aloadnS zi_224_675 rfl rfl
theorem zi_224_676 : z_ins 224 676 = some (.iload 4, 2) := by decide +kernel
theorem ze_224_676 : z_T g d 224 676 (v0 :: v1 :: v2 :: v3 :: .int x :: ls) st h P = z_T g d 224 678 (v0 :: v1 :: v2 :: v3 :: .int x :: ls) (.int x :: st) h P := zt_iload zi_224_676 rfl
theorem zi_224_678 : z_ins 224 678 = some (.iconst 1, 1) := by decide +kernel
theorem ze_224_678 : z_T g d 224 678 ls st h P = z_T g d 224 679 ls (.int (nI 1) :: st) h P := zt_iconst zi_224_678 rfl
theorem zi_224_679 : z_ins 224 679 = some (.iadd, 1) := by decide +kernel
theorem ze_224_679 : z_T g d 224 679 ls (.int y :: .int x :: st) h P = z_T g d 224 680 ls (.int (x + y) :: st) h P := zt_bin (f := fun x y => x + y) zi_224_679 rfl (fun _ _ _ => rfl)
theorem zi_224_680 : z_ins 224 680 = some (.iaload, 1) := by decide +kernel
theorem ze_224_680 (hx : z_idx x g.1 = true) : z_T g d 224 680 ls (.int x :: .retAddr 99 :: st) h P = z_T g d 224 681 ls (.int (g.2 x.toNatClampNeg) :: st) h P := zt_script zi_224_680 hx
theorem zi_224_681 : z_ins 224 681 = some (.aload_n 0, 1) := by decide +kernel
theorem ze_224_681 : z_T g d 224 681 (.retAddr b :: ls) st h P = z_T g d 224 682 (.retAddr b :: ls) (.retAddr b :: st) h P := zt_aloadnS zi_224_681 rfl rfl
theorem zi_224_682 : z_ins 224 682 = some (.iload 4, 2) := by decide +kernel
theorem ze_224_682 : z_T g d 224 682 (v0 :: v1 :: v2 :: v3 :: .int x :: ls) st h P = z_T g d 224 684 (v0 :: v1 :: v2 :: v3 :: .int x :: ls) (.int x :: st) h P := zt_iload zi_224_682 rfl
theorem zi_224_684 : z_ins 224 684 = some (.iconst 2, 1) := by decide +kernel
theorem ze_224_684 : z_T g d 224 684 ls st h P = z_T g d 224 685 ls (.int (nI 2) :: st) h P := zt_iconst zi_224_684 rfl
theorem zi_224_685 : z_ins 224 685 = some (.iadd, 1) := by decide +kernel
theorem ze_224_685 : z_T g d 224 685 ls (.int y :: .int x :: st) h P = z_T g d 224 686 ls (.int (x + y) :: st) h P := zt_bin (f := fun x y => x + y) zi_224_685 rfl (fun _ _ _ => rfl)
theorem zi_224_686 : z_ins 224 686 = some (.iaload, 1) := by decide +kernel
theorem ze_224_686 (hx : z_idx x g.1 = true) : z_T g d 224 686 ls (.int x :: .retAddr 99 :: st) h P = z_T g d 224 687 ls (.int (g.2 x.toNatClampNeg) :: st) h P := zt_script zi_224_686 hx
theorem zi_224_687 : z_ins 224 687 = some (.aload_n 3, 1) := by decide +kernel
theorem ze_224_687 : z_T g d 224 687 (v0 :: v1 :: v2 :: .ref a :: ls) st h P = z_T g d 224 688 (v0 :: v1 :: v2 :: .ref a :: ls) (.ref a :: st) h P := zt_aloadn zi_224_687 rfl rfl
theorem zi_224_688 : z_ins 224 688 = some (.invokestatic 129, 3) := by decide +kernel
theorem ze_224_688 : z_T g d 224 688 ls (.ref a3 :: .int x2 :: .int x1 :: .ref a0 :: st) h P = ((z_okS 8 st = true ∧ 0 < d) ∧ z_Ca g (d - 1) 208 [.ref a0, .int x1, .int x2, .ref a3] h (fun r => z_k r (fun v h' => z_T g d 224 691 ls (z_push v st) h' P) P)) := zt_callS0 (as := [.ref a0, .int x1, .int x2, .ref a3]) zi_224_688 ((congrArg (fun o => z_lookup z_prs (o, 129)) zo_224).trans zp_LatinRectanglesLaw_129) ((congrArg (fun o => z_clk o 129) zo_224).trans zk_LatinRectanglesLaw_129) zh_224 rfl rfl rfl
theorem zi_224_691 : z_ins 224 691 = some (.istore 5, 2) := by decide +kernel
theorem ze_224_691 : z_T g d 224 691 (v0 :: v1 :: v2 :: v3 :: v4 :: v5 :: ls) (.int x :: st) h P = z_T g d 224 693 (v0 :: v1 :: v2 :: v3 :: v4 :: .int x :: ls) st h P := zt_istore zi_224_691 (Nat.le_add_left 6 _)
theorem zi_224_693 : z_ins 224 693 = some (.aload_n 2, 1) := by decide +kernel
theorem ze_224_693 : z_T g d 224 693 (v0 :: v1 :: .ref a :: ls) st h P = z_T g d 224 694 (v0 :: v1 :: .ref a :: ls) (.ref a :: st) h P := zt_aloadn zi_224_693 rfl rfl
theorem zi_224_694 : z_ins 224 694 = some (.aload_n 0, 1) := by decide +kernel
theorem ze_224_694 : z_T g d 224 694 (.retAddr b :: ls) st h P = z_T g d 224 695 (.retAddr b :: ls) (.retAddr b :: st) h P := zt_aloadnS zi_224_694 rfl rfl
theorem zi_224_695 : z_ins 224 695 = some (.iload 4, 2) := by decide +kernel
theorem ze_224_695 : z_T g d 224 695 (v0 :: v1 :: v2 :: v3 :: .int x :: ls) st h P = z_T g d 224 697 (v0 :: v1 :: v2 :: v3 :: .int x :: ls) (.int x :: st) h P := zt_iload zi_224_695 rfl
theorem zi_224_697 : z_ins 224 697 = some (.iconst 1, 1) := by decide +kernel
theorem ze_224_697 : z_T g d 224 697 ls st h P = z_T g d 224 698 ls (.int (nI 1) :: st) h P := zt_iconst zi_224_697 rfl
theorem zi_224_698 : z_ins 224 698 = some (.iadd, 1) := by decide +kernel
theorem ze_224_698 : z_T g d 224 698 ls (.int y :: .int x :: st) h P = z_T g d 224 699 ls (.int (x + y) :: st) h P := zt_bin (f := fun x y => x + y) zi_224_698 rfl (fun _ _ _ => rfl)
theorem zi_224_699 : z_ins 224 699 = some (.iaload, 1) := by decide +kernel
theorem ze_224_699 (hx : z_idx x g.1 = true) : z_T g d 224 699 ls (.int x :: .retAddr 99 :: st) h P = z_T g d 224 700 ls (.int (g.2 x.toNatClampNeg) :: st) h P := zt_script zi_224_699 hx
theorem zi_224_700 : z_ins 224 700 = some (.aload_n 0, 1) := by decide +kernel
theorem ze_224_700 : z_T g d 224 700 (.retAddr b :: ls) st h P = z_T g d 224 701 (.retAddr b :: ls) (.retAddr b :: st) h P := zt_aloadnS zi_224_700 rfl rfl
theorem zi_224_701 : z_ins 224 701 = some (.iload 4, 2) := by decide +kernel
theorem ze_224_701 : z_T g d 224 701 (v0 :: v1 :: v2 :: v3 :: .int x :: ls) st h P = z_T g d 224 703 (v0 :: v1 :: v2 :: v3 :: .int x :: ls) (.int x :: st) h P := zt_iload zi_224_701 rfl
theorem zi_224_703 : z_ins 224 703 = some (.iconst 2, 1) := by decide +kernel
theorem ze_224_703 : z_T g d 224 703 ls st h P = z_T g d 224 704 ls (.int (nI 2) :: st) h P := zt_iconst zi_224_703 rfl
theorem zi_224_704 : z_ins 224 704 = some (.iadd, 1) := by decide +kernel
theorem ze_224_704 : z_T g d 224 704 ls (.int y :: .int x :: st) h P = z_T g d 224 705 ls (.int (x + y) :: st) h P := zt_bin (f := fun x y => x + y) zi_224_704 rfl (fun _ _ _ => rfl)
theorem zi_224_705 : z_ins 224 705 = some (.iaload, 1) := by decide +kernel
theorem ze_224_705 (hx : z_idx x g.1 = true) : z_T g d 224 705 ls (.int x :: .retAddr 99 :: st) h P = z_T g d 224 706 ls (.int (g.2 x.toNatClampNeg) :: st) h P := zt_script zi_224_705 hx
theorem zi_224_706 : z_ins 224 706 = some (.invokevirtual 131, 3) := by decide +kernel
theorem ze_224_706 : z_T g d 224 706 ls (.int x1 :: .int x0 :: .ref a :: st) h P = ((z_okS 8 st = true ∧ z_gO h.1 a 10 ∧ 0 < d) ∧ z_Ca g (d - 1) 163 [.ref a, .int x0, .int x1] h (fun r => z_k r (fun v h' => z_T g d 224 709 ls (z_push v st) h' P) P)) := zt_callV (as := [.int x0, .int x1]) zi_224_706 ((congrArg (fun o => z_lookup z_prs (o, 131)) zo_224).trans zp_LatinRectanglesLaw_131) ((congrArg (fun o => z_clk o 131) zo_224).trans zk_LatinRectanglesLaw_131) zh_224 zc_163 rfl rfl rfl
theorem zi_224_709 : z_ins 224 709 = some (.istore 6, 2) := by decide +kernel
theorem ze_224_709 : z_T g d 224 709 (v0 :: v1 :: v2 :: v3 :: v4 :: v5 :: v6 :: ls) (.int x :: st) h P = z_T g d 224 711 (v0 :: v1 :: v2 :: v3 :: v4 :: v5 :: .int x :: ls) st h P := zt_istore zi_224_709 (Nat.le_add_left 7 _)
theorem zi_224_711 : z_ins 224 711 = some (.aload_n 2, 1) := by decide +kernel
theorem ze_224_711 : z_T g d 224 711 (v0 :: v1 :: .ref a :: ls) st h P = z_T g d 224 712 (v0 :: v1 :: .ref a :: ls) (.ref a :: st) h P := zt_aloadn zi_224_711 rfl rfl
theorem zi_224_712 : z_ins 224 712 = some (.invokevirtual 101, 3) := by decide +kernel
theorem ze_224_712 : z_T g d 224 712 ls (.ref a :: st) h P = ((z_okS 8 st = true ∧ z_gO h.1 a 10 ∧ 0 < d) ∧ z_Ca g (d - 1) 121 [.ref a] h (fun r => z_k r (fun v h' => z_T g d 224 715 ls (z_push v st) h' P) P)) := zt_callV (as := []) zi_224_712 ((congrArg (fun o => z_lookup z_prs (o, 101)) zo_224).trans zp_LatinRectanglesLaw_101) ((congrArg (fun o => z_clk o 101) zo_224).trans zk_LatinRectanglesLaw_101) zh_224 zc_121 rfl rfl rfl
theorem zi_224_715 : z_ins 224 715 = some (.iload 5, 2) := by decide +kernel
theorem ze_224_715 : z_T g d 224 715 (v0 :: v1 :: v2 :: v3 :: v4 :: .int x :: ls) st h P = z_T g d 224 717 (v0 :: v1 :: v2 :: v3 :: v4 :: .int x :: ls) (.int x :: st) h P := zt_iload zi_224_715 rfl
theorem zi_224_717 : z_ins 224 717 = some (.if_icmp .eq 5, 3) := by decide +kernel
theorem ze_224_717 : z_T g d 224 717 ls (.int y :: .int x :: st) h P = (if x = y then z_T g d 224 722 ls st h P else z_T g d 224 720 ls st h P) := zt_icmpeq zi_224_717 (by decide)
theorem zi_224_720 : z_ins 224 720 = some (.iconst 0, 1) := by decide +kernel
theorem ze_224_720 : z_T g d 224 720 ls st h P = z_T g d 224 721 ls (.int (nI 0) :: st) h P := zt_iconst zi_224_720 rfl
theorem zi_224_721 : z_ins 224 721 = some (.ireturn, 1) := by decide +kernel
theorem ze_224_721 : z_T g d 224 721 ls [.int x] h P = ((x = nI 0 ∨ x = nI 1) ∧ P (.inr (some (.int x)), h)) := zt_zreturn zi_224_721 zr_224
theorem zi_224_722 : z_ins 224 722 = some (.iload 5, 2) := by decide +kernel
theorem ze_224_722 : z_T g d 224 722 (v0 :: v1 :: v2 :: v3 :: v4 :: .int x :: ls) st h P = z_T g d 224 724 (v0 :: v1 :: v2 :: v3 :: v4 :: .int x :: ls) (.int x :: st) h P := zt_iload zi_224_722 rfl
theorem zi_224_724 : z_ins 224 724 = some (.ifCond .ne 15, 3) := by decide +kernel
theorem ze_224_724 : z_T g d 224 724 ls (.int x :: st) h P = (if x = nI 0 then z_T g d 224 727 ls st h P else z_T g d 224 739 ls st h P) := zt_ifne zi_224_724 (by decide)
theorem zi_224_727 : z_ins 224 727 = some (.aload_n 3, 1) := by decide +kernel
theorem ze_224_727 : z_T g d 224 727 (v0 :: v1 :: v2 :: .ref a :: ls) st h P = z_T g d 224 728 (v0 :: v1 :: v2 :: .ref a :: ls) (.ref a :: st) h P := zt_aloadn zi_224_727 rfl rfl
theorem zi_224_728 : z_ins 224 728 = some (.iconst 0, 1) := by decide +kernel
theorem ze_224_728 : z_T g d 224 728 ls st h P = z_T g d 224 729 ls (.int (nI 0) :: st) h P := zt_iconst zi_224_728 rfl
theorem zi_224_729 : z_ins 224 729 = some (.laload, 1) := by decide +kernel
theorem ze_224_729 : z_T g d 224 729 ls (.int x :: .ref a :: st) h P = z_lL h.1 a x (fun v => z_T g d 224 730 ls (.long v :: st) h P) := zt_laload zi_224_729
theorem zi_224_730 : z_ins 224 730 = some (.iload 6, 2) := by decide +kernel
theorem ze_224_730 : z_T g d 224 730 (v0 :: v1 :: v2 :: v3 :: v4 :: v5 :: .int x :: ls) st h P = z_T g d 224 732 (v0 :: v1 :: v2 :: v3 :: v4 :: v5 :: .int x :: ls) (.int x :: st) h P := zt_iload zi_224_730 rfl
theorem zi_224_732 : z_ins 224 732 = some (.i2l, 1) := by decide +kernel
theorem ze_224_732 : z_T g d 224 732 ls (.int x :: st) h P = z_T g d 224 733 ls (.long x.toInt64 :: st) h P := zt_i2l zi_224_732
theorem zi_224_733 : z_ins 224 733 = some (.lcmp, 1) := by decide +kernel
theorem ze_224_733 : z_T g d 224 733 ls (.long w :: .long u :: st) h P = z_T g d 224 734 ls (.int (lg_cmp u w) :: st) h P := zt_lcmp zi_224_733
theorem zi_224_734 : z_ins 224 734 = some (.ifCond .eq 5, 3) := by decide +kernel
theorem ze_224_734 : z_T g d 224 734 ls (.int x :: st) h P = (if x = nI 0 then z_T g d 224 739 ls st h P else z_T g d 224 737 ls st h P) := zt_ifeq zi_224_734 (by decide)
theorem zi_224_737 : z_ins 224 737 = some (.iconst 0, 1) := by decide +kernel
theorem ze_224_737 : z_T g d 224 737 ls st h P = z_T g d 224 738 ls (.int (nI 0) :: st) h P := zt_iconst zi_224_737 rfl
theorem zi_224_738 : z_ins 224 738 = some (.ireturn, 1) := by decide +kernel
theorem ze_224_738 : z_T g d 224 738 ls [.int x] h P = ((x = nI 0 ∨ x = nI 1) ∧ P (.inr (some (.int x)), h)) := zt_zreturn zi_224_738 zr_224
theorem zi_224_739 : z_ins 224 739 = some (.goto 1104, 3) := by decide +kernel
theorem ze_224_739 : z_T g d 224 739 ls st h P = z_T g d 224 1843 ls st h P := zt_goto zi_224_739 (by decide)
theorem zi_224_742 : z_ins 224 742 = some (.aload_n 1, 1) := by decide +kernel
theorem ze_224_742 : z_T g d 224 742 (v0 :: .ref a :: ls) st h P = z_T g d 224 743 (v0 :: .ref a :: ls) (.ref a :: st) h P := zt_aloadn zi_224_742 rfl rfl
theorem zi_224_743 : z_ins 224 743 = some (.aload_n 0, 1) := by decide +kernel
theorem ze_224_743 : z_T g d 224 743 (.retAddr b :: ls) st h P = z_T g d 224 744 (.retAddr b :: ls) (.retAddr b :: st) h P := zt_aloadnS zi_224_743 rfl rfl
theorem zi_224_744 : z_ins 224 744 = some (.iload 4, 2) := by decide +kernel
theorem ze_224_744 : z_T g d 224 744 (v0 :: v1 :: v2 :: v3 :: .int x :: ls) st h P = z_T g d 224 746 (v0 :: v1 :: v2 :: v3 :: .int x :: ls) (.int x :: st) h P := zt_iload zi_224_744 rfl
theorem zi_224_746 : z_ins 224 746 = some (.iconst 1, 1) := by decide +kernel
theorem ze_224_746 : z_T g d 224 746 ls st h P = z_T g d 224 747 ls (.int (nI 1) :: st) h P := zt_iconst zi_224_746 rfl
theorem zi_224_747 : z_ins 224 747 = some (.iadd, 1) := by decide +kernel
theorem ze_224_747 : z_T g d 224 747 ls (.int y :: .int x :: st) h P = z_T g d 224 748 ls (.int (x + y) :: st) h P := zt_bin (f := fun x y => x + y) zi_224_747 rfl (fun _ _ _ => rfl)
theorem zi_224_748 : z_ins 224 748 = some (.iaload, 1) := by decide +kernel
theorem ze_224_748 (hx : z_idx x g.1 = true) : z_T g d 224 748 ls (.int x :: .retAddr 99 :: st) h P = z_T g d 224 749 ls (.int (g.2 x.toNatClampNeg) :: st) h P := zt_script zi_224_748 hx
theorem zi_224_749 : z_ins 224 749 = some (.invokevirtual 132, 3) := by decide +kernel
theorem ze_224_749 : z_T g d 224 749 ls (.int x0 :: .ref a :: st) h P = ((z_okS 8 st = true ∧ z_gO h.1 a 9 ∧ 0 < d) ∧ z_Ca g (d - 1) 90 [.ref a, .int x0] h (fun r => z_k r (fun v h' => z_T g d 224 752 ls (z_push v st) h' P) P)) := zt_callV (as := [.int x0]) zi_224_749 ((congrArg (fun o => z_lookup z_prs (o, 132)) zo_224).trans zp_LatinRectanglesLaw_132) ((congrArg (fun o => z_clk o 132) zo_224).trans zk_LatinRectanglesLaw_132) zh_224 zc_90 rfl rfl rfl
theorem zi_224_752 : z_ins 224 752 = some (.aload_n 2, 1) := by decide +kernel
theorem ze_224_752 : z_T g d 224 752 (v0 :: v1 :: .ref a :: ls) st h P = z_T g d 224 753 (v0 :: v1 :: .ref a :: ls) (.ref a :: st) h P := zt_aloadn zi_224_752 rfl rfl
theorem zi_224_753 : z_ins 224 753 = some (.aload_n 0, 1) := by decide +kernel
theorem ze_224_753 : z_T g d 224 753 (.retAddr b :: ls) st h P = z_T g d 224 754 (.retAddr b :: ls) (.retAddr b :: st) h P := zt_aloadnS zi_224_753 rfl rfl
theorem zi_224_754 : z_ins 224 754 = some (.iload 4, 2) := by decide +kernel
theorem ze_224_754 : z_T g d 224 754 (v0 :: v1 :: v2 :: v3 :: .int x :: ls) st h P = z_T g d 224 756 (v0 :: v1 :: v2 :: v3 :: .int x :: ls) (.int x :: st) h P := zt_iload zi_224_754 rfl
theorem zi_224_756 : z_ins 224 756 = some (.iconst 1, 1) := by decide +kernel
theorem ze_224_756 : z_T g d 224 756 ls st h P = z_T g d 224 757 ls (.int (nI 1) :: st) h P := zt_iconst zi_224_756 rfl
theorem zi_224_757 : z_ins 224 757 = some (.iadd, 1) := by decide +kernel
theorem ze_224_757 : z_T g d 224 757 ls (.int y :: .int x :: st) h P = z_T g d 224 758 ls (.int (x + y) :: st) h P := zt_bin (f := fun x y => x + y) zi_224_757 rfl (fun _ _ _ => rfl)
theorem zi_224_758 : z_ins 224 758 = some (.iaload, 1) := by decide +kernel
theorem ze_224_758 (hx : z_idx x g.1 = true) : z_T g d 224 758 ls (.int x :: .retAddr 99 :: st) h P = z_T g d 224 759 ls (.int (g.2 x.toNatClampNeg) :: st) h P := zt_script zi_224_758 hx
theorem zi_224_759 : z_ins 224 759 = some (.invokevirtual 135, 3) := by decide +kernel
theorem ze_224_759 : z_T g d 224 759 ls (.int x0 :: .ref a :: st) h P = ((z_okS 8 st = true ∧ z_gO h.1 a 10 ∧ 0 < d) ∧ z_Ca g (d - 1) 165 [.ref a, .int x0] h (fun r => z_k r (fun v h' => z_T g d 224 762 ls (z_push v st) h' P) P)) := zt_callV (as := [.int x0]) zi_224_759 ((congrArg (fun o => z_lookup z_prs (o, 135)) zo_224).trans zp_LatinRectanglesLaw_135) ((congrArg (fun o => z_clk o 135) zo_224).trans zk_LatinRectanglesLaw_135) zh_224 zc_165 rfl rfl rfl
theorem zi_224_762 : z_ins 224 762 = some (.if_icmp .eq 1081, 3) := by decide +kernel
theorem ze_224_762 : z_T g d 224 762 ls (.int y :: .int x :: st) h P = (if x = y then z_T g d 224 1843 ls st h P else z_T g d 224 765 ls st h P) := zt_icmpeq zi_224_762 (by decide)
theorem zi_224_765 : z_ins 224 765 = some (.iconst 0, 1) := by decide +kernel
theorem ze_224_765 : z_T g d 224 765 ls st h P = z_T g d 224 766 ls (.int (nI 0) :: st) h P := zt_iconst zi_224_765 rfl
theorem zi_224_766 : z_ins 224 766 = some (.ireturn, 1) := by decide +kernel
theorem ze_224_766 : z_T g d 224 766 ls [.int x] h P = ((x = nI 0 ∨ x = nI 1) ∧ P (.inr (some (.int x)), h)) := zt_zreturn zi_224_766 zr_224
theorem zi_224_767 : z_ins 224 767 = some (.aload_n 1, 1) := by decide +kernel
theorem ze_224_767 : z_T g d 224 767 (v0 :: .ref a :: ls) st h P = z_T g d 224 768 (v0 :: .ref a :: ls) (.ref a :: st) h P := zt_aloadn zi_224_767 rfl rfl
theorem zi_224_768 : z_ins 224 768 = some (.aload_n 0, 1) := by decide +kernel
theorem ze_224_768 : z_T g d 224 768 (.retAddr b :: ls) st h P = z_T g d 224 769 (.retAddr b :: ls) (.retAddr b :: st) h P := zt_aloadnS zi_224_768 rfl rfl
theorem zi_224_769 : z_ins 224 769 = some (.iload 4, 2) := by decide +kernel
theorem ze_224_769 : z_T g d 224 769 (v0 :: v1 :: v2 :: v3 :: .int x :: ls) st h P = z_T g d 224 771 (v0 :: v1 :: v2 :: v3 :: .int x :: ls) (.int x :: st) h P := zt_iload zi_224_769 rfl
theorem zi_224_771 : z_ins 224 771 = some (.iconst 1, 1) := by decide +kernel
theorem ze_224_771 : z_T g d 224 771 ls st h P = z_T g d 224 772 ls (.int (nI 1) :: st) h P := zt_iconst zi_224_771 rfl
theorem zi_224_772 : z_ins 224 772 = some (.iadd, 1) := by decide +kernel
theorem ze_224_772 : z_T g d 224 772 ls (.int y :: .int x :: st) h P = z_T g d 224 773 ls (.int (x + y) :: st) h P := zt_bin (f := fun x y => x + y) zi_224_772 rfl (fun _ _ _ => rfl)
theorem zi_224_773 : z_ins 224 773 = some (.iaload, 1) := by decide +kernel
theorem ze_224_773 (hx : z_idx x g.1 = true) : z_T g d 224 773 ls (.int x :: .retAddr 99 :: st) h P = z_T g d 224 774 ls (.int (g.2 x.toNatClampNeg) :: st) h P := zt_script zi_224_773 hx
theorem zi_224_774 : z_ins 224 774 = some (.invokevirtual 136, 3) := by decide +kernel
theorem ze_224_774 : z_T g d 224 774 ls (.int x0 :: .ref a :: st) h P = ((z_okS 8 st = true ∧ z_gO h.1 a 9 ∧ 0 < d) ∧ z_Ca g (d - 1) 91 [.ref a, .int x0] h (fun r => z_k r (fun v h' => z_T g d 224 777 ls (z_push v st) h' P) P)) := zt_callV (as := [.int x0]) zi_224_774 ((congrArg (fun o => z_lookup z_prs (o, 136)) zo_224).trans zp_LatinRectanglesLaw_136) ((congrArg (fun o => z_clk o 136) zo_224).trans zk_LatinRectanglesLaw_136) zh_224 zc_91 rfl rfl rfl
theorem zi_224_777 : z_ins 224 777 = some (.aload_n 2, 1) := by decide +kernel
theorem ze_224_777 : z_T g d 224 777 (v0 :: v1 :: .ref a :: ls) st h P = z_T g d 224 778 (v0 :: v1 :: .ref a :: ls) (.ref a :: st) h P := zt_aloadn zi_224_777 rfl rfl
theorem zi_224_778 : z_ins 224 778 = some (.aload_n 0, 1) := by decide +kernel
theorem ze_224_778 : z_T g d 224 778 (.retAddr b :: ls) st h P = z_T g d 224 779 (.retAddr b :: ls) (.retAddr b :: st) h P := zt_aloadnS zi_224_778 rfl rfl
theorem zi_224_779 : z_ins 224 779 = some (.iload 4, 2) := by decide +kernel
theorem ze_224_779 : z_T g d 224 779 (v0 :: v1 :: v2 :: v3 :: .int x :: ls) st h P = z_T g d 224 781 (v0 :: v1 :: v2 :: v3 :: .int x :: ls) (.int x :: st) h P := zt_iload zi_224_779 rfl
theorem zi_224_781 : z_ins 224 781 = some (.iconst 1, 1) := by decide +kernel
theorem ze_224_781 : z_T g d 224 781 ls st h P = z_T g d 224 782 ls (.int (nI 1) :: st) h P := zt_iconst zi_224_781 rfl
theorem zi_224_782 : z_ins 224 782 = some (.iadd, 1) := by decide +kernel
theorem ze_224_782 : z_T g d 224 782 ls (.int y :: .int x :: st) h P = z_T g d 224 783 ls (.int (x + y) :: st) h P := zt_bin (f := fun x y => x + y) zi_224_782 rfl (fun _ _ _ => rfl)
theorem zi_224_783 : z_ins 224 783 = some (.iaload, 1) := by decide +kernel
theorem ze_224_783 (hx : z_idx x g.1 = true) : z_T g d 224 783 ls (.int x :: .retAddr 99 :: st) h P = z_T g d 224 784 ls (.int (g.2 x.toNatClampNeg) :: st) h P := zt_script zi_224_783 hx
theorem zi_224_784 : z_ins 224 784 = some (.invokevirtual 139, 3) := by decide +kernel
theorem ze_224_784 : z_T g d 224 784 ls (.int x0 :: .ref a :: st) h P = ((z_okS 8 st = true ∧ z_gO h.1 a 10 ∧ 0 < d) ∧ z_Ca g (d - 1) 166 [.ref a, .int x0] h (fun r => z_k r (fun v h' => z_T g d 224 787 ls (z_push v st) h' P) P)) := zt_callV (as := [.int x0]) zi_224_784 ((congrArg (fun o => z_lookup z_prs (o, 139)) zo_224).trans zp_LatinRectanglesLaw_139) ((congrArg (fun o => z_clk o 139) zo_224).trans zk_LatinRectanglesLaw_139) zh_224 zc_166 rfl rfl rfl
theorem zi_224_787 : z_ins 224 787 = some (.if_icmp .eq 1056, 3) := by decide +kernel
theorem ze_224_787 : z_T g d 224 787 ls (.int y :: .int x :: st) h P = (if x = y then z_T g d 224 1843 ls st h P else z_T g d 224 790 ls st h P) := zt_icmpeq zi_224_787 (by decide)
theorem zi_224_790 : z_ins 224 790 = some (.iconst 0, 1) := by decide +kernel
theorem ze_224_790 : z_T g d 224 790 ls st h P = z_T g d 224 791 ls (.int (nI 0) :: st) h P := zt_iconst zi_224_790 rfl
theorem zi_224_791 : z_ins 224 791 = some (.ireturn, 1) := by decide +kernel
theorem ze_224_791 : z_T g d 224 791 ls [.int x] h P = ((x = nI 0 ∨ x = nI 1) ∧ P (.inr (some (.int x)), h)) := zt_zreturn zi_224_791 zr_224
theorem zi_224_792 : z_ins 224 792 = some (.aload_n 1, 1) := by decide +kernel
theorem ze_224_792 : z_T g d 224 792 (v0 :: .ref a :: ls) st h P = z_T g d 224 793 (v0 :: .ref a :: ls) (.ref a :: st) h P := zt_aloadn zi_224_792 rfl rfl
theorem zi_224_793 : z_ins 224 793 = some (.aload_n 0, 1) := by decide +kernel
theorem ze_224_793 : z_T g d 224 793 (.retAddr b :: ls) st h P = z_T g d 224 794 (.retAddr b :: ls) (.retAddr b :: st) h P := zt_aloadnS zi_224_793 rfl rfl
theorem zi_224_794 : z_ins 224 794 = some (.iload 4, 2) := by decide +kernel
theorem ze_224_794 : z_T g d 224 794 (v0 :: v1 :: v2 :: v3 :: .int x :: ls) st h P = z_T g d 224 796 (v0 :: v1 :: v2 :: v3 :: .int x :: ls) (.int x :: st) h P := zt_iload zi_224_794 rfl
theorem zi_224_796 : z_ins 224 796 = some (.iconst 1, 1) := by decide +kernel
theorem ze_224_796 : z_T g d 224 796 ls st h P = z_T g d 224 797 ls (.int (nI 1) :: st) h P := zt_iconst zi_224_796 rfl
theorem zi_224_797 : z_ins 224 797 = some (.iadd, 1) := by decide +kernel
theorem ze_224_797 : z_T g d 224 797 ls (.int y :: .int x :: st) h P = z_T g d 224 798 ls (.int (x + y) :: st) h P := zt_bin (f := fun x y => x + y) zi_224_797 rfl (fun _ _ _ => rfl)
theorem zi_224_798 : z_ins 224 798 = some (.iaload, 1) := by decide +kernel
theorem ze_224_798 (hx : z_idx x g.1 = true) : z_T g d 224 798 ls (.int x :: .retAddr 99 :: st) h P = z_T g d 224 799 ls (.int (g.2 x.toNatClampNeg) :: st) h P := zt_script zi_224_798 hx
theorem zi_224_799 : z_ins 224 799 = some (.aload_n 3, 1) := by decide +kernel
theorem ze_224_799 : z_T g d 224 799 (v0 :: v1 :: v2 :: .ref a :: ls) st h P = z_T g d 224 800 (v0 :: v1 :: v2 :: .ref a :: ls) (.ref a :: st) h P := zt_aloadn zi_224_799 rfl rfl
theorem zi_224_800 : z_ins 224 800 = some (.invokestatic 140, 3) := by decide +kernel
theorem ze_224_800 : z_T g d 224 800 ls (.ref a2 :: .int x1 :: .ref a0 :: st) h P = ((z_okS 8 st = true ∧ 0 < d) ∧ z_Ca g (d - 1) 209 [.ref a0, .int x1, .ref a2] h (fun r => z_k r (fun v h' => z_T g d 224 803 ls (z_push v st) h' P) P)) := zt_callS0 (as := [.ref a0, .int x1, .ref a2]) zi_224_800 ((congrArg (fun o => z_lookup z_prs (o, 140)) zo_224).trans zp_LatinRectanglesLaw_140) ((congrArg (fun o => z_clk o 140) zo_224).trans zk_LatinRectanglesLaw_140) zh_224 rfl rfl rfl
theorem zi_224_803 : z_ins 224 803 = some (.istore 5, 2) := by decide +kernel
theorem ze_224_803 : z_T g d 224 803 (v0 :: v1 :: v2 :: v3 :: v4 :: v5 :: ls) (.int x :: st) h P = z_T g d 224 805 (v0 :: v1 :: v2 :: v3 :: v4 :: .int x :: ls) st h P := zt_istore zi_224_803 (Nat.le_add_left 6 _)
theorem zi_224_805 : z_ins 224 805 = some (.aload_n 2, 1) := by decide +kernel
theorem ze_224_805 : z_T g d 224 805 (v0 :: v1 :: .ref a :: ls) st h P = z_T g d 224 806 (v0 :: v1 :: .ref a :: ls) (.ref a :: st) h P := zt_aloadn zi_224_805 rfl rfl
theorem zi_224_806 : z_ins 224 806 = some (.aload_n 0, 1) := by decide +kernel
theorem ze_224_806 : z_T g d 224 806 (.retAddr b :: ls) st h P = z_T g d 224 807 (.retAddr b :: ls) (.retAddr b :: st) h P := zt_aloadnS zi_224_806 rfl rfl
theorem zi_224_807 : z_ins 224 807 = some (.iload 4, 2) := by decide +kernel
theorem ze_224_807 : z_T g d 224 807 (v0 :: v1 :: v2 :: v3 :: .int x :: ls) st h P = z_T g d 224 809 (v0 :: v1 :: v2 :: v3 :: .int x :: ls) (.int x :: st) h P := zt_iload zi_224_807 rfl
theorem zi_224_809 : z_ins 224 809 = some (.iconst 1, 1) := by decide +kernel
theorem ze_224_809 : z_T g d 224 809 ls st h P = z_T g d 224 810 ls (.int (nI 1) :: st) h P := zt_iconst zi_224_809 rfl
theorem zi_224_810 : z_ins 224 810 = some (.iadd, 1) := by decide +kernel
theorem ze_224_810 : z_T g d 224 810 ls (.int y :: .int x :: st) h P = z_T g d 224 811 ls (.int (x + y) :: st) h P := zt_bin (f := fun x y => x + y) zi_224_810 rfl (fun _ _ _ => rfl)
theorem zi_224_811 : z_ins 224 811 = some (.iaload, 1) := by decide +kernel
theorem ze_224_811 (hx : z_idx x g.1 = true) : z_T g d 224 811 ls (.int x :: .retAddr 99 :: st) h P = z_T g d 224 812 ls (.int (g.2 x.toNatClampNeg) :: st) h P := zt_script zi_224_811 hx
theorem zi_224_812 : z_ins 224 812 = some (.invokevirtual 142, 3) := by decide +kernel
theorem ze_224_812 : z_T g d 224 812 ls (.int x0 :: .ref a :: st) h P = ((z_okS 8 st = true ∧ z_gO h.1 a 10 ∧ 0 < d) ∧ z_Ca g (d - 1) 168 [.ref a, .int x0] h (fun r => z_k r (fun v h' => z_T g d 224 815 ls (z_push v st) h' P) P)) := zt_callV (as := [.int x0]) zi_224_812 ((congrArg (fun o => z_lookup z_prs (o, 142)) zo_224).trans zp_LatinRectanglesLaw_142) ((congrArg (fun o => z_clk o 142) zo_224).trans zk_LatinRectanglesLaw_142) zh_224 zc_168 rfl rfl rfl
theorem zi_224_815 : z_ins 224 815 = some (.istore 6, 2) := by decide +kernel
theorem ze_224_815 : z_T g d 224 815 (v0 :: v1 :: v2 :: v3 :: v4 :: v5 :: v6 :: ls) (.int x :: st) h P = z_T g d 224 817 (v0 :: v1 :: v2 :: v3 :: v4 :: v5 :: .int x :: ls) st h P := zt_istore zi_224_815 (Nat.le_add_left 7 _)
theorem zi_224_817 : z_ins 224 817 = some (.aload_n 2, 1) := by decide +kernel
theorem ze_224_817 : z_T g d 224 817 (v0 :: v1 :: .ref a :: ls) st h P = z_T g d 224 818 (v0 :: v1 :: .ref a :: ls) (.ref a :: st) h P := zt_aloadn zi_224_817 rfl rfl
theorem zi_224_818 : z_ins 224 818 = some (.invokevirtual 101, 3) := by decide +kernel
theorem ze_224_818 : z_T g d 224 818 ls (.ref a :: st) h P = ((z_okS 8 st = true ∧ z_gO h.1 a 10 ∧ 0 < d) ∧ z_Ca g (d - 1) 121 [.ref a] h (fun r => z_k r (fun v h' => z_T g d 224 821 ls (z_push v st) h' P) P)) := zt_callV (as := []) zi_224_818 ((congrArg (fun o => z_lookup z_prs (o, 101)) zo_224).trans zp_LatinRectanglesLaw_101) ((congrArg (fun o => z_clk o 101) zo_224).trans zk_LatinRectanglesLaw_101) zh_224 zc_121 rfl rfl rfl
theorem zi_224_821 : z_ins 224 821 = some (.iload 5, 2) := by decide +kernel
theorem ze_224_821 : z_T g d 224 821 (v0 :: v1 :: v2 :: v3 :: v4 :: .int x :: ls) st h P = z_T g d 224 823 (v0 :: v1 :: v2 :: v3 :: v4 :: .int x :: ls) (.int x :: st) h P := zt_iload zi_224_821 rfl
theorem zi_224_823 : z_ins 224 823 = some (.if_icmp .eq 5, 3) := by decide +kernel
theorem ze_224_823 : z_T g d 224 823 ls (.int y :: .int x :: st) h P = (if x = y then z_T g d 224 828 ls st h P else z_T g d 224 826 ls st h P) := zt_icmpeq zi_224_823 (by decide)
theorem zi_224_826 : z_ins 224 826 = some (.iconst 0, 1) := by decide +kernel
theorem ze_224_826 : z_T g d 224 826 ls st h P = z_T g d 224 827 ls (.int (nI 0) :: st) h P := zt_iconst zi_224_826 rfl
theorem zi_224_827 : z_ins 224 827 = some (.ireturn, 1) := by decide +kernel
theorem ze_224_827 : z_T g d 224 827 ls [.int x] h P = ((x = nI 0 ∨ x = nI 1) ∧ P (.inr (some (.int x)), h)) := zt_zreturn zi_224_827 zr_224
theorem zi_224_828 : z_ins 224 828 = some (.iload 5, 2) := by decide +kernel
theorem ze_224_828 : z_T g d 224 828 (v0 :: v1 :: v2 :: v3 :: v4 :: .int x :: ls) st h P = z_T g d 224 830 (v0 :: v1 :: v2 :: v3 :: v4 :: .int x :: ls) (.int x :: st) h P := zt_iload zi_224_828 rfl
theorem zi_224_830 : z_ins 224 830 = some (.ifCond .ne 15, 3) := by decide +kernel
theorem ze_224_830 : z_T g d 224 830 ls (.int x :: st) h P = (if x = nI 0 then z_T g d 224 833 ls st h P else z_T g d 224 845 ls st h P) := zt_ifne zi_224_830 (by decide)
theorem zi_224_833 : z_ins 224 833 = some (.aload_n 3, 1) := by decide +kernel
theorem ze_224_833 : z_T g d 224 833 (v0 :: v1 :: v2 :: .ref a :: ls) st h P = z_T g d 224 834 (v0 :: v1 :: v2 :: .ref a :: ls) (.ref a :: st) h P := zt_aloadn zi_224_833 rfl rfl
theorem zi_224_834 : z_ins 224 834 = some (.iconst 0, 1) := by decide +kernel
theorem ze_224_834 : z_T g d 224 834 ls st h P = z_T g d 224 835 ls (.int (nI 0) :: st) h P := zt_iconst zi_224_834 rfl
theorem zi_224_835 : z_ins 224 835 = some (.laload, 1) := by decide +kernel
theorem ze_224_835 : z_T g d 224 835 ls (.int x :: .ref a :: st) h P = z_lL h.1 a x (fun v => z_T g d 224 836 ls (.long v :: st) h P) := zt_laload zi_224_835
theorem zi_224_836 : z_ins 224 836 = some (.iload 6, 2) := by decide +kernel
theorem ze_224_836 : z_T g d 224 836 (v0 :: v1 :: v2 :: v3 :: v4 :: v5 :: .int x :: ls) st h P = z_T g d 224 838 (v0 :: v1 :: v2 :: v3 :: v4 :: v5 :: .int x :: ls) (.int x :: st) h P := zt_iload zi_224_836 rfl
theorem zi_224_838 : z_ins 224 838 = some (.i2l, 1) := by decide +kernel
theorem ze_224_838 : z_T g d 224 838 ls (.int x :: st) h P = z_T g d 224 839 ls (.long x.toInt64 :: st) h P := zt_i2l zi_224_838
theorem zi_224_839 : z_ins 224 839 = some (.lcmp, 1) := by decide +kernel
theorem ze_224_839 : z_T g d 224 839 ls (.long w :: .long u :: st) h P = z_T g d 224 840 ls (.int (lg_cmp u w) :: st) h P := zt_lcmp zi_224_839
theorem zi_224_840 : z_ins 224 840 = some (.ifCond .eq 5, 3) := by decide +kernel
theorem ze_224_840 : z_T g d 224 840 ls (.int x :: st) h P = (if x = nI 0 then z_T g d 224 845 ls st h P else z_T g d 224 843 ls st h P) := zt_ifeq zi_224_840 (by decide)
theorem zi_224_843 : z_ins 224 843 = some (.iconst 0, 1) := by decide +kernel
theorem ze_224_843 : z_T g d 224 843 ls st h P = z_T g d 224 844 ls (.int (nI 0) :: st) h P := zt_iconst zi_224_843 rfl
theorem zi_224_844 : z_ins 224 844 = some (.ireturn, 1) := by decide +kernel
theorem ze_224_844 : z_T g d 224 844 ls [.int x] h P = ((x = nI 0 ∨ x = nI 1) ∧ P (.inr (some (.int x)), h)) := zt_zreturn zi_224_844 zr_224
theorem zi_224_845 : z_ins 224 845 = some (.goto 998, 3) := by decide +kernel
theorem ze_224_845 : z_T g d 224 845 ls st h P = z_T g d 224 1843 ls st h P := zt_goto zi_224_845 (by decide)
theorem zi_224_848 : z_ins 224 848 = some (.aload_n 1, 1) := by decide +kernel
theorem ze_224_848 : z_T g d 224 848 (v0 :: .ref a :: ls) st h P = z_T g d 224 849 (v0 :: .ref a :: ls) (.ref a :: st) h P := zt_aloadn zi_224_848 rfl rfl
theorem zi_224_849 : z_ins 224 849 = some (.aload_n 0, 1) := by decide +kernel
theorem ze_224_849 : z_T g d 224 849 (.retAddr b :: ls) st h P = z_T g d 224 850 (.retAddr b :: ls) (.retAddr b :: st) h P := zt_aloadnS zi_224_849 rfl rfl
theorem zi_224_850 : z_ins 224 850 = some (.iload 4, 2) := by decide +kernel
theorem ze_224_850 : z_T g d 224 850 (v0 :: v1 :: v2 :: v3 :: .int x :: ls) st h P = z_T g d 224 852 (v0 :: v1 :: v2 :: v3 :: .int x :: ls) (.int x :: st) h P := zt_iload zi_224_850 rfl
theorem zi_224_852 : z_ins 224 852 = some (.iconst 1, 1) := by decide +kernel
theorem ze_224_852 : z_T g d 224 852 ls st h P = z_T g d 224 853 ls (.int (nI 1) :: st) h P := zt_iconst zi_224_852 rfl
theorem zi_224_853 : z_ins 224 853 = some (.iadd, 1) := by decide +kernel
theorem ze_224_853 : z_T g d 224 853 ls (.int y :: .int x :: st) h P = z_T g d 224 854 ls (.int (x + y) :: st) h P := zt_bin (f := fun x y => x + y) zi_224_853 rfl (fun _ _ _ => rfl)
theorem zi_224_854 : z_ins 224 854 = some (.iaload, 1) := by decide +kernel
theorem ze_224_854 (hx : z_idx x g.1 = true) : z_T g d 224 854 ls (.int x :: .retAddr 99 :: st) h P = z_T g d 224 855 ls (.int (g.2 x.toNatClampNeg) :: st) h P := zt_script zi_224_854 hx
theorem zi_224_855 : z_ins 224 855 = some (.aload_n 0, 1) := by decide +kernel
theorem ze_224_855 : z_T g d 224 855 (.retAddr b :: ls) st h P = z_T g d 224 856 (.retAddr b :: ls) (.retAddr b :: st) h P := zt_aloadnS zi_224_855 rfl rfl
theorem zi_224_856 : z_ins 224 856 = some (.iload 4, 2) := by decide +kernel
theorem ze_224_856 : z_T g d 224 856 (v0 :: v1 :: v2 :: v3 :: .int x :: ls) st h P = z_T g d 224 858 (v0 :: v1 :: v2 :: v3 :: .int x :: ls) (.int x :: st) h P := zt_iload zi_224_856 rfl
theorem zi_224_858 : z_ins 224 858 = some (.iconst 2, 1) := by decide +kernel
theorem ze_224_858 : z_T g d 224 858 ls st h P = z_T g d 224 859 ls (.int (nI 2) :: st) h P := zt_iconst zi_224_858 rfl
theorem zi_224_859 : z_ins 224 859 = some (.iadd, 1) := by decide +kernel
theorem ze_224_859 : z_T g d 224 859 ls (.int y :: .int x :: st) h P = z_T g d 224 860 ls (.int (x + y) :: st) h P := zt_bin (f := fun x y => x + y) zi_224_859 rfl (fun _ _ _ => rfl)
theorem zi_224_860 : z_ins 224 860 = some (.iaload, 1) := by decide +kernel
theorem ze_224_860 (hx : z_idx x g.1 = true) : z_T g d 224 860 ls (.int x :: .retAddr 99 :: st) h P = z_T g d 224 861 ls (.int (g.2 x.toNatClampNeg) :: st) h P := zt_script zi_224_860 hx
theorem zi_224_861 : z_ins 224 861 = some (.aload_n 3, 1) := by decide +kernel
theorem ze_224_861 : z_T g d 224 861 (v0 :: v1 :: v2 :: .ref a :: ls) st h P = z_T g d 224 862 (v0 :: v1 :: v2 :: .ref a :: ls) (.ref a :: st) h P := zt_aloadn zi_224_861 rfl rfl
theorem zi_224_862 : z_ins 224 862 = some (.invokestatic 143, 3) := by decide +kernel
theorem ze_224_862 : z_T g d 224 862 ls (.ref a3 :: .int x2 :: .int x1 :: .ref a0 :: st) h P = ((z_okS 8 st = true ∧ 0 < d) ∧ z_Ca g (d - 1) 210 [.ref a0, .int x1, .int x2, .ref a3] h (fun r => z_k r (fun v h' => z_T g d 224 865 ls (z_push v st) h' P) P)) := zt_callS0 (as := [.ref a0, .int x1, .int x2, .ref a3]) zi_224_862 ((congrArg (fun o => z_lookup z_prs (o, 143)) zo_224).trans zp_LatinRectanglesLaw_143) ((congrArg (fun o => z_clk o 143) zo_224).trans zk_LatinRectanglesLaw_143) zh_224 rfl rfl rfl
theorem zi_224_865 : z_ins 224 865 = some (.istore 5, 2) := by decide +kernel
theorem ze_224_865 : z_T g d 224 865 (v0 :: v1 :: v2 :: v3 :: v4 :: v5 :: ls) (.int x :: st) h P = z_T g d 224 867 (v0 :: v1 :: v2 :: v3 :: v4 :: .int x :: ls) st h P := zt_istore zi_224_865 (Nat.le_add_left 6 _)
theorem zi_224_867 : z_ins 224 867 = some (.aload_n 2, 1) := by decide +kernel
theorem ze_224_867 : z_T g d 224 867 (v0 :: v1 :: .ref a :: ls) st h P = z_T g d 224 868 (v0 :: v1 :: .ref a :: ls) (.ref a :: st) h P := zt_aloadn zi_224_867 rfl rfl
theorem zi_224_868 : z_ins 224 868 = some (.aload_n 0, 1) := by decide +kernel
theorem ze_224_868 : z_T g d 224 868 (.retAddr b :: ls) st h P = z_T g d 224 869 (.retAddr b :: ls) (.retAddr b :: st) h P := zt_aloadnS zi_224_868 rfl rfl
theorem zi_224_869 : z_ins 224 869 = some (.iload 4, 2) := by decide +kernel
theorem ze_224_869 : z_T g d 224 869 (v0 :: v1 :: v2 :: v3 :: .int x :: ls) st h P = z_T g d 224 871 (v0 :: v1 :: v2 :: v3 :: .int x :: ls) (.int x :: st) h P := zt_iload zi_224_869 rfl
theorem zi_224_871 : z_ins 224 871 = some (.iconst 1, 1) := by decide +kernel
theorem ze_224_871 : z_T g d 224 871 ls st h P = z_T g d 224 872 ls (.int (nI 1) :: st) h P := zt_iconst zi_224_871 rfl
theorem zi_224_872 : z_ins 224 872 = some (.iadd, 1) := by decide +kernel
theorem ze_224_872 : z_T g d 224 872 ls (.int y :: .int x :: st) h P = z_T g d 224 873 ls (.int (x + y) :: st) h P := zt_bin (f := fun x y => x + y) zi_224_872 rfl (fun _ _ _ => rfl)
theorem zi_224_873 : z_ins 224 873 = some (.iaload, 1) := by decide +kernel
theorem ze_224_873 (hx : z_idx x g.1 = true) : z_T g d 224 873 ls (.int x :: .retAddr 99 :: st) h P = z_T g d 224 874 ls (.int (g.2 x.toNatClampNeg) :: st) h P := zt_script zi_224_873 hx
theorem zi_224_874 : z_ins 224 874 = some (.aload_n 0, 1) := by decide +kernel
theorem ze_224_874 : z_T g d 224 874 (.retAddr b :: ls) st h P = z_T g d 224 875 (.retAddr b :: ls) (.retAddr b :: st) h P := zt_aloadnS zi_224_874 rfl rfl
theorem zi_224_875 : z_ins 224 875 = some (.iload 4, 2) := by decide +kernel
theorem ze_224_875 : z_T g d 224 875 (v0 :: v1 :: v2 :: v3 :: .int x :: ls) st h P = z_T g d 224 877 (v0 :: v1 :: v2 :: v3 :: .int x :: ls) (.int x :: st) h P := zt_iload zi_224_875 rfl
theorem zi_224_877 : z_ins 224 877 = some (.iconst 2, 1) := by decide +kernel
theorem ze_224_877 : z_T g d 224 877 ls st h P = z_T g d 224 878 ls (.int (nI 2) :: st) h P := zt_iconst zi_224_877 rfl
theorem zi_224_878 : z_ins 224 878 = some (.iadd, 1) := by decide +kernel
theorem ze_224_878 : z_T g d 224 878 ls (.int y :: .int x :: st) h P = z_T g d 224 879 ls (.int (x + y) :: st) h P := zt_bin (f := fun x y => x + y) zi_224_878 rfl (fun _ _ _ => rfl)
theorem zi_224_879 : z_ins 224 879 = some (.iaload, 1) := by decide +kernel
theorem ze_224_879 (hx : z_idx x g.1 = true) : z_T g d 224 879 ls (.int x :: .retAddr 99 :: st) h P = z_T g d 224 880 ls (.int (g.2 x.toNatClampNeg) :: st) h P := zt_script zi_224_879 hx
theorem zi_224_880 : z_ins 224 880 = some (.invokevirtual 145, 3) := by decide +kernel
theorem ze_224_880 : z_T g d 224 880 ls (.int x1 :: .int x0 :: .ref a :: st) h P = ((z_okS 8 st = true ∧ z_gO h.1 a 10 ∧ 0 < d) ∧ z_Ca g (d - 1) 169 [.ref a, .int x0, .int x1] h (fun r => z_k r (fun v h' => z_T g d 224 883 ls (z_push v st) h' P) P)) := zt_callV (as := [.int x0, .int x1]) zi_224_880 ((congrArg (fun o => z_lookup z_prs (o, 145)) zo_224).trans zp_LatinRectanglesLaw_145) ((congrArg (fun o => z_clk o 145) zo_224).trans zk_LatinRectanglesLaw_145) zh_224 zc_169 rfl rfl rfl
theorem zi_224_883 : z_ins 224 883 = some (.istore 6, 2) := by decide +kernel
theorem ze_224_883 : z_T g d 224 883 (v0 :: v1 :: v2 :: v3 :: v4 :: v5 :: v6 :: ls) (.int x :: st) h P = z_T g d 224 885 (v0 :: v1 :: v2 :: v3 :: v4 :: v5 :: .int x :: ls) st h P := zt_istore zi_224_883 (Nat.le_add_left 7 _)
theorem zi_224_885 : z_ins 224 885 = some (.aload_n 2, 1) := by decide +kernel
theorem ze_224_885 : z_T g d 224 885 (v0 :: v1 :: .ref a :: ls) st h P = z_T g d 224 886 (v0 :: v1 :: .ref a :: ls) (.ref a :: st) h P := zt_aloadn zi_224_885 rfl rfl
theorem zi_224_886 : z_ins 224 886 = some (.invokevirtual 101, 3) := by decide +kernel
theorem ze_224_886 : z_T g d 224 886 ls (.ref a :: st) h P = ((z_okS 8 st = true ∧ z_gO h.1 a 10 ∧ 0 < d) ∧ z_Ca g (d - 1) 121 [.ref a] h (fun r => z_k r (fun v h' => z_T g d 224 889 ls (z_push v st) h' P) P)) := zt_callV (as := []) zi_224_886 ((congrArg (fun o => z_lookup z_prs (o, 101)) zo_224).trans zp_LatinRectanglesLaw_101) ((congrArg (fun o => z_clk o 101) zo_224).trans zk_LatinRectanglesLaw_101) zh_224 zc_121 rfl rfl rfl
theorem zi_224_889 : z_ins 224 889 = some (.iload 5, 2) := by decide +kernel
theorem ze_224_889 : z_T g d 224 889 (v0 :: v1 :: v2 :: v3 :: v4 :: .int x :: ls) st h P = z_T g d 224 891 (v0 :: v1 :: v2 :: v3 :: v4 :: .int x :: ls) (.int x :: st) h P := zt_iload zi_224_889 rfl
theorem zi_224_891 : z_ins 224 891 = some (.if_icmp .eq 5, 3) := by decide +kernel
theorem ze_224_891 : z_T g d 224 891 ls (.int y :: .int x :: st) h P = (if x = y then z_T g d 224 896 ls st h P else z_T g d 224 894 ls st h P) := zt_icmpeq zi_224_891 (by decide)
theorem zi_224_894 : z_ins 224 894 = some (.iconst 0, 1) := by decide +kernel
theorem ze_224_894 : z_T g d 224 894 ls st h P = z_T g d 224 895 ls (.int (nI 0) :: st) h P := zt_iconst zi_224_894 rfl
theorem zi_224_895 : z_ins 224 895 = some (.ireturn, 1) := by decide +kernel
theorem ze_224_895 : z_T g d 224 895 ls [.int x] h P = ((x = nI 0 ∨ x = nI 1) ∧ P (.inr (some (.int x)), h)) := zt_zreturn zi_224_895 zr_224
theorem zi_224_896 : z_ins 224 896 = some (.iload 5, 2) := by decide +kernel
theorem ze_224_896 : z_T g d 224 896 (v0 :: v1 :: v2 :: v3 :: v4 :: .int x :: ls) st h P = z_T g d 224 898 (v0 :: v1 :: v2 :: v3 :: v4 :: .int x :: ls) (.int x :: st) h P := zt_iload zi_224_896 rfl
theorem zi_224_898 : z_ins 224 898 = some (.ifCond .ne 15, 3) := by decide +kernel
theorem ze_224_898 : z_T g d 224 898 ls (.int x :: st) h P = (if x = nI 0 then z_T g d 224 901 ls st h P else z_T g d 224 913 ls st h P) := zt_ifne zi_224_898 (by decide)
theorem zi_224_901 : z_ins 224 901 = some (.aload_n 3, 1) := by decide +kernel
theorem ze_224_901 : z_T g d 224 901 (v0 :: v1 :: v2 :: .ref a :: ls) st h P = z_T g d 224 902 (v0 :: v1 :: v2 :: .ref a :: ls) (.ref a :: st) h P := zt_aloadn zi_224_901 rfl rfl
theorem zi_224_902 : z_ins 224 902 = some (.iconst 0, 1) := by decide +kernel
theorem ze_224_902 : z_T g d 224 902 ls st h P = z_T g d 224 903 ls (.int (nI 0) :: st) h P := zt_iconst zi_224_902 rfl
theorem zi_224_903 : z_ins 224 903 = some (.laload, 1) := by decide +kernel
theorem ze_224_903 : z_T g d 224 903 ls (.int x :: .ref a :: st) h P = z_lL h.1 a x (fun v => z_T g d 224 904 ls (.long v :: st) h P) := zt_laload zi_224_903
theorem zi_224_904 : z_ins 224 904 = some (.iload 6, 2) := by decide +kernel
theorem ze_224_904 : z_T g d 224 904 (v0 :: v1 :: v2 :: v3 :: v4 :: v5 :: .int x :: ls) st h P = z_T g d 224 906 (v0 :: v1 :: v2 :: v3 :: v4 :: v5 :: .int x :: ls) (.int x :: st) h P := zt_iload zi_224_904 rfl
theorem zi_224_906 : z_ins 224 906 = some (.i2l, 1) := by decide +kernel
theorem ze_224_906 : z_T g d 224 906 ls (.int x :: st) h P = z_T g d 224 907 ls (.long x.toInt64 :: st) h P := zt_i2l zi_224_906
theorem zi_224_907 : z_ins 224 907 = some (.lcmp, 1) := by decide +kernel
theorem ze_224_907 : z_T g d 224 907 ls (.long w :: .long u :: st) h P = z_T g d 224 908 ls (.int (lg_cmp u w) :: st) h P := zt_lcmp zi_224_907
theorem zi_224_908 : z_ins 224 908 = some (.ifCond .eq 5, 3) := by decide +kernel
theorem ze_224_908 : z_T g d 224 908 ls (.int x :: st) h P = (if x = nI 0 then z_T g d 224 913 ls st h P else z_T g d 224 911 ls st h P) := zt_ifeq zi_224_908 (by decide)
theorem zi_224_911 : z_ins 224 911 = some (.iconst 0, 1) := by decide +kernel
theorem ze_224_911 : z_T g d 224 911 ls st h P = z_T g d 224 912 ls (.int (nI 0) :: st) h P := zt_iconst zi_224_911 rfl
theorem zi_224_912 : z_ins 224 912 = some (.ireturn, 1) := by decide +kernel
theorem ze_224_912 : z_T g d 224 912 ls [.int x] h P = ((x = nI 0 ∨ x = nI 1) ∧ P (.inr (some (.int x)), h)) := zt_zreturn zi_224_912 zr_224
theorem zi_224_913 : z_ins 224 913 = some (.goto 930, 3) := by decide +kernel
theorem ze_224_913 : z_T g d 224 913 ls st h P = z_T g d 224 1843 ls st h P := zt_goto zi_224_913 (by decide)
theorem zi_224_916 : z_ins 224 916 = some (.aload_n 1, 1) := by decide +kernel
theorem ze_224_916 : z_T g d 224 916 (v0 :: .ref a :: ls) st h P = z_T g d 224 917 (v0 :: .ref a :: ls) (.ref a :: st) h P := zt_aloadn zi_224_916 rfl rfl
theorem zi_224_917 : z_ins 224 917 = some (.aload_n 0, 1) := by decide +kernel
theorem ze_224_917 : z_T g d 224 917 (.retAddr b :: ls) st h P = z_T g d 224 918 (.retAddr b :: ls) (.retAddr b :: st) h P := zt_aloadnS zi_224_917 rfl rfl
theorem zi_224_918 : z_ins 224 918 = some (.iload 4, 2) := by decide +kernel
theorem ze_224_918 : z_T g d 224 918 (v0 :: v1 :: v2 :: v3 :: .int x :: ls) st h P = z_T g d 224 920 (v0 :: v1 :: v2 :: v3 :: .int x :: ls) (.int x :: st) h P := zt_iload zi_224_918 rfl
theorem zi_224_920 : z_ins 224 920 = some (.iconst 1, 1) := by decide +kernel
theorem ze_224_920 : z_T g d 224 920 ls st h P = z_T g d 224 921 ls (.int (nI 1) :: st) h P := zt_iconst zi_224_920 rfl
theorem zi_224_921 : z_ins 224 921 = some (.iadd, 1) := by decide +kernel
theorem ze_224_921 : z_T g d 224 921 ls (.int y :: .int x :: st) h P = z_T g d 224 922 ls (.int (x + y) :: st) h P := zt_bin (f := fun x y => x + y) zi_224_921 rfl (fun _ _ _ => rfl)
theorem zi_224_922 : z_ins 224 922 = some (.iaload, 1) := by decide +kernel
theorem ze_224_922 (hx : z_idx x g.1 = true) : z_T g d 224 922 ls (.int x :: .retAddr 99 :: st) h P = z_T g d 224 923 ls (.int (g.2 x.toNatClampNeg) :: st) h P := zt_script zi_224_922 hx
theorem zi_224_923 : z_ins 224 923 = some (.aload_n 0, 1) := by decide +kernel
theorem ze_224_923 : z_T g d 224 923 (.retAddr b :: ls) st h P = z_T g d 224 924 (.retAddr b :: ls) (.retAddr b :: st) h P := zt_aloadnS zi_224_923 rfl rfl
theorem zi_224_924 : z_ins 224 924 = some (.iload 4, 2) := by decide +kernel
theorem ze_224_924 : z_T g d 224 924 (v0 :: v1 :: v2 :: v3 :: .int x :: ls) st h P = z_T g d 224 926 (v0 :: v1 :: v2 :: v3 :: .int x :: ls) (.int x :: st) h P := zt_iload zi_224_924 rfl
theorem zi_224_926 : z_ins 224 926 = some (.iconst 2, 1) := by decide +kernel
theorem ze_224_926 : z_T g d 224 926 ls st h P = z_T g d 224 927 ls (.int (nI 2) :: st) h P := zt_iconst zi_224_926 rfl
theorem zi_224_927 : z_ins 224 927 = some (.iadd, 1) := by decide +kernel
theorem ze_224_927 : z_T g d 224 927 ls (.int y :: .int x :: st) h P = z_T g d 224 928 ls (.int (x + y) :: st) h P := zt_bin (f := fun x y => x + y) zi_224_927 rfl (fun _ _ _ => rfl)
theorem zi_224_928 : z_ins 224 928 = some (.iaload, 1) := by decide +kernel
theorem ze_224_928 (hx : z_idx x g.1 = true) : z_T g d 224 928 ls (.int x :: .retAddr 99 :: st) h P = z_T g d 224 929 ls (.int (g.2 x.toNatClampNeg) :: st) h P := zt_script zi_224_928 hx
theorem zi_224_929 : z_ins 224 929 = some (.aload_n 3, 1) := by decide +kernel
theorem ze_224_929 : z_T g d 224 929 (v0 :: v1 :: v2 :: .ref a :: ls) st h P = z_T g d 224 930 (v0 :: v1 :: v2 :: .ref a :: ls) (.ref a :: st) h P := zt_aloadn zi_224_929 rfl rfl
theorem zi_224_930 : z_ins 224 930 = some (.invokestatic 146, 3) := by decide +kernel
theorem ze_224_930 : z_T g d 224 930 ls (.ref a3 :: .int x2 :: .int x1 :: .ref a0 :: st) h P = ((z_okS 8 st = true ∧ 0 < d) ∧ z_Ca g (d - 1) 211 [.ref a0, .int x1, .int x2, .ref a3] h (fun r => z_k r (fun v h' => z_T g d 224 933 ls (z_push v st) h' P) P)) := zt_callS0 (as := [.ref a0, .int x1, .int x2, .ref a3]) zi_224_930 ((congrArg (fun o => z_lookup z_prs (o, 146)) zo_224).trans zp_LatinRectanglesLaw_146) ((congrArg (fun o => z_clk o 146) zo_224).trans zk_LatinRectanglesLaw_146) zh_224 rfl rfl rfl
theorem zi_224_933 : z_ins 224 933 = some (.istore 5, 2) := by decide +kernel
theorem ze_224_933 : z_T g d 224 933 (v0 :: v1 :: v2 :: v3 :: v4 :: v5 :: ls) (.int x :: st) h P = z_T g d 224 935 (v0 :: v1 :: v2 :: v3 :: v4 :: .int x :: ls) st h P := zt_istore zi_224_933 (Nat.le_add_left 6 _)
theorem zi_224_935 : z_ins 224 935 = some (.aload_n 2, 1) := by decide +kernel
theorem ze_224_935 : z_T g d 224 935 (v0 :: v1 :: .ref a :: ls) st h P = z_T g d 224 936 (v0 :: v1 :: .ref a :: ls) (.ref a :: st) h P := zt_aloadn zi_224_935 rfl rfl
theorem zi_224_936 : z_ins 224 936 = some (.aload_n 0, 1) := by decide +kernel
theorem ze_224_936 : z_T g d 224 936 (.retAddr b :: ls) st h P = z_T g d 224 937 (.retAddr b :: ls) (.retAddr b :: st) h P := zt_aloadnS zi_224_936 rfl rfl
theorem zi_224_937 : z_ins 224 937 = some (.iload 4, 2) := by decide +kernel
theorem ze_224_937 : z_T g d 224 937 (v0 :: v1 :: v2 :: v3 :: .int x :: ls) st h P = z_T g d 224 939 (v0 :: v1 :: v2 :: v3 :: .int x :: ls) (.int x :: st) h P := zt_iload zi_224_937 rfl
theorem zi_224_939 : z_ins 224 939 = some (.iconst 1, 1) := by decide +kernel
theorem ze_224_939 : z_T g d 224 939 ls st h P = z_T g d 224 940 ls (.int (nI 1) :: st) h P := zt_iconst zi_224_939 rfl
theorem zi_224_940 : z_ins 224 940 = some (.iadd, 1) := by decide +kernel
theorem ze_224_940 : z_T g d 224 940 ls (.int y :: .int x :: st) h P = z_T g d 224 941 ls (.int (x + y) :: st) h P := zt_bin (f := fun x y => x + y) zi_224_940 rfl (fun _ _ _ => rfl)
theorem zi_224_941 : z_ins 224 941 = some (.iaload, 1) := by decide +kernel
theorem ze_224_941 (hx : z_idx x g.1 = true) : z_T g d 224 941 ls (.int x :: .retAddr 99 :: st) h P = z_T g d 224 942 ls (.int (g.2 x.toNatClampNeg) :: st) h P := zt_script zi_224_941 hx
theorem zi_224_942 : z_ins 224 942 = some (.aload_n 0, 1) := by decide +kernel
theorem ze_224_942 : z_T g d 224 942 (.retAddr b :: ls) st h P = z_T g d 224 943 (.retAddr b :: ls) (.retAddr b :: st) h P := zt_aloadnS zi_224_942 rfl rfl
theorem zi_224_943 : z_ins 224 943 = some (.iload 4, 2) := by decide +kernel
theorem ze_224_943 : z_T g d 224 943 (v0 :: v1 :: v2 :: v3 :: .int x :: ls) st h P = z_T g d 224 945 (v0 :: v1 :: v2 :: v3 :: .int x :: ls) (.int x :: st) h P := zt_iload zi_224_943 rfl
theorem zi_224_945 : z_ins 224 945 = some (.iconst 2, 1) := by decide +kernel
theorem ze_224_945 : z_T g d 224 945 ls st h P = z_T g d 224 946 ls (.int (nI 2) :: st) h P := zt_iconst zi_224_945 rfl
theorem zi_224_946 : z_ins 224 946 = some (.iadd, 1) := by decide +kernel
theorem ze_224_946 : z_T g d 224 946 ls (.int y :: .int x :: st) h P = z_T g d 224 947 ls (.int (x + y) :: st) h P := zt_bin (f := fun x y => x + y) zi_224_946 rfl (fun _ _ _ => rfl)
theorem zi_224_947 : z_ins 224 947 = some (.iaload, 1) := by decide +kernel
theorem ze_224_947 (hx : z_idx x g.1 = true) : z_T g d 224 947 ls (.int x :: .retAddr 99 :: st) h P = z_T g d 224 948 ls (.int (g.2 x.toNatClampNeg) :: st) h P := zt_script zi_224_947 hx
theorem zi_224_948 : z_ins 224 948 = some (.invokevirtual 148, 3) := by decide +kernel
theorem ze_224_948 : z_T g d 224 948 ls (.int x1 :: .int x0 :: .ref a :: st) h P = ((z_okS 8 st = true ∧ z_gO h.1 a 10 ∧ 0 < d) ∧ z_Ca g (d - 1) 170 [.ref a, .int x0, .int x1] h (fun r => z_k r (fun v h' => z_T g d 224 951 ls (z_push v st) h' P) P)) := zt_callV (as := [.int x0, .int x1]) zi_224_948 ((congrArg (fun o => z_lookup z_prs (o, 148)) zo_224).trans zp_LatinRectanglesLaw_148) ((congrArg (fun o => z_clk o 148) zo_224).trans zk_LatinRectanglesLaw_148) zh_224 zc_170 rfl rfl rfl
theorem zi_224_951 : z_ins 224 951 = some (.istore 6, 2) := by decide +kernel
theorem ze_224_951 : z_T g d 224 951 (v0 :: v1 :: v2 :: v3 :: v4 :: v5 :: v6 :: ls) (.int x :: st) h P = z_T g d 224 953 (v0 :: v1 :: v2 :: v3 :: v4 :: v5 :: .int x :: ls) st h P := zt_istore zi_224_951 (Nat.le_add_left 7 _)
theorem zi_224_953 : z_ins 224 953 = some (.aload_n 2, 1) := by decide +kernel
theorem ze_224_953 : z_T g d 224 953 (v0 :: v1 :: .ref a :: ls) st h P = z_T g d 224 954 (v0 :: v1 :: .ref a :: ls) (.ref a :: st) h P := zt_aloadn zi_224_953 rfl rfl
theorem zi_224_954 : z_ins 224 954 = some (.invokevirtual 101, 3) := by decide +kernel
theorem ze_224_954 : z_T g d 224 954 ls (.ref a :: st) h P = ((z_okS 8 st = true ∧ z_gO h.1 a 10 ∧ 0 < d) ∧ z_Ca g (d - 1) 121 [.ref a] h (fun r => z_k r (fun v h' => z_T g d 224 957 ls (z_push v st) h' P) P)) := zt_callV (as := []) zi_224_954 ((congrArg (fun o => z_lookup z_prs (o, 101)) zo_224).trans zp_LatinRectanglesLaw_101) ((congrArg (fun o => z_clk o 101) zo_224).trans zk_LatinRectanglesLaw_101) zh_224 zc_121 rfl rfl rfl
theorem zi_224_957 : z_ins 224 957 = some (.iload 5, 2) := by decide +kernel
theorem ze_224_957 : z_T g d 224 957 (v0 :: v1 :: v2 :: v3 :: v4 :: .int x :: ls) st h P = z_T g d 224 959 (v0 :: v1 :: v2 :: v3 :: v4 :: .int x :: ls) (.int x :: st) h P := zt_iload zi_224_957 rfl
theorem zi_224_959 : z_ins 224 959 = some (.if_icmp .eq 5, 3) := by decide +kernel
theorem ze_224_959 : z_T g d 224 959 ls (.int y :: .int x :: st) h P = (if x = y then z_T g d 224 964 ls st h P else z_T g d 224 962 ls st h P) := zt_icmpeq zi_224_959 (by decide)
theorem zi_224_962 : z_ins 224 962 = some (.iconst 0, 1) := by decide +kernel
theorem ze_224_962 : z_T g d 224 962 ls st h P = z_T g d 224 963 ls (.int (nI 0) :: st) h P := zt_iconst zi_224_962 rfl
theorem zi_224_963 : z_ins 224 963 = some (.ireturn, 1) := by decide +kernel
theorem ze_224_963 : z_T g d 224 963 ls [.int x] h P = ((x = nI 0 ∨ x = nI 1) ∧ P (.inr (some (.int x)), h)) := zt_zreturn zi_224_963 zr_224
theorem zi_224_964 : z_ins 224 964 = some (.iload 5, 2) := by decide +kernel
theorem ze_224_964 : z_T g d 224 964 (v0 :: v1 :: v2 :: v3 :: v4 :: .int x :: ls) st h P = z_T g d 224 966 (v0 :: v1 :: v2 :: v3 :: v4 :: .int x :: ls) (.int x :: st) h P := zt_iload zi_224_964 rfl
theorem zi_224_966 : z_ins 224 966 = some (.ifCond .ne 15, 3) := by decide +kernel
theorem ze_224_966 : z_T g d 224 966 ls (.int x :: st) h P = (if x = nI 0 then z_T g d 224 969 ls st h P else z_T g d 224 981 ls st h P) := zt_ifne zi_224_966 (by decide)
theorem zi_224_969 : z_ins 224 969 = some (.aload_n 3, 1) := by decide +kernel
theorem ze_224_969 : z_T g d 224 969 (v0 :: v1 :: v2 :: .ref a :: ls) st h P = z_T g d 224 970 (v0 :: v1 :: v2 :: .ref a :: ls) (.ref a :: st) h P := zt_aloadn zi_224_969 rfl rfl
theorem zi_224_970 : z_ins 224 970 = some (.iconst 0, 1) := by decide +kernel
theorem ze_224_970 : z_T g d 224 970 ls st h P = z_T g d 224 971 ls (.int (nI 0) :: st) h P := zt_iconst zi_224_970 rfl
theorem zi_224_971 : z_ins 224 971 = some (.laload, 1) := by decide +kernel
theorem ze_224_971 : z_T g d 224 971 ls (.int x :: .ref a :: st) h P = z_lL h.1 a x (fun v => z_T g d 224 972 ls (.long v :: st) h P) := zt_laload zi_224_971
theorem zi_224_972 : z_ins 224 972 = some (.iload 6, 2) := by decide +kernel
theorem ze_224_972 : z_T g d 224 972 (v0 :: v1 :: v2 :: v3 :: v4 :: v5 :: .int x :: ls) st h P = z_T g d 224 974 (v0 :: v1 :: v2 :: v3 :: v4 :: v5 :: .int x :: ls) (.int x :: st) h P := zt_iload zi_224_972 rfl
theorem zi_224_974 : z_ins 224 974 = some (.i2l, 1) := by decide +kernel
theorem ze_224_974 : z_T g d 224 974 ls (.int x :: st) h P = z_T g d 224 975 ls (.long x.toInt64 :: st) h P := zt_i2l zi_224_974
theorem zi_224_975 : z_ins 224 975 = some (.lcmp, 1) := by decide +kernel
theorem ze_224_975 : z_T g d 224 975 ls (.long w :: .long u :: st) h P = z_T g d 224 976 ls (.int (lg_cmp u w) :: st) h P := zt_lcmp zi_224_975
theorem zi_224_976 : z_ins 224 976 = some (.ifCond .eq 5, 3) := by decide +kernel
theorem ze_224_976 : z_T g d 224 976 ls (.int x :: st) h P = (if x = nI 0 then z_T g d 224 981 ls st h P else z_T g d 224 979 ls st h P) := zt_ifeq zi_224_976 (by decide)
theorem zi_224_979 : z_ins 224 979 = some (.iconst 0, 1) := by decide +kernel
theorem ze_224_979 : z_T g d 224 979 ls st h P = z_T g d 224 980 ls (.int (nI 0) :: st) h P := zt_iconst zi_224_979 rfl
theorem zi_224_980 : z_ins 224 980 = some (.ireturn, 1) := by decide +kernel
theorem ze_224_980 : z_T g d 224 980 ls [.int x] h P = ((x = nI 0 ∨ x = nI 1) ∧ P (.inr (some (.int x)), h)) := zt_zreturn zi_224_980 zr_224
theorem zi_224_981 : z_ins 224 981 = some (.goto 862, 3) := by decide +kernel
theorem ze_224_981 : z_T g d 224 981 ls st h P = z_T g d 224 1843 ls st h P := zt_goto zi_224_981 (by decide)
theorem zi_224_984 : z_ins 224 984 = some (.aload_n 1, 1) := by decide +kernel
theorem ze_224_984 : z_T g d 224 984 (v0 :: .ref a :: ls) st h P = z_T g d 224 985 (v0 :: .ref a :: ls) (.ref a :: st) h P := zt_aloadn zi_224_984 rfl rfl
theorem zi_224_985 : z_ins 224 985 = some (.invokevirtual 149, 3) := by decide +kernel
theorem ze_224_985 : z_T g d 224 985 ls (.ref a :: st) h P = ((z_okS 8 st = true ∧ z_gO h.1 a 9 ∧ 0 < d) ∧ z_Ca g (d - 1) 95 [.ref a] h (fun r => z_k r (fun v h' => z_T g d 224 988 ls (z_push v st) h' P) P)) := zt_callV (as := []) zi_224_985 ((congrArg (fun o => z_lookup z_prs (o, 149)) zo_224).trans zp_LatinRectanglesLaw_149) ((congrArg (fun o => z_clk o 149) zo_224).trans zk_LatinRectanglesLaw_149) zh_224 zc_95 rfl rfl rfl
theorem zi_224_988 : z_ins 224 988 = some (.aload_n 2, 1) := by decide +kernel
theorem ze_224_988 : z_T g d 224 988 (v0 :: v1 :: .ref a :: ls) st h P = z_T g d 224 989 (v0 :: v1 :: .ref a :: ls) (.ref a :: st) h P := zt_aloadn zi_224_988 rfl rfl
theorem zi_224_989 : z_ins 224 989 = some (.invokevirtual 152, 3) := by decide +kernel
theorem ze_224_989 : z_T g d 224 989 ls (.ref a :: st) h P = ((z_okS 8 st = true ∧ z_gO h.1 a 10 ∧ 0 < d) ∧ z_Ca g (d - 1) 172 [.ref a] h (fun r => z_k r (fun v h' => z_T g d 224 992 ls (z_push v st) h' P) P)) := zt_callV (as := []) zi_224_989 ((congrArg (fun o => z_lookup z_prs (o, 152)) zo_224).trans zp_LatinRectanglesLaw_152) ((congrArg (fun o => z_clk o 152) zo_224).trans zk_LatinRectanglesLaw_152) zh_224 zc_172 rfl rfl rfl
theorem zi_224_992 : z_ins 224 992 = some (.if_icmp .eq 851, 3) := by decide +kernel
theorem ze_224_992 : z_T g d 224 992 ls (.int y :: .int x :: st) h P = (if x = y then z_T g d 224 1843 ls st h P else z_T g d 224 995 ls st h P) := zt_icmpeq zi_224_992 (by decide)
theorem zi_224_995 : z_ins 224 995 = some (.iconst 0, 1) := by decide +kernel
theorem ze_224_995 : z_T g d 224 995 ls st h P = z_T g d 224 996 ls (.int (nI 0) :: st) h P := zt_iconst zi_224_995 rfl
theorem zi_224_996 : z_ins 224 996 = some (.ireturn, 1) := by decide +kernel
theorem ze_224_996 : z_T g d 224 996 ls [.int x] h P = ((x = nI 0 ∨ x = nI 1) ∧ P (.inr (some (.int x)), h)) := zt_zreturn zi_224_996 zr_224
theorem zi_224_997 : z_ins 224 997 = some (.aload_n 1, 1) := by decide +kernel
theorem ze_224_997 : z_T g d 224 997 (v0 :: .ref a :: ls) st h P = z_T g d 224 998 (v0 :: .ref a :: ls) (.ref a :: st) h P := zt_aloadn zi_224_997 rfl rfl
theorem zi_224_998 : z_ins 224 998 = some (.aload_n 0, 1) := by decide +kernel
theorem ze_224_998 : z_T g d 224 998 (.retAddr b :: ls) st h P = z_T g d 224 999 (.retAddr b :: ls) (.retAddr b :: st) h P := zt_aloadnS zi_224_998 rfl rfl
theorem zi_224_999 : z_ins 224 999 = some (.iload 4, 2) := by decide +kernel
theorem ze_224_999 : z_T g d 224 999 (v0 :: v1 :: v2 :: v3 :: .int x :: ls) st h P = z_T g d 224 1001 (v0 :: v1 :: v2 :: v3 :: .int x :: ls) (.int x :: st) h P := zt_iload zi_224_999 rfl
theorem zi_224_1001 : z_ins 224 1001 = some (.iconst 1, 1) := by decide +kernel
theorem ze_224_1001 : z_T g d 224 1001 ls st h P = z_T g d 224 1002 ls (.int (nI 1) :: st) h P := zt_iconst zi_224_1001 rfl
theorem zi_224_1002 : z_ins 224 1002 = some (.iadd, 1) := by decide +kernel
theorem ze_224_1002 : z_T g d 224 1002 ls (.int y :: .int x :: st) h P = z_T g d 224 1003 ls (.int (x + y) :: st) h P := zt_bin (f := fun x y => x + y) zi_224_1002 rfl (fun _ _ _ => rfl)
theorem zi_224_1003 : z_ins 224 1003 = some (.iaload, 1) := by decide +kernel
theorem ze_224_1003 (hx : z_idx x g.1 = true) : z_T g d 224 1003 ls (.int x :: .retAddr 99 :: st) h P = z_T g d 224 1004 ls (.int (g.2 x.toNatClampNeg) :: st) h P := zt_script zi_224_1003 hx
theorem zi_224_1004 : z_ins 224 1004 = some (.aload_n 0, 1) := by decide +kernel
theorem ze_224_1004 : z_T g d 224 1004 (.retAddr b :: ls) st h P = z_T g d 224 1005 (.retAddr b :: ls) (.retAddr b :: st) h P := zt_aloadnS zi_224_1004 rfl rfl
theorem zi_224_1005 : z_ins 224 1005 = some (.iload 4, 2) := by decide +kernel
theorem ze_224_1005 : z_T g d 224 1005 (v0 :: v1 :: v2 :: v3 :: .int x :: ls) st h P = z_T g d 224 1007 (v0 :: v1 :: v2 :: v3 :: .int x :: ls) (.int x :: st) h P := zt_iload zi_224_1005 rfl
theorem zi_224_1007 : z_ins 224 1007 = some (.iconst 2, 1) := by decide +kernel
theorem ze_224_1007 : z_T g d 224 1007 ls st h P = z_T g d 224 1008 ls (.int (nI 2) :: st) h P := zt_iconst zi_224_1007 rfl
theorem zi_224_1008 : z_ins 224 1008 = some (.iadd, 1) := by decide +kernel
theorem ze_224_1008 : z_T g d 224 1008 ls (.int y :: .int x :: st) h P = z_T g d 224 1009 ls (.int (x + y) :: st) h P := zt_bin (f := fun x y => x + y) zi_224_1008 rfl (fun _ _ _ => rfl)
theorem zi_224_1009 : z_ins 224 1009 = some (.iaload, 1) := by decide +kernel
theorem ze_224_1009 (hx : z_idx x g.1 = true) : z_T g d 224 1009 ls (.int x :: .retAddr 99 :: st) h P = z_T g d 224 1010 ls (.int (g.2 x.toNatClampNeg) :: st) h P := zt_script zi_224_1009 hx
theorem zi_224_1010 : z_ins 224 1010 = some (.aload_n 3, 1) := by decide +kernel
theorem ze_224_1010 : z_T g d 224 1010 (v0 :: v1 :: v2 :: .ref a :: ls) st h P = z_T g d 224 1011 (v0 :: v1 :: v2 :: .ref a :: ls) (.ref a :: st) h P := zt_aloadn zi_224_1010 rfl rfl
theorem zi_224_1011 : z_ins 224 1011 = some (.invokestatic 153, 3) := by decide +kernel
theorem ze_224_1011 : z_T g d 224 1011 ls (.ref a3 :: .int x2 :: .int x1 :: .ref a0 :: st) h P = ((z_okS 8 st = true ∧ 0 < d) ∧ z_Ca g (d - 1) 212 [.ref a0, .int x1, .int x2, .ref a3] h (fun r => z_k r (fun v h' => z_T g d 224 1014 ls (z_push v st) h' P) P)) := zt_callS0 (as := [.ref a0, .int x1, .int x2, .ref a3]) zi_224_1011 ((congrArg (fun o => z_lookup z_prs (o, 153)) zo_224).trans zp_LatinRectanglesLaw_153) ((congrArg (fun o => z_clk o 153) zo_224).trans zk_LatinRectanglesLaw_153) zh_224 rfl rfl rfl
theorem zi_224_1014 : z_ins 224 1014 = some (.istore 5, 2) := by decide +kernel
theorem ze_224_1014 : z_T g d 224 1014 (v0 :: v1 :: v2 :: v3 :: v4 :: v5 :: ls) (.int x :: st) h P = z_T g d 224 1016 (v0 :: v1 :: v2 :: v3 :: v4 :: .int x :: ls) st h P := zt_istore zi_224_1014 (Nat.le_add_left 6 _)
theorem zi_224_1016 : z_ins 224 1016 = some (.aload_n 2, 1) := by decide +kernel
theorem ze_224_1016 : z_T g d 224 1016 (v0 :: v1 :: .ref a :: ls) st h P = z_T g d 224 1017 (v0 :: v1 :: .ref a :: ls) (.ref a :: st) h P := zt_aloadn zi_224_1016 rfl rfl
theorem zi_224_1017 : z_ins 224 1017 = some (.aload_n 0, 1) := by decide +kernel
theorem ze_224_1017 : z_T g d 224 1017 (.retAddr b :: ls) st h P = z_T g d 224 1018 (.retAddr b :: ls) (.retAddr b :: st) h P := zt_aloadnS zi_224_1017 rfl rfl
theorem zi_224_1018 : z_ins 224 1018 = some (.iload 4, 2) := by decide +kernel
theorem ze_224_1018 : z_T g d 224 1018 (v0 :: v1 :: v2 :: v3 :: .int x :: ls) st h P = z_T g d 224 1020 (v0 :: v1 :: v2 :: v3 :: .int x :: ls) (.int x :: st) h P := zt_iload zi_224_1018 rfl
theorem zi_224_1020 : z_ins 224 1020 = some (.iconst 1, 1) := by decide +kernel
theorem ze_224_1020 : z_T g d 224 1020 ls st h P = z_T g d 224 1021 ls (.int (nI 1) :: st) h P := zt_iconst zi_224_1020 rfl
theorem zi_224_1021 : z_ins 224 1021 = some (.iadd, 1) := by decide +kernel
theorem ze_224_1021 : z_T g d 224 1021 ls (.int y :: .int x :: st) h P = z_T g d 224 1022 ls (.int (x + y) :: st) h P := zt_bin (f := fun x y => x + y) zi_224_1021 rfl (fun _ _ _ => rfl)
theorem zi_224_1022 : z_ins 224 1022 = some (.iaload, 1) := by decide +kernel
theorem ze_224_1022 (hx : z_idx x g.1 = true) : z_T g d 224 1022 ls (.int x :: .retAddr 99 :: st) h P = z_T g d 224 1023 ls (.int (g.2 x.toNatClampNeg) :: st) h P := zt_script zi_224_1022 hx
theorem zi_224_1023 : z_ins 224 1023 = some (.aload_n 0, 1) := by decide +kernel
theorem ze_224_1023 : z_T g d 224 1023 (.retAddr b :: ls) st h P = z_T g d 224 1024 (.retAddr b :: ls) (.retAddr b :: st) h P := zt_aloadnS zi_224_1023 rfl rfl
theorem zi_224_1024 : z_ins 224 1024 = some (.iload 4, 2) := by decide +kernel
theorem ze_224_1024 : z_T g d 224 1024 (v0 :: v1 :: v2 :: v3 :: .int x :: ls) st h P = z_T g d 224 1026 (v0 :: v1 :: v2 :: v3 :: .int x :: ls) (.int x :: st) h P := zt_iload zi_224_1024 rfl
theorem zi_224_1026 : z_ins 224 1026 = some (.iconst 2, 1) := by decide +kernel
theorem ze_224_1026 : z_T g d 224 1026 ls st h P = z_T g d 224 1027 ls (.int (nI 2) :: st) h P := zt_iconst zi_224_1026 rfl
theorem zi_224_1027 : z_ins 224 1027 = some (.iadd, 1) := by decide +kernel
theorem ze_224_1027 : z_T g d 224 1027 ls (.int y :: .int x :: st) h P = z_T g d 224 1028 ls (.int (x + y) :: st) h P := zt_bin (f := fun x y => x + y) zi_224_1027 rfl (fun _ _ _ => rfl)
theorem zi_224_1028 : z_ins 224 1028 = some (.iaload, 1) := by decide +kernel
theorem ze_224_1028 (hx : z_idx x g.1 = true) : z_T g d 224 1028 ls (.int x :: .retAddr 99 :: st) h P = z_T g d 224 1029 ls (.int (g.2 x.toNatClampNeg) :: st) h P := zt_script zi_224_1028 hx
theorem zi_224_1029 : z_ins 224 1029 = some (.invokevirtual 155, 3) := by decide +kernel
theorem ze_224_1029 : z_T g d 224 1029 ls (.int x1 :: .int x0 :: .ref a :: st) h P = ((z_okS 8 st = true ∧ z_gO h.1 a 10 ∧ 0 < d) ∧ z_Ca g (d - 1) 173 [.ref a, .int x0, .int x1] h (fun r => z_k r (fun v h' => z_T g d 224 1032 ls (z_push v st) h' P) P)) := zt_callV (as := [.int x0, .int x1]) zi_224_1029 ((congrArg (fun o => z_lookup z_prs (o, 155)) zo_224).trans zp_LatinRectanglesLaw_155) ((congrArg (fun o => z_clk o 155) zo_224).trans zk_LatinRectanglesLaw_155) zh_224 zc_173 rfl rfl rfl
theorem zi_224_1032 : z_ins 224 1032 = some (.istore 6, 2) := by decide +kernel
theorem ze_224_1032 : z_T g d 224 1032 (v0 :: v1 :: v2 :: v3 :: v4 :: v5 :: v6 :: ls) (.int x :: st) h P = z_T g d 224 1034 (v0 :: v1 :: v2 :: v3 :: v4 :: v5 :: .int x :: ls) st h P := zt_istore zi_224_1032 (Nat.le_add_left 7 _)
theorem zi_224_1034 : z_ins 224 1034 = some (.aload_n 2, 1) := by decide +kernel
theorem ze_224_1034 : z_T g d 224 1034 (v0 :: v1 :: .ref a :: ls) st h P = z_T g d 224 1035 (v0 :: v1 :: .ref a :: ls) (.ref a :: st) h P := zt_aloadn zi_224_1034 rfl rfl
theorem zi_224_1035 : z_ins 224 1035 = some (.invokevirtual 101, 3) := by decide +kernel
theorem ze_224_1035 : z_T g d 224 1035 ls (.ref a :: st) h P = ((z_okS 8 st = true ∧ z_gO h.1 a 10 ∧ 0 < d) ∧ z_Ca g (d - 1) 121 [.ref a] h (fun r => z_k r (fun v h' => z_T g d 224 1038 ls (z_push v st) h' P) P)) := zt_callV (as := []) zi_224_1035 ((congrArg (fun o => z_lookup z_prs (o, 101)) zo_224).trans zp_LatinRectanglesLaw_101) ((congrArg (fun o => z_clk o 101) zo_224).trans zk_LatinRectanglesLaw_101) zh_224 zc_121 rfl rfl rfl
theorem zi_224_1038 : z_ins 224 1038 = some (.iload 5, 2) := by decide +kernel
theorem ze_224_1038 : z_T g d 224 1038 (v0 :: v1 :: v2 :: v3 :: v4 :: .int x :: ls) st h P = z_T g d 224 1040 (v0 :: v1 :: v2 :: v3 :: v4 :: .int x :: ls) (.int x :: st) h P := zt_iload zi_224_1038 rfl
theorem zi_224_1040 : z_ins 224 1040 = some (.if_icmp .eq 5, 3) := by decide +kernel
theorem ze_224_1040 : z_T g d 224 1040 ls (.int y :: .int x :: st) h P = (if x = y then z_T g d 224 1045 ls st h P else z_T g d 224 1043 ls st h P) := zt_icmpeq zi_224_1040 (by decide)
theorem zi_224_1043 : z_ins 224 1043 = some (.iconst 0, 1) := by decide +kernel
theorem ze_224_1043 : z_T g d 224 1043 ls st h P = z_T g d 224 1044 ls (.int (nI 0) :: st) h P := zt_iconst zi_224_1043 rfl
theorem zi_224_1044 : z_ins 224 1044 = some (.ireturn, 1) := by decide +kernel
theorem ze_224_1044 : z_T g d 224 1044 ls [.int x] h P = ((x = nI 0 ∨ x = nI 1) ∧ P (.inr (some (.int x)), h)) := zt_zreturn zi_224_1044 zr_224
theorem zi_224_1045 : z_ins 224 1045 = some (.iload 5, 2) := by decide +kernel
theorem ze_224_1045 : z_T g d 224 1045 (v0 :: v1 :: v2 :: v3 :: v4 :: .int x :: ls) st h P = z_T g d 224 1047 (v0 :: v1 :: v2 :: v3 :: v4 :: .int x :: ls) (.int x :: st) h P := zt_iload zi_224_1045 rfl
theorem zi_224_1047 : z_ins 224 1047 = some (.ifCond .ne 15, 3) := by decide +kernel
theorem ze_224_1047 : z_T g d 224 1047 ls (.int x :: st) h P = (if x = nI 0 then z_T g d 224 1050 ls st h P else z_T g d 224 1062 ls st h P) := zt_ifne zi_224_1047 (by decide)
theorem zi_224_1050 : z_ins 224 1050 = some (.aload_n 3, 1) := by decide +kernel
theorem ze_224_1050 : z_T g d 224 1050 (v0 :: v1 :: v2 :: .ref a :: ls) st h P = z_T g d 224 1051 (v0 :: v1 :: v2 :: .ref a :: ls) (.ref a :: st) h P := zt_aloadn zi_224_1050 rfl rfl
theorem zi_224_1051 : z_ins 224 1051 = some (.iconst 0, 1) := by decide +kernel
theorem ze_224_1051 : z_T g d 224 1051 ls st h P = z_T g d 224 1052 ls (.int (nI 0) :: st) h P := zt_iconst zi_224_1051 rfl
theorem zi_224_1052 : z_ins 224 1052 = some (.laload, 1) := by decide +kernel
theorem ze_224_1052 : z_T g d 224 1052 ls (.int x :: .ref a :: st) h P = z_lL h.1 a x (fun v => z_T g d 224 1053 ls (.long v :: st) h P) := zt_laload zi_224_1052
theorem zi_224_1053 : z_ins 224 1053 = some (.iload 6, 2) := by decide +kernel
theorem ze_224_1053 : z_T g d 224 1053 (v0 :: v1 :: v2 :: v3 :: v4 :: v5 :: .int x :: ls) st h P = z_T g d 224 1055 (v0 :: v1 :: v2 :: v3 :: v4 :: v5 :: .int x :: ls) (.int x :: st) h P := zt_iload zi_224_1053 rfl
theorem zi_224_1055 : z_ins 224 1055 = some (.i2l, 1) := by decide +kernel
theorem ze_224_1055 : z_T g d 224 1055 ls (.int x :: st) h P = z_T g d 224 1056 ls (.long x.toInt64 :: st) h P := zt_i2l zi_224_1055
theorem zi_224_1056 : z_ins 224 1056 = some (.lcmp, 1) := by decide +kernel
theorem ze_224_1056 : z_T g d 224 1056 ls (.long w :: .long u :: st) h P = z_T g d 224 1057 ls (.int (lg_cmp u w) :: st) h P := zt_lcmp zi_224_1056
theorem zi_224_1057 : z_ins 224 1057 = some (.ifCond .eq 5, 3) := by decide +kernel
theorem ze_224_1057 : z_T g d 224 1057 ls (.int x :: st) h P = (if x = nI 0 then z_T g d 224 1062 ls st h P else z_T g d 224 1060 ls st h P) := zt_ifeq zi_224_1057 (by decide)
theorem zi_224_1060 : z_ins 224 1060 = some (.iconst 0, 1) := by decide +kernel
theorem ze_224_1060 : z_T g d 224 1060 ls st h P = z_T g d 224 1061 ls (.int (nI 0) :: st) h P := zt_iconst zi_224_1060 rfl
theorem zi_224_1061 : z_ins 224 1061 = some (.ireturn, 1) := by decide +kernel
theorem ze_224_1061 : z_T g d 224 1061 ls [.int x] h P = ((x = nI 0 ∨ x = nI 1) ∧ P (.inr (some (.int x)), h)) := zt_zreturn zi_224_1061 zr_224
theorem zi_224_1062 : z_ins 224 1062 = some (.goto 781, 3) := by decide +kernel
theorem ze_224_1062 : z_T g d 224 1062 ls st h P = z_T g d 224 1843 ls st h P := zt_goto zi_224_1062 (by decide)
theorem zi_224_1065 : z_ins 224 1065 = some (.aload_n 1, 1) := by decide +kernel
theorem ze_224_1065 : z_T g d 224 1065 (v0 :: .ref a :: ls) st h P = z_T g d 224 1066 (v0 :: .ref a :: ls) (.ref a :: st) h P := zt_aloadn zi_224_1065 rfl rfl
theorem zi_224_1066 : z_ins 224 1066 = some (.aload_n 0, 1) := by decide +kernel
theorem ze_224_1066 : z_T g d 224 1066 (.retAddr b :: ls) st h P = z_T g d 224 1067 (.retAddr b :: ls) (.retAddr b :: st) h P := zt_aloadnS zi_224_1066 rfl rfl
theorem zi_224_1067 : z_ins 224 1067 = some (.iload 4, 2) := by decide +kernel
theorem ze_224_1067 : z_T g d 224 1067 (v0 :: v1 :: v2 :: v3 :: .int x :: ls) st h P = z_T g d 224 1069 (v0 :: v1 :: v2 :: v3 :: .int x :: ls) (.int x :: st) h P := zt_iload zi_224_1067 rfl
theorem zi_224_1069 : z_ins 224 1069 = some (.iconst 1, 1) := by decide +kernel
theorem ze_224_1069 : z_T g d 224 1069 ls st h P = z_T g d 224 1070 ls (.int (nI 1) :: st) h P := zt_iconst zi_224_1069 rfl
theorem zi_224_1070 : z_ins 224 1070 = some (.iadd, 1) := by decide +kernel
theorem ze_224_1070 : z_T g d 224 1070 ls (.int y :: .int x :: st) h P = z_T g d 224 1071 ls (.int (x + y) :: st) h P := zt_bin (f := fun x y => x + y) zi_224_1070 rfl (fun _ _ _ => rfl)
theorem zi_224_1071 : z_ins 224 1071 = some (.iaload, 1) := by decide +kernel
theorem ze_224_1071 (hx : z_idx x g.1 = true) : z_T g d 224 1071 ls (.int x :: .retAddr 99 :: st) h P = z_T g d 224 1072 ls (.int (g.2 x.toNatClampNeg) :: st) h P := zt_script zi_224_1071 hx
theorem zi_224_1072 : z_ins 224 1072 = some (.aload_n 3, 1) := by decide +kernel
theorem ze_224_1072 : z_T g d 224 1072 (v0 :: v1 :: v2 :: .ref a :: ls) st h P = z_T g d 224 1073 (v0 :: v1 :: v2 :: .ref a :: ls) (.ref a :: st) h P := zt_aloadn zi_224_1072 rfl rfl
theorem zi_224_1073 : z_ins 224 1073 = some (.invokestatic 156, 3) := by decide +kernel
theorem ze_224_1073 : z_T g d 224 1073 ls (.ref a2 :: .int x1 :: .ref a0 :: st) h P = ((z_okS 8 st = true ∧ 0 < d) ∧ z_Ca g (d - 1) 213 [.ref a0, .int x1, .ref a2] h (fun r => z_k r (fun v h' => z_T g d 224 1076 ls (z_push v st) h' P) P)) := zt_callS0 (as := [.ref a0, .int x1, .ref a2]) zi_224_1073 ((congrArg (fun o => z_lookup z_prs (o, 156)) zo_224).trans zp_LatinRectanglesLaw_156) ((congrArg (fun o => z_clk o 156) zo_224).trans zk_LatinRectanglesLaw_156) zh_224 rfl rfl rfl
theorem zi_224_1076 : z_ins 224 1076 = some (.istore 5, 2) := by decide +kernel
theorem ze_224_1076 : z_T g d 224 1076 (v0 :: v1 :: v2 :: v3 :: v4 :: v5 :: ls) (.int x :: st) h P = z_T g d 224 1078 (v0 :: v1 :: v2 :: v3 :: v4 :: .int x :: ls) st h P := zt_istore zi_224_1076 (Nat.le_add_left 6 _)
theorem zi_224_1078 : z_ins 224 1078 = some (.aload_n 2, 1) := by decide +kernel
theorem ze_224_1078 : z_T g d 224 1078 (v0 :: v1 :: .ref a :: ls) st h P = z_T g d 224 1079 (v0 :: v1 :: .ref a :: ls) (.ref a :: st) h P := zt_aloadn zi_224_1078 rfl rfl
theorem zi_224_1079 : z_ins 224 1079 = some (.aload_n 0, 1) := by decide +kernel
theorem ze_224_1079 : z_T g d 224 1079 (.retAddr b :: ls) st h P = z_T g d 224 1080 (.retAddr b :: ls) (.retAddr b :: st) h P := zt_aloadnS zi_224_1079 rfl rfl
theorem zi_224_1080 : z_ins 224 1080 = some (.iload 4, 2) := by decide +kernel
theorem ze_224_1080 : z_T g d 224 1080 (v0 :: v1 :: v2 :: v3 :: .int x :: ls) st h P = z_T g d 224 1082 (v0 :: v1 :: v2 :: v3 :: .int x :: ls) (.int x :: st) h P := zt_iload zi_224_1080 rfl
theorem zi_224_1082 : z_ins 224 1082 = some (.iconst 1, 1) := by decide +kernel
theorem ze_224_1082 : z_T g d 224 1082 ls st h P = z_T g d 224 1083 ls (.int (nI 1) :: st) h P := zt_iconst zi_224_1082 rfl
theorem zi_224_1083 : z_ins 224 1083 = some (.iadd, 1) := by decide +kernel
theorem ze_224_1083 : z_T g d 224 1083 ls (.int y :: .int x :: st) h P = z_T g d 224 1084 ls (.int (x + y) :: st) h P := zt_bin (f := fun x y => x + y) zi_224_1083 rfl (fun _ _ _ => rfl)
theorem zi_224_1084 : z_ins 224 1084 = some (.iaload, 1) := by decide +kernel
theorem ze_224_1084 (hx : z_idx x g.1 = true) : z_T g d 224 1084 ls (.int x :: .retAddr 99 :: st) h P = z_T g d 224 1085 ls (.int (g.2 x.toNatClampNeg) :: st) h P := zt_script zi_224_1084 hx
theorem zi_224_1085 : z_ins 224 1085 = some (.invokevirtual 158, 3) := by decide +kernel
theorem ze_224_1085 : z_T g d 224 1085 ls (.int x0 :: .ref a :: st) h P = ((z_okS 8 st = true ∧ z_gO h.1 a 10 ∧ 0 < d) ∧ z_Ca g (d - 1) 174 [.ref a, .int x0] h (fun r => z_k r (fun v h' => z_T g d 224 1088 ls (z_push v st) h' P) P)) := zt_callV (as := [.int x0]) zi_224_1085 ((congrArg (fun o => z_lookup z_prs (o, 158)) zo_224).trans zp_LatinRectanglesLaw_158) ((congrArg (fun o => z_clk o 158) zo_224).trans zk_LatinRectanglesLaw_158) zh_224 zc_174 rfl rfl rfl
theorem zi_224_1088 : z_ins 224 1088 = some (.istore 6, 2) := by decide +kernel
theorem ze_224_1088 : z_T g d 224 1088 (v0 :: v1 :: v2 :: v3 :: v4 :: v5 :: v6 :: ls) (.int x :: st) h P = z_T g d 224 1090 (v0 :: v1 :: v2 :: v3 :: v4 :: v5 :: .int x :: ls) st h P := zt_istore zi_224_1088 (Nat.le_add_left 7 _)
theorem zi_224_1090 : z_ins 224 1090 = some (.aload_n 2, 1) := by decide +kernel
theorem ze_224_1090 : z_T g d 224 1090 (v0 :: v1 :: .ref a :: ls) st h P = z_T g d 224 1091 (v0 :: v1 :: .ref a :: ls) (.ref a :: st) h P := zt_aloadn zi_224_1090 rfl rfl
theorem zi_224_1091 : z_ins 224 1091 = some (.invokevirtual 101, 3) := by decide +kernel
theorem ze_224_1091 : z_T g d 224 1091 ls (.ref a :: st) h P = ((z_okS 8 st = true ∧ z_gO h.1 a 10 ∧ 0 < d) ∧ z_Ca g (d - 1) 121 [.ref a] h (fun r => z_k r (fun v h' => z_T g d 224 1094 ls (z_push v st) h' P) P)) := zt_callV (as := []) zi_224_1091 ((congrArg (fun o => z_lookup z_prs (o, 101)) zo_224).trans zp_LatinRectanglesLaw_101) ((congrArg (fun o => z_clk o 101) zo_224).trans zk_LatinRectanglesLaw_101) zh_224 zc_121 rfl rfl rfl
theorem zi_224_1094 : z_ins 224 1094 = some (.iload 5, 2) := by decide +kernel
theorem ze_224_1094 : z_T g d 224 1094 (v0 :: v1 :: v2 :: v3 :: v4 :: .int x :: ls) st h P = z_T g d 224 1096 (v0 :: v1 :: v2 :: v3 :: v4 :: .int x :: ls) (.int x :: st) h P := zt_iload zi_224_1094 rfl
theorem zi_224_1096 : z_ins 224 1096 = some (.if_icmp .eq 5, 3) := by decide +kernel
theorem ze_224_1096 : z_T g d 224 1096 ls (.int y :: .int x :: st) h P = (if x = y then z_T g d 224 1101 ls st h P else z_T g d 224 1099 ls st h P) := zt_icmpeq zi_224_1096 (by decide)
theorem zi_224_1099 : z_ins 224 1099 = some (.iconst 0, 1) := by decide +kernel
theorem ze_224_1099 : z_T g d 224 1099 ls st h P = z_T g d 224 1100 ls (.int (nI 0) :: st) h P := zt_iconst zi_224_1099 rfl
theorem zi_224_1100 : z_ins 224 1100 = some (.ireturn, 1) := by decide +kernel
theorem ze_224_1100 : z_T g d 224 1100 ls [.int x] h P = ((x = nI 0 ∨ x = nI 1) ∧ P (.inr (some (.int x)), h)) := zt_zreturn zi_224_1100 zr_224
theorem zi_224_1101 : z_ins 224 1101 = some (.iload 5, 2) := by decide +kernel
theorem ze_224_1101 : z_T g d 224 1101 (v0 :: v1 :: v2 :: v3 :: v4 :: .int x :: ls) st h P = z_T g d 224 1103 (v0 :: v1 :: v2 :: v3 :: v4 :: .int x :: ls) (.int x :: st) h P := zt_iload zi_224_1101 rfl
theorem zi_224_1103 : z_ins 224 1103 = some (.ifCond .ne 15, 3) := by decide +kernel
theorem ze_224_1103 : z_T g d 224 1103 ls (.int x :: st) h P = (if x = nI 0 then z_T g d 224 1106 ls st h P else z_T g d 224 1118 ls st h P) := zt_ifne zi_224_1103 (by decide)
theorem zi_224_1106 : z_ins 224 1106 = some (.aload_n 3, 1) := by decide +kernel
theorem ze_224_1106 : z_T g d 224 1106 (v0 :: v1 :: v2 :: .ref a :: ls) st h P = z_T g d 224 1107 (v0 :: v1 :: v2 :: .ref a :: ls) (.ref a :: st) h P := zt_aloadn zi_224_1106 rfl rfl
theorem zi_224_1107 : z_ins 224 1107 = some (.iconst 0, 1) := by decide +kernel
theorem ze_224_1107 : z_T g d 224 1107 ls st h P = z_T g d 224 1108 ls (.int (nI 0) :: st) h P := zt_iconst zi_224_1107 rfl
theorem zi_224_1108 : z_ins 224 1108 = some (.laload, 1) := by decide +kernel
theorem ze_224_1108 : z_T g d 224 1108 ls (.int x :: .ref a :: st) h P = z_lL h.1 a x (fun v => z_T g d 224 1109 ls (.long v :: st) h P) := zt_laload zi_224_1108
theorem zi_224_1109 : z_ins 224 1109 = some (.iload 6, 2) := by decide +kernel
theorem ze_224_1109 : z_T g d 224 1109 (v0 :: v1 :: v2 :: v3 :: v4 :: v5 :: .int x :: ls) st h P = z_T g d 224 1111 (v0 :: v1 :: v2 :: v3 :: v4 :: v5 :: .int x :: ls) (.int x :: st) h P := zt_iload zi_224_1109 rfl
theorem zi_224_1111 : z_ins 224 1111 = some (.i2l, 1) := by decide +kernel
theorem ze_224_1111 : z_T g d 224 1111 ls (.int x :: st) h P = z_T g d 224 1112 ls (.long x.toInt64 :: st) h P := zt_i2l zi_224_1111
theorem zi_224_1112 : z_ins 224 1112 = some (.lcmp, 1) := by decide +kernel
theorem ze_224_1112 : z_T g d 224 1112 ls (.long w :: .long u :: st) h P = z_T g d 224 1113 ls (.int (lg_cmp u w) :: st) h P := zt_lcmp zi_224_1112
theorem zi_224_1113 : z_ins 224 1113 = some (.ifCond .eq 5, 3) := by decide +kernel
theorem ze_224_1113 : z_T g d 224 1113 ls (.int x :: st) h P = (if x = nI 0 then z_T g d 224 1118 ls st h P else z_T g d 224 1116 ls st h P) := zt_ifeq zi_224_1113 (by decide)
theorem zi_224_1116 : z_ins 224 1116 = some (.iconst 0, 1) := by decide +kernel
theorem ze_224_1116 : z_T g d 224 1116 ls st h P = z_T g d 224 1117 ls (.int (nI 0) :: st) h P := zt_iconst zi_224_1116 rfl
theorem zi_224_1117 : z_ins 224 1117 = some (.ireturn, 1) := by decide +kernel
theorem ze_224_1117 : z_T g d 224 1117 ls [.int x] h P = ((x = nI 0 ∨ x = nI 1) ∧ P (.inr (some (.int x)), h)) := zt_zreturn zi_224_1117 zr_224
theorem zi_224_1118 : z_ins 224 1118 = some (.goto 725, 3) := by decide +kernel
theorem ze_224_1118 : z_T g d 224 1118 ls st h P = z_T g d 224 1843 ls st h P := zt_goto zi_224_1118 (by decide)
theorem zi_224_1121 : z_ins 224 1121 = some (.aload_n 1, 1) := by decide +kernel
theorem ze_224_1121 : z_T g d 224 1121 (v0 :: .ref a :: ls) st h P = z_T g d 224 1122 (v0 :: .ref a :: ls) (.ref a :: st) h P := zt_aloadn zi_224_1121 rfl rfl
theorem zi_224_1122 : z_ins 224 1122 = some (.invokevirtual 159, 3) := by decide +kernel
theorem ze_224_1122 : z_T g d 224 1122 ls (.ref a :: st) h P = ((z_okS 8 st = true ∧ z_gO h.1 a 9 ∧ 0 < d) ∧ z_Ca g (d - 1) 98 [.ref a] h (fun r => z_k r (fun v h' => z_T g d 224 1125 ls (z_push v st) h' P) P)) := zt_callV (as := []) zi_224_1122 ((congrArg (fun o => z_lookup z_prs (o, 159)) zo_224).trans zp_LatinRectanglesLaw_159) ((congrArg (fun o => z_clk o 159) zo_224).trans zk_LatinRectanglesLaw_159) zh_224 zc_98 rfl rfl rfl
theorem zi_224_1125 : z_ins 224 1125 = some (.aload_n 2, 1) := by decide +kernel
theorem ze_224_1125 : z_T g d 224 1125 (v0 :: v1 :: .ref a :: ls) st h P = z_T g d 224 1126 (v0 :: v1 :: .ref a :: ls) (.ref a :: st) h P := zt_aloadn zi_224_1125 rfl rfl
theorem zi_224_1126 : z_ins 224 1126 = some (.invokevirtual 162, 3) := by decide +kernel
theorem ze_224_1126 : z_T g d 224 1126 ls (.ref a :: st) h P = ((z_okS 8 st = true ∧ z_gO h.1 a 10 ∧ 0 < d) ∧ z_Ca g (d - 1) 176 [.ref a] h (fun r => z_k r (fun v h' => z_T g d 224 1129 ls (z_push v st) h' P) P)) := zt_callV (as := []) zi_224_1126 ((congrArg (fun o => z_lookup z_prs (o, 162)) zo_224).trans zp_LatinRectanglesLaw_162) ((congrArg (fun o => z_clk o 162) zo_224).trans zk_LatinRectanglesLaw_162) zh_224 zc_176 rfl rfl rfl
theorem zi_224_1129 : z_ins 224 1129 = some (.if_icmp .eq 714, 3) := by decide +kernel
theorem ze_224_1129 : z_T g d 224 1129 ls (.int y :: .int x :: st) h P = (if x = y then z_T g d 224 1843 ls st h P else z_T g d 224 1132 ls st h P) := zt_icmpeq zi_224_1129 (by decide)
theorem zi_224_1132 : z_ins 224 1132 = some (.iconst 0, 1) := by decide +kernel
theorem ze_224_1132 : z_T g d 224 1132 ls st h P = z_T g d 224 1133 ls (.int (nI 0) :: st) h P := zt_iconst zi_224_1132 rfl
theorem zi_224_1133 : z_ins 224 1133 = some (.ireturn, 1) := by decide +kernel
theorem ze_224_1133 : z_T g d 224 1133 ls [.int x] h P = ((x = nI 0 ∨ x = nI 1) ∧ P (.inr (some (.int x)), h)) := zt_zreturn zi_224_1133 zr_224
theorem zi_224_1134 : z_ins 224 1134 = some (.aload_n 1, 1) := by decide +kernel
theorem ze_224_1134 : z_T g d 224 1134 (v0 :: .ref a :: ls) st h P = z_T g d 224 1135 (v0 :: .ref a :: ls) (.ref a :: st) h P := zt_aloadn zi_224_1134 rfl rfl
theorem zi_224_1135 : z_ins 224 1135 = some (.aload_n 0, 1) := by decide +kernel
theorem ze_224_1135 : z_T g d 224 1135 (.retAddr b :: ls) st h P = z_T g d 224 1136 (.retAddr b :: ls) (.retAddr b :: st) h P := zt_aloadnS zi_224_1135 rfl rfl
theorem zi_224_1136 : z_ins 224 1136 = some (.iload 4, 2) := by decide +kernel
theorem ze_224_1136 : z_T g d 224 1136 (v0 :: v1 :: v2 :: v3 :: .int x :: ls) st h P = z_T g d 224 1138 (v0 :: v1 :: v2 :: v3 :: .int x :: ls) (.int x :: st) h P := zt_iload zi_224_1136 rfl
theorem zi_224_1138 : z_ins 224 1138 = some (.iconst 1, 1) := by decide +kernel
theorem ze_224_1138 : z_T g d 224 1138 ls st h P = z_T g d 224 1139 ls (.int (nI 1) :: st) h P := zt_iconst zi_224_1138 rfl
theorem zi_224_1139 : z_ins 224 1139 = some (.iadd, 1) := by decide +kernel
theorem ze_224_1139 : z_T g d 224 1139 ls (.int y :: .int x :: st) h P = z_T g d 224 1140 ls (.int (x + y) :: st) h P := zt_bin (f := fun x y => x + y) zi_224_1139 rfl (fun _ _ _ => rfl)
theorem zi_224_1140 : z_ins 224 1140 = some (.iaload, 1) := by decide +kernel
theorem ze_224_1140 (hx : z_idx x g.1 = true) : z_T g d 224 1140 ls (.int x :: .retAddr 99 :: st) h P = z_T g d 224 1141 ls (.int (g.2 x.toNatClampNeg) :: st) h P := zt_script zi_224_1140 hx
theorem zi_224_1141 : z_ins 224 1141 = some (.aload_n 0, 1) := by decide +kernel
theorem ze_224_1141 : z_T g d 224 1141 (.retAddr b :: ls) st h P = z_T g d 224 1142 (.retAddr b :: ls) (.retAddr b :: st) h P := zt_aloadnS zi_224_1141 rfl rfl
theorem zi_224_1142 : z_ins 224 1142 = some (.iload 4, 2) := by decide +kernel
theorem ze_224_1142 : z_T g d 224 1142 (v0 :: v1 :: v2 :: v3 :: .int x :: ls) st h P = z_T g d 224 1144 (v0 :: v1 :: v2 :: v3 :: .int x :: ls) (.int x :: st) h P := zt_iload zi_224_1142 rfl
theorem zi_224_1144 : z_ins 224 1144 = some (.iconst 2, 1) := by decide +kernel
theorem ze_224_1144 : z_T g d 224 1144 ls st h P = z_T g d 224 1145 ls (.int (nI 2) :: st) h P := zt_iconst zi_224_1144 rfl
theorem zi_224_1145 : z_ins 224 1145 = some (.iadd, 1) := by decide +kernel
theorem ze_224_1145 : z_T g d 224 1145 ls (.int y :: .int x :: st) h P = z_T g d 224 1146 ls (.int (x + y) :: st) h P := zt_bin (f := fun x y => x + y) zi_224_1145 rfl (fun _ _ _ => rfl)
theorem zi_224_1146 : z_ins 224 1146 = some (.iaload, 1) := by decide +kernel
theorem ze_224_1146 (hx : z_idx x g.1 = true) : z_T g d 224 1146 ls (.int x :: .retAddr 99 :: st) h P = z_T g d 224 1147 ls (.int (g.2 x.toNatClampNeg) :: st) h P := zt_script zi_224_1146 hx
theorem zi_224_1147 : z_ins 224 1147 = some (.aload_n 0, 1) := by decide +kernel
theorem ze_224_1147 : z_T g d 224 1147 (.retAddr b :: ls) st h P = z_T g d 224 1148 (.retAddr b :: ls) (.retAddr b :: st) h P := zt_aloadnS zi_224_1147 rfl rfl
theorem zi_224_1148 : z_ins 224 1148 = some (.iload 4, 2) := by decide +kernel
theorem ze_224_1148 : z_T g d 224 1148 (v0 :: v1 :: v2 :: v3 :: .int x :: ls) st h P = z_T g d 224 1150 (v0 :: v1 :: v2 :: v3 :: .int x :: ls) (.int x :: st) h P := zt_iload zi_224_1148 rfl
theorem zi_224_1150 : z_ins 224 1150 = some (.iconst 3, 1) := by decide +kernel
theorem ze_224_1150 : z_T g d 224 1150 ls st h P = z_T g d 224 1151 ls (.int (nI 3) :: st) h P := zt_iconst zi_224_1150 rfl
theorem zi_224_1151 : z_ins 224 1151 = some (.iadd, 1) := by decide +kernel
theorem ze_224_1151 : z_T g d 224 1151 ls (.int y :: .int x :: st) h P = z_T g d 224 1152 ls (.int (x + y) :: st) h P := zt_bin (f := fun x y => x + y) zi_224_1151 rfl (fun _ _ _ => rfl)
theorem zi_224_1152 : z_ins 224 1152 = some (.iaload, 1) := by decide +kernel
theorem ze_224_1152 (hx : z_idx x g.1 = true) : z_T g d 224 1152 ls (.int x :: .retAddr 99 :: st) h P = z_T g d 224 1153 ls (.int (g.2 x.toNatClampNeg) :: st) h P := zt_script zi_224_1152 hx
theorem zi_224_1153 : z_ins 224 1153 = some (.aload_n 3, 1) := by decide +kernel
theorem ze_224_1153 : z_T g d 224 1153 (v0 :: v1 :: v2 :: .ref a :: ls) st h P = z_T g d 224 1154 (v0 :: v1 :: v2 :: .ref a :: ls) (.ref a :: st) h P := zt_aloadn zi_224_1153 rfl rfl
theorem zi_224_1154 : z_ins 224 1154 = some (.invokestatic 163, 3) := by decide +kernel
theorem ze_224_1154 : z_T g d 224 1154 ls (.ref a4 :: .int x3 :: .int x2 :: .int x1 :: .ref a0 :: st) h P = ((z_okS 8 st = true ∧ 0 < d) ∧ z_Ca g (d - 1) 214 [.ref a0, .int x1, .int x2, .int x3, .ref a4] h (fun r => z_k r (fun v h' => z_T g d 224 1157 ls (z_push v st) h' P) P)) := zt_callS0 (as := [.ref a0, .int x1, .int x2, .int x3, .ref a4]) zi_224_1154 ((congrArg (fun o => z_lookup z_prs (o, 163)) zo_224).trans zp_LatinRectanglesLaw_163) ((congrArg (fun o => z_clk o 163) zo_224).trans zk_LatinRectanglesLaw_163) zh_224 rfl rfl rfl
theorem zi_224_1157 : z_ins 224 1157 = some (.istore 5, 2) := by decide +kernel
theorem ze_224_1157 : z_T g d 224 1157 (v0 :: v1 :: v2 :: v3 :: v4 :: v5 :: ls) (.int x :: st) h P = z_T g d 224 1159 (v0 :: v1 :: v2 :: v3 :: v4 :: .int x :: ls) st h P := zt_istore zi_224_1157 (Nat.le_add_left 6 _)
theorem zi_224_1159 : z_ins 224 1159 = some (.aload_n 2, 1) := by decide +kernel
theorem ze_224_1159 : z_T g d 224 1159 (v0 :: v1 :: .ref a :: ls) st h P = z_T g d 224 1160 (v0 :: v1 :: .ref a :: ls) (.ref a :: st) h P := zt_aloadn zi_224_1159 rfl rfl
theorem zi_224_1160 : z_ins 224 1160 = some (.aload_n 0, 1) := by decide +kernel
theorem ze_224_1160 : z_T g d 224 1160 (.retAddr b :: ls) st h P = z_T g d 224 1161 (.retAddr b :: ls) (.retAddr b :: st) h P := zt_aloadnS zi_224_1160 rfl rfl
theorem zi_224_1161 : z_ins 224 1161 = some (.iload 4, 2) := by decide +kernel
theorem ze_224_1161 : z_T g d 224 1161 (v0 :: v1 :: v2 :: v3 :: .int x :: ls) st h P = z_T g d 224 1163 (v0 :: v1 :: v2 :: v3 :: .int x :: ls) (.int x :: st) h P := zt_iload zi_224_1161 rfl
theorem zi_224_1163 : z_ins 224 1163 = some (.iconst 1, 1) := by decide +kernel
theorem ze_224_1163 : z_T g d 224 1163 ls st h P = z_T g d 224 1164 ls (.int (nI 1) :: st) h P := zt_iconst zi_224_1163 rfl
theorem zi_224_1164 : z_ins 224 1164 = some (.iadd, 1) := by decide +kernel
theorem ze_224_1164 : z_T g d 224 1164 ls (.int y :: .int x :: st) h P = z_T g d 224 1165 ls (.int (x + y) :: st) h P := zt_bin (f := fun x y => x + y) zi_224_1164 rfl (fun _ _ _ => rfl)
theorem zi_224_1165 : z_ins 224 1165 = some (.iaload, 1) := by decide +kernel
theorem ze_224_1165 (hx : z_idx x g.1 = true) : z_T g d 224 1165 ls (.int x :: .retAddr 99 :: st) h P = z_T g d 224 1166 ls (.int (g.2 x.toNatClampNeg) :: st) h P := zt_script zi_224_1165 hx
theorem zi_224_1166 : z_ins 224 1166 = some (.aload_n 0, 1) := by decide +kernel
theorem ze_224_1166 : z_T g d 224 1166 (.retAddr b :: ls) st h P = z_T g d 224 1167 (.retAddr b :: ls) (.retAddr b :: st) h P := zt_aloadnS zi_224_1166 rfl rfl
theorem zi_224_1167 : z_ins 224 1167 = some (.iload 4, 2) := by decide +kernel
theorem ze_224_1167 : z_T g d 224 1167 (v0 :: v1 :: v2 :: v3 :: .int x :: ls) st h P = z_T g d 224 1169 (v0 :: v1 :: v2 :: v3 :: .int x :: ls) (.int x :: st) h P := zt_iload zi_224_1167 rfl
theorem zi_224_1169 : z_ins 224 1169 = some (.iconst 2, 1) := by decide +kernel
theorem ze_224_1169 : z_T g d 224 1169 ls st h P = z_T g d 224 1170 ls (.int (nI 2) :: st) h P := zt_iconst zi_224_1169 rfl
theorem zi_224_1170 : z_ins 224 1170 = some (.iadd, 1) := by decide +kernel
theorem ze_224_1170 : z_T g d 224 1170 ls (.int y :: .int x :: st) h P = z_T g d 224 1171 ls (.int (x + y) :: st) h P := zt_bin (f := fun x y => x + y) zi_224_1170 rfl (fun _ _ _ => rfl)
theorem zi_224_1171 : z_ins 224 1171 = some (.iaload, 1) := by decide +kernel
theorem ze_224_1171 (hx : z_idx x g.1 = true) : z_T g d 224 1171 ls (.int x :: .retAddr 99 :: st) h P = z_T g d 224 1172 ls (.int (g.2 x.toNatClampNeg) :: st) h P := zt_script zi_224_1171 hx
theorem zi_224_1172 : z_ins 224 1172 = some (.aload_n 0, 1) := by decide +kernel
theorem ze_224_1172 : z_T g d 224 1172 (.retAddr b :: ls) st h P = z_T g d 224 1173 (.retAddr b :: ls) (.retAddr b :: st) h P := zt_aloadnS zi_224_1172 rfl rfl
theorem zi_224_1173 : z_ins 224 1173 = some (.iload 4, 2) := by decide +kernel
theorem ze_224_1173 : z_T g d 224 1173 (v0 :: v1 :: v2 :: v3 :: .int x :: ls) st h P = z_T g d 224 1175 (v0 :: v1 :: v2 :: v3 :: .int x :: ls) (.int x :: st) h P := zt_iload zi_224_1173 rfl
theorem zi_224_1175 : z_ins 224 1175 = some (.iconst 3, 1) := by decide +kernel
theorem ze_224_1175 : z_T g d 224 1175 ls st h P = z_T g d 224 1176 ls (.int (nI 3) :: st) h P := zt_iconst zi_224_1175 rfl
theorem zi_224_1176 : z_ins 224 1176 = some (.iadd, 1) := by decide +kernel
theorem ze_224_1176 : z_T g d 224 1176 ls (.int y :: .int x :: st) h P = z_T g d 224 1177 ls (.int (x + y) :: st) h P := zt_bin (f := fun x y => x + y) zi_224_1176 rfl (fun _ _ _ => rfl)
theorem zi_224_1177 : z_ins 224 1177 = some (.iaload, 1) := by decide +kernel
theorem ze_224_1177 (hx : z_idx x g.1 = true) : z_T g d 224 1177 ls (.int x :: .retAddr 99 :: st) h P = z_T g d 224 1178 ls (.int (g.2 x.toNatClampNeg) :: st) h P := zt_script zi_224_1177 hx
theorem zi_224_1178 : z_ins 224 1178 = some (.invokevirtual 166, 3) := by decide +kernel
theorem ze_224_1178 : z_T g d 224 1178 ls (.int x2 :: .int x1 :: .int x0 :: .ref a :: st) h P = ((z_okS 8 st = true ∧ z_gO h.1 a 10 ∧ 0 < d) ∧ z_Ca g (d - 1) 179 [.ref a, .int x0, .int x1, .int x2] h (fun r => z_k r (fun v h' => z_T g d 224 1181 ls (z_push v st) h' P) P)) := zt_callV (as := [.int x0, .int x1, .int x2]) zi_224_1178 ((congrArg (fun o => z_lookup z_prs (o, 166)) zo_224).trans zp_LatinRectanglesLaw_166) ((congrArg (fun o => z_clk o 166) zo_224).trans zk_LatinRectanglesLaw_166) zh_224 zc_179 rfl rfl rfl
theorem zi_224_1181 : z_ins 224 1181 = some (.istore 6, 2) := by decide +kernel
theorem ze_224_1181 : z_T g d 224 1181 (v0 :: v1 :: v2 :: v3 :: v4 :: v5 :: v6 :: ls) (.int x :: st) h P = z_T g d 224 1183 (v0 :: v1 :: v2 :: v3 :: v4 :: v5 :: .int x :: ls) st h P := zt_istore zi_224_1181 (Nat.le_add_left 7 _)
theorem zi_224_1183 : z_ins 224 1183 = some (.aload_n 2, 1) := by decide +kernel
theorem ze_224_1183 : z_T g d 224 1183 (v0 :: v1 :: .ref a :: ls) st h P = z_T g d 224 1184 (v0 :: v1 :: .ref a :: ls) (.ref a :: st) h P := zt_aloadn zi_224_1183 rfl rfl
theorem zi_224_1184 : z_ins 224 1184 = some (.invokevirtual 101, 3) := by decide +kernel
theorem ze_224_1184 : z_T g d 224 1184 ls (.ref a :: st) h P = ((z_okS 8 st = true ∧ z_gO h.1 a 10 ∧ 0 < d) ∧ z_Ca g (d - 1) 121 [.ref a] h (fun r => z_k r (fun v h' => z_T g d 224 1187 ls (z_push v st) h' P) P)) := zt_callV (as := []) zi_224_1184 ((congrArg (fun o => z_lookup z_prs (o, 101)) zo_224).trans zp_LatinRectanglesLaw_101) ((congrArg (fun o => z_clk o 101) zo_224).trans zk_LatinRectanglesLaw_101) zh_224 zc_121 rfl rfl rfl
theorem zi_224_1187 : z_ins 224 1187 = some (.iload 5, 2) := by decide +kernel
theorem ze_224_1187 : z_T g d 224 1187 (v0 :: v1 :: v2 :: v3 :: v4 :: .int x :: ls) st h P = z_T g d 224 1189 (v0 :: v1 :: v2 :: v3 :: v4 :: .int x :: ls) (.int x :: st) h P := zt_iload zi_224_1187 rfl
theorem zi_224_1189 : z_ins 224 1189 = some (.if_icmp .eq 5, 3) := by decide +kernel
theorem ze_224_1189 : z_T g d 224 1189 ls (.int y :: .int x :: st) h P = (if x = y then z_T g d 224 1194 ls st h P else z_T g d 224 1192 ls st h P) := zt_icmpeq zi_224_1189 (by decide)
theorem zi_224_1192 : z_ins 224 1192 = some (.iconst 0, 1) := by decide +kernel
theorem ze_224_1192 : z_T g d 224 1192 ls st h P = z_T g d 224 1193 ls (.int (nI 0) :: st) h P := zt_iconst zi_224_1192 rfl
theorem zi_224_1193 : z_ins 224 1193 = some (.ireturn, 1) := by decide +kernel
theorem ze_224_1193 : z_T g d 224 1193 ls [.int x] h P = ((x = nI 0 ∨ x = nI 1) ∧ P (.inr (some (.int x)), h)) := zt_zreturn zi_224_1193 zr_224
theorem zi_224_1194 : z_ins 224 1194 = some (.iload 5, 2) := by decide +kernel
theorem ze_224_1194 : z_T g d 224 1194 (v0 :: v1 :: v2 :: v3 :: v4 :: .int x :: ls) st h P = z_T g d 224 1196 (v0 :: v1 :: v2 :: v3 :: v4 :: .int x :: ls) (.int x :: st) h P := zt_iload zi_224_1194 rfl
theorem zi_224_1196 : z_ins 224 1196 = some (.ifCond .ne 15, 3) := by decide +kernel
theorem ze_224_1196 : z_T g d 224 1196 ls (.int x :: st) h P = (if x = nI 0 then z_T g d 224 1199 ls st h P else z_T g d 224 1211 ls st h P) := zt_ifne zi_224_1196 (by decide)
theorem zi_224_1199 : z_ins 224 1199 = some (.aload_n 3, 1) := by decide +kernel
theorem ze_224_1199 : z_T g d 224 1199 (v0 :: v1 :: v2 :: .ref a :: ls) st h P = z_T g d 224 1200 (v0 :: v1 :: v2 :: .ref a :: ls) (.ref a :: st) h P := zt_aloadn zi_224_1199 rfl rfl
theorem zi_224_1200 : z_ins 224 1200 = some (.iconst 0, 1) := by decide +kernel
theorem ze_224_1200 : z_T g d 224 1200 ls st h P = z_T g d 224 1201 ls (.int (nI 0) :: st) h P := zt_iconst zi_224_1200 rfl
theorem zi_224_1201 : z_ins 224 1201 = some (.laload, 1) := by decide +kernel
theorem ze_224_1201 : z_T g d 224 1201 ls (.int x :: .ref a :: st) h P = z_lL h.1 a x (fun v => z_T g d 224 1202 ls (.long v :: st) h P) := zt_laload zi_224_1201
theorem zi_224_1202 : z_ins 224 1202 = some (.iload 6, 2) := by decide +kernel
theorem ze_224_1202 : z_T g d 224 1202 (v0 :: v1 :: v2 :: v3 :: v4 :: v5 :: .int x :: ls) st h P = z_T g d 224 1204 (v0 :: v1 :: v2 :: v3 :: v4 :: v5 :: .int x :: ls) (.int x :: st) h P := zt_iload zi_224_1202 rfl
theorem zi_224_1204 : z_ins 224 1204 = some (.i2l, 1) := by decide +kernel
theorem ze_224_1204 : z_T g d 224 1204 ls (.int x :: st) h P = z_T g d 224 1205 ls (.long x.toInt64 :: st) h P := zt_i2l zi_224_1204
theorem zi_224_1205 : z_ins 224 1205 = some (.lcmp, 1) := by decide +kernel
theorem ze_224_1205 : z_T g d 224 1205 ls (.long w :: .long u :: st) h P = z_T g d 224 1206 ls (.int (lg_cmp u w) :: st) h P := zt_lcmp zi_224_1205
theorem zi_224_1206 : z_ins 224 1206 = some (.ifCond .eq 5, 3) := by decide +kernel
theorem ze_224_1206 : z_T g d 224 1206 ls (.int x :: st) h P = (if x = nI 0 then z_T g d 224 1211 ls st h P else z_T g d 224 1209 ls st h P) := zt_ifeq zi_224_1206 (by decide)
theorem zi_224_1209 : z_ins 224 1209 = some (.iconst 0, 1) := by decide +kernel
theorem ze_224_1209 : z_T g d 224 1209 ls st h P = z_T g d 224 1210 ls (.int (nI 0) :: st) h P := zt_iconst zi_224_1209 rfl
theorem zi_224_1210 : z_ins 224 1210 = some (.ireturn, 1) := by decide +kernel
theorem ze_224_1210 : z_T g d 224 1210 ls [.int x] h P = ((x = nI 0 ∨ x = nI 1) ∧ P (.inr (some (.int x)), h)) := zt_zreturn zi_224_1210 zr_224
theorem zi_224_1211 : z_ins 224 1211 = some (.goto 632, 3) := by decide +kernel
theorem ze_224_1211 : z_T g d 224 1211 ls st h P = z_T g d 224 1843 ls st h P := zt_goto zi_224_1211 (by decide)
theorem zi_224_1214 : z_ins 224 1214 = some (.aload_n 1, 1) := by decide +kernel
theorem ze_224_1214 : z_T g d 224 1214 (v0 :: .ref a :: ls) st h P = z_T g d 224 1215 (v0 :: .ref a :: ls) (.ref a :: st) h P := zt_aloadn zi_224_1214 rfl rfl
theorem zi_224_1215 : z_ins 224 1215 = some (.aload_n 0, 1) := by decide +kernel
theorem ze_224_1215 : z_T g d 224 1215 (.retAddr b :: ls) st h P = z_T g d 224 1216 (.retAddr b :: ls) (.retAddr b :: st) h P := zt_aloadnS zi_224_1215 rfl rfl
theorem zi_224_1216 : z_ins 224 1216 = some (.iload 4, 2) := by decide +kernel
theorem ze_224_1216 : z_T g d 224 1216 (v0 :: v1 :: v2 :: v3 :: .int x :: ls) st h P = z_T g d 224 1218 (v0 :: v1 :: v2 :: v3 :: .int x :: ls) (.int x :: st) h P := zt_iload zi_224_1216 rfl
theorem zi_224_1218 : z_ins 224 1218 = some (.iconst 1, 1) := by decide +kernel
theorem ze_224_1218 : z_T g d 224 1218 ls st h P = z_T g d 224 1219 ls (.int (nI 1) :: st) h P := zt_iconst zi_224_1218 rfl
theorem zi_224_1219 : z_ins 224 1219 = some (.iadd, 1) := by decide +kernel
theorem ze_224_1219 : z_T g d 224 1219 ls (.int y :: .int x :: st) h P = z_T g d 224 1220 ls (.int (x + y) :: st) h P := zt_bin (f := fun x y => x + y) zi_224_1219 rfl (fun _ _ _ => rfl)
theorem zi_224_1220 : z_ins 224 1220 = some (.iaload, 1) := by decide +kernel
theorem ze_224_1220 (hx : z_idx x g.1 = true) : z_T g d 224 1220 ls (.int x :: .retAddr 99 :: st) h P = z_T g d 224 1221 ls (.int (g.2 x.toNatClampNeg) :: st) h P := zt_script zi_224_1220 hx
theorem zi_224_1221 : z_ins 224 1221 = some (.aload_n 0, 1) := by decide +kernel
theorem ze_224_1221 : z_T g d 224 1221 (.retAddr b :: ls) st h P = z_T g d 224 1222 (.retAddr b :: ls) (.retAddr b :: st) h P := zt_aloadnS zi_224_1221 rfl rfl
theorem zi_224_1222 : z_ins 224 1222 = some (.iload 4, 2) := by decide +kernel
theorem ze_224_1222 : z_T g d 224 1222 (v0 :: v1 :: v2 :: v3 :: .int x :: ls) st h P = z_T g d 224 1224 (v0 :: v1 :: v2 :: v3 :: .int x :: ls) (.int x :: st) h P := zt_iload zi_224_1222 rfl
theorem zi_224_1224 : z_ins 224 1224 = some (.iconst 2, 1) := by decide +kernel
theorem ze_224_1224 : z_T g d 224 1224 ls st h P = z_T g d 224 1225 ls (.int (nI 2) :: st) h P := zt_iconst zi_224_1224 rfl
theorem zi_224_1225 : z_ins 224 1225 = some (.iadd, 1) := by decide +kernel
theorem ze_224_1225 : z_T g d 224 1225 ls (.int y :: .int x :: st) h P = z_T g d 224 1226 ls (.int (x + y) :: st) h P := zt_bin (f := fun x y => x + y) zi_224_1225 rfl (fun _ _ _ => rfl)
theorem zi_224_1226 : z_ins 224 1226 = some (.iaload, 1) := by decide +kernel
theorem ze_224_1226 (hx : z_idx x g.1 = true) : z_T g d 224 1226 ls (.int x :: .retAddr 99 :: st) h P = z_T g d 224 1227 ls (.int (g.2 x.toNatClampNeg) :: st) h P := zt_script zi_224_1226 hx
theorem zi_224_1227 : z_ins 224 1227 = some (.aload_n 3, 1) := by decide +kernel
theorem ze_224_1227 : z_T g d 224 1227 (v0 :: v1 :: v2 :: .ref a :: ls) st h P = z_T g d 224 1228 (v0 :: v1 :: v2 :: .ref a :: ls) (.ref a :: st) h P := zt_aloadn zi_224_1227 rfl rfl
theorem zi_224_1228 : z_ins 224 1228 = some (.invokestatic 167, 3) := by decide +kernel
theorem ze_224_1228 : z_T g d 224 1228 ls (.ref a3 :: .int x2 :: .int x1 :: .ref a0 :: st) h P = ((z_okS 8 st = true ∧ 0 < d) ∧ z_Ca g (d - 1) 215 [.ref a0, .int x1, .int x2, .ref a3] h (fun r => z_k r (fun v h' => z_T g d 224 1231 ls (z_push v st) h' P) P)) := zt_callS0 (as := [.ref a0, .int x1, .int x2, .ref a3]) zi_224_1228 ((congrArg (fun o => z_lookup z_prs (o, 167)) zo_224).trans zp_LatinRectanglesLaw_167) ((congrArg (fun o => z_clk o 167) zo_224).trans zk_LatinRectanglesLaw_167) zh_224 rfl rfl rfl
theorem zi_224_1231 : z_ins 224 1231 = some (.istore 5, 2) := by decide +kernel
theorem ze_224_1231 : z_T g d 224 1231 (v0 :: v1 :: v2 :: v3 :: v4 :: v5 :: ls) (.int x :: st) h P = z_T g d 224 1233 (v0 :: v1 :: v2 :: v3 :: v4 :: .int x :: ls) st h P := zt_istore zi_224_1231 (Nat.le_add_left 6 _)
theorem zi_224_1233 : z_ins 224 1233 = some (.aload_n 2, 1) := by decide +kernel
theorem ze_224_1233 : z_T g d 224 1233 (v0 :: v1 :: .ref a :: ls) st h P = z_T g d 224 1234 (v0 :: v1 :: .ref a :: ls) (.ref a :: st) h P := zt_aloadn zi_224_1233 rfl rfl
theorem zi_224_1234 : z_ins 224 1234 = some (.aload_n 0, 1) := by decide +kernel
theorem ze_224_1234 : z_T g d 224 1234 (.retAddr b :: ls) st h P = z_T g d 224 1235 (.retAddr b :: ls) (.retAddr b :: st) h P := zt_aloadnS zi_224_1234 rfl rfl
theorem zi_224_1235 : z_ins 224 1235 = some (.iload 4, 2) := by decide +kernel
theorem ze_224_1235 : z_T g d 224 1235 (v0 :: v1 :: v2 :: v3 :: .int x :: ls) st h P = z_T g d 224 1237 (v0 :: v1 :: v2 :: v3 :: .int x :: ls) (.int x :: st) h P := zt_iload zi_224_1235 rfl
theorem zi_224_1237 : z_ins 224 1237 = some (.iconst 1, 1) := by decide +kernel
theorem ze_224_1237 : z_T g d 224 1237 ls st h P = z_T g d 224 1238 ls (.int (nI 1) :: st) h P := zt_iconst zi_224_1237 rfl
theorem zi_224_1238 : z_ins 224 1238 = some (.iadd, 1) := by decide +kernel
theorem ze_224_1238 : z_T g d 224 1238 ls (.int y :: .int x :: st) h P = z_T g d 224 1239 ls (.int (x + y) :: st) h P := zt_bin (f := fun x y => x + y) zi_224_1238 rfl (fun _ _ _ => rfl)
theorem zi_224_1239 : z_ins 224 1239 = some (.iaload, 1) := by decide +kernel
theorem ze_224_1239 (hx : z_idx x g.1 = true) : z_T g d 224 1239 ls (.int x :: .retAddr 99 :: st) h P = z_T g d 224 1240 ls (.int (g.2 x.toNatClampNeg) :: st) h P := zt_script zi_224_1239 hx
theorem zi_224_1240 : z_ins 224 1240 = some (.aload_n 0, 1) := by decide +kernel
theorem ze_224_1240 : z_T g d 224 1240 (.retAddr b :: ls) st h P = z_T g d 224 1241 (.retAddr b :: ls) (.retAddr b :: st) h P := zt_aloadnS zi_224_1240 rfl rfl
theorem zi_224_1241 : z_ins 224 1241 = some (.iload 4, 2) := by decide +kernel
theorem ze_224_1241 : z_T g d 224 1241 (v0 :: v1 :: v2 :: v3 :: .int x :: ls) st h P = z_T g d 224 1243 (v0 :: v1 :: v2 :: v3 :: .int x :: ls) (.int x :: st) h P := zt_iload zi_224_1241 rfl
theorem zi_224_1243 : z_ins 224 1243 = some (.iconst 2, 1) := by decide +kernel
theorem ze_224_1243 : z_T g d 224 1243 ls st h P = z_T g d 224 1244 ls (.int (nI 2) :: st) h P := zt_iconst zi_224_1243 rfl
theorem zi_224_1244 : z_ins 224 1244 = some (.iadd, 1) := by decide +kernel
theorem ze_224_1244 : z_T g d 224 1244 ls (.int y :: .int x :: st) h P = z_T g d 224 1245 ls (.int (x + y) :: st) h P := zt_bin (f := fun x y => x + y) zi_224_1244 rfl (fun _ _ _ => rfl)
theorem zi_224_1245 : z_ins 224 1245 = some (.iaload, 1) := by decide +kernel
theorem ze_224_1245 (hx : z_idx x g.1 = true) : z_T g d 224 1245 ls (.int x :: .retAddr 99 :: st) h P = z_T g d 224 1246 ls (.int (g.2 x.toNatClampNeg) :: st) h P := zt_script zi_224_1245 hx
theorem zi_224_1246 : z_ins 224 1246 = some (.invokevirtual 169, 3) := by decide +kernel
theorem ze_224_1246 : z_T g d 224 1246 ls (.int x1 :: .int x0 :: .ref a :: st) h P = ((z_okS 8 st = true ∧ z_gO h.1 a 10 ∧ 0 < d) ∧ z_Ca g (d - 1) 180 [.ref a, .int x0, .int x1] h (fun r => z_k r (fun v h' => z_T g d 224 1249 ls (z_push v st) h' P) P)) := zt_callV (as := [.int x0, .int x1]) zi_224_1246 ((congrArg (fun o => z_lookup z_prs (o, 169)) zo_224).trans zp_LatinRectanglesLaw_169) ((congrArg (fun o => z_clk o 169) zo_224).trans zk_LatinRectanglesLaw_169) zh_224 zc_180 rfl rfl rfl
theorem zi_224_1249 : z_ins 224 1249 = some (.istore 6, 2) := by decide +kernel
theorem ze_224_1249 : z_T g d 224 1249 (v0 :: v1 :: v2 :: v3 :: v4 :: v5 :: v6 :: ls) (.int x :: st) h P = z_T g d 224 1251 (v0 :: v1 :: v2 :: v3 :: v4 :: v5 :: .int x :: ls) st h P := zt_istore zi_224_1249 (Nat.le_add_left 7 _)
theorem zi_224_1251 : z_ins 224 1251 = some (.aload_n 2, 1) := by decide +kernel
theorem ze_224_1251 : z_T g d 224 1251 (v0 :: v1 :: .ref a :: ls) st h P = z_T g d 224 1252 (v0 :: v1 :: .ref a :: ls) (.ref a :: st) h P := zt_aloadn zi_224_1251 rfl rfl
theorem zi_224_1252 : z_ins 224 1252 = some (.invokevirtual 101, 3) := by decide +kernel
theorem ze_224_1252 : z_T g d 224 1252 ls (.ref a :: st) h P = ((z_okS 8 st = true ∧ z_gO h.1 a 10 ∧ 0 < d) ∧ z_Ca g (d - 1) 121 [.ref a] h (fun r => z_k r (fun v h' => z_T g d 224 1255 ls (z_push v st) h' P) P)) := zt_callV (as := []) zi_224_1252 ((congrArg (fun o => z_lookup z_prs (o, 101)) zo_224).trans zp_LatinRectanglesLaw_101) ((congrArg (fun o => z_clk o 101) zo_224).trans zk_LatinRectanglesLaw_101) zh_224 zc_121 rfl rfl rfl
theorem zi_224_1255 : z_ins 224 1255 = some (.iload 5, 2) := by decide +kernel
theorem ze_224_1255 : z_T g d 224 1255 (v0 :: v1 :: v2 :: v3 :: v4 :: .int x :: ls) st h P = z_T g d 224 1257 (v0 :: v1 :: v2 :: v3 :: v4 :: .int x :: ls) (.int x :: st) h P := zt_iload zi_224_1255 rfl
theorem zi_224_1257 : z_ins 224 1257 = some (.if_icmp .eq 5, 3) := by decide +kernel
theorem ze_224_1257 : z_T g d 224 1257 ls (.int y :: .int x :: st) h P = (if x = y then z_T g d 224 1262 ls st h P else z_T g d 224 1260 ls st h P) := zt_icmpeq zi_224_1257 (by decide)
theorem zi_224_1260 : z_ins 224 1260 = some (.iconst 0, 1) := by decide +kernel
theorem ze_224_1260 : z_T g d 224 1260 ls st h P = z_T g d 224 1261 ls (.int (nI 0) :: st) h P := zt_iconst zi_224_1260 rfl
theorem zi_224_1261 : z_ins 224 1261 = some (.ireturn, 1) := by decide +kernel
theorem ze_224_1261 : z_T g d 224 1261 ls [.int x] h P = ((x = nI 0 ∨ x = nI 1) ∧ P (.inr (some (.int x)), h)) := zt_zreturn zi_224_1261 zr_224
theorem zi_224_1262 : z_ins 224 1262 = some (.iload 5, 2) := by decide +kernel
theorem ze_224_1262 : z_T g d 224 1262 (v0 :: v1 :: v2 :: v3 :: v4 :: .int x :: ls) st h P = z_T g d 224 1264 (v0 :: v1 :: v2 :: v3 :: v4 :: .int x :: ls) (.int x :: st) h P := zt_iload zi_224_1262 rfl
theorem zi_224_1264 : z_ins 224 1264 = some (.ifCond .ne 15, 3) := by decide +kernel
theorem ze_224_1264 : z_T g d 224 1264 ls (.int x :: st) h P = (if x = nI 0 then z_T g d 224 1267 ls st h P else z_T g d 224 1279 ls st h P) := zt_ifne zi_224_1264 (by decide)
theorem zi_224_1267 : z_ins 224 1267 = some (.aload_n 3, 1) := by decide +kernel
theorem ze_224_1267 : z_T g d 224 1267 (v0 :: v1 :: v2 :: .ref a :: ls) st h P = z_T g d 224 1268 (v0 :: v1 :: v2 :: .ref a :: ls) (.ref a :: st) h P := zt_aloadn zi_224_1267 rfl rfl
theorem zi_224_1268 : z_ins 224 1268 = some (.iconst 0, 1) := by decide +kernel
theorem ze_224_1268 : z_T g d 224 1268 ls st h P = z_T g d 224 1269 ls (.int (nI 0) :: st) h P := zt_iconst zi_224_1268 rfl
theorem zi_224_1269 : z_ins 224 1269 = some (.laload, 1) := by decide +kernel
theorem ze_224_1269 : z_T g d 224 1269 ls (.int x :: .ref a :: st) h P = z_lL h.1 a x (fun v => z_T g d 224 1270 ls (.long v :: st) h P) := zt_laload zi_224_1269
theorem zi_224_1270 : z_ins 224 1270 = some (.iload 6, 2) := by decide +kernel
theorem ze_224_1270 : z_T g d 224 1270 (v0 :: v1 :: v2 :: v3 :: v4 :: v5 :: .int x :: ls) st h P = z_T g d 224 1272 (v0 :: v1 :: v2 :: v3 :: v4 :: v5 :: .int x :: ls) (.int x :: st) h P := zt_iload zi_224_1270 rfl
theorem zi_224_1272 : z_ins 224 1272 = some (.i2l, 1) := by decide +kernel
theorem ze_224_1272 : z_T g d 224 1272 ls (.int x :: st) h P = z_T g d 224 1273 ls (.long x.toInt64 :: st) h P := zt_i2l zi_224_1272
theorem zi_224_1273 : z_ins 224 1273 = some (.lcmp, 1) := by decide +kernel
theorem ze_224_1273 : z_T g d 224 1273 ls (.long w :: .long u :: st) h P = z_T g d 224 1274 ls (.int (lg_cmp u w) :: st) h P := zt_lcmp zi_224_1273
theorem zi_224_1274 : z_ins 224 1274 = some (.ifCond .eq 5, 3) := by decide +kernel
theorem ze_224_1274 : z_T g d 224 1274 ls (.int x :: st) h P = (if x = nI 0 then z_T g d 224 1279 ls st h P else z_T g d 224 1277 ls st h P) := zt_ifeq zi_224_1274 (by decide)
theorem zi_224_1277 : z_ins 224 1277 = some (.iconst 0, 1) := by decide +kernel
theorem ze_224_1277 : z_T g d 224 1277 ls st h P = z_T g d 224 1278 ls (.int (nI 0) :: st) h P := zt_iconst zi_224_1277 rfl
theorem zi_224_1278 : z_ins 224 1278 = some (.ireturn, 1) := by decide +kernel
theorem ze_224_1278 : z_T g d 224 1278 ls [.int x] h P = ((x = nI 0 ∨ x = nI 1) ∧ P (.inr (some (.int x)), h)) := zt_zreturn zi_224_1278 zr_224
theorem zi_224_1279 : z_ins 224 1279 = some (.goto 564, 3) := by decide +kernel
theorem ze_224_1279 : z_T g d 224 1279 ls st h P = z_T g d 224 1843 ls st h P := zt_goto zi_224_1279 (by decide)
theorem zi_224_1282 : z_ins 224 1282 = some (.aload_n 1, 1) := by decide +kernel
theorem ze_224_1282 : z_T g d 224 1282 (v0 :: .ref a :: ls) st h P = z_T g d 224 1283 (v0 :: .ref a :: ls) (.ref a :: st) h P := zt_aloadn zi_224_1282 rfl rfl
theorem zi_224_1283 : z_ins 224 1283 = some (.invokevirtual 170, 3) := by decide +kernel
theorem ze_224_1283 : z_T g d 224 1283 ls (.ref a :: st) h P = ((z_okS 8 st = true ∧ z_gO h.1 a 9 ∧ 0 < d) ∧ z_Ca g (d - 1) 101 [.ref a] h (fun r => z_k r (fun v h' => z_T g d 224 1286 ls (z_push v st) h' P) P)) := zt_callV (as := []) zi_224_1283 ((congrArg (fun o => z_lookup z_prs (o, 170)) zo_224).trans zp_LatinRectanglesLaw_170) ((congrArg (fun o => z_clk o 170) zo_224).trans zk_LatinRectanglesLaw_170) zh_224 zc_101 rfl rfl rfl
theorem zi_224_1286 : z_ins 224 1286 = some (.aload_n 2, 1) := by decide +kernel
theorem ze_224_1286 : z_T g d 224 1286 (v0 :: v1 :: .ref a :: ls) st h P = z_T g d 224 1287 (v0 :: v1 :: .ref a :: ls) (.ref a :: st) h P := zt_aloadn zi_224_1286 rfl rfl
theorem zi_224_1287 : z_ins 224 1287 = some (.invokevirtual 173, 3) := by decide +kernel
theorem ze_224_1287 : z_T g d 224 1287 ls (.ref a :: st) h P = ((z_okS 8 st = true ∧ z_gO h.1 a 10 ∧ 0 < d) ∧ z_Ca g (d - 1) 182 [.ref a] h (fun r => z_k r (fun v h' => z_T g d 224 1290 ls (z_push v st) h' P) P)) := zt_callV (as := []) zi_224_1287 ((congrArg (fun o => z_lookup z_prs (o, 173)) zo_224).trans zp_LatinRectanglesLaw_173) ((congrArg (fun o => z_clk o 173) zo_224).trans zk_LatinRectanglesLaw_173) zh_224 zc_182 rfl rfl rfl
theorem zi_224_1290 : z_ins 224 1290 = some (.if_icmp .eq 553, 3) := by decide +kernel
theorem ze_224_1290 : z_T g d 224 1290 ls (.int y :: .int x :: st) h P = (if x = y then z_T g d 224 1843 ls st h P else z_T g d 224 1293 ls st h P) := zt_icmpeq zi_224_1290 (by decide)
theorem zi_224_1293 : z_ins 224 1293 = some (.iconst 0, 1) := by decide +kernel
theorem ze_224_1293 : z_T g d 224 1293 ls st h P = z_T g d 224 1294 ls (.int (nI 0) :: st) h P := zt_iconst zi_224_1293 rfl
theorem zi_224_1294 : z_ins 224 1294 = some (.ireturn, 1) := by decide +kernel
theorem ze_224_1294 : z_T g d 224 1294 ls [.int x] h P = ((x = nI 0 ∨ x = nI 1) ∧ P (.inr (some (.int x)), h)) := zt_zreturn zi_224_1294 zr_224
theorem zi_224_1295 : z_ins 224 1295 = some (.aload_n 1, 1) := by decide +kernel
theorem ze_224_1295 : z_T g d 224 1295 (v0 :: .ref a :: ls) st h P = z_T g d 224 1296 (v0 :: .ref a :: ls) (.ref a :: st) h P := zt_aloadn zi_224_1295 rfl rfl
theorem zi_224_1296 : z_ins 224 1296 = some (.aload_n 0, 1) := by decide +kernel
theorem ze_224_1296 : z_T g d 224 1296 (.retAddr b :: ls) st h P = z_T g d 224 1297 (.retAddr b :: ls) (.retAddr b :: st) h P := zt_aloadnS zi_224_1296 rfl rfl
theorem zi_224_1297 : z_ins 224 1297 = some (.iload 4, 2) := by decide +kernel
theorem ze_224_1297 : z_T g d 224 1297 (v0 :: v1 :: v2 :: v3 :: .int x :: ls) st h P = z_T g d 224 1299 (v0 :: v1 :: v2 :: v3 :: .int x :: ls) (.int x :: st) h P := zt_iload zi_224_1297 rfl
theorem zi_224_1299 : z_ins 224 1299 = some (.iconst 1, 1) := by decide +kernel
theorem ze_224_1299 : z_T g d 224 1299 ls st h P = z_T g d 224 1300 ls (.int (nI 1) :: st) h P := zt_iconst zi_224_1299 rfl
theorem zi_224_1300 : z_ins 224 1300 = some (.iadd, 1) := by decide +kernel
theorem ze_224_1300 : z_T g d 224 1300 ls (.int y :: .int x :: st) h P = z_T g d 224 1301 ls (.int (x + y) :: st) h P := zt_bin (f := fun x y => x + y) zi_224_1300 rfl (fun _ _ _ => rfl)
theorem zi_224_1301 : z_ins 224 1301 = some (.iaload, 1) := by decide +kernel
theorem ze_224_1301 (hx : z_idx x g.1 = true) : z_T g d 224 1301 ls (.int x :: .retAddr 99 :: st) h P = z_T g d 224 1302 ls (.int (g.2 x.toNatClampNeg) :: st) h P := zt_script zi_224_1301 hx
theorem zi_224_1302 : z_ins 224 1302 = some (.aload_n 3, 1) := by decide +kernel
theorem ze_224_1302 : z_T g d 224 1302 (v0 :: v1 :: v2 :: .ref a :: ls) st h P = z_T g d 224 1303 (v0 :: v1 :: v2 :: .ref a :: ls) (.ref a :: st) h P := zt_aloadn zi_224_1302 rfl rfl
theorem zi_224_1303 : z_ins 224 1303 = some (.invokestatic 174, 3) := by decide +kernel
theorem ze_224_1303 : z_T g d 224 1303 ls (.ref a2 :: .int x1 :: .ref a0 :: st) h P = ((z_okS 8 st = true ∧ 0 < d) ∧ z_Ca g (d - 1) 216 [.ref a0, .int x1, .ref a2] h (fun r => z_k r (fun v h' => z_T g d 224 1306 ls (z_push v st) h' P) P)) := zt_callS0 (as := [.ref a0, .int x1, .ref a2]) zi_224_1303 ((congrArg (fun o => z_lookup z_prs (o, 174)) zo_224).trans zp_LatinRectanglesLaw_174) ((congrArg (fun o => z_clk o 174) zo_224).trans zk_LatinRectanglesLaw_174) zh_224 rfl rfl rfl
theorem zi_224_1306 : z_ins 224 1306 = some (.istore 5, 2) := by decide +kernel
theorem ze_224_1306 : z_T g d 224 1306 (v0 :: v1 :: v2 :: v3 :: v4 :: v5 :: ls) (.int x :: st) h P = z_T g d 224 1308 (v0 :: v1 :: v2 :: v3 :: v4 :: .int x :: ls) st h P := zt_istore zi_224_1306 (Nat.le_add_left 6 _)
theorem zi_224_1308 : z_ins 224 1308 = some (.aload_n 2, 1) := by decide +kernel
theorem ze_224_1308 : z_T g d 224 1308 (v0 :: v1 :: .ref a :: ls) st h P = z_T g d 224 1309 (v0 :: v1 :: .ref a :: ls) (.ref a :: st) h P := zt_aloadn zi_224_1308 rfl rfl
theorem zi_224_1309 : z_ins 224 1309 = some (.aload_n 0, 1) := by decide +kernel
theorem ze_224_1309 : z_T g d 224 1309 (.retAddr b :: ls) st h P = z_T g d 224 1310 (.retAddr b :: ls) (.retAddr b :: st) h P := zt_aloadnS zi_224_1309 rfl rfl
theorem zi_224_1310 : z_ins 224 1310 = some (.iload 4, 2) := by decide +kernel
theorem ze_224_1310 : z_T g d 224 1310 (v0 :: v1 :: v2 :: v3 :: .int x :: ls) st h P = z_T g d 224 1312 (v0 :: v1 :: v2 :: v3 :: .int x :: ls) (.int x :: st) h P := zt_iload zi_224_1310 rfl
theorem zi_224_1312 : z_ins 224 1312 = some (.iconst 1, 1) := by decide +kernel
theorem ze_224_1312 : z_T g d 224 1312 ls st h P = z_T g d 224 1313 ls (.int (nI 1) :: st) h P := zt_iconst zi_224_1312 rfl
theorem zi_224_1313 : z_ins 224 1313 = some (.iadd, 1) := by decide +kernel
theorem ze_224_1313 : z_T g d 224 1313 ls (.int y :: .int x :: st) h P = z_T g d 224 1314 ls (.int (x + y) :: st) h P := zt_bin (f := fun x y => x + y) zi_224_1313 rfl (fun _ _ _ => rfl)
theorem zi_224_1314 : z_ins 224 1314 = some (.iaload, 1) := by decide +kernel
theorem ze_224_1314 (hx : z_idx x g.1 = true) : z_T g d 224 1314 ls (.int x :: .retAddr 99 :: st) h P = z_T g d 224 1315 ls (.int (g.2 x.toNatClampNeg) :: st) h P := zt_script zi_224_1314 hx
theorem zi_224_1315 : z_ins 224 1315 = some (.invokevirtual 176, 3) := by decide +kernel
theorem ze_224_1315 : z_T g d 224 1315 ls (.int x0 :: .ref a :: st) h P = ((z_okS 8 st = true ∧ z_gO h.1 a 10 ∧ 0 < d) ∧ z_Ca g (d - 1) 186 [.ref a, .int x0] h (fun r => z_k r (fun v h' => z_T g d 224 1318 ls (z_push v st) h' P) P)) := zt_callV (as := [.int x0]) zi_224_1315 ((congrArg (fun o => z_lookup z_prs (o, 176)) zo_224).trans zp_LatinRectanglesLaw_176) ((congrArg (fun o => z_clk o 176) zo_224).trans zk_LatinRectanglesLaw_176) zh_224 zc_186 rfl rfl rfl
theorem zi_224_1318 : z_ins 224 1318 = some (.istore 6, 2) := by decide +kernel
theorem ze_224_1318 : z_T g d 224 1318 (v0 :: v1 :: v2 :: v3 :: v4 :: v5 :: v6 :: ls) (.int x :: st) h P = z_T g d 224 1320 (v0 :: v1 :: v2 :: v3 :: v4 :: v5 :: .int x :: ls) st h P := zt_istore zi_224_1318 (Nat.le_add_left 7 _)
theorem zi_224_1320 : z_ins 224 1320 = some (.aload_n 2, 1) := by decide +kernel
theorem ze_224_1320 : z_T g d 224 1320 (v0 :: v1 :: .ref a :: ls) st h P = z_T g d 224 1321 (v0 :: v1 :: .ref a :: ls) (.ref a :: st) h P := zt_aloadn zi_224_1320 rfl rfl
theorem zi_224_1321 : z_ins 224 1321 = some (.invokevirtual 101, 3) := by decide +kernel
theorem ze_224_1321 : z_T g d 224 1321 ls (.ref a :: st) h P = ((z_okS 8 st = true ∧ z_gO h.1 a 10 ∧ 0 < d) ∧ z_Ca g (d - 1) 121 [.ref a] h (fun r => z_k r (fun v h' => z_T g d 224 1324 ls (z_push v st) h' P) P)) := zt_callV (as := []) zi_224_1321 ((congrArg (fun o => z_lookup z_prs (o, 101)) zo_224).trans zp_LatinRectanglesLaw_101) ((congrArg (fun o => z_clk o 101) zo_224).trans zk_LatinRectanglesLaw_101) zh_224 zc_121 rfl rfl rfl
theorem zi_224_1324 : z_ins 224 1324 = some (.iload 5, 2) := by decide +kernel
theorem ze_224_1324 : z_T g d 224 1324 (v0 :: v1 :: v2 :: v3 :: v4 :: .int x :: ls) st h P = z_T g d 224 1326 (v0 :: v1 :: v2 :: v3 :: v4 :: .int x :: ls) (.int x :: st) h P := zt_iload zi_224_1324 rfl
theorem zi_224_1326 : z_ins 224 1326 = some (.if_icmp .eq 5, 3) := by decide +kernel
theorem ze_224_1326 : z_T g d 224 1326 ls (.int y :: .int x :: st) h P = (if x = y then z_T g d 224 1331 ls st h P else z_T g d 224 1329 ls st h P) := zt_icmpeq zi_224_1326 (by decide)
theorem zi_224_1329 : z_ins 224 1329 = some (.iconst 0, 1) := by decide +kernel
theorem ze_224_1329 : z_T g d 224 1329 ls st h P = z_T g d 224 1330 ls (.int (nI 0) :: st) h P := zt_iconst zi_224_1329 rfl
theorem zi_224_1330 : z_ins 224 1330 = some (.ireturn, 1) := by decide +kernel
theorem ze_224_1330 : z_T g d 224 1330 ls [.int x] h P = ((x = nI 0 ∨ x = nI 1) ∧ P (.inr (some (.int x)), h)) := zt_zreturn zi_224_1330 zr_224
theorem zi_224_1331 : z_ins 224 1331 = some (.iload 5, 2) := by decide +kernel
theorem ze_224_1331 : z_T g d 224 1331 (v0 :: v1 :: v2 :: v3 :: v4 :: .int x :: ls) st h P = z_T g d 224 1333 (v0 :: v1 :: v2 :: v3 :: v4 :: .int x :: ls) (.int x :: st) h P := zt_iload zi_224_1331 rfl
theorem zi_224_1333 : z_ins 224 1333 = some (.ifCond .ne 15, 3) := by decide +kernel
theorem ze_224_1333 : z_T g d 224 1333 ls (.int x :: st) h P = (if x = nI 0 then z_T g d 224 1336 ls st h P else z_T g d 224 1348 ls st h P) := zt_ifne zi_224_1333 (by decide)
theorem zi_224_1336 : z_ins 224 1336 = some (.aload_n 3, 1) := by decide +kernel
theorem ze_224_1336 : z_T g d 224 1336 (v0 :: v1 :: v2 :: .ref a :: ls) st h P = z_T g d 224 1337 (v0 :: v1 :: v2 :: .ref a :: ls) (.ref a :: st) h P := zt_aloadn zi_224_1336 rfl rfl
theorem zi_224_1337 : z_ins 224 1337 = some (.iconst 0, 1) := by decide +kernel
theorem ze_224_1337 : z_T g d 224 1337 ls st h P = z_T g d 224 1338 ls (.int (nI 0) :: st) h P := zt_iconst zi_224_1337 rfl
theorem zi_224_1338 : z_ins 224 1338 = some (.laload, 1) := by decide +kernel
theorem ze_224_1338 : z_T g d 224 1338 ls (.int x :: .ref a :: st) h P = z_lL h.1 a x (fun v => z_T g d 224 1339 ls (.long v :: st) h P) := zt_laload zi_224_1338
theorem zi_224_1339 : z_ins 224 1339 = some (.iload 6, 2) := by decide +kernel
theorem ze_224_1339 : z_T g d 224 1339 (v0 :: v1 :: v2 :: v3 :: v4 :: v5 :: .int x :: ls) st h P = z_T g d 224 1341 (v0 :: v1 :: v2 :: v3 :: v4 :: v5 :: .int x :: ls) (.int x :: st) h P := zt_iload zi_224_1339 rfl
theorem zi_224_1341 : z_ins 224 1341 = some (.i2l, 1) := by decide +kernel
theorem ze_224_1341 : z_T g d 224 1341 ls (.int x :: st) h P = z_T g d 224 1342 ls (.long x.toInt64 :: st) h P := zt_i2l zi_224_1341
theorem zi_224_1342 : z_ins 224 1342 = some (.lcmp, 1) := by decide +kernel
theorem ze_224_1342 : z_T g d 224 1342 ls (.long w :: .long u :: st) h P = z_T g d 224 1343 ls (.int (lg_cmp u w) :: st) h P := zt_lcmp zi_224_1342
theorem zi_224_1343 : z_ins 224 1343 = some (.ifCond .eq 5, 3) := by decide +kernel
theorem ze_224_1343 : z_T g d 224 1343 ls (.int x :: st) h P = (if x = nI 0 then z_T g d 224 1348 ls st h P else z_T g d 224 1346 ls st h P) := zt_ifeq zi_224_1343 (by decide)
theorem zi_224_1346 : z_ins 224 1346 = some (.iconst 0, 1) := by decide +kernel
theorem ze_224_1346 : z_T g d 224 1346 ls st h P = z_T g d 224 1347 ls (.int (nI 0) :: st) h P := zt_iconst zi_224_1346 rfl
theorem zi_224_1347 : z_ins 224 1347 = some (.ireturn, 1) := by decide +kernel
theorem ze_224_1347 : z_T g d 224 1347 ls [.int x] h P = ((x = nI 0 ∨ x = nI 1) ∧ P (.inr (some (.int x)), h)) := zt_zreturn zi_224_1347 zr_224
theorem zi_224_1348 : z_ins 224 1348 = some (.goto 495, 3) := by decide +kernel
theorem ze_224_1348 : z_T g d 224 1348 ls st h P = z_T g d 224 1843 ls st h P := zt_goto zi_224_1348 (by decide)
theorem zi_224_1351 : z_ins 224 1351 = some (.aload_n 1, 1) := by decide +kernel
theorem ze_224_1351 : z_T g d 224 1351 (v0 :: .ref a :: ls) st h P = z_T g d 224 1352 (v0 :: .ref a :: ls) (.ref a :: st) h P := zt_aloadn zi_224_1351 rfl rfl
theorem zi_224_1352 : z_ins 224 1352 = some (.aload_n 0, 1) := by decide +kernel
theorem ze_224_1352 : z_T g d 224 1352 (.retAddr b :: ls) st h P = z_T g d 224 1353 (.retAddr b :: ls) (.retAddr b :: st) h P := zt_aloadnS zi_224_1352 rfl rfl
theorem zi_224_1353 : z_ins 224 1353 = some (.iload 4, 2) := by decide +kernel
theorem ze_224_1353 : z_T g d 224 1353 (v0 :: v1 :: v2 :: v3 :: .int x :: ls) st h P = z_T g d 224 1355 (v0 :: v1 :: v2 :: v3 :: .int x :: ls) (.int x :: st) h P := zt_iload zi_224_1353 rfl
theorem zi_224_1355 : z_ins 224 1355 = some (.iconst 1, 1) := by decide +kernel
theorem ze_224_1355 : z_T g d 224 1355 ls st h P = z_T g d 224 1356 ls (.int (nI 1) :: st) h P := zt_iconst zi_224_1355 rfl
theorem zi_224_1356 : z_ins 224 1356 = some (.iadd, 1) := by decide +kernel
theorem ze_224_1356 : z_T g d 224 1356 ls (.int y :: .int x :: st) h P = z_T g d 224 1357 ls (.int (x + y) :: st) h P := zt_bin (f := fun x y => x + y) zi_224_1356 rfl (fun _ _ _ => rfl)
theorem zi_224_1357 : z_ins 224 1357 = some (.iaload, 1) := by decide +kernel
theorem ze_224_1357 (hx : z_idx x g.1 = true) : z_T g d 224 1357 ls (.int x :: .retAddr 99 :: st) h P = z_T g d 224 1358 ls (.int (g.2 x.toNatClampNeg) :: st) h P := zt_script zi_224_1357 hx
theorem zi_224_1358 : z_ins 224 1358 = some (.aload_n 3, 1) := by decide +kernel
theorem ze_224_1358 : z_T g d 224 1358 (v0 :: v1 :: v2 :: .ref a :: ls) st h P = z_T g d 224 1359 (v0 :: v1 :: v2 :: .ref a :: ls) (.ref a :: st) h P := zt_aloadn zi_224_1358 rfl rfl
theorem zi_224_1359 : z_ins 224 1359 = some (.invokestatic 177, 3) := by decide +kernel
theorem ze_224_1359 : z_T g d 224 1359 ls (.ref a2 :: .int x1 :: .ref a0 :: st) h P = ((z_okS 8 st = true ∧ 0 < d) ∧ z_Ca g (d - 1) 217 [.ref a0, .int x1, .ref a2] h (fun r => z_k r (fun v h' => z_T g d 224 1362 ls (z_push v st) h' P) P)) := zt_callS0 (as := [.ref a0, .int x1, .ref a2]) zi_224_1359 ((congrArg (fun o => z_lookup z_prs (o, 177)) zo_224).trans zp_LatinRectanglesLaw_177) ((congrArg (fun o => z_clk o 177) zo_224).trans zk_LatinRectanglesLaw_177) zh_224 rfl rfl rfl
theorem zi_224_1362 : z_ins 224 1362 = some (.istore 5, 2) := by decide +kernel
theorem ze_224_1362 : z_T g d 224 1362 (v0 :: v1 :: v2 :: v3 :: v4 :: v5 :: ls) (.int x :: st) h P = z_T g d 224 1364 (v0 :: v1 :: v2 :: v3 :: v4 :: .int x :: ls) st h P := zt_istore zi_224_1362 (Nat.le_add_left 6 _)
theorem zi_224_1364 : z_ins 224 1364 = some (.aload_n 2, 1) := by decide +kernel
theorem ze_224_1364 : z_T g d 224 1364 (v0 :: v1 :: .ref a :: ls) st h P = z_T g d 224 1365 (v0 :: v1 :: .ref a :: ls) (.ref a :: st) h P := zt_aloadn zi_224_1364 rfl rfl
theorem zi_224_1365 : z_ins 224 1365 = some (.aload_n 0, 1) := by decide +kernel
theorem ze_224_1365 : z_T g d 224 1365 (.retAddr b :: ls) st h P = z_T g d 224 1366 (.retAddr b :: ls) (.retAddr b :: st) h P := zt_aloadnS zi_224_1365 rfl rfl
theorem zi_224_1366 : z_ins 224 1366 = some (.iload 4, 2) := by decide +kernel
theorem ze_224_1366 : z_T g d 224 1366 (v0 :: v1 :: v2 :: v3 :: .int x :: ls) st h P = z_T g d 224 1368 (v0 :: v1 :: v2 :: v3 :: .int x :: ls) (.int x :: st) h P := zt_iload zi_224_1366 rfl
theorem zi_224_1368 : z_ins 224 1368 = some (.iconst 1, 1) := by decide +kernel
theorem ze_224_1368 : z_T g d 224 1368 ls st h P = z_T g d 224 1369 ls (.int (nI 1) :: st) h P := zt_iconst zi_224_1368 rfl
theorem zi_224_1369 : z_ins 224 1369 = some (.iadd, 1) := by decide +kernel
theorem ze_224_1369 : z_T g d 224 1369 ls (.int y :: .int x :: st) h P = z_T g d 224 1370 ls (.int (x + y) :: st) h P := zt_bin (f := fun x y => x + y) zi_224_1369 rfl (fun _ _ _ => rfl)
theorem zi_224_1370 : z_ins 224 1370 = some (.iaload, 1) := by decide +kernel
theorem ze_224_1370 (hx : z_idx x g.1 = true) : z_T g d 224 1370 ls (.int x :: .retAddr 99 :: st) h P = z_T g d 224 1371 ls (.int (g.2 x.toNatClampNeg) :: st) h P := zt_script zi_224_1370 hx
theorem zi_224_1371 : z_ins 224 1371 = some (.invokevirtual 179, 3) := by decide +kernel
theorem ze_224_1371 : z_T g d 224 1371 ls (.int x0 :: .ref a :: st) h P = ((z_okS 8 st = true ∧ z_gO h.1 a 10 ∧ 0 < d) ∧ z_Ca g (d - 1) 188 [.ref a, .int x0] h (fun r => z_k r (fun v h' => z_T g d 224 1374 ls (z_push v st) h' P) P)) := zt_callV (as := [.int x0]) zi_224_1371 ((congrArg (fun o => z_lookup z_prs (o, 179)) zo_224).trans zp_LatinRectanglesLaw_179) ((congrArg (fun o => z_clk o 179) zo_224).trans zk_LatinRectanglesLaw_179) zh_224 zc_188 rfl rfl rfl
theorem zi_224_1374 : z_ins 224 1374 = some (.istore 6, 2) := by decide +kernel
theorem ze_224_1374 : z_T g d 224 1374 (v0 :: v1 :: v2 :: v3 :: v4 :: v5 :: v6 :: ls) (.int x :: st) h P = z_T g d 224 1376 (v0 :: v1 :: v2 :: v3 :: v4 :: v5 :: .int x :: ls) st h P := zt_istore zi_224_1374 (Nat.le_add_left 7 _)
theorem zi_224_1376 : z_ins 224 1376 = some (.aload_n 2, 1) := by decide +kernel
theorem ze_224_1376 : z_T g d 224 1376 (v0 :: v1 :: .ref a :: ls) st h P = z_T g d 224 1377 (v0 :: v1 :: .ref a :: ls) (.ref a :: st) h P := zt_aloadn zi_224_1376 rfl rfl
theorem zi_224_1377 : z_ins 224 1377 = some (.invokevirtual 101, 3) := by decide +kernel
theorem ze_224_1377 : z_T g d 224 1377 ls (.ref a :: st) h P = ((z_okS 8 st = true ∧ z_gO h.1 a 10 ∧ 0 < d) ∧ z_Ca g (d - 1) 121 [.ref a] h (fun r => z_k r (fun v h' => z_T g d 224 1380 ls (z_push v st) h' P) P)) := zt_callV (as := []) zi_224_1377 ((congrArg (fun o => z_lookup z_prs (o, 101)) zo_224).trans zp_LatinRectanglesLaw_101) ((congrArg (fun o => z_clk o 101) zo_224).trans zk_LatinRectanglesLaw_101) zh_224 zc_121 rfl rfl rfl
theorem zi_224_1380 : z_ins 224 1380 = some (.iload 5, 2) := by decide +kernel
theorem ze_224_1380 : z_T g d 224 1380 (v0 :: v1 :: v2 :: v3 :: v4 :: .int x :: ls) st h P = z_T g d 224 1382 (v0 :: v1 :: v2 :: v3 :: v4 :: .int x :: ls) (.int x :: st) h P := zt_iload zi_224_1380 rfl
theorem zi_224_1382 : z_ins 224 1382 = some (.if_icmp .eq 5, 3) := by decide +kernel
theorem ze_224_1382 : z_T g d 224 1382 ls (.int y :: .int x :: st) h P = (if x = y then z_T g d 224 1387 ls st h P else z_T g d 224 1385 ls st h P) := zt_icmpeq zi_224_1382 (by decide)
theorem zi_224_1385 : z_ins 224 1385 = some (.iconst 0, 1) := by decide +kernel
theorem ze_224_1385 : z_T g d 224 1385 ls st h P = z_T g d 224 1386 ls (.int (nI 0) :: st) h P := zt_iconst zi_224_1385 rfl
theorem zi_224_1386 : z_ins 224 1386 = some (.ireturn, 1) := by decide +kernel
theorem ze_224_1386 : z_T g d 224 1386 ls [.int x] h P = ((x = nI 0 ∨ x = nI 1) ∧ P (.inr (some (.int x)), h)) := zt_zreturn zi_224_1386 zr_224
theorem zi_224_1387 : z_ins 224 1387 = some (.iload 5, 2) := by decide +kernel
theorem ze_224_1387 : z_T g d 224 1387 (v0 :: v1 :: v2 :: v3 :: v4 :: .int x :: ls) st h P = z_T g d 224 1389 (v0 :: v1 :: v2 :: v3 :: v4 :: .int x :: ls) (.int x :: st) h P := zt_iload zi_224_1387 rfl
theorem zi_224_1389 : z_ins 224 1389 = some (.ifCond .ne 22, 3) := by decide +kernel
theorem ze_224_1389 : z_T g d 224 1389 ls (.int x :: st) h P = (if x = nI 0 then z_T g d 224 1392 ls st h P else z_T g d 224 1411 ls st h P) := zt_ifne zi_224_1389 (by decide)
theorem zi_224_1392 : z_ins 224 1392 = some (.aload_n 3, 1) := by decide +kernel
theorem ze_224_1392 : z_T g d 224 1392 (v0 :: v1 :: v2 :: .ref a :: ls) st h P = z_T g d 224 1393 (v0 :: v1 :: v2 :: .ref a :: ls) (.ref a :: st) h P := zt_aloadn zi_224_1392 rfl rfl
theorem zi_224_1393 : z_ins 224 1393 = some (.iconst 0, 1) := by decide +kernel
theorem ze_224_1393 : z_T g d 224 1393 ls st h P = z_T g d 224 1394 ls (.int (nI 0) :: st) h P := zt_iconst zi_224_1393 rfl
theorem zi_224_1394 : z_ins 224 1394 = some (.laload, 1) := by decide +kernel
theorem ze_224_1394 : z_T g d 224 1394 ls (.int x :: .ref a :: st) h P = z_lL h.1 a x (fun v => z_T g d 224 1395 ls (.long v :: st) h P) := zt_laload zi_224_1394
theorem zi_224_1395 : z_ins 224 1395 = some (.iload 6, 2) := by decide +kernel
theorem ze_224_1395 : z_T g d 224 1395 (v0 :: v1 :: v2 :: v3 :: v4 :: v5 :: .int x :: ls) st h P = z_T g d 224 1397 (v0 :: v1 :: v2 :: v3 :: v4 :: v5 :: .int x :: ls) (.int x :: st) h P := zt_iload zi_224_1395 rfl
theorem zi_224_1397 : z_ins 224 1397 = some (.ifCond .eq 7, 3) := by decide +kernel
theorem ze_224_1397 : z_T g d 224 1397 ls (.int x :: st) h P = (if x = nI 0 then z_T g d 224 1404 ls st h P else z_T g d 224 1400 ls st h P) := zt_ifeq zi_224_1397 (by decide)
theorem zi_224_1400 : z_ins 224 1400 = some (.lconst 1, 1) := by decide +kernel
theorem ze_224_1400 : z_T g d 224 1400 ls st h P = z_T g d 224 1401 ls (.long 1 :: st) h P := zt_lconst zi_224_1400 rfl
theorem zi_224_1401 : z_ins 224 1401 = some (.goto 4, 3) := by decide +kernel
theorem ze_224_1401 : z_T g d 224 1401 ls st h P = z_T g d 224 1405 ls st h P := zt_goto zi_224_1401 (by decide)
theorem zi_224_1404 : z_ins 224 1404 = some (.lconst 0, 1) := by decide +kernel
theorem ze_224_1404 : z_T g d 224 1404 ls st h P = z_T g d 224 1405 ls (.long 0 :: st) h P := zt_lconst zi_224_1404 rfl
theorem zi_224_1405 : z_ins 224 1405 = some (.lcmp, 1) := by decide +kernel
theorem ze_224_1405 : z_T g d 224 1405 ls (.long w :: .long u :: st) h P = z_T g d 224 1406 ls (.int (lg_cmp u w) :: st) h P := zt_lcmp zi_224_1405
theorem zi_224_1406 : z_ins 224 1406 = some (.ifCond .eq 5, 3) := by decide +kernel
theorem ze_224_1406 : z_T g d 224 1406 ls (.int x :: st) h P = (if x = nI 0 then z_T g d 224 1411 ls st h P else z_T g d 224 1409 ls st h P) := zt_ifeq zi_224_1406 (by decide)
theorem zi_224_1409 : z_ins 224 1409 = some (.iconst 0, 1) := by decide +kernel
theorem ze_224_1409 : z_T g d 224 1409 ls st h P = z_T g d 224 1410 ls (.int (nI 0) :: st) h P := zt_iconst zi_224_1409 rfl
theorem zi_224_1410 : z_ins 224 1410 = some (.ireturn, 1) := by decide +kernel
theorem ze_224_1410 : z_T g d 224 1410 ls [.int x] h P = ((x = nI 0 ∨ x = nI 1) ∧ P (.inr (some (.int x)), h)) := zt_zreturn zi_224_1410 zr_224
theorem zi_224_1411 : z_ins 224 1411 = some (.goto 432, 3) := by decide +kernel
theorem ze_224_1411 : z_T g d 224 1411 ls st h P = z_T g d 224 1843 ls st h P := zt_goto zi_224_1411 (by decide)
theorem zi_224_1414 : z_ins 224 1414 = some (.aload_n 1, 1) := by decide +kernel
theorem ze_224_1414 : z_T g d 224 1414 (v0 :: .ref a :: ls) st h P = z_T g d 224 1415 (v0 :: .ref a :: ls) (.ref a :: st) h P := zt_aloadn zi_224_1414 rfl rfl
theorem zi_224_1415 : z_ins 224 1415 = some (.aload_n 0, 1) := by decide +kernel
theorem ze_224_1415 : z_T g d 224 1415 (.retAddr b :: ls) st h P = z_T g d 224 1416 (.retAddr b :: ls) (.retAddr b :: st) h P := zt_aloadnS zi_224_1415 rfl rfl
theorem zi_224_1416 : z_ins 224 1416 = some (.iload 4, 2) := by decide +kernel
theorem ze_224_1416 : z_T g d 224 1416 (v0 :: v1 :: v2 :: v3 :: .int x :: ls) st h P = z_T g d 224 1418 (v0 :: v1 :: v2 :: v3 :: .int x :: ls) (.int x :: st) h P := zt_iload zi_224_1416 rfl
theorem zi_224_1418 : z_ins 224 1418 = some (.iconst 1, 1) := by decide +kernel
theorem ze_224_1418 : z_T g d 224 1418 ls st h P = z_T g d 224 1419 ls (.int (nI 1) :: st) h P := zt_iconst zi_224_1418 rfl
theorem zi_224_1419 : z_ins 224 1419 = some (.iadd, 1) := by decide +kernel
theorem ze_224_1419 : z_T g d 224 1419 ls (.int y :: .int x :: st) h P = z_T g d 224 1420 ls (.int (x + y) :: st) h P := zt_bin (f := fun x y => x + y) zi_224_1419 rfl (fun _ _ _ => rfl)
theorem zi_224_1420 : z_ins 224 1420 = some (.iaload, 1) := by decide +kernel
theorem ze_224_1420 (hx : z_idx x g.1 = true) : z_T g d 224 1420 ls (.int x :: .retAddr 99 :: st) h P = z_T g d 224 1421 ls (.int (g.2 x.toNatClampNeg) :: st) h P := zt_script zi_224_1420 hx
theorem zi_224_1421 : z_ins 224 1421 = some (.aload_n 0, 1) := by decide +kernel
theorem ze_224_1421 : z_T g d 224 1421 (.retAddr b :: ls) st h P = z_T g d 224 1422 (.retAddr b :: ls) (.retAddr b :: st) h P := zt_aloadnS zi_224_1421 rfl rfl
theorem zi_224_1422 : z_ins 224 1422 = some (.iload 4, 2) := by decide +kernel
theorem ze_224_1422 : z_T g d 224 1422 (v0 :: v1 :: v2 :: v3 :: .int x :: ls) st h P = z_T g d 224 1424 (v0 :: v1 :: v2 :: v3 :: .int x :: ls) (.int x :: st) h P := zt_iload zi_224_1422 rfl
theorem zi_224_1424 : z_ins 224 1424 = some (.iconst 2, 1) := by decide +kernel
theorem ze_224_1424 : z_T g d 224 1424 ls st h P = z_T g d 224 1425 ls (.int (nI 2) :: st) h P := zt_iconst zi_224_1424 rfl
theorem zi_224_1425 : z_ins 224 1425 = some (.iadd, 1) := by decide +kernel
theorem ze_224_1425 : z_T g d 224 1425 ls (.int y :: .int x :: st) h P = z_T g d 224 1426 ls (.int (x + y) :: st) h P := zt_bin (f := fun x y => x + y) zi_224_1425 rfl (fun _ _ _ => rfl)
theorem zi_224_1426 : z_ins 224 1426 = some (.iaload, 1) := by decide +kernel
theorem ze_224_1426 (hx : z_idx x g.1 = true) : z_T g d 224 1426 ls (.int x :: .retAddr 99 :: st) h P = z_T g d 224 1427 ls (.int (g.2 x.toNatClampNeg) :: st) h P := zt_script zi_224_1426 hx
theorem zi_224_1427 : z_ins 224 1427 = some (.aload_n 0, 1) := by decide +kernel
theorem ze_224_1427 : z_T g d 224 1427 (.retAddr b :: ls) st h P = z_T g d 224 1428 (.retAddr b :: ls) (.retAddr b :: st) h P := zt_aloadnS zi_224_1427 rfl rfl
theorem zi_224_1428 : z_ins 224 1428 = some (.iload 4, 2) := by decide +kernel
theorem ze_224_1428 : z_T g d 224 1428 (v0 :: v1 :: v2 :: v3 :: .int x :: ls) st h P = z_T g d 224 1430 (v0 :: v1 :: v2 :: v3 :: .int x :: ls) (.int x :: st) h P := zt_iload zi_224_1428 rfl
theorem zi_224_1430 : z_ins 224 1430 = some (.iconst 3, 1) := by decide +kernel
theorem ze_224_1430 : z_T g d 224 1430 ls st h P = z_T g d 224 1431 ls (.int (nI 3) :: st) h P := zt_iconst zi_224_1430 rfl
theorem zi_224_1431 : z_ins 224 1431 = some (.iadd, 1) := by decide +kernel
theorem ze_224_1431 : z_T g d 224 1431 ls (.int y :: .int x :: st) h P = z_T g d 224 1432 ls (.int (x + y) :: st) h P := zt_bin (f := fun x y => x + y) zi_224_1431 rfl (fun _ _ _ => rfl)
theorem zi_224_1432 : z_ins 224 1432 = some (.iaload, 1) := by decide +kernel
theorem ze_224_1432 (hx : z_idx x g.1 = true) : z_T g d 224 1432 ls (.int x :: .retAddr 99 :: st) h P = z_T g d 224 1433 ls (.int (g.2 x.toNatClampNeg) :: st) h P := zt_script zi_224_1432 hx
theorem zi_224_1433 : z_ins 224 1433 = some (.aload_n 3, 1) := by decide +kernel
theorem ze_224_1433 : z_T g d 224 1433 (v0 :: v1 :: v2 :: .ref a :: ls) st h P = z_T g d 224 1434 (v0 :: v1 :: v2 :: .ref a :: ls) (.ref a :: st) h P := zt_aloadn zi_224_1433 rfl rfl
theorem zi_224_1434 : z_ins 224 1434 = some (.invokestatic 180, 3) := by decide +kernel
theorem ze_224_1434 : z_T g d 224 1434 ls (.ref a4 :: .int x3 :: .int x2 :: .int x1 :: .ref a0 :: st) h P = ((z_okS 8 st = true ∧ 0 < d) ∧ z_Ca g (d - 1) 218 [.ref a0, .int x1, .int x2, .int x3, .ref a4] h (fun r => z_k r (fun v h' => z_T g d 224 1437 ls (z_push v st) h' P) P)) := zt_callS0 (as := [.ref a0, .int x1, .int x2, .int x3, .ref a4]) zi_224_1434 ((congrArg (fun o => z_lookup z_prs (o, 180)) zo_224).trans zp_LatinRectanglesLaw_180) ((congrArg (fun o => z_clk o 180) zo_224).trans zk_LatinRectanglesLaw_180) zh_224 rfl rfl rfl
theorem zi_224_1437 : z_ins 224 1437 = some (.istore 5, 2) := by decide +kernel
theorem ze_224_1437 : z_T g d 224 1437 (v0 :: v1 :: v2 :: v3 :: v4 :: v5 :: ls) (.int x :: st) h P = z_T g d 224 1439 (v0 :: v1 :: v2 :: v3 :: v4 :: .int x :: ls) st h P := zt_istore zi_224_1437 (Nat.le_add_left 6 _)
theorem zi_224_1439 : z_ins 224 1439 = some (.aload_n 2, 1) := by decide +kernel
theorem ze_224_1439 : z_T g d 224 1439 (v0 :: v1 :: .ref a :: ls) st h P = z_T g d 224 1440 (v0 :: v1 :: .ref a :: ls) (.ref a :: st) h P := zt_aloadn zi_224_1439 rfl rfl
theorem zi_224_1440 : z_ins 224 1440 = some (.aload_n 0, 1) := by decide +kernel
theorem ze_224_1440 : z_T g d 224 1440 (.retAddr b :: ls) st h P = z_T g d 224 1441 (.retAddr b :: ls) (.retAddr b :: st) h P := zt_aloadnS zi_224_1440 rfl rfl
theorem zi_224_1441 : z_ins 224 1441 = some (.iload 4, 2) := by decide +kernel
theorem ze_224_1441 : z_T g d 224 1441 (v0 :: v1 :: v2 :: v3 :: .int x :: ls) st h P = z_T g d 224 1443 (v0 :: v1 :: v2 :: v3 :: .int x :: ls) (.int x :: st) h P := zt_iload zi_224_1441 rfl
theorem zi_224_1443 : z_ins 224 1443 = some (.iconst 1, 1) := by decide +kernel
theorem ze_224_1443 : z_T g d 224 1443 ls st h P = z_T g d 224 1444 ls (.int (nI 1) :: st) h P := zt_iconst zi_224_1443 rfl
theorem zi_224_1444 : z_ins 224 1444 = some (.iadd, 1) := by decide +kernel
theorem ze_224_1444 : z_T g d 224 1444 ls (.int y :: .int x :: st) h P = z_T g d 224 1445 ls (.int (x + y) :: st) h P := zt_bin (f := fun x y => x + y) zi_224_1444 rfl (fun _ _ _ => rfl)
theorem zi_224_1445 : z_ins 224 1445 = some (.iaload, 1) := by decide +kernel
theorem ze_224_1445 (hx : z_idx x g.1 = true) : z_T g d 224 1445 ls (.int x :: .retAddr 99 :: st) h P = z_T g d 224 1446 ls (.int (g.2 x.toNatClampNeg) :: st) h P := zt_script zi_224_1445 hx
theorem zi_224_1446 : z_ins 224 1446 = some (.aload_n 0, 1) := by decide +kernel
theorem ze_224_1446 : z_T g d 224 1446 (.retAddr b :: ls) st h P = z_T g d 224 1447 (.retAddr b :: ls) (.retAddr b :: st) h P := zt_aloadnS zi_224_1446 rfl rfl
theorem zi_224_1447 : z_ins 224 1447 = some (.iload 4, 2) := by decide +kernel
theorem ze_224_1447 : z_T g d 224 1447 (v0 :: v1 :: v2 :: v3 :: .int x :: ls) st h P = z_T g d 224 1449 (v0 :: v1 :: v2 :: v3 :: .int x :: ls) (.int x :: st) h P := zt_iload zi_224_1447 rfl
theorem zi_224_1449 : z_ins 224 1449 = some (.iconst 2, 1) := by decide +kernel
theorem ze_224_1449 : z_T g d 224 1449 ls st h P = z_T g d 224 1450 ls (.int (nI 2) :: st) h P := zt_iconst zi_224_1449 rfl
theorem zi_224_1450 : z_ins 224 1450 = some (.iadd, 1) := by decide +kernel
theorem ze_224_1450 : z_T g d 224 1450 ls (.int y :: .int x :: st) h P = z_T g d 224 1451 ls (.int (x + y) :: st) h P := zt_bin (f := fun x y => x + y) zi_224_1450 rfl (fun _ _ _ => rfl)
theorem zi_224_1451 : z_ins 224 1451 = some (.iaload, 1) := by decide +kernel
theorem ze_224_1451 (hx : z_idx x g.1 = true) : z_T g d 224 1451 ls (.int x :: .retAddr 99 :: st) h P = z_T g d 224 1452 ls (.int (g.2 x.toNatClampNeg) :: st) h P := zt_script zi_224_1451 hx
theorem zi_224_1452 : z_ins 224 1452 = some (.aload_n 0, 1) := by decide +kernel
theorem ze_224_1452 : z_T g d 224 1452 (.retAddr b :: ls) st h P = z_T g d 224 1453 (.retAddr b :: ls) (.retAddr b :: st) h P := zt_aloadnS zi_224_1452 rfl rfl
theorem zi_224_1453 : z_ins 224 1453 = some (.iload 4, 2) := by decide +kernel
theorem ze_224_1453 : z_T g d 224 1453 (v0 :: v1 :: v2 :: v3 :: .int x :: ls) st h P = z_T g d 224 1455 (v0 :: v1 :: v2 :: v3 :: .int x :: ls) (.int x :: st) h P := zt_iload zi_224_1453 rfl
theorem zi_224_1455 : z_ins 224 1455 = some (.iconst 3, 1) := by decide +kernel
theorem ze_224_1455 : z_T g d 224 1455 ls st h P = z_T g d 224 1456 ls (.int (nI 3) :: st) h P := zt_iconst zi_224_1455 rfl
theorem zi_224_1456 : z_ins 224 1456 = some (.iadd, 1) := by decide +kernel
theorem ze_224_1456 : z_T g d 224 1456 ls (.int y :: .int x :: st) h P = z_T g d 224 1457 ls (.int (x + y) :: st) h P := zt_bin (f := fun x y => x + y) zi_224_1456 rfl (fun _ _ _ => rfl)
theorem zi_224_1457 : z_ins 224 1457 = some (.iaload, 1) := by decide +kernel
theorem ze_224_1457 (hx : z_idx x g.1 = true) : z_T g d 224 1457 ls (.int x :: .retAddr 99 :: st) h P = z_T g d 224 1458 ls (.int (g.2 x.toNatClampNeg) :: st) h P := zt_script zi_224_1457 hx
theorem zi_224_1458 : z_ins 224 1458 = some (.invokevirtual 182, 3) := by decide +kernel
theorem ze_224_1458 : z_T g d 224 1458 ls (.int x2 :: .int x1 :: .int x0 :: .ref a :: st) h P = ((z_okS 8 st = true ∧ z_gO h.1 a 10 ∧ 0 < d) ∧ z_Ca g (d - 1) 189 [.ref a, .int x0, .int x1, .int x2] h (fun r => z_k r (fun v h' => z_T g d 224 1461 ls (z_push v st) h' P) P)) := zt_callV (as := [.int x0, .int x1, .int x2]) zi_224_1458 ((congrArg (fun o => z_lookup z_prs (o, 182)) zo_224).trans zp_LatinRectanglesLaw_182) ((congrArg (fun o => z_clk o 182) zo_224).trans zk_LatinRectanglesLaw_182) zh_224 zc_189 rfl rfl rfl
theorem zi_224_1461 : z_ins 224 1461 = some (.istore 6, 2) := by decide +kernel
theorem ze_224_1461 : z_T g d 224 1461 (v0 :: v1 :: v2 :: v3 :: v4 :: v5 :: v6 :: ls) (.int x :: st) h P = z_T g d 224 1463 (v0 :: v1 :: v2 :: v3 :: v4 :: v5 :: .int x :: ls) st h P := zt_istore zi_224_1461 (Nat.le_add_left 7 _)
theorem zi_224_1463 : z_ins 224 1463 = some (.aload_n 2, 1) := by decide +kernel
theorem ze_224_1463 : z_T g d 224 1463 (v0 :: v1 :: .ref a :: ls) st h P = z_T g d 224 1464 (v0 :: v1 :: .ref a :: ls) (.ref a :: st) h P := zt_aloadn zi_224_1463 rfl rfl
theorem zi_224_1464 : z_ins 224 1464 = some (.invokevirtual 101, 3) := by decide +kernel
theorem ze_224_1464 : z_T g d 224 1464 ls (.ref a :: st) h P = ((z_okS 8 st = true ∧ z_gO h.1 a 10 ∧ 0 < d) ∧ z_Ca g (d - 1) 121 [.ref a] h (fun r => z_k r (fun v h' => z_T g d 224 1467 ls (z_push v st) h' P) P)) := zt_callV (as := []) zi_224_1464 ((congrArg (fun o => z_lookup z_prs (o, 101)) zo_224).trans zp_LatinRectanglesLaw_101) ((congrArg (fun o => z_clk o 101) zo_224).trans zk_LatinRectanglesLaw_101) zh_224 zc_121 rfl rfl rfl
theorem zi_224_1467 : z_ins 224 1467 = some (.iload 5, 2) := by decide +kernel
theorem ze_224_1467 : z_T g d 224 1467 (v0 :: v1 :: v2 :: v3 :: v4 :: .int x :: ls) st h P = z_T g d 224 1469 (v0 :: v1 :: v2 :: v3 :: v4 :: .int x :: ls) (.int x :: st) h P := zt_iload zi_224_1467 rfl
theorem zi_224_1469 : z_ins 224 1469 = some (.if_icmp .eq 5, 3) := by decide +kernel
theorem ze_224_1469 : z_T g d 224 1469 ls (.int y :: .int x :: st) h P = (if x = y then z_T g d 224 1474 ls st h P else z_T g d 224 1472 ls st h P) := zt_icmpeq zi_224_1469 (by decide)
theorem zi_224_1472 : z_ins 224 1472 = some (.iconst 0, 1) := by decide +kernel
theorem ze_224_1472 : z_T g d 224 1472 ls st h P = z_T g d 224 1473 ls (.int (nI 0) :: st) h P := zt_iconst zi_224_1472 rfl
theorem zi_224_1473 : z_ins 224 1473 = some (.ireturn, 1) := by decide +kernel
theorem ze_224_1473 : z_T g d 224 1473 ls [.int x] h P = ((x = nI 0 ∨ x = nI 1) ∧ P (.inr (some (.int x)), h)) := zt_zreturn zi_224_1473 zr_224
theorem zi_224_1474 : z_ins 224 1474 = some (.iload 5, 2) := by decide +kernel
theorem ze_224_1474 : z_T g d 224 1474 (v0 :: v1 :: v2 :: v3 :: v4 :: .int x :: ls) st h P = z_T g d 224 1476 (v0 :: v1 :: v2 :: v3 :: v4 :: .int x :: ls) (.int x :: st) h P := zt_iload zi_224_1474 rfl
theorem zi_224_1476 : z_ins 224 1476 = some (.ifCond .ne 15, 3) := by decide +kernel
theorem ze_224_1476 : z_T g d 224 1476 ls (.int x :: st) h P = (if x = nI 0 then z_T g d 224 1479 ls st h P else z_T g d 224 1491 ls st h P) := zt_ifne zi_224_1476 (by decide)
theorem zi_224_1479 : z_ins 224 1479 = some (.aload_n 3, 1) := by decide +kernel
theorem ze_224_1479 : z_T g d 224 1479 (v0 :: v1 :: v2 :: .ref a :: ls) st h P = z_T g d 224 1480 (v0 :: v1 :: v2 :: .ref a :: ls) (.ref a :: st) h P := zt_aloadn zi_224_1479 rfl rfl
theorem zi_224_1480 : z_ins 224 1480 = some (.iconst 0, 1) := by decide +kernel
theorem ze_224_1480 : z_T g d 224 1480 ls st h P = z_T g d 224 1481 ls (.int (nI 0) :: st) h P := zt_iconst zi_224_1480 rfl
theorem zi_224_1481 : z_ins 224 1481 = some (.laload, 1) := by decide +kernel
theorem ze_224_1481 : z_T g d 224 1481 ls (.int x :: .ref a :: st) h P = z_lL h.1 a x (fun v => z_T g d 224 1482 ls (.long v :: st) h P) := zt_laload zi_224_1481
theorem zi_224_1482 : z_ins 224 1482 = some (.iload 6, 2) := by decide +kernel
theorem ze_224_1482 : z_T g d 224 1482 (v0 :: v1 :: v2 :: v3 :: v4 :: v5 :: .int x :: ls) st h P = z_T g d 224 1484 (v0 :: v1 :: v2 :: v3 :: v4 :: v5 :: .int x :: ls) (.int x :: st) h P := zt_iload zi_224_1482 rfl
theorem zi_224_1484 : z_ins 224 1484 = some (.i2l, 1) := by decide +kernel
theorem ze_224_1484 : z_T g d 224 1484 ls (.int x :: st) h P = z_T g d 224 1485 ls (.long x.toInt64 :: st) h P := zt_i2l zi_224_1484
theorem zi_224_1485 : z_ins 224 1485 = some (.lcmp, 1) := by decide +kernel
theorem ze_224_1485 : z_T g d 224 1485 ls (.long w :: .long u :: st) h P = z_T g d 224 1486 ls (.int (lg_cmp u w) :: st) h P := zt_lcmp zi_224_1485
theorem zi_224_1486 : z_ins 224 1486 = some (.ifCond .eq 5, 3) := by decide +kernel
theorem ze_224_1486 : z_T g d 224 1486 ls (.int x :: st) h P = (if x = nI 0 then z_T g d 224 1491 ls st h P else z_T g d 224 1489 ls st h P) := zt_ifeq zi_224_1486 (by decide)
theorem zi_224_1489 : z_ins 224 1489 = some (.iconst 0, 1) := by decide +kernel
theorem ze_224_1489 : z_T g d 224 1489 ls st h P = z_T g d 224 1490 ls (.int (nI 0) :: st) h P := zt_iconst zi_224_1489 rfl
theorem zi_224_1490 : z_ins 224 1490 = some (.ireturn, 1) := by decide +kernel
theorem ze_224_1490 : z_T g d 224 1490 ls [.int x] h P = ((x = nI 0 ∨ x = nI 1) ∧ P (.inr (some (.int x)), h)) := zt_zreturn zi_224_1490 zr_224
theorem zi_224_1491 : z_ins 224 1491 = some (.goto 352, 3) := by decide +kernel
theorem ze_224_1491 : z_T g d 224 1491 ls st h P = z_T g d 224 1843 ls st h P := zt_goto zi_224_1491 (by decide)
theorem zi_224_1494 : z_ins 224 1494 = some (.aload_n 1, 1) := by decide +kernel
theorem ze_224_1494 : z_T g d 224 1494 (v0 :: .ref a :: ls) st h P = z_T g d 224 1495 (v0 :: .ref a :: ls) (.ref a :: st) h P := zt_aloadn zi_224_1494 rfl rfl
theorem zi_224_1495 : z_ins 224 1495 = some (.aload_n 0, 1) := by decide +kernel
theorem ze_224_1495 : z_T g d 224 1495 (.retAddr b :: ls) st h P = z_T g d 224 1496 (.retAddr b :: ls) (.retAddr b :: st) h P := zt_aloadnS zi_224_1495 rfl rfl
theorem zi_224_1496 : z_ins 224 1496 = some (.iload 4, 2) := by decide +kernel
theorem ze_224_1496 : z_T g d 224 1496 (v0 :: v1 :: v2 :: v3 :: .int x :: ls) st h P = z_T g d 224 1498 (v0 :: v1 :: v2 :: v3 :: .int x :: ls) (.int x :: st) h P := zt_iload zi_224_1496 rfl
theorem zi_224_1498 : z_ins 224 1498 = some (.iconst 1, 1) := by decide +kernel
theorem ze_224_1498 : z_T g d 224 1498 ls st h P = z_T g d 224 1499 ls (.int (nI 1) :: st) h P := zt_iconst zi_224_1498 rfl
theorem zi_224_1499 : z_ins 224 1499 = some (.iadd, 1) := by decide +kernel
theorem ze_224_1499 : z_T g d 224 1499 ls (.int y :: .int x :: st) h P = z_T g d 224 1500 ls (.int (x + y) :: st) h P := zt_bin (f := fun x y => x + y) zi_224_1499 rfl (fun _ _ _ => rfl)
theorem zi_224_1500 : z_ins 224 1500 = some (.iaload, 1) := by decide +kernel
theorem ze_224_1500 (hx : z_idx x g.1 = true) : z_T g d 224 1500 ls (.int x :: .retAddr 99 :: st) h P = z_T g d 224 1501 ls (.int (g.2 x.toNatClampNeg) :: st) h P := zt_script zi_224_1500 hx
theorem zi_224_1501 : z_ins 224 1501 = some (.aload_n 0, 1) := by decide +kernel
theorem ze_224_1501 : z_T g d 224 1501 (.retAddr b :: ls) st h P = z_T g d 224 1502 (.retAddr b :: ls) (.retAddr b :: st) h P := zt_aloadnS zi_224_1501 rfl rfl
theorem zi_224_1502 : z_ins 224 1502 = some (.iload 4, 2) := by decide +kernel
theorem ze_224_1502 : z_T g d 224 1502 (v0 :: v1 :: v2 :: v3 :: .int x :: ls) st h P = z_T g d 224 1504 (v0 :: v1 :: v2 :: v3 :: .int x :: ls) (.int x :: st) h P := zt_iload zi_224_1502 rfl
theorem zi_224_1504 : z_ins 224 1504 = some (.iconst 2, 1) := by decide +kernel
theorem ze_224_1504 : z_T g d 224 1504 ls st h P = z_T g d 224 1505 ls (.int (nI 2) :: st) h P := zt_iconst zi_224_1504 rfl
theorem zi_224_1505 : z_ins 224 1505 = some (.iadd, 1) := by decide +kernel
theorem ze_224_1505 : z_T g d 224 1505 ls (.int y :: .int x :: st) h P = z_T g d 224 1506 ls (.int (x + y) :: st) h P := zt_bin (f := fun x y => x + y) zi_224_1505 rfl (fun _ _ _ => rfl)
theorem zi_224_1506 : z_ins 224 1506 = some (.iaload, 1) := by decide +kernel
theorem ze_224_1506 (hx : z_idx x g.1 = true) : z_T g d 224 1506 ls (.int x :: .retAddr 99 :: st) h P = z_T g d 224 1507 ls (.int (g.2 x.toNatClampNeg) :: st) h P := zt_script zi_224_1506 hx
theorem zi_224_1507 : z_ins 224 1507 = some (.aload_n 3, 1) := by decide +kernel
theorem ze_224_1507 : z_T g d 224 1507 (v0 :: v1 :: v2 :: .ref a :: ls) st h P = z_T g d 224 1508 (v0 :: v1 :: v2 :: .ref a :: ls) (.ref a :: st) h P := zt_aloadn zi_224_1507 rfl rfl
theorem zi_224_1508 : z_ins 224 1508 = some (.invokestatic 183, 3) := by decide +kernel
theorem ze_224_1508 : z_T g d 224 1508 ls (.ref a3 :: .int x2 :: .int x1 :: .ref a0 :: st) h P = ((z_okS 8 st = true ∧ 0 < d) ∧ z_Ca g (d - 1) 219 [.ref a0, .int x1, .int x2, .ref a3] h (fun r => z_k r (fun v h' => z_T g d 224 1511 ls (z_push v st) h' P) P)) := zt_callS0 (as := [.ref a0, .int x1, .int x2, .ref a3]) zi_224_1508 ((congrArg (fun o => z_lookup z_prs (o, 183)) zo_224).trans zp_LatinRectanglesLaw_183) ((congrArg (fun o => z_clk o 183) zo_224).trans zk_LatinRectanglesLaw_183) zh_224 rfl rfl rfl
theorem zi_224_1511 : z_ins 224 1511 = some (.istore 5, 2) := by decide +kernel
theorem ze_224_1511 : z_T g d 224 1511 (v0 :: v1 :: v2 :: v3 :: v4 :: v5 :: ls) (.int x :: st) h P = z_T g d 224 1513 (v0 :: v1 :: v2 :: v3 :: v4 :: .int x :: ls) st h P := zt_istore zi_224_1511 (Nat.le_add_left 6 _)
theorem zi_224_1513 : z_ins 224 1513 = some (.aload_n 2, 1) := by decide +kernel
theorem ze_224_1513 : z_T g d 224 1513 (v0 :: v1 :: .ref a :: ls) st h P = z_T g d 224 1514 (v0 :: v1 :: .ref a :: ls) (.ref a :: st) h P := zt_aloadn zi_224_1513 rfl rfl
theorem zi_224_1514 : z_ins 224 1514 = some (.aload_n 0, 1) := by decide +kernel
theorem ze_224_1514 : z_T g d 224 1514 (.retAddr b :: ls) st h P = z_T g d 224 1515 (.retAddr b :: ls) (.retAddr b :: st) h P := zt_aloadnS zi_224_1514 rfl rfl
theorem zi_224_1515 : z_ins 224 1515 = some (.iload 4, 2) := by decide +kernel
theorem ze_224_1515 : z_T g d 224 1515 (v0 :: v1 :: v2 :: v3 :: .int x :: ls) st h P = z_T g d 224 1517 (v0 :: v1 :: v2 :: v3 :: .int x :: ls) (.int x :: st) h P := zt_iload zi_224_1515 rfl
theorem zi_224_1517 : z_ins 224 1517 = some (.iconst 1, 1) := by decide +kernel
theorem ze_224_1517 : z_T g d 224 1517 ls st h P = z_T g d 224 1518 ls (.int (nI 1) :: st) h P := zt_iconst zi_224_1517 rfl
theorem zi_224_1518 : z_ins 224 1518 = some (.iadd, 1) := by decide +kernel
theorem ze_224_1518 : z_T g d 224 1518 ls (.int y :: .int x :: st) h P = z_T g d 224 1519 ls (.int (x + y) :: st) h P := zt_bin (f := fun x y => x + y) zi_224_1518 rfl (fun _ _ _ => rfl)
theorem zi_224_1519 : z_ins 224 1519 = some (.iaload, 1) := by decide +kernel
theorem ze_224_1519 (hx : z_idx x g.1 = true) : z_T g d 224 1519 ls (.int x :: .retAddr 99 :: st) h P = z_T g d 224 1520 ls (.int (g.2 x.toNatClampNeg) :: st) h P := zt_script zi_224_1519 hx
theorem zi_224_1520 : z_ins 224 1520 = some (.aload_n 0, 1) := by decide +kernel
theorem ze_224_1520 : z_T g d 224 1520 (.retAddr b :: ls) st h P = z_T g d 224 1521 (.retAddr b :: ls) (.retAddr b :: st) h P := zt_aloadnS zi_224_1520 rfl rfl
theorem zi_224_1521 : z_ins 224 1521 = some (.iload 4, 2) := by decide +kernel
theorem ze_224_1521 : z_T g d 224 1521 (v0 :: v1 :: v2 :: v3 :: .int x :: ls) st h P = z_T g d 224 1523 (v0 :: v1 :: v2 :: v3 :: .int x :: ls) (.int x :: st) h P := zt_iload zi_224_1521 rfl
theorem zi_224_1523 : z_ins 224 1523 = some (.iconst 2, 1) := by decide +kernel
theorem ze_224_1523 : z_T g d 224 1523 ls st h P = z_T g d 224 1524 ls (.int (nI 2) :: st) h P := zt_iconst zi_224_1523 rfl
theorem zi_224_1524 : z_ins 224 1524 = some (.iadd, 1) := by decide +kernel
theorem ze_224_1524 : z_T g d 224 1524 ls (.int y :: .int x :: st) h P = z_T g d 224 1525 ls (.int (x + y) :: st) h P := zt_bin (f := fun x y => x + y) zi_224_1524 rfl (fun _ _ _ => rfl)
theorem zi_224_1525 : z_ins 224 1525 = some (.iaload, 1) := by decide +kernel
theorem ze_224_1525 (hx : z_idx x g.1 = true) : z_T g d 224 1525 ls (.int x :: .retAddr 99 :: st) h P = z_T g d 224 1526 ls (.int (g.2 x.toNatClampNeg) :: st) h P := zt_script zi_224_1525 hx
theorem zi_224_1526 : z_ins 224 1526 = some (.invokevirtual 185, 3) := by decide +kernel
theorem ze_224_1526 : z_T g d 224 1526 ls (.int x1 :: .int x0 :: .ref a :: st) h P = ((z_okS 8 st = true ∧ z_gO h.1 a 10 ∧ 0 < d) ∧ z_Ca g (d - 1) 190 [.ref a, .int x0, .int x1] h (fun r => z_k r (fun v h' => z_T g d 224 1529 ls (z_push v st) h' P) P)) := zt_callV (as := [.int x0, .int x1]) zi_224_1526 ((congrArg (fun o => z_lookup z_prs (o, 185)) zo_224).trans zp_LatinRectanglesLaw_185) ((congrArg (fun o => z_clk o 185) zo_224).trans zk_LatinRectanglesLaw_185) zh_224 zc_190 rfl rfl rfl
theorem zi_224_1529 : z_ins 224 1529 = some (.istore 6, 2) := by decide +kernel
theorem ze_224_1529 : z_T g d 224 1529 (v0 :: v1 :: v2 :: v3 :: v4 :: v5 :: v6 :: ls) (.int x :: st) h P = z_T g d 224 1531 (v0 :: v1 :: v2 :: v3 :: v4 :: v5 :: .int x :: ls) st h P := zt_istore zi_224_1529 (Nat.le_add_left 7 _)
theorem zi_224_1531 : z_ins 224 1531 = some (.aload_n 2, 1) := by decide +kernel
theorem ze_224_1531 : z_T g d 224 1531 (v0 :: v1 :: .ref a :: ls) st h P = z_T g d 224 1532 (v0 :: v1 :: .ref a :: ls) (.ref a :: st) h P := zt_aloadn zi_224_1531 rfl rfl
theorem zi_224_1532 : z_ins 224 1532 = some (.invokevirtual 101, 3) := by decide +kernel
theorem ze_224_1532 : z_T g d 224 1532 ls (.ref a :: st) h P = ((z_okS 8 st = true ∧ z_gO h.1 a 10 ∧ 0 < d) ∧ z_Ca g (d - 1) 121 [.ref a] h (fun r => z_k r (fun v h' => z_T g d 224 1535 ls (z_push v st) h' P) P)) := zt_callV (as := []) zi_224_1532 ((congrArg (fun o => z_lookup z_prs (o, 101)) zo_224).trans zp_LatinRectanglesLaw_101) ((congrArg (fun o => z_clk o 101) zo_224).trans zk_LatinRectanglesLaw_101) zh_224 zc_121 rfl rfl rfl
theorem zi_224_1535 : z_ins 224 1535 = some (.iload 5, 2) := by decide +kernel
theorem ze_224_1535 : z_T g d 224 1535 (v0 :: v1 :: v2 :: v3 :: v4 :: .int x :: ls) st h P = z_T g d 224 1537 (v0 :: v1 :: v2 :: v3 :: v4 :: .int x :: ls) (.int x :: st) h P := zt_iload zi_224_1535 rfl
theorem zi_224_1537 : z_ins 224 1537 = some (.if_icmp .eq 5, 3) := by decide +kernel
theorem ze_224_1537 : z_T g d 224 1537 ls (.int y :: .int x :: st) h P = (if x = y then z_T g d 224 1542 ls st h P else z_T g d 224 1540 ls st h P) := zt_icmpeq zi_224_1537 (by decide)
theorem zi_224_1540 : z_ins 224 1540 = some (.iconst 0, 1) := by decide +kernel
theorem ze_224_1540 : z_T g d 224 1540 ls st h P = z_T g d 224 1541 ls (.int (nI 0) :: st) h P := zt_iconst zi_224_1540 rfl
theorem zi_224_1541 : z_ins 224 1541 = some (.ireturn, 1) := by decide +kernel
theorem ze_224_1541 : z_T g d 224 1541 ls [.int x] h P = ((x = nI 0 ∨ x = nI 1) ∧ P (.inr (some (.int x)), h)) := zt_zreturn zi_224_1541 zr_224
theorem zi_224_1542 : z_ins 224 1542 = some (.iload 5, 2) := by decide +kernel
theorem ze_224_1542 : z_T g d 224 1542 (v0 :: v1 :: v2 :: v3 :: v4 :: .int x :: ls) st h P = z_T g d 224 1544 (v0 :: v1 :: v2 :: v3 :: v4 :: .int x :: ls) (.int x :: st) h P := zt_iload zi_224_1542 rfl
theorem zi_224_1544 : z_ins 224 1544 = some (.ifCond .ne 15, 3) := by decide +kernel
theorem ze_224_1544 : z_T g d 224 1544 ls (.int x :: st) h P = (if x = nI 0 then z_T g d 224 1547 ls st h P else z_T g d 224 1559 ls st h P) := zt_ifne zi_224_1544 (by decide)
theorem zi_224_1547 : z_ins 224 1547 = some (.aload_n 3, 1) := by decide +kernel
theorem ze_224_1547 : z_T g d 224 1547 (v0 :: v1 :: v2 :: .ref a :: ls) st h P = z_T g d 224 1548 (v0 :: v1 :: v2 :: .ref a :: ls) (.ref a :: st) h P := zt_aloadn zi_224_1547 rfl rfl
theorem zi_224_1548 : z_ins 224 1548 = some (.iconst 0, 1) := by decide +kernel
theorem ze_224_1548 : z_T g d 224 1548 ls st h P = z_T g d 224 1549 ls (.int (nI 0) :: st) h P := zt_iconst zi_224_1548 rfl
theorem zi_224_1549 : z_ins 224 1549 = some (.laload, 1) := by decide +kernel
theorem ze_224_1549 : z_T g d 224 1549 ls (.int x :: .ref a :: st) h P = z_lL h.1 a x (fun v => z_T g d 224 1550 ls (.long v :: st) h P) := zt_laload zi_224_1549
theorem zi_224_1550 : z_ins 224 1550 = some (.iload 6, 2) := by decide +kernel
theorem ze_224_1550 : z_T g d 224 1550 (v0 :: v1 :: v2 :: v3 :: v4 :: v5 :: .int x :: ls) st h P = z_T g d 224 1552 (v0 :: v1 :: v2 :: v3 :: v4 :: v5 :: .int x :: ls) (.int x :: st) h P := zt_iload zi_224_1550 rfl
theorem zi_224_1552 : z_ins 224 1552 = some (.i2l, 1) := by decide +kernel
theorem ze_224_1552 : z_T g d 224 1552 ls (.int x :: st) h P = z_T g d 224 1553 ls (.long x.toInt64 :: st) h P := zt_i2l zi_224_1552
theorem zi_224_1553 : z_ins 224 1553 = some (.lcmp, 1) := by decide +kernel
theorem ze_224_1553 : z_T g d 224 1553 ls (.long w :: .long u :: st) h P = z_T g d 224 1554 ls (.int (lg_cmp u w) :: st) h P := zt_lcmp zi_224_1553
theorem zi_224_1554 : z_ins 224 1554 = some (.ifCond .eq 5, 3) := by decide +kernel
theorem ze_224_1554 : z_T g d 224 1554 ls (.int x :: st) h P = (if x = nI 0 then z_T g d 224 1559 ls st h P else z_T g d 224 1557 ls st h P) := zt_ifeq zi_224_1554 (by decide)
theorem zi_224_1557 : z_ins 224 1557 = some (.iconst 0, 1) := by decide +kernel
theorem ze_224_1557 : z_T g d 224 1557 ls st h P = z_T g d 224 1558 ls (.int (nI 0) :: st) h P := zt_iconst zi_224_1557 rfl
theorem zi_224_1558 : z_ins 224 1558 = some (.ireturn, 1) := by decide +kernel
theorem ze_224_1558 : z_T g d 224 1558 ls [.int x] h P = ((x = nI 0 ∨ x = nI 1) ∧ P (.inr (some (.int x)), h)) := zt_zreturn zi_224_1558 zr_224
theorem zi_224_1559 : z_ins 224 1559 = some (.goto 284, 3) := by decide +kernel
theorem ze_224_1559 : z_T g d 224 1559 ls st h P = z_T g d 224 1843 ls st h P := zt_goto zi_224_1559 (by decide)
theorem zi_224_1562 : z_ins 224 1562 = some (.aload_n 1, 1) := by decide +kernel
theorem ze_224_1562 : z_T g d 224 1562 (v0 :: .ref a :: ls) st h P = z_T g d 224 1563 (v0 :: .ref a :: ls) (.ref a :: st) h P := zt_aloadn zi_224_1562 rfl rfl
theorem zi_224_1563 : z_ins 224 1563 = some (.invokevirtual 186, 3) := by decide +kernel
theorem ze_224_1563 : z_T g d 224 1563 ls (.ref a :: st) h P = ((z_okS 8 st = true ∧ z_gO h.1 a 9 ∧ 0 < d) ∧ z_Ca g (d - 1) 106 [.ref a] h (fun r => z_k r (fun v h' => z_T g d 224 1566 ls (z_push v st) h' P) P)) := zt_callV (as := []) zi_224_1563 ((congrArg (fun o => z_lookup z_prs (o, 186)) zo_224).trans zp_LatinRectanglesLaw_186) ((congrArg (fun o => z_clk o 186) zo_224).trans zk_LatinRectanglesLaw_186) zh_224 zc_106 rfl rfl rfl
theorem zi_224_1566 : z_ins 224 1566 = some (.aload_n 2, 1) := by decide +kernel
theorem ze_224_1566 : z_T g d 224 1566 (v0 :: v1 :: .ref a :: ls) st h P = z_T g d 224 1567 (v0 :: v1 :: .ref a :: ls) (.ref a :: st) h P := zt_aloadn zi_224_1566 rfl rfl
theorem zi_224_1567 : z_ins 224 1567 = some (.invokevirtual 189, 3) := by decide +kernel
theorem ze_224_1567 : z_T g d 224 1567 ls (.ref a :: st) h P = ((z_okS 8 st = true ∧ z_gO h.1 a 10 ∧ 0 < d) ∧ z_Ca g (d - 1) 191 [.ref a] h (fun r => z_k r (fun v h' => z_T g d 224 1570 ls (z_push v st) h' P) P)) := zt_callV (as := []) zi_224_1567 ((congrArg (fun o => z_lookup z_prs (o, 189)) zo_224).trans zp_LatinRectanglesLaw_189) ((congrArg (fun o => z_clk o 189) zo_224).trans zk_LatinRectanglesLaw_189) zh_224 zc_191 rfl rfl rfl
theorem zi_224_1570 : z_ins 224 1570 = some (.if_icmp .eq 273, 3) := by decide +kernel
theorem ze_224_1570 : z_T g d 224 1570 ls (.int y :: .int x :: st) h P = (if x = y then z_T g d 224 1843 ls st h P else z_T g d 224 1573 ls st h P) := zt_icmpeq zi_224_1570 (by decide)
theorem zi_224_1573 : z_ins 224 1573 = some (.iconst 0, 1) := by decide +kernel
theorem ze_224_1573 : z_T g d 224 1573 ls st h P = z_T g d 224 1574 ls (.int (nI 0) :: st) h P := zt_iconst zi_224_1573 rfl
theorem zi_224_1574 : z_ins 224 1574 = some (.ireturn, 1) := by decide +kernel
theorem ze_224_1574 : z_T g d 224 1574 ls [.int x] h P = ((x = nI 0 ∨ x = nI 1) ∧ P (.inr (some (.int x)), h)) := zt_zreturn zi_224_1574 zr_224
theorem zi_224_1575 : z_ins 224 1575 = some (.aload_n 1, 1) := by decide +kernel
theorem ze_224_1575 : z_T g d 224 1575 (v0 :: .ref a :: ls) st h P = z_T g d 224 1576 (v0 :: .ref a :: ls) (.ref a :: st) h P := zt_aloadn zi_224_1575 rfl rfl
theorem zi_224_1576 : z_ins 224 1576 = some (.aload_n 0, 1) := by decide +kernel
theorem ze_224_1576 : z_T g d 224 1576 (.retAddr b :: ls) st h P = z_T g d 224 1577 (.retAddr b :: ls) (.retAddr b :: st) h P := zt_aloadnS zi_224_1576 rfl rfl
theorem zi_224_1577 : z_ins 224 1577 = some (.iload 4, 2) := by decide +kernel
theorem ze_224_1577 : z_T g d 224 1577 (v0 :: v1 :: v2 :: v3 :: .int x :: ls) st h P = z_T g d 224 1579 (v0 :: v1 :: v2 :: v3 :: .int x :: ls) (.int x :: st) h P := zt_iload zi_224_1577 rfl
theorem zi_224_1579 : z_ins 224 1579 = some (.iconst 1, 1) := by decide +kernel
theorem ze_224_1579 : z_T g d 224 1579 ls st h P = z_T g d 224 1580 ls (.int (nI 1) :: st) h P := zt_iconst zi_224_1579 rfl
theorem zi_224_1580 : z_ins 224 1580 = some (.iadd, 1) := by decide +kernel
theorem ze_224_1580 : z_T g d 224 1580 ls (.int y :: .int x :: st) h P = z_T g d 224 1581 ls (.int (x + y) :: st) h P := zt_bin (f := fun x y => x + y) zi_224_1580 rfl (fun _ _ _ => rfl)
theorem zi_224_1581 : z_ins 224 1581 = some (.iaload, 1) := by decide +kernel
theorem ze_224_1581 (hx : z_idx x g.1 = true) : z_T g d 224 1581 ls (.int x :: .retAddr 99 :: st) h P = z_T g d 224 1582 ls (.int (g.2 x.toNatClampNeg) :: st) h P := zt_script zi_224_1581 hx
theorem zi_224_1582 : z_ins 224 1582 = some (.aload_n 3, 1) := by decide +kernel
theorem ze_224_1582 : z_T g d 224 1582 (v0 :: v1 :: v2 :: .ref a :: ls) st h P = z_T g d 224 1583 (v0 :: v1 :: v2 :: .ref a :: ls) (.ref a :: st) h P := zt_aloadn zi_224_1582 rfl rfl
theorem zi_224_1583 : z_ins 224 1583 = some (.invokestatic 190, 3) := by decide +kernel
theorem ze_224_1583 : z_T g d 224 1583 ls (.ref a2 :: .int x1 :: .ref a0 :: st) h P = ((z_okS 8 st = true ∧ 0 < d) ∧ z_Ca g (d - 1) 220 [.ref a0, .int x1, .ref a2] h (fun r => z_k r (fun v h' => z_T g d 224 1586 ls (z_push v st) h' P) P)) := zt_callS0 (as := [.ref a0, .int x1, .ref a2]) zi_224_1583 ((congrArg (fun o => z_lookup z_prs (o, 190)) zo_224).trans zp_LatinRectanglesLaw_190) ((congrArg (fun o => z_clk o 190) zo_224).trans zk_LatinRectanglesLaw_190) zh_224 rfl rfl rfl
theorem zi_224_1586 : z_ins 224 1586 = some (.istore 5, 2) := by decide +kernel
theorem ze_224_1586 : z_T g d 224 1586 (v0 :: v1 :: v2 :: v3 :: v4 :: v5 :: ls) (.int x :: st) h P = z_T g d 224 1588 (v0 :: v1 :: v2 :: v3 :: v4 :: .int x :: ls) st h P := zt_istore zi_224_1586 (Nat.le_add_left 6 _)
theorem zi_224_1588 : z_ins 224 1588 = some (.aload_n 2, 1) := by decide +kernel
theorem ze_224_1588 : z_T g d 224 1588 (v0 :: v1 :: .ref a :: ls) st h P = z_T g d 224 1589 (v0 :: v1 :: .ref a :: ls) (.ref a :: st) h P := zt_aloadn zi_224_1588 rfl rfl
theorem zi_224_1589 : z_ins 224 1589 = some (.aload_n 0, 1) := by decide +kernel
theorem ze_224_1589 : z_T g d 224 1589 (.retAddr b :: ls) st h P = z_T g d 224 1590 (.retAddr b :: ls) (.retAddr b :: st) h P := zt_aloadnS zi_224_1589 rfl rfl
theorem zi_224_1590 : z_ins 224 1590 = some (.iload 4, 2) := by decide +kernel
theorem ze_224_1590 : z_T g d 224 1590 (v0 :: v1 :: v2 :: v3 :: .int x :: ls) st h P = z_T g d 224 1592 (v0 :: v1 :: v2 :: v3 :: .int x :: ls) (.int x :: st) h P := zt_iload zi_224_1590 rfl
theorem zi_224_1592 : z_ins 224 1592 = some (.iconst 1, 1) := by decide +kernel
theorem ze_224_1592 : z_T g d 224 1592 ls st h P = z_T g d 224 1593 ls (.int (nI 1) :: st) h P := zt_iconst zi_224_1592 rfl
theorem zi_224_1593 : z_ins 224 1593 = some (.iadd, 1) := by decide +kernel
theorem ze_224_1593 : z_T g d 224 1593 ls (.int y :: .int x :: st) h P = z_T g d 224 1594 ls (.int (x + y) :: st) h P := zt_bin (f := fun x y => x + y) zi_224_1593 rfl (fun _ _ _ => rfl)
theorem zi_224_1594 : z_ins 224 1594 = some (.iaload, 1) := by decide +kernel
theorem ze_224_1594 (hx : z_idx x g.1 = true) : z_T g d 224 1594 ls (.int x :: .retAddr 99 :: st) h P = z_T g d 224 1595 ls (.int (g.2 x.toNatClampNeg) :: st) h P := zt_script zi_224_1594 hx
theorem zi_224_1595 : z_ins 224 1595 = some (.invokevirtual 192, 3) := by decide +kernel
theorem ze_224_1595 : z_T g d 224 1595 ls (.int x0 :: .ref a :: st) h P = ((z_okS 8 st = true ∧ z_gO h.1 a 10 ∧ 0 < d) ∧ z_Ca g (d - 1) 193 [.ref a, .int x0] h (fun r => z_k r (fun v h' => z_T g d 224 1598 ls (z_push v st) h' P) P)) := zt_callV (as := [.int x0]) zi_224_1595 ((congrArg (fun o => z_lookup z_prs (o, 192)) zo_224).trans zp_LatinRectanglesLaw_192) ((congrArg (fun o => z_clk o 192) zo_224).trans zk_LatinRectanglesLaw_192) zh_224 zc_193 rfl rfl rfl
theorem zi_224_1598 : z_ins 224 1598 = some (.istore 6, 2) := by decide +kernel
theorem ze_224_1598 : z_T g d 224 1598 (v0 :: v1 :: v2 :: v3 :: v4 :: v5 :: v6 :: ls) (.int x :: st) h P = z_T g d 224 1600 (v0 :: v1 :: v2 :: v3 :: v4 :: v5 :: .int x :: ls) st h P := zt_istore zi_224_1598 (Nat.le_add_left 7 _)
theorem zi_224_1600 : z_ins 224 1600 = some (.aload_n 2, 1) := by decide +kernel
theorem ze_224_1600 : z_T g d 224 1600 (v0 :: v1 :: .ref a :: ls) st h P = z_T g d 224 1601 (v0 :: v1 :: .ref a :: ls) (.ref a :: st) h P := zt_aloadn zi_224_1600 rfl rfl
theorem zi_224_1601 : z_ins 224 1601 = some (.invokevirtual 101, 3) := by decide +kernel
theorem ze_224_1601 : z_T g d 224 1601 ls (.ref a :: st) h P = ((z_okS 8 st = true ∧ z_gO h.1 a 10 ∧ 0 < d) ∧ z_Ca g (d - 1) 121 [.ref a] h (fun r => z_k r (fun v h' => z_T g d 224 1604 ls (z_push v st) h' P) P)) := zt_callV (as := []) zi_224_1601 ((congrArg (fun o => z_lookup z_prs (o, 101)) zo_224).trans zp_LatinRectanglesLaw_101) ((congrArg (fun o => z_clk o 101) zo_224).trans zk_LatinRectanglesLaw_101) zh_224 zc_121 rfl rfl rfl
theorem zi_224_1604 : z_ins 224 1604 = some (.iload 5, 2) := by decide +kernel
theorem ze_224_1604 : z_T g d 224 1604 (v0 :: v1 :: v2 :: v3 :: v4 :: .int x :: ls) st h P = z_T g d 224 1606 (v0 :: v1 :: v2 :: v3 :: v4 :: .int x :: ls) (.int x :: st) h P := zt_iload zi_224_1604 rfl
theorem zi_224_1606 : z_ins 224 1606 = some (.if_icmp .eq 5, 3) := by decide +kernel
theorem ze_224_1606 : z_T g d 224 1606 ls (.int y :: .int x :: st) h P = (if x = y then z_T g d 224 1611 ls st h P else z_T g d 224 1609 ls st h P) := zt_icmpeq zi_224_1606 (by decide)
theorem zi_224_1609 : z_ins 224 1609 = some (.iconst 0, 1) := by decide +kernel
theorem ze_224_1609 : z_T g d 224 1609 ls st h P = z_T g d 224 1610 ls (.int (nI 0) :: st) h P := zt_iconst zi_224_1609 rfl
theorem zi_224_1610 : z_ins 224 1610 = some (.ireturn, 1) := by decide +kernel
theorem ze_224_1610 : z_T g d 224 1610 ls [.int x] h P = ((x = nI 0 ∨ x = nI 1) ∧ P (.inr (some (.int x)), h)) := zt_zreturn zi_224_1610 zr_224
theorem zi_224_1611 : z_ins 224 1611 = some (.iload 5, 2) := by decide +kernel
theorem ze_224_1611 : z_T g d 224 1611 (v0 :: v1 :: v2 :: v3 :: v4 :: .int x :: ls) st h P = z_T g d 224 1613 (v0 :: v1 :: v2 :: v3 :: v4 :: .int x :: ls) (.int x :: st) h P := zt_iload zi_224_1611 rfl
theorem zi_224_1613 : z_ins 224 1613 = some (.ifCond .ne 15, 3) := by decide +kernel
theorem ze_224_1613 : z_T g d 224 1613 ls (.int x :: st) h P = (if x = nI 0 then z_T g d 224 1616 ls st h P else z_T g d 224 1628 ls st h P) := zt_ifne zi_224_1613 (by decide)
theorem zi_224_1616 : z_ins 224 1616 = some (.aload_n 3, 1) := by decide +kernel
theorem ze_224_1616 : z_T g d 224 1616 (v0 :: v1 :: v2 :: .ref a :: ls) st h P = z_T g d 224 1617 (v0 :: v1 :: v2 :: .ref a :: ls) (.ref a :: st) h P := zt_aloadn zi_224_1616 rfl rfl
theorem zi_224_1617 : z_ins 224 1617 = some (.iconst 0, 1) := by decide +kernel
theorem ze_224_1617 : z_T g d 224 1617 ls st h P = z_T g d 224 1618 ls (.int (nI 0) :: st) h P := zt_iconst zi_224_1617 rfl
theorem zi_224_1618 : z_ins 224 1618 = some (.laload, 1) := by decide +kernel
theorem ze_224_1618 : z_T g d 224 1618 ls (.int x :: .ref a :: st) h P = z_lL h.1 a x (fun v => z_T g d 224 1619 ls (.long v :: st) h P) := zt_laload zi_224_1618
theorem zi_224_1619 : z_ins 224 1619 = some (.iload 6, 2) := by decide +kernel
theorem ze_224_1619 : z_T g d 224 1619 (v0 :: v1 :: v2 :: v3 :: v4 :: v5 :: .int x :: ls) st h P = z_T g d 224 1621 (v0 :: v1 :: v2 :: v3 :: v4 :: v5 :: .int x :: ls) (.int x :: st) h P := zt_iload zi_224_1619 rfl
theorem zi_224_1621 : z_ins 224 1621 = some (.i2l, 1) := by decide +kernel
theorem ze_224_1621 : z_T g d 224 1621 ls (.int x :: st) h P = z_T g d 224 1622 ls (.long x.toInt64 :: st) h P := zt_i2l zi_224_1621
theorem zi_224_1622 : z_ins 224 1622 = some (.lcmp, 1) := by decide +kernel
theorem ze_224_1622 : z_T g d 224 1622 ls (.long w :: .long u :: st) h P = z_T g d 224 1623 ls (.int (lg_cmp u w) :: st) h P := zt_lcmp zi_224_1622
theorem zi_224_1623 : z_ins 224 1623 = some (.ifCond .eq 5, 3) := by decide +kernel
theorem ze_224_1623 : z_T g d 224 1623 ls (.int x :: st) h P = (if x = nI 0 then z_T g d 224 1628 ls st h P else z_T g d 224 1626 ls st h P) := zt_ifeq zi_224_1623 (by decide)
theorem zi_224_1626 : z_ins 224 1626 = some (.iconst 0, 1) := by decide +kernel
theorem ze_224_1626 : z_T g d 224 1626 ls st h P = z_T g d 224 1627 ls (.int (nI 0) :: st) h P := zt_iconst zi_224_1626 rfl
theorem zi_224_1627 : z_ins 224 1627 = some (.ireturn, 1) := by decide +kernel
theorem ze_224_1627 : z_T g d 224 1627 ls [.int x] h P = ((x = nI 0 ∨ x = nI 1) ∧ P (.inr (some (.int x)), h)) := zt_zreturn zi_224_1627 zr_224
theorem zi_224_1628 : z_ins 224 1628 = some (.goto 215, 3) := by decide +kernel
theorem ze_224_1628 : z_T g d 224 1628 ls st h P = z_T g d 224 1843 ls st h P := zt_goto zi_224_1628 (by decide)
theorem zi_224_1631 : z_ins 224 1631 = some (.aload_n 1, 1) := by decide +kernel
theorem ze_224_1631 : z_T g d 224 1631 (v0 :: .ref a :: ls) st h P = z_T g d 224 1632 (v0 :: .ref a :: ls) (.ref a :: st) h P := zt_aloadn zi_224_1631 rfl rfl
theorem zi_224_1632 : z_ins 224 1632 = some (.aload_n 0, 1) := by decide +kernel
theorem ze_224_1632 : z_T g d 224 1632 (.retAddr b :: ls) st h P = z_T g d 224 1633 (.retAddr b :: ls) (.retAddr b :: st) h P := zt_aloadnS zi_224_1632 rfl rfl
theorem zi_224_1633 : z_ins 224 1633 = some (.iload 4, 2) := by decide +kernel
theorem ze_224_1633 : z_T g d 224 1633 (v0 :: v1 :: v2 :: v3 :: .int x :: ls) st h P = z_T g d 224 1635 (v0 :: v1 :: v2 :: v3 :: .int x :: ls) (.int x :: st) h P := zt_iload zi_224_1633 rfl
theorem zi_224_1635 : z_ins 224 1635 = some (.iconst 1, 1) := by decide +kernel
theorem ze_224_1635 : z_T g d 224 1635 ls st h P = z_T g d 224 1636 ls (.int (nI 1) :: st) h P := zt_iconst zi_224_1635 rfl
theorem zi_224_1636 : z_ins 224 1636 = some (.iadd, 1) := by decide +kernel
theorem ze_224_1636 : z_T g d 224 1636 ls (.int y :: .int x :: st) h P = z_T g d 224 1637 ls (.int (x + y) :: st) h P := zt_bin (f := fun x y => x + y) zi_224_1636 rfl (fun _ _ _ => rfl)
theorem zi_224_1637 : z_ins 224 1637 = some (.iaload, 1) := by decide +kernel
theorem ze_224_1637 (hx : z_idx x g.1 = true) : z_T g d 224 1637 ls (.int x :: .retAddr 99 :: st) h P = z_T g d 224 1638 ls (.int (g.2 x.toNatClampNeg) :: st) h P := zt_script zi_224_1637 hx
theorem zi_224_1638 : z_ins 224 1638 = some (.aload_n 0, 1) := by decide +kernel
theorem ze_224_1638 : z_T g d 224 1638 (.retAddr b :: ls) st h P = z_T g d 224 1639 (.retAddr b :: ls) (.retAddr b :: st) h P := zt_aloadnS zi_224_1638 rfl rfl
theorem zi_224_1639 : z_ins 224 1639 = some (.iload 4, 2) := by decide +kernel
theorem ze_224_1639 : z_T g d 224 1639 (v0 :: v1 :: v2 :: v3 :: .int x :: ls) st h P = z_T g d 224 1641 (v0 :: v1 :: v2 :: v3 :: .int x :: ls) (.int x :: st) h P := zt_iload zi_224_1639 rfl
theorem zi_224_1641 : z_ins 224 1641 = some (.iconst 2, 1) := by decide +kernel
theorem ze_224_1641 : z_T g d 224 1641 ls st h P = z_T g d 224 1642 ls (.int (nI 2) :: st) h P := zt_iconst zi_224_1641 rfl
theorem zi_224_1642 : z_ins 224 1642 = some (.iadd, 1) := by decide +kernel
theorem ze_224_1642 : z_T g d 224 1642 ls (.int y :: .int x :: st) h P = z_T g d 224 1643 ls (.int (x + y) :: st) h P := zt_bin (f := fun x y => x + y) zi_224_1642 rfl (fun _ _ _ => rfl)
theorem zi_224_1643 : z_ins 224 1643 = some (.iaload, 1) := by decide +kernel
theorem ze_224_1643 (hx : z_idx x g.1 = true) : z_T g d 224 1643 ls (.int x :: .retAddr 99 :: st) h P = z_T g d 224 1644 ls (.int (g.2 x.toNatClampNeg) :: st) h P := zt_script zi_224_1643 hx
theorem zi_224_1644 : z_ins 224 1644 = some (.aload_n 0, 1) := by decide +kernel
theorem ze_224_1644 : z_T g d 224 1644 (.retAddr b :: ls) st h P = z_T g d 224 1645 (.retAddr b :: ls) (.retAddr b :: st) h P := zt_aloadnS zi_224_1644 rfl rfl
theorem zi_224_1645 : z_ins 224 1645 = some (.iload 4, 2) := by decide +kernel
theorem ze_224_1645 : z_T g d 224 1645 (v0 :: v1 :: v2 :: v3 :: .int x :: ls) st h P = z_T g d 224 1647 (v0 :: v1 :: v2 :: v3 :: .int x :: ls) (.int x :: st) h P := zt_iload zi_224_1645 rfl
theorem zi_224_1647 : z_ins 224 1647 = some (.iconst 3, 1) := by decide +kernel
theorem ze_224_1647 : z_T g d 224 1647 ls st h P = z_T g d 224 1648 ls (.int (nI 3) :: st) h P := zt_iconst zi_224_1647 rfl
theorem zi_224_1648 : z_ins 224 1648 = some (.iadd, 1) := by decide +kernel
theorem ze_224_1648 : z_T g d 224 1648 ls (.int y :: .int x :: st) h P = z_T g d 224 1649 ls (.int (x + y) :: st) h P := zt_bin (f := fun x y => x + y) zi_224_1648 rfl (fun _ _ _ => rfl)
theorem zi_224_1649 : z_ins 224 1649 = some (.iaload, 1) := by decide +kernel
theorem ze_224_1649 (hx : z_idx x g.1 = true) : z_T g d 224 1649 ls (.int x :: .retAddr 99 :: st) h P = z_T g d 224 1650 ls (.int (g.2 x.toNatClampNeg) :: st) h P := zt_script zi_224_1649 hx
theorem zi_224_1650 : z_ins 224 1650 = some (.aload_n 3, 1) := by decide +kernel
theorem ze_224_1650 : z_T g d 224 1650 (v0 :: v1 :: v2 :: .ref a :: ls) st h P = z_T g d 224 1651 (v0 :: v1 :: v2 :: .ref a :: ls) (.ref a :: st) h P := zt_aloadn zi_224_1650 rfl rfl
theorem zi_224_1651 : z_ins 224 1651 = some (.invokestatic 193, 3) := by decide +kernel
theorem ze_224_1651 : z_T g d 224 1651 ls (.ref a4 :: .int x3 :: .int x2 :: .int x1 :: .ref a0 :: st) h P = ((z_okS 8 st = true ∧ 0 < d) ∧ z_Ca g (d - 1) 221 [.ref a0, .int x1, .int x2, .int x3, .ref a4] h (fun r => z_k r (fun v h' => z_T g d 224 1654 ls (z_push v st) h' P) P)) := zt_callS0 (as := [.ref a0, .int x1, .int x2, .int x3, .ref a4]) zi_224_1651 ((congrArg (fun o => z_lookup z_prs (o, 193)) zo_224).trans zp_LatinRectanglesLaw_193) ((congrArg (fun o => z_clk o 193) zo_224).trans zk_LatinRectanglesLaw_193) zh_224 rfl rfl rfl
theorem zi_224_1654 : z_ins 224 1654 = some (.istore 5, 2) := by decide +kernel
theorem ze_224_1654 : z_T g d 224 1654 (v0 :: v1 :: v2 :: v3 :: v4 :: v5 :: ls) (.int x :: st) h P = z_T g d 224 1656 (v0 :: v1 :: v2 :: v3 :: v4 :: .int x :: ls) st h P := zt_istore zi_224_1654 (Nat.le_add_left 6 _)
theorem zi_224_1656 : z_ins 224 1656 = some (.aload_n 2, 1) := by decide +kernel
theorem ze_224_1656 : z_T g d 224 1656 (v0 :: v1 :: .ref a :: ls) st h P = z_T g d 224 1657 (v0 :: v1 :: .ref a :: ls) (.ref a :: st) h P := zt_aloadn zi_224_1656 rfl rfl
theorem zi_224_1657 : z_ins 224 1657 = some (.aload_n 0, 1) := by decide +kernel
theorem ze_224_1657 : z_T g d 224 1657 (.retAddr b :: ls) st h P = z_T g d 224 1658 (.retAddr b :: ls) (.retAddr b :: st) h P := zt_aloadnS zi_224_1657 rfl rfl
theorem zi_224_1658 : z_ins 224 1658 = some (.iload 4, 2) := by decide +kernel
theorem ze_224_1658 : z_T g d 224 1658 (v0 :: v1 :: v2 :: v3 :: .int x :: ls) st h P = z_T g d 224 1660 (v0 :: v1 :: v2 :: v3 :: .int x :: ls) (.int x :: st) h P := zt_iload zi_224_1658 rfl
theorem zi_224_1660 : z_ins 224 1660 = some (.iconst 1, 1) := by decide +kernel
theorem ze_224_1660 : z_T g d 224 1660 ls st h P = z_T g d 224 1661 ls (.int (nI 1) :: st) h P := zt_iconst zi_224_1660 rfl
theorem zi_224_1661 : z_ins 224 1661 = some (.iadd, 1) := by decide +kernel
theorem ze_224_1661 : z_T g d 224 1661 ls (.int y :: .int x :: st) h P = z_T g d 224 1662 ls (.int (x + y) :: st) h P := zt_bin (f := fun x y => x + y) zi_224_1661 rfl (fun _ _ _ => rfl)
theorem zi_224_1662 : z_ins 224 1662 = some (.iaload, 1) := by decide +kernel
theorem ze_224_1662 (hx : z_idx x g.1 = true) : z_T g d 224 1662 ls (.int x :: .retAddr 99 :: st) h P = z_T g d 224 1663 ls (.int (g.2 x.toNatClampNeg) :: st) h P := zt_script zi_224_1662 hx
theorem zi_224_1663 : z_ins 224 1663 = some (.aload_n 0, 1) := by decide +kernel
theorem ze_224_1663 : z_T g d 224 1663 (.retAddr b :: ls) st h P = z_T g d 224 1664 (.retAddr b :: ls) (.retAddr b :: st) h P := zt_aloadnS zi_224_1663 rfl rfl
theorem zi_224_1664 : z_ins 224 1664 = some (.iload 4, 2) := by decide +kernel
theorem ze_224_1664 : z_T g d 224 1664 (v0 :: v1 :: v2 :: v3 :: .int x :: ls) st h P = z_T g d 224 1666 (v0 :: v1 :: v2 :: v3 :: .int x :: ls) (.int x :: st) h P := zt_iload zi_224_1664 rfl
theorem zi_224_1666 : z_ins 224 1666 = some (.iconst 2, 1) := by decide +kernel
theorem ze_224_1666 : z_T g d 224 1666 ls st h P = z_T g d 224 1667 ls (.int (nI 2) :: st) h P := zt_iconst zi_224_1666 rfl
theorem zi_224_1667 : z_ins 224 1667 = some (.iadd, 1) := by decide +kernel
theorem ze_224_1667 : z_T g d 224 1667 ls (.int y :: .int x :: st) h P = z_T g d 224 1668 ls (.int (x + y) :: st) h P := zt_bin (f := fun x y => x + y) zi_224_1667 rfl (fun _ _ _ => rfl)
theorem zi_224_1668 : z_ins 224 1668 = some (.iaload, 1) := by decide +kernel
theorem ze_224_1668 (hx : z_idx x g.1 = true) : z_T g d 224 1668 ls (.int x :: .retAddr 99 :: st) h P = z_T g d 224 1669 ls (.int (g.2 x.toNatClampNeg) :: st) h P := zt_script zi_224_1668 hx
theorem zi_224_1669 : z_ins 224 1669 = some (.aload_n 0, 1) := by decide +kernel
theorem ze_224_1669 : z_T g d 224 1669 (.retAddr b :: ls) st h P = z_T g d 224 1670 (.retAddr b :: ls) (.retAddr b :: st) h P := zt_aloadnS zi_224_1669 rfl rfl
theorem zi_224_1670 : z_ins 224 1670 = some (.iload 4, 2) := by decide +kernel
theorem ze_224_1670 : z_T g d 224 1670 (v0 :: v1 :: v2 :: v3 :: .int x :: ls) st h P = z_T g d 224 1672 (v0 :: v1 :: v2 :: v3 :: .int x :: ls) (.int x :: st) h P := zt_iload zi_224_1670 rfl
theorem zi_224_1672 : z_ins 224 1672 = some (.iconst 3, 1) := by decide +kernel
theorem ze_224_1672 : z_T g d 224 1672 ls st h P = z_T g d 224 1673 ls (.int (nI 3) :: st) h P := zt_iconst zi_224_1672 rfl
theorem zi_224_1673 : z_ins 224 1673 = some (.iadd, 1) := by decide +kernel
theorem ze_224_1673 : z_T g d 224 1673 ls (.int y :: .int x :: st) h P = z_T g d 224 1674 ls (.int (x + y) :: st) h P := zt_bin (f := fun x y => x + y) zi_224_1673 rfl (fun _ _ _ => rfl)
theorem zi_224_1674 : z_ins 224 1674 = some (.iaload, 1) := by decide +kernel
theorem ze_224_1674 (hx : z_idx x g.1 = true) : z_T g d 224 1674 ls (.int x :: .retAddr 99 :: st) h P = z_T g d 224 1675 ls (.int (g.2 x.toNatClampNeg) :: st) h P := zt_script zi_224_1674 hx
theorem zi_224_1675 : z_ins 224 1675 = some (.invokevirtual 195, 3) := by decide +kernel
theorem ze_224_1675 : z_T g d 224 1675 ls (.int x2 :: .int x1 :: .int x0 :: .ref a :: st) h P = ((z_okS 8 st = true ∧ z_gO h.1 a 10 ∧ 0 < d) ∧ z_Ca g (d - 1) 195 [.ref a, .int x0, .int x1, .int x2] h (fun r => z_k r (fun v h' => z_T g d 224 1678 ls (z_push v st) h' P) P)) := zt_callV (as := [.int x0, .int x1, .int x2]) zi_224_1675 ((congrArg (fun o => z_lookup z_prs (o, 195)) zo_224).trans zp_LatinRectanglesLaw_195) ((congrArg (fun o => z_clk o 195) zo_224).trans zk_LatinRectanglesLaw_195) zh_224 zc_195 rfl rfl rfl
theorem zi_224_1678 : z_ins 224 1678 = some (.istore 6, 2) := by decide +kernel
theorem ze_224_1678 : z_T g d 224 1678 (v0 :: v1 :: v2 :: v3 :: v4 :: v5 :: v6 :: ls) (.int x :: st) h P = z_T g d 224 1680 (v0 :: v1 :: v2 :: v3 :: v4 :: v5 :: .int x :: ls) st h P := zt_istore zi_224_1678 (Nat.le_add_left 7 _)
theorem zi_224_1680 : z_ins 224 1680 = some (.aload_n 2, 1) := by decide +kernel
theorem ze_224_1680 : z_T g d 224 1680 (v0 :: v1 :: .ref a :: ls) st h P = z_T g d 224 1681 (v0 :: v1 :: .ref a :: ls) (.ref a :: st) h P := zt_aloadn zi_224_1680 rfl rfl
theorem zi_224_1681 : z_ins 224 1681 = some (.invokevirtual 101, 3) := by decide +kernel
theorem ze_224_1681 : z_T g d 224 1681 ls (.ref a :: st) h P = ((z_okS 8 st = true ∧ z_gO h.1 a 10 ∧ 0 < d) ∧ z_Ca g (d - 1) 121 [.ref a] h (fun r => z_k r (fun v h' => z_T g d 224 1684 ls (z_push v st) h' P) P)) := zt_callV (as := []) zi_224_1681 ((congrArg (fun o => z_lookup z_prs (o, 101)) zo_224).trans zp_LatinRectanglesLaw_101) ((congrArg (fun o => z_clk o 101) zo_224).trans zk_LatinRectanglesLaw_101) zh_224 zc_121 rfl rfl rfl
theorem zi_224_1684 : z_ins 224 1684 = some (.iload 5, 2) := by decide +kernel
theorem ze_224_1684 : z_T g d 224 1684 (v0 :: v1 :: v2 :: v3 :: v4 :: .int x :: ls) st h P = z_T g d 224 1686 (v0 :: v1 :: v2 :: v3 :: v4 :: .int x :: ls) (.int x :: st) h P := zt_iload zi_224_1684 rfl
theorem zi_224_1686 : z_ins 224 1686 = some (.if_icmp .eq 5, 3) := by decide +kernel
theorem ze_224_1686 : z_T g d 224 1686 ls (.int y :: .int x :: st) h P = (if x = y then z_T g d 224 1691 ls st h P else z_T g d 224 1689 ls st h P) := zt_icmpeq zi_224_1686 (by decide)
theorem zi_224_1689 : z_ins 224 1689 = some (.iconst 0, 1) := by decide +kernel
theorem ze_224_1689 : z_T g d 224 1689 ls st h P = z_T g d 224 1690 ls (.int (nI 0) :: st) h P := zt_iconst zi_224_1689 rfl
theorem zi_224_1690 : z_ins 224 1690 = some (.ireturn, 1) := by decide +kernel
theorem ze_224_1690 : z_T g d 224 1690 ls [.int x] h P = ((x = nI 0 ∨ x = nI 1) ∧ P (.inr (some (.int x)), h)) := zt_zreturn zi_224_1690 zr_224
theorem zi_224_1691 : z_ins 224 1691 = some (.iload 5, 2) := by decide +kernel
theorem ze_224_1691 : z_T g d 224 1691 (v0 :: v1 :: v2 :: v3 :: v4 :: .int x :: ls) st h P = z_T g d 224 1693 (v0 :: v1 :: v2 :: v3 :: v4 :: .int x :: ls) (.int x :: st) h P := zt_iload zi_224_1691 rfl
theorem zi_224_1693 : z_ins 224 1693 = some (.ifCond .ne 15, 3) := by decide +kernel
theorem ze_224_1693 : z_T g d 224 1693 ls (.int x :: st) h P = (if x = nI 0 then z_T g d 224 1696 ls st h P else z_T g d 224 1708 ls st h P) := zt_ifne zi_224_1693 (by decide)
theorem zi_224_1696 : z_ins 224 1696 = some (.aload_n 3, 1) := by decide +kernel
theorem ze_224_1696 : z_T g d 224 1696 (v0 :: v1 :: v2 :: .ref a :: ls) st h P = z_T g d 224 1697 (v0 :: v1 :: v2 :: .ref a :: ls) (.ref a :: st) h P := zt_aloadn zi_224_1696 rfl rfl
theorem zi_224_1697 : z_ins 224 1697 = some (.iconst 0, 1) := by decide +kernel
theorem ze_224_1697 : z_T g d 224 1697 ls st h P = z_T g d 224 1698 ls (.int (nI 0) :: st) h P := zt_iconst zi_224_1697 rfl
theorem zi_224_1698 : z_ins 224 1698 = some (.laload, 1) := by decide +kernel
theorem ze_224_1698 : z_T g d 224 1698 ls (.int x :: .ref a :: st) h P = z_lL h.1 a x (fun v => z_T g d 224 1699 ls (.long v :: st) h P) := zt_laload zi_224_1698
theorem zi_224_1699 : z_ins 224 1699 = some (.iload 6, 2) := by decide +kernel
theorem ze_224_1699 : z_T g d 224 1699 (v0 :: v1 :: v2 :: v3 :: v4 :: v5 :: .int x :: ls) st h P = z_T g d 224 1701 (v0 :: v1 :: v2 :: v3 :: v4 :: v5 :: .int x :: ls) (.int x :: st) h P := zt_iload zi_224_1699 rfl
theorem zi_224_1701 : z_ins 224 1701 = some (.i2l, 1) := by decide +kernel
theorem ze_224_1701 : z_T g d 224 1701 ls (.int x :: st) h P = z_T g d 224 1702 ls (.long x.toInt64 :: st) h P := zt_i2l zi_224_1701
theorem zi_224_1702 : z_ins 224 1702 = some (.lcmp, 1) := by decide +kernel
theorem ze_224_1702 : z_T g d 224 1702 ls (.long w :: .long u :: st) h P = z_T g d 224 1703 ls (.int (lg_cmp u w) :: st) h P := zt_lcmp zi_224_1702
theorem zi_224_1703 : z_ins 224 1703 = some (.ifCond .eq 5, 3) := by decide +kernel
theorem ze_224_1703 : z_T g d 224 1703 ls (.int x :: st) h P = (if x = nI 0 then z_T g d 224 1708 ls st h P else z_T g d 224 1706 ls st h P) := zt_ifeq zi_224_1703 (by decide)
theorem zi_224_1706 : z_ins 224 1706 = some (.iconst 0, 1) := by decide +kernel
theorem ze_224_1706 : z_T g d 224 1706 ls st h P = z_T g d 224 1707 ls (.int (nI 0) :: st) h P := zt_iconst zi_224_1706 rfl
theorem zi_224_1707 : z_ins 224 1707 = some (.ireturn, 1) := by decide +kernel
theorem ze_224_1707 : z_T g d 224 1707 ls [.int x] h P = ((x = nI 0 ∨ x = nI 1) ∧ P (.inr (some (.int x)), h)) := zt_zreturn zi_224_1707 zr_224
theorem zi_224_1708 : z_ins 224 1708 = some (.goto 135, 3) := by decide +kernel
theorem ze_224_1708 : z_T g d 224 1708 ls st h P = z_T g d 224 1843 ls st h P := zt_goto zi_224_1708 (by decide)
theorem zi_224_1711 : z_ins 224 1711 = some (.aload_n 1, 1) := by decide +kernel
theorem ze_224_1711 : z_T g d 224 1711 (v0 :: .ref a :: ls) st h P = z_T g d 224 1712 (v0 :: .ref a :: ls) (.ref a :: st) h P := zt_aloadn zi_224_1711 rfl rfl
theorem zi_224_1712 : z_ins 224 1712 = some (.invokevirtual 196, 3) := by decide +kernel
theorem ze_224_1712 : z_T g d 224 1712 ls (.ref a :: st) h P = ((z_okS 8 st = true ∧ z_gO h.1 a 9 ∧ 0 < d) ∧ z_Ca g (d - 1) 109 [.ref a] h (fun r => z_k r (fun v h' => z_T g d 224 1715 ls (z_push v st) h' P) P)) := zt_callV (as := []) zi_224_1712 ((congrArg (fun o => z_lookup z_prs (o, 196)) zo_224).trans zp_LatinRectanglesLaw_196) ((congrArg (fun o => z_clk o 196) zo_224).trans zk_LatinRectanglesLaw_196) zh_224 zc_109 rfl rfl rfl
theorem zi_224_1715 : z_ins 224 1715 = some (.aload_n 2, 1) := by decide +kernel
theorem ze_224_1715 : z_T g d 224 1715 (v0 :: v1 :: .ref a :: ls) st h P = z_T g d 224 1716 (v0 :: v1 :: .ref a :: ls) (.ref a :: st) h P := zt_aloadn zi_224_1715 rfl rfl
theorem zi_224_1716 : z_ins 224 1716 = some (.invokevirtual 199, 3) := by decide +kernel
theorem ze_224_1716 : z_T g d 224 1716 ls (.ref a :: st) h P = ((z_okS 8 st = true ∧ z_gO h.1 a 10 ∧ 0 < d) ∧ z_Ca g (d - 1) 198 [.ref a] h (fun r => z_k r (fun v h' => z_T g d 224 1719 ls (z_push v st) h' P) P)) := zt_callV (as := []) zi_224_1716 ((congrArg (fun o => z_lookup z_prs (o, 199)) zo_224).trans zp_LatinRectanglesLaw_199) ((congrArg (fun o => z_clk o 199) zo_224).trans zk_LatinRectanglesLaw_199) zh_224 zc_198 rfl rfl rfl
theorem zi_224_1719 : z_ins 224 1719 = some (.if_icmp .eq 124, 3) := by decide +kernel
theorem ze_224_1719 : z_T g d 224 1719 ls (.int y :: .int x :: st) h P = (if x = y then z_T g d 224 1843 ls st h P else z_T g d 224 1722 ls st h P) := zt_icmpeq zi_224_1719 (by decide)
theorem zi_224_1722 : z_ins 224 1722 = some (.iconst 0, 1) := by decide +kernel
theorem ze_224_1722 : z_T g d 224 1722 ls st h P = z_T g d 224 1723 ls (.int (nI 0) :: st) h P := zt_iconst zi_224_1722 rfl
theorem zi_224_1723 : z_ins 224 1723 = some (.ireturn, 1) := by decide +kernel
theorem ze_224_1723 : z_T g d 224 1723 ls [.int x] h P = ((x = nI 0 ∨ x = nI 1) ∧ P (.inr (some (.int x)), h)) := zt_zreturn zi_224_1723 zr_224
theorem zi_224_1724 : z_ins 224 1724 = some (.aload_n 1, 1) := by decide +kernel
theorem ze_224_1724 : z_T g d 224 1724 (v0 :: .ref a :: ls) st h P = z_T g d 224 1725 (v0 :: .ref a :: ls) (.ref a :: st) h P := zt_aloadn zi_224_1724 rfl rfl
theorem zi_224_1725 : z_ins 224 1725 = some (.aload_n 0, 1) := by decide +kernel
theorem ze_224_1725 : z_T g d 224 1725 (.retAddr b :: ls) st h P = z_T g d 224 1726 (.retAddr b :: ls) (.retAddr b :: st) h P := zt_aloadnS zi_224_1725 rfl rfl
theorem zi_224_1726 : z_ins 224 1726 = some (.iload 4, 2) := by decide +kernel
theorem ze_224_1726 : z_T g d 224 1726 (v0 :: v1 :: v2 :: v3 :: .int x :: ls) st h P = z_T g d 224 1728 (v0 :: v1 :: v2 :: v3 :: .int x :: ls) (.int x :: st) h P := zt_iload zi_224_1726 rfl
theorem zi_224_1728 : z_ins 224 1728 = some (.iconst 1, 1) := by decide +kernel
theorem ze_224_1728 : z_T g d 224 1728 ls st h P = z_T g d 224 1729 ls (.int (nI 1) :: st) h P := zt_iconst zi_224_1728 rfl
theorem zi_224_1729 : z_ins 224 1729 = some (.iadd, 1) := by decide +kernel
theorem ze_224_1729 : z_T g d 224 1729 ls (.int y :: .int x :: st) h P = z_T g d 224 1730 ls (.int (x + y) :: st) h P := zt_bin (f := fun x y => x + y) zi_224_1729 rfl (fun _ _ _ => rfl)
theorem zi_224_1730 : z_ins 224 1730 = some (.iaload, 1) := by decide +kernel
theorem ze_224_1730 (hx : z_idx x g.1 = true) : z_T g d 224 1730 ls (.int x :: .retAddr 99 :: st) h P = z_T g d 224 1731 ls (.int (g.2 x.toNatClampNeg) :: st) h P := zt_script zi_224_1730 hx
theorem zi_224_1731 : z_ins 224 1731 = some (.aload_n 3, 1) := by decide +kernel
theorem ze_224_1731 : z_T g d 224 1731 (v0 :: v1 :: v2 :: .ref a :: ls) st h P = z_T g d 224 1732 (v0 :: v1 :: v2 :: .ref a :: ls) (.ref a :: st) h P := zt_aloadn zi_224_1731 rfl rfl
theorem zi_224_1732 : z_ins 224 1732 = some (.invokestatic 200, 3) := by decide +kernel
theorem ze_224_1732 : z_T g d 224 1732 ls (.ref a2 :: .int x1 :: .ref a0 :: st) h P = ((z_okS 8 st = true ∧ 0 < d) ∧ z_Ca g (d - 1) 222 [.ref a0, .int x1, .ref a2] h (fun r => z_k r (fun v h' => z_T g d 224 1735 ls (z_push v st) h' P) P)) := zt_callS0 (as := [.ref a0, .int x1, .ref a2]) zi_224_1732 ((congrArg (fun o => z_lookup z_prs (o, 200)) zo_224).trans zp_LatinRectanglesLaw_200) ((congrArg (fun o => z_clk o 200) zo_224).trans zk_LatinRectanglesLaw_200) zh_224 rfl rfl rfl
theorem zi_224_1735 : z_ins 224 1735 = some (.istore 5, 2) := by decide +kernel
theorem ze_224_1735 : z_T g d 224 1735 (v0 :: v1 :: v2 :: v3 :: v4 :: v5 :: ls) (.int x :: st) h P = z_T g d 224 1737 (v0 :: v1 :: v2 :: v3 :: v4 :: .int x :: ls) st h P := zt_istore zi_224_1735 (Nat.le_add_left 6 _)
theorem zi_224_1737 : z_ins 224 1737 = some (.aload_n 2, 1) := by decide +kernel
theorem ze_224_1737 : z_T g d 224 1737 (v0 :: v1 :: .ref a :: ls) st h P = z_T g d 224 1738 (v0 :: v1 :: .ref a :: ls) (.ref a :: st) h P := zt_aloadn zi_224_1737 rfl rfl
theorem zi_224_1738 : z_ins 224 1738 = some (.aload_n 0, 1) := by decide +kernel
theorem ze_224_1738 : z_T g d 224 1738 (.retAddr b :: ls) st h P = z_T g d 224 1739 (.retAddr b :: ls) (.retAddr b :: st) h P := zt_aloadnS zi_224_1738 rfl rfl
theorem zi_224_1739 : z_ins 224 1739 = some (.iload 4, 2) := by decide +kernel
theorem ze_224_1739 : z_T g d 224 1739 (v0 :: v1 :: v2 :: v3 :: .int x :: ls) st h P = z_T g d 224 1741 (v0 :: v1 :: v2 :: v3 :: .int x :: ls) (.int x :: st) h P := zt_iload zi_224_1739 rfl
theorem zi_224_1741 : z_ins 224 1741 = some (.iconst 1, 1) := by decide +kernel
theorem ze_224_1741 : z_T g d 224 1741 ls st h P = z_T g d 224 1742 ls (.int (nI 1) :: st) h P := zt_iconst zi_224_1741 rfl
theorem zi_224_1742 : z_ins 224 1742 = some (.iadd, 1) := by decide +kernel
theorem ze_224_1742 : z_T g d 224 1742 ls (.int y :: .int x :: st) h P = z_T g d 224 1743 ls (.int (x + y) :: st) h P := zt_bin (f := fun x y => x + y) zi_224_1742 rfl (fun _ _ _ => rfl)
theorem zi_224_1743 : z_ins 224 1743 = some (.iaload, 1) := by decide +kernel
theorem ze_224_1743 (hx : z_idx x g.1 = true) : z_T g d 224 1743 ls (.int x :: .retAddr 99 :: st) h P = z_T g d 224 1744 ls (.int (g.2 x.toNatClampNeg) :: st) h P := zt_script zi_224_1743 hx
theorem zi_224_1744 : z_ins 224 1744 = some (.invokevirtual 202, 3) := by decide +kernel
theorem ze_224_1744 : z_T g d 224 1744 ls (.int x0 :: .ref a :: st) h P = ((z_okS 8 st = true ∧ z_gO h.1 a 10 ∧ 0 < d) ∧ z_Ca g (d - 1) 199 [.ref a, .int x0] h (fun r => z_k r (fun v h' => z_T g d 224 1747 ls (z_push v st) h' P) P)) := zt_callV (as := [.int x0]) zi_224_1744 ((congrArg (fun o => z_lookup z_prs (o, 202)) zo_224).trans zp_LatinRectanglesLaw_202) ((congrArg (fun o => z_clk o 202) zo_224).trans zk_LatinRectanglesLaw_202) zh_224 zc_199 rfl rfl rfl
theorem zi_224_1747 : z_ins 224 1747 = some (.istore 6, 2) := by decide +kernel
theorem ze_224_1747 : z_T g d 224 1747 (v0 :: v1 :: v2 :: v3 :: v4 :: v5 :: v6 :: ls) (.int x :: st) h P = z_T g d 224 1749 (v0 :: v1 :: v2 :: v3 :: v4 :: v5 :: .int x :: ls) st h P := zt_istore zi_224_1747 (Nat.le_add_left 7 _)
theorem zi_224_1749 : z_ins 224 1749 = some (.aload_n 2, 1) := by decide +kernel
theorem ze_224_1749 : z_T g d 224 1749 (v0 :: v1 :: .ref a :: ls) st h P = z_T g d 224 1750 (v0 :: v1 :: .ref a :: ls) (.ref a :: st) h P := zt_aloadn zi_224_1749 rfl rfl
theorem zi_224_1750 : z_ins 224 1750 = some (.invokevirtual 101, 3) := by decide +kernel
theorem ze_224_1750 : z_T g d 224 1750 ls (.ref a :: st) h P = ((z_okS 8 st = true ∧ z_gO h.1 a 10 ∧ 0 < d) ∧ z_Ca g (d - 1) 121 [.ref a] h (fun r => z_k r (fun v h' => z_T g d 224 1753 ls (z_push v st) h' P) P)) := zt_callV (as := []) zi_224_1750 ((congrArg (fun o => z_lookup z_prs (o, 101)) zo_224).trans zp_LatinRectanglesLaw_101) ((congrArg (fun o => z_clk o 101) zo_224).trans zk_LatinRectanglesLaw_101) zh_224 zc_121 rfl rfl rfl
theorem zi_224_1753 : z_ins 224 1753 = some (.iload 5, 2) := by decide +kernel
theorem ze_224_1753 : z_T g d 224 1753 (v0 :: v1 :: v2 :: v3 :: v4 :: .int x :: ls) st h P = z_T g d 224 1755 (v0 :: v1 :: v2 :: v3 :: v4 :: .int x :: ls) (.int x :: st) h P := zt_iload zi_224_1753 rfl
theorem zi_224_1755 : z_ins 224 1755 = some (.if_icmp .eq 5, 3) := by decide +kernel
theorem ze_224_1755 : z_T g d 224 1755 ls (.int y :: .int x :: st) h P = (if x = y then z_T g d 224 1760 ls st h P else z_T g d 224 1758 ls st h P) := zt_icmpeq zi_224_1755 (by decide)
theorem zi_224_1758 : z_ins 224 1758 = some (.iconst 0, 1) := by decide +kernel
theorem ze_224_1758 : z_T g d 224 1758 ls st h P = z_T g d 224 1759 ls (.int (nI 0) :: st) h P := zt_iconst zi_224_1758 rfl
theorem zi_224_1759 : z_ins 224 1759 = some (.ireturn, 1) := by decide +kernel
theorem ze_224_1759 : z_T g d 224 1759 ls [.int x] h P = ((x = nI 0 ∨ x = nI 1) ∧ P (.inr (some (.int x)), h)) := zt_zreturn zi_224_1759 zr_224
theorem zi_224_1760 : z_ins 224 1760 = some (.iload 5, 2) := by decide +kernel
theorem ze_224_1760 : z_T g d 224 1760 (v0 :: v1 :: v2 :: v3 :: v4 :: .int x :: ls) st h P = z_T g d 224 1762 (v0 :: v1 :: v2 :: v3 :: v4 :: .int x :: ls) (.int x :: st) h P := zt_iload zi_224_1760 rfl
theorem zi_224_1762 : z_ins 224 1762 = some (.ifCond .ne 22, 3) := by decide +kernel
theorem ze_224_1762 : z_T g d 224 1762 ls (.int x :: st) h P = (if x = nI 0 then z_T g d 224 1765 ls st h P else z_T g d 224 1784 ls st h P) := zt_ifne zi_224_1762 (by decide)
theorem zi_224_1765 : z_ins 224 1765 = some (.aload_n 3, 1) := by decide +kernel
theorem ze_224_1765 : z_T g d 224 1765 (v0 :: v1 :: v2 :: .ref a :: ls) st h P = z_T g d 224 1766 (v0 :: v1 :: v2 :: .ref a :: ls) (.ref a :: st) h P := zt_aloadn zi_224_1765 rfl rfl
theorem zi_224_1766 : z_ins 224 1766 = some (.iconst 0, 1) := by decide +kernel
theorem ze_224_1766 : z_T g d 224 1766 ls st h P = z_T g d 224 1767 ls (.int (nI 0) :: st) h P := zt_iconst zi_224_1766 rfl
theorem zi_224_1767 : z_ins 224 1767 = some (.laload, 1) := by decide +kernel
theorem ze_224_1767 : z_T g d 224 1767 ls (.int x :: .ref a :: st) h P = z_lL h.1 a x (fun v => z_T g d 224 1768 ls (.long v :: st) h P) := zt_laload zi_224_1767
theorem zi_224_1768 : z_ins 224 1768 = some (.iload 6, 2) := by decide +kernel
theorem ze_224_1768 : z_T g d 224 1768 (v0 :: v1 :: v2 :: v3 :: v4 :: v5 :: .int x :: ls) st h P = z_T g d 224 1770 (v0 :: v1 :: v2 :: v3 :: v4 :: v5 :: .int x :: ls) (.int x :: st) h P := zt_iload zi_224_1768 rfl
theorem zi_224_1770 : z_ins 224 1770 = some (.ifCond .eq 7, 3) := by decide +kernel
theorem ze_224_1770 : z_T g d 224 1770 ls (.int x :: st) h P = (if x = nI 0 then z_T g d 224 1777 ls st h P else z_T g d 224 1773 ls st h P) := zt_ifeq zi_224_1770 (by decide)
theorem zi_224_1773 : z_ins 224 1773 = some (.lconst 1, 1) := by decide +kernel
theorem ze_224_1773 : z_T g d 224 1773 ls st h P = z_T g d 224 1774 ls (.long 1 :: st) h P := zt_lconst zi_224_1773 rfl
theorem zi_224_1774 : z_ins 224 1774 = some (.goto 4, 3) := by decide +kernel
theorem ze_224_1774 : z_T g d 224 1774 ls st h P = z_T g d 224 1778 ls st h P := zt_goto zi_224_1774 (by decide)
theorem zi_224_1777 : z_ins 224 1777 = some (.lconst 0, 1) := by decide +kernel
theorem ze_224_1777 : z_T g d 224 1777 ls st h P = z_T g d 224 1778 ls (.long 0 :: st) h P := zt_lconst zi_224_1777 rfl
theorem zi_224_1778 : z_ins 224 1778 = some (.lcmp, 1) := by decide +kernel
theorem ze_224_1778 : z_T g d 224 1778 ls (.long w :: .long u :: st) h P = z_T g d 224 1779 ls (.int (lg_cmp u w) :: st) h P := zt_lcmp zi_224_1778
theorem zi_224_1779 : z_ins 224 1779 = some (.ifCond .eq 5, 3) := by decide +kernel
theorem ze_224_1779 : z_T g d 224 1779 ls (.int x :: st) h P = (if x = nI 0 then z_T g d 224 1784 ls st h P else z_T g d 224 1782 ls st h P) := zt_ifeq zi_224_1779 (by decide)
theorem zi_224_1782 : z_ins 224 1782 = some (.iconst 0, 1) := by decide +kernel
theorem ze_224_1782 : z_T g d 224 1782 ls st h P = z_T g d 224 1783 ls (.int (nI 0) :: st) h P := zt_iconst zi_224_1782 rfl
theorem zi_224_1783 : z_ins 224 1783 = some (.ireturn, 1) := by decide +kernel
theorem ze_224_1783 : z_T g d 224 1783 ls [.int x] h P = ((x = nI 0 ∨ x = nI 1) ∧ P (.inr (some (.int x)), h)) := zt_zreturn zi_224_1783 zr_224
theorem zi_224_1784 : z_ins 224 1784 = some (.goto 59, 3) := by decide +kernel
theorem ze_224_1784 : z_T g d 224 1784 ls st h P = z_T g d 224 1843 ls st h P := zt_goto zi_224_1784 (by decide)
theorem zi_224_1787 : z_ins 224 1787 = some (.aload_n 1, 1) := by decide +kernel
theorem ze_224_1787 : z_T g d 224 1787 (v0 :: .ref a :: ls) st h P = z_T g d 224 1788 (v0 :: .ref a :: ls) (.ref a :: st) h P := zt_aloadn zi_224_1787 rfl rfl
theorem zi_224_1788 : z_ins 224 1788 = some (.aload_n 0, 1) := by decide +kernel
theorem ze_224_1788 : z_T g d 224 1788 (.retAddr b :: ls) st h P = z_T g d 224 1789 (.retAddr b :: ls) (.retAddr b :: st) h P := zt_aloadnS zi_224_1788 rfl rfl
theorem zi_224_1789 : z_ins 224 1789 = some (.iload 4, 2) := by decide +kernel
theorem ze_224_1789 : z_T g d 224 1789 (v0 :: v1 :: v2 :: v3 :: .int x :: ls) st h P = z_T g d 224 1791 (v0 :: v1 :: v2 :: v3 :: .int x :: ls) (.int x :: st) h P := zt_iload zi_224_1789 rfl
theorem zi_224_1791 : z_ins 224 1791 = some (.iconst 1, 1) := by decide +kernel
theorem ze_224_1791 : z_T g d 224 1791 ls st h P = z_T g d 224 1792 ls (.int (nI 1) :: st) h P := zt_iconst zi_224_1791 rfl
theorem zi_224_1792 : z_ins 224 1792 = some (.iadd, 1) := by decide +kernel
theorem ze_224_1792 : z_T g d 224 1792 ls (.int y :: .int x :: st) h P = z_T g d 224 1793 ls (.int (x + y) :: st) h P := zt_bin (f := fun x y => x + y) zi_224_1792 rfl (fun _ _ _ => rfl)
theorem zi_224_1793 : z_ins 224 1793 = some (.iaload, 1) := by decide +kernel
theorem ze_224_1793 (hx : z_idx x g.1 = true) : z_T g d 224 1793 ls (.int x :: .retAddr 99 :: st) h P = z_T g d 224 1794 ls (.int (g.2 x.toNatClampNeg) :: st) h P := zt_script zi_224_1793 hx
theorem zi_224_1794 : z_ins 224 1794 = some (.aload_n 3, 1) := by decide +kernel
theorem ze_224_1794 : z_T g d 224 1794 (v0 :: v1 :: v2 :: .ref a :: ls) st h P = z_T g d 224 1795 (v0 :: v1 :: v2 :: .ref a :: ls) (.ref a :: st) h P := zt_aloadn zi_224_1794 rfl rfl
theorem zi_224_1795 : z_ins 224 1795 = some (.invokestatic 203, 3) := by decide +kernel
theorem ze_224_1795 : z_T g d 224 1795 ls (.ref a2 :: .int x1 :: .ref a0 :: st) h P = ((z_okS 8 st = true ∧ 0 < d) ∧ z_Ca g (d - 1) 223 [.ref a0, .int x1, .ref a2] h (fun r => z_k r (fun v h' => z_T g d 224 1798 ls (z_push v st) h' P) P)) := zt_callS0 (as := [.ref a0, .int x1, .ref a2]) zi_224_1795 ((congrArg (fun o => z_lookup z_prs (o, 203)) zo_224).trans zp_LatinRectanglesLaw_203) ((congrArg (fun o => z_clk o 203) zo_224).trans zk_LatinRectanglesLaw_203) zh_224 rfl rfl rfl
theorem zi_224_1798 : z_ins 224 1798 = some (.istore 5, 2) := by decide +kernel
theorem ze_224_1798 : z_T g d 224 1798 (v0 :: v1 :: v2 :: v3 :: v4 :: v5 :: ls) (.int x :: st) h P = z_T g d 224 1800 (v0 :: v1 :: v2 :: v3 :: v4 :: .int x :: ls) st h P := zt_istore zi_224_1798 (Nat.le_add_left 6 _)
theorem zi_224_1800 : z_ins 224 1800 = some (.aload_n 2, 1) := by decide +kernel
theorem ze_224_1800 : z_T g d 224 1800 (v0 :: v1 :: .ref a :: ls) st h P = z_T g d 224 1801 (v0 :: v1 :: .ref a :: ls) (.ref a :: st) h P := zt_aloadn zi_224_1800 rfl rfl
theorem zi_224_1801 : z_ins 224 1801 = some (.aload_n 0, 1) := by decide +kernel
theorem ze_224_1801 : z_T g d 224 1801 (.retAddr b :: ls) st h P = z_T g d 224 1802 (.retAddr b :: ls) (.retAddr b :: st) h P := zt_aloadnS zi_224_1801 rfl rfl
theorem zi_224_1802 : z_ins 224 1802 = some (.iload 4, 2) := by decide +kernel
theorem ze_224_1802 : z_T g d 224 1802 (v0 :: v1 :: v2 :: v3 :: .int x :: ls) st h P = z_T g d 224 1804 (v0 :: v1 :: v2 :: v3 :: .int x :: ls) (.int x :: st) h P := zt_iload zi_224_1802 rfl
theorem zi_224_1804 : z_ins 224 1804 = some (.iconst 1, 1) := by decide +kernel
theorem ze_224_1804 : z_T g d 224 1804 ls st h P = z_T g d 224 1805 ls (.int (nI 1) :: st) h P := zt_iconst zi_224_1804 rfl
theorem zi_224_1805 : z_ins 224 1805 = some (.iadd, 1) := by decide +kernel
theorem ze_224_1805 : z_T g d 224 1805 ls (.int y :: .int x :: st) h P = z_T g d 224 1806 ls (.int (x + y) :: st) h P := zt_bin (f := fun x y => x + y) zi_224_1805 rfl (fun _ _ _ => rfl)
theorem zi_224_1806 : z_ins 224 1806 = some (.iaload, 1) := by decide +kernel
theorem ze_224_1806 (hx : z_idx x g.1 = true) : z_T g d 224 1806 ls (.int x :: .retAddr 99 :: st) h P = z_T g d 224 1807 ls (.int (g.2 x.toNatClampNeg) :: st) h P := zt_script zi_224_1806 hx
theorem zi_224_1807 : z_ins 224 1807 = some (.invokevirtual 205, 3) := by decide +kernel
theorem ze_224_1807 : z_T g d 224 1807 ls (.int x0 :: .ref a :: st) h P = ((z_okS 8 st = true ∧ z_gO h.1 a 10 ∧ 0 < d) ∧ z_Ca g (d - 1) 200 [.ref a, .int x0] h (fun r => z_k r (fun v h' => z_T g d 224 1810 ls (z_push v st) h' P) P)) := zt_callV (as := [.int x0]) zi_224_1807 ((congrArg (fun o => z_lookup z_prs (o, 205)) zo_224).trans zp_LatinRectanglesLaw_205) ((congrArg (fun o => z_clk o 205) zo_224).trans zk_LatinRectanglesLaw_205) zh_224 zc_200 rfl rfl rfl
theorem zi_224_1810 : z_ins 224 1810 = some (.istore 6, 2) := by decide +kernel
theorem ze_224_1810 : z_T g d 224 1810 (v0 :: v1 :: v2 :: v3 :: v4 :: v5 :: v6 :: ls) (.int x :: st) h P = z_T g d 224 1812 (v0 :: v1 :: v2 :: v3 :: v4 :: v5 :: .int x :: ls) st h P := zt_istore zi_224_1810 (Nat.le_add_left 7 _)
theorem zi_224_1812 : z_ins 224 1812 = some (.aload_n 2, 1) := by decide +kernel
theorem ze_224_1812 : z_T g d 224 1812 (v0 :: v1 :: .ref a :: ls) st h P = z_T g d 224 1813 (v0 :: v1 :: .ref a :: ls) (.ref a :: st) h P := zt_aloadn zi_224_1812 rfl rfl
theorem zi_224_1813 : z_ins 224 1813 = some (.invokevirtual 101, 3) := by decide +kernel
theorem ze_224_1813 : z_T g d 224 1813 ls (.ref a :: st) h P = ((z_okS 8 st = true ∧ z_gO h.1 a 10 ∧ 0 < d) ∧ z_Ca g (d - 1) 121 [.ref a] h (fun r => z_k r (fun v h' => z_T g d 224 1816 ls (z_push v st) h' P) P)) := zt_callV (as := []) zi_224_1813 ((congrArg (fun o => z_lookup z_prs (o, 101)) zo_224).trans zp_LatinRectanglesLaw_101) ((congrArg (fun o => z_clk o 101) zo_224).trans zk_LatinRectanglesLaw_101) zh_224 zc_121 rfl rfl rfl
theorem zi_224_1816 : z_ins 224 1816 = some (.iload 5, 2) := by decide +kernel
theorem ze_224_1816 : z_T g d 224 1816 (v0 :: v1 :: v2 :: v3 :: v4 :: .int x :: ls) st h P = z_T g d 224 1818 (v0 :: v1 :: v2 :: v3 :: v4 :: .int x :: ls) (.int x :: st) h P := zt_iload zi_224_1816 rfl
theorem zi_224_1818 : z_ins 224 1818 = some (.if_icmp .eq 5, 3) := by decide +kernel
theorem ze_224_1818 : z_T g d 224 1818 ls (.int y :: .int x :: st) h P = (if x = y then z_T g d 224 1823 ls st h P else z_T g d 224 1821 ls st h P) := zt_icmpeq zi_224_1818 (by decide)
theorem zi_224_1821 : z_ins 224 1821 = some (.iconst 0, 1) := by decide +kernel
theorem ze_224_1821 : z_T g d 224 1821 ls st h P = z_T g d 224 1822 ls (.int (nI 0) :: st) h P := zt_iconst zi_224_1821 rfl
theorem zi_224_1822 : z_ins 224 1822 = some (.ireturn, 1) := by decide +kernel
theorem ze_224_1822 : z_T g d 224 1822 ls [.int x] h P = ((x = nI 0 ∨ x = nI 1) ∧ P (.inr (some (.int x)), h)) := zt_zreturn zi_224_1822 zr_224
theorem zi_224_1823 : z_ins 224 1823 = some (.iload 5, 2) := by decide +kernel
theorem ze_224_1823 : z_T g d 224 1823 (v0 :: v1 :: v2 :: v3 :: v4 :: .int x :: ls) st h P = z_T g d 224 1825 (v0 :: v1 :: v2 :: v3 :: v4 :: .int x :: ls) (.int x :: st) h P := zt_iload zi_224_1823 rfl
theorem zi_224_1825 : z_ins 224 1825 = some (.ifCond .ne 15, 3) := by decide +kernel
theorem ze_224_1825 : z_T g d 224 1825 ls (.int x :: st) h P = (if x = nI 0 then z_T g d 224 1828 ls st h P else z_T g d 224 1840 ls st h P) := zt_ifne zi_224_1825 (by decide)
theorem zi_224_1828 : z_ins 224 1828 = some (.aload_n 3, 1) := by decide +kernel
theorem ze_224_1828 : z_T g d 224 1828 (v0 :: v1 :: v2 :: .ref a :: ls) st h P = z_T g d 224 1829 (v0 :: v1 :: v2 :: .ref a :: ls) (.ref a :: st) h P := zt_aloadn zi_224_1828 rfl rfl
theorem zi_224_1829 : z_ins 224 1829 = some (.iconst 0, 1) := by decide +kernel
theorem ze_224_1829 : z_T g d 224 1829 ls st h P = z_T g d 224 1830 ls (.int (nI 0) :: st) h P := zt_iconst zi_224_1829 rfl
theorem zi_224_1830 : z_ins 224 1830 = some (.laload, 1) := by decide +kernel
theorem ze_224_1830 : z_T g d 224 1830 ls (.int x :: .ref a :: st) h P = z_lL h.1 a x (fun v => z_T g d 224 1831 ls (.long v :: st) h P) := zt_laload zi_224_1830
theorem zi_224_1831 : z_ins 224 1831 = some (.iload 6, 2) := by decide +kernel
theorem ze_224_1831 : z_T g d 224 1831 (v0 :: v1 :: v2 :: v3 :: v4 :: v5 :: .int x :: ls) st h P = z_T g d 224 1833 (v0 :: v1 :: v2 :: v3 :: v4 :: v5 :: .int x :: ls) (.int x :: st) h P := zt_iload zi_224_1831 rfl
theorem zi_224_1833 : z_ins 224 1833 = some (.i2l, 1) := by decide +kernel
theorem ze_224_1833 : z_T g d 224 1833 ls (.int x :: st) h P = z_T g d 224 1834 ls (.long x.toInt64 :: st) h P := zt_i2l zi_224_1833
theorem zi_224_1834 : z_ins 224 1834 = some (.lcmp, 1) := by decide +kernel
theorem ze_224_1834 : z_T g d 224 1834 ls (.long w :: .long u :: st) h P = z_T g d 224 1835 ls (.int (lg_cmp u w) :: st) h P := zt_lcmp zi_224_1834
theorem zi_224_1835 : z_ins 224 1835 = some (.ifCond .eq 5, 3) := by decide +kernel
theorem ze_224_1835 : z_T g d 224 1835 ls (.int x :: st) h P = (if x = nI 0 then z_T g d 224 1840 ls st h P else z_T g d 224 1838 ls st h P) := zt_ifeq zi_224_1835 (by decide)
theorem zi_224_1838 : z_ins 224 1838 = some (.iconst 0, 1) := by decide +kernel
theorem ze_224_1838 : z_T g d 224 1838 ls st h P = z_T g d 224 1839 ls (.int (nI 0) :: st) h P := zt_iconst zi_224_1838 rfl
theorem zi_224_1839 : z_ins 224 1839 = some (.ireturn, 1) := by decide +kernel
theorem ze_224_1839 : z_T g d 224 1839 ls [.int x] h P = ((x = nI 0 ∨ x = nI 1) ∧ P (.inr (some (.int x)), h)) := zt_zreturn zi_224_1839 zr_224
theorem zi_224_1840 : z_ins 224 1840 = some (.goto 3, 3) := by decide +kernel
theorem ze_224_1840 : z_T g d 224 1840 ls st h P = z_T g d 224 1843 ls st h P := zt_goto zi_224_1840 (by decide)
theorem zi_224_1843 : z_ins 224 1843 = some (.iinc 4 6, 3) := by decide +kernel
theorem ze_224_1843 : z_T g d 224 1843 (v0 :: v1 :: v2 :: v3 :: .int x :: ls) st h P = z_T g d 224 1846 (v0 :: v1 :: v2 :: v3 :: .int (x + (nI 6)) :: ls) st h P := zt_iinc zi_224_1843 rfl rfl
theorem zi_224_1846 : z_ins 224 1846 = some (.goto (-1823), 3) := by decide +kernel
theorem ze_224_1846 : z_T g d 224 1846 ls st h P = z_T g d 224 23 ls st h P := zt_goto zi_224_1846 (by decide)
theorem zi_224_1849 : z_ins 224 1849 = some (.iconst 1, 1) := by decide +kernel
theorem ze_224_1849 : z_T g d 224 1849 ls st h P = z_T g d 224 1850 ls (.int (nI 1) :: st) h P := zt_iconst zi_224_1849 rfl
theorem zi_224_1850 : z_ins 224 1850 = some (.ireturn, 1) := by decide +kernel
theorem ze_224_1850 : z_T g d 224 1850 ls [.int x] h P = ((x = nI 0 ∨ x = nI 1) ∧ P (.inr (some (.int x)), h)) := zt_zreturn zi_224_1850 zr_224
end
