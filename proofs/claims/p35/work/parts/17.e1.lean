section
variable {g : z_G} {d : Nat} {h : z_H} {P : z_Res → Prop} {ls st : List Value} {v0 v1 v2 v3 v4 v5 v6 v7 v8 v9 v10 v11 vw : Value} {x y x0 x1 x2 x3 x4 x5 x6 : Int32} {a b a0 a1 a2 a3 a4 a5 k0 k1 k2 : Nat}
-- java/lang/AbstractStringBuilder.<init>(I)V
theorem zm_107 : z_maxL 107 = 2 := by decide +kernel
theorem zh_107 : z_hds 107 = [] := by decide +kernel
theorem zj_107 : z_jdk 107 = true := by decide +kernel
theorem zr_107 : z_rt 107 = none := by decide +kernel
theorem zn_107 : z_Ca g d 107 [.ref a0, .int x1] h P = z_T g d 107 0 [.ref a0, .int x1] [] h P := z_Ca_ent zm_107 rfl rfl
theorem zi_107_0 : z_ins 107 0 = some (.aload_n 0, 1) := by decide +kernel
theorem ze_107_0 : z_T g d 107 0 (.ref a :: ls) st h P = z_T g d 107 1 (.ref a :: ls) (.ref a :: st) h P := zt_aloadn zi_107_0 rfl rfl
theorem zi_107_1 : z_ins 107 1 = some (.invokespecial 3, 3) := by decide +kernel
theorem ze_107_1 : z_T g d 107 1 ls (.ref a :: st) h P = (z_okS 8 st = true ∧ z_T g d 107 4 ls st h P) := zt_objInit zi_107_1 ((congrArg (fun o => z_lookup z_ois (o, 3)) zo_107).trans zq_ois_java_lang_AbstractStringBuilder_3)
theorem zi_107_4 : z_ins 107 4 = some (.getstatic 18, 3) := by decide +kernel
theorem ze_107_4 : z_T g d 107 4 ls st h P = z_T g d 107 7 ls (.int (nI 1) :: st) h P := zt_static zi_107_4 ((congrArg (fun o => z_lookup z_gss (o, 18)) zo_107).trans zq_gss_java_lang_AbstractStringBuilder_18) rfl
theorem zi_107_7 : z_ins 107 7 = some (.ifCond .eq 18, 3) := by decide +kernel
theorem ze_107_7 : z_T g d 107 7 ls (.int x :: st) h P = (if x = nI 0 then z_T g d 107 25 ls st h P else z_T g d 107 10 ls st h P) := zt_ifeq zi_107_7 (by decide)
theorem zi_107_10 : z_ins 107 10 = some (.aload_n 0, 1) := by decide +kernel
theorem ze_107_10 : z_T g d 107 10 (.ref a :: ls) st h P = z_T g d 107 11 (.ref a :: ls) (.ref a :: st) h P := zt_aloadn zi_107_10 rfl rfl
theorem zi_107_11 : z_ins 107 11 = some (.iload_n 1, 1) := by decide +kernel
theorem ze_107_11 : z_T g d 107 11 (v0 :: .int x :: ls) st h P = z_T g d 107 12 (v0 :: .int x :: ls) (.int x :: st) h P := zt_iloadn zi_107_11 rfl rfl
theorem zi_107_12 : z_ins 107 12 = some (.newarray .byte, 2) := by decide +kernel
theorem ze_107_12 : z_T g d 107 12 ls (.int x :: st) h P = z_nA h .byte x (fun q h' => z_T g d 107 14 ls (.ref q :: st) h' P) := zt_newarray zi_107_12
theorem zi_107_14 : z_ins 107 14 = some (.putfield 15, 3) := by decide +kernel
theorem ze_107_14 : z_T g d 107 14 ls (.ref b :: .ref a :: st) h P = z_pF h.1 a 12 0 (.ref b) (fun f => z_T g d 107 17 ls st (f, h.2) P) := zt_put zi_107_14 ((congrArg (fun o => z_fl o 15) zo_107).trans zf_java_lang_AbstractStringBuilder_15) (by decide +kernel) rfl rfl
theorem zi_107_17 : z_ins 107 17 = some (.aload_n 0, 1) := by decide +kernel
theorem ze_107_17 : z_T g d 107 17 (.ref a :: ls) st h P = z_T g d 107 18 (.ref a :: ls) (.ref a :: st) h P := zt_aloadn zi_107_17 rfl rfl
theorem zi_107_18 : z_ins 107 18 = some (.iconst 0, 1) := by decide +kernel
theorem ze_107_18 : z_T g d 107 18 ls st h P = z_T g d 107 19 ls (.int (nI 0) :: st) h P := zt_iconst zi_107_18 rfl
theorem zi_107_19 : z_ins 107 19 = some (.putfield 22, 3) := by decide +kernel
theorem ze_107_19 : z_T g d 107 19 ls (.int (nI 0) :: .ref a :: st) h P = z_pF h.1 a 12 1 (.int (nI 0)) (fun f => z_T g d 107 22 ls st (f, h.2) P) := zt_put zi_107_19 ((congrArg (fun o => z_fl o 22) zo_107).trans zf_java_lang_AbstractStringBuilder_22) (by decide +kernel) rfl rfl
theorem zi_107_22 : z_ins 107 22 = some (.goto 16, 3) := by decide +kernel
theorem ze_107_22 : z_T g d 107 22 ls st h P = z_T g d 107 38 ls st h P := zt_goto zi_107_22 (by decide)
theorem zi_107_25 : z_ins 107 25 = some (.aload_n 0, 1) := by decide +kernel
theorem ze_107_25 : z_T g d 107 25 (.ref a :: ls) st h P = z_T g d 107 26 (.ref a :: ls) (.ref a :: st) h P := zt_aloadn zi_107_25 rfl rfl
theorem zi_107_26 : z_ins 107 26 = some (.iload_n 1, 1) := by decide +kernel
theorem ze_107_26 : z_T g d 107 26 (v0 :: .int x :: ls) st h P = z_T g d 107 27 (v0 :: .int x :: ls) (.int x :: st) h P := zt_iloadn zi_107_26 rfl rfl
theorem zi_107_27 : z_ins 107 27 = some (.invokestatic 26, 3) := by decide +kernel
theorem zi_107_30 : z_ins 107 30 = some (.putfield 15, 3) := by decide +kernel
theorem ze_107_30 : z_T g d 107 30 ls (.ref b :: .ref a :: st) h P = z_pF h.1 a 12 0 (.ref b) (fun f => z_T g d 107 33 ls st (f, h.2) P) := zt_put zi_107_30 ((congrArg (fun o => z_fl o 15) zo_107).trans zf_java_lang_AbstractStringBuilder_15) (by decide +kernel) rfl rfl
theorem zi_107_33 : z_ins 107 33 = some (.aload_n 0, 1) := by decide +kernel
theorem ze_107_33 : z_T g d 107 33 (.ref a :: ls) st h P = z_T g d 107 34 (.ref a :: ls) (.ref a :: st) h P := zt_aloadn zi_107_33 rfl rfl
theorem zi_107_34 : z_ins 107 34 = some (.iconst 1, 1) := by decide +kernel
theorem ze_107_34 : z_T g d 107 34 ls st h P = z_T g d 107 35 ls (.int (nI 1) :: st) h P := zt_iconst zi_107_34 rfl
theorem zi_107_35 : z_ins 107 35 = some (.putfield 22, 3) := by decide +kernel
theorem ze_107_35 : z_T g d 107 35 ls (.int (nI 0) :: .ref a :: st) h P = z_pF h.1 a 12 1 (.int (nI 0)) (fun f => z_T g d 107 38 ls st (f, h.2) P) := zt_put zi_107_35 ((congrArg (fun o => z_fl o 22) zo_107).trans zf_java_lang_AbstractStringBuilder_22) (by decide +kernel) rfl rfl
theorem zi_107_38 : z_ins 107 38 = some (.return_, 1) := by decide +kernel
theorem ze_107_38 : z_T g d 107 38 ls [] h P = P (.inr none, h) := zt_return zi_107_38 zr_107
-- java/lang/AbstractStringBuilder.length()I
theorem zm_108 : z_maxL 108 = 1 := by decide +kernel
theorem zh_108 : z_hds 108 = [] := by decide +kernel
theorem zj_108 : z_jdk 108 = true := by decide +kernel
theorem zr_108 : z_rt 108 = (some .int) := by decide +kernel
theorem zn_108 : z_Ca g d 108 [.ref a0] h P = z_T g d 108 0 [.ref a0] [] h P := z_Ca_ent zm_108 rfl rfl
theorem zi_108_0 : z_ins 108 0 = some (.aload_n 0, 1) := by decide +kernel
theorem ze_108_0 : z_T g d 108 0 (.ref a :: ls) st h P = z_T g d 108 1 (.ref a :: ls) (.ref a :: st) h P := zt_aloadn zi_108_0 rfl rfl
theorem zi_108_1 : z_ins 108 1 = some (.getfield 79, 3) := by decide +kernel
theorem ze_108_1 : z_T g d 108 1 ls (.ref a :: st) h P = z_gI h.1 a 12 3 (fun x => z_T g d 108 4 ls (.int x :: st) h P) := zt_getI zi_108_1 ((congrArg (fun o => z_fl o 79) zo_108).trans zf_java_lang_AbstractStringBuilder_79)
theorem zi_108_4 : z_ins 108 4 = some (.ireturn, 1) := by decide +kernel
theorem ze_108_4 : z_T g d 108 4 ls [.int x] h P = P (.inr (some (.int x)), h) := zt_ireturn zi_108_4 zr_108
-- java/lang/AbstractStringBuilder.ensureCapacityInternal(I)V
theorem zm_109 : z_maxL 109 = 3 := by decide +kernel
theorem zh_109 : z_hds 109 = [] := by decide +kernel
theorem zj_109 : z_jdk 109 = true := by decide +kernel
theorem zr_109 : z_rt 109 = none := by decide +kernel
theorem zn_109 : z_Ca g d 109 [.ref a0, .int x1] h P = z_T g d 109 0 [.ref a0, .int x1, z_un] [] h P := z_Ca_ent zm_109 rfl rfl
theorem zi_109_0 : z_ins 109 0 = some (.aload_n 0, 1) := by decide +kernel
theorem ze_109_0 : z_T g d 109 0 (.ref a :: ls) st h P = z_T g d 109 1 (.ref a :: ls) (.ref a :: st) h P := zt_aloadn zi_109_0 rfl rfl
theorem zi_109_1 : z_ins 109 1 = some (.getfield 15, 3) := by decide +kernel
theorem ze_109_1 : z_T g d 109 1 ls (.ref a :: st) h P = z_gR h.1 a 12 0 (fun x => z_T g d 109 4 ls (x :: st) h P) := zt_getR zi_109_1 ((congrArg (fun o => z_fl o 15) zo_109).trans zf_java_lang_AbstractStringBuilder_15)
theorem zi_109_4 : z_ins 109 4 = some (.arraylength, 1) := by decide +kernel
theorem ze_109_4 : z_T g d 109 4 ls (.ref a :: st) h P = z_aN h.1 a (fun n => z_T g d 109 5 ls (.int (nI n) :: st) h P) := zt_alen zi_109_4
theorem zi_109_5 : z_ins 109 5 = some (.aload_n 0, 1) := by decide +kernel
theorem ze_109_5 : z_T g d 109 5 (.ref a :: ls) st h P = z_T g d 109 6 (.ref a :: ls) (.ref a :: st) h P := zt_aloadn zi_109_5 rfl rfl
theorem zi_109_6 : z_ins 109 6 = some (.getfield 22, 3) := by decide +kernel
theorem ze_109_6 : z_T g d 109 6 ls (.ref a :: st) h P = z_gI h.1 a 12 1 (fun x => z_T g d 109 9 ls (.int x :: st) h P) := zt_getI zi_109_6 ((congrArg (fun o => z_fl o 22) zo_109).trans zf_java_lang_AbstractStringBuilder_22)
theorem zi_109_9 : z_ins 109 9 = some (.ishr, 1) := by decide +kernel
theorem ze_109_9 : z_T g d 109 9 ls (.int y :: .int x :: st) h P = z_T g d 109 10 ls (.int (x >>> (y &&& 31)) :: st) h P := zt_bin (f := fun x y => x >>> (y &&& 31)) zi_109_9 rfl (fun _ _ _ => rfl)
theorem zi_109_10 : z_ins 109 10 = some (.istore_n 2, 1) := by decide +kernel
theorem ze_109_10 : z_T g d 109 10 (v0 :: v1 :: v2 :: ls) (.int x :: st) h P = z_T g d 109 11 (v0 :: v1 :: .int x :: ls) st h P := zt_istoren zi_109_10 rfl (Nat.le_add_left 3 _)
theorem zi_109_11 : z_ins 109 11 = some (.iload_n 1, 1) := by decide +kernel
theorem ze_109_11 : z_T g d 109 11 (v0 :: .int x :: ls) st h P = z_T g d 109 12 (v0 :: .int x :: ls) (.int x :: st) h P := zt_iloadn zi_109_11 rfl rfl
theorem zi_109_12 : z_ins 109 12 = some (.iload_n 2, 1) := by decide +kernel
theorem ze_109_12 : z_T g d 109 12 (v0 :: v1 :: .int x :: ls) st h P = z_T g d 109 13 (v0 :: v1 :: .int x :: ls) (.int x :: st) h P := zt_iloadn zi_109_12 rfl rfl
theorem zi_109_13 : z_ins 109 13 = some (.isub, 1) := by decide +kernel
theorem ze_109_13 : z_T g d 109 13 ls (.int y :: .int x :: st) h P = z_T g d 109 14 ls (.int (x - y) :: st) h P := zt_bin (f := fun x y => x - y) zi_109_13 rfl (fun _ _ _ => rfl)
theorem zi_109_14 : z_ins 109 14 = some (.ifCond .le 24, 3) := by decide +kernel
theorem ze_109_14 : z_T g d 109 14 ls (.int x :: st) h P = (if nI 0 < x then z_T g d 109 17 ls st h P else z_T g d 109 38 ls st h P) := zt_ifle zi_109_14 (by decide)
theorem zi_109_17 : z_ins 109 17 = some (.aload_n 0, 1) := by decide +kernel
theorem ze_109_17 : z_T g d 109 17 (.ref a :: ls) st h P = z_T g d 109 18 (.ref a :: ls) (.ref a :: st) h P := zt_aloadn zi_109_17 rfl rfl
theorem zi_109_18 : z_ins 109 18 = some (.aload_n 0, 1) := by decide +kernel
theorem ze_109_18 : z_T g d 109 18 (.ref a :: ls) st h P = z_T g d 109 19 (.ref a :: ls) (.ref a :: st) h P := zt_aloadn zi_109_18 rfl rfl
theorem zi_109_19 : z_ins 109 19 = some (.getfield 15, 3) := by decide +kernel
theorem ze_109_19 : z_T g d 109 19 ls (.ref a :: st) h P = z_gR h.1 a 12 0 (fun x => z_T g d 109 22 ls (x :: st) h P) := zt_getR zi_109_19 ((congrArg (fun o => z_fl o 15) zo_109).trans zf_java_lang_AbstractStringBuilder_15)
theorem zi_109_22 : z_ins 109 22 = some (.aload_n 0, 1) := by decide +kernel
theorem ze_109_22 : z_T g d 109 22 (.ref a :: ls) st h P = z_T g d 109 23 (.ref a :: ls) (.ref a :: st) h P := zt_aloadn zi_109_22 rfl rfl
theorem zi_109_23 : z_ins 109 23 = some (.iload_n 1, 1) := by decide +kernel
theorem ze_109_23 : z_T g d 109 23 (v0 :: .int x :: ls) st h P = z_T g d 109 24 (v0 :: .int x :: ls) (.int x :: st) h P := zt_iloadn zi_109_23 rfl rfl
theorem zi_109_24 : z_ins 109 24 = some (.invokevirtual 104, 3) := by decide +kernel
theorem ze_109_24 : z_T g d 109 24 ls (.int x0 :: .ref a :: st) h P = ((z_okS 8 st = true ∧ z_gO h.1 a 12 ∧ 0 < d) ∧ z_Ca g (d - 1) 110 [.ref a, .int x0] h (fun r => z_kJ r (fun v h' => z_T g d 109 27 ls (z_push v st) h' P))) := zt_cV (as := [.int x0]) (kk := 0) zi_109_24 rfl (zt_callJ zj_109) (z_opV ((congrArg (fun o => z_lookup z_cns (o, 104)) zo_109).trans zq_cns_java_lang_AbstractStringBuilder_104) ((congrArg (fun o => z_lookup z_prs (o, 104)) zo_109).trans zq_prs_java_lang_AbstractStringBuilder_104)) ((congrArg (fun o => z_clk o 104) zo_109).trans zk_java_lang_AbstractStringBuilder_104) rfl rfl rfl rfl (z_rcv4 (by decide))
theorem zi_109_27 : z_ins 109 27 = some (.aload_n 0, 1) := by decide +kernel
theorem ze_109_27 : z_T g d 109 27 (.ref a :: ls) st h P = z_T g d 109 28 (.ref a :: ls) (.ref a :: st) h P := zt_aloadn zi_109_27 rfl rfl
theorem zi_109_28 : z_ins 109 28 = some (.getfield 22, 3) := by decide +kernel
theorem ze_109_28 : z_T g d 109 28 ls (.ref a :: st) h P = z_gI h.1 a 12 1 (fun x => z_T g d 109 31 ls (.int x :: st) h P) := zt_getI zi_109_28 ((congrArg (fun o => z_fl o 22) zo_109).trans zf_java_lang_AbstractStringBuilder_22)
theorem zi_109_31 : z_ins 109 31 = some (.ishl, 1) := by decide +kernel
theorem ze_109_31 : z_T g d 109 31 ls (.int y :: .int x :: st) h P = z_T g d 109 32 ls (.int (x <<< (y &&& 31)) :: st) h P := zt_bin (f := fun x y => x <<< (y &&& 31)) zi_109_31 rfl (fun _ _ _ => rfl)
theorem zi_109_32 : z_ins 109 32 = some (.invokestatic 108, 3) := by decide +kernel
theorem ze_109_32 : z_T g d 109 32 ls (.int x1 :: .ref a0 :: st) h P = ((z_okS 8 st = true ∧ 0 < d) ∧ z_Ca g (d - 1) 137 [.ref a0, .int x1] h (fun r => z_kJ r (fun v h' => z_T g d 109 35 ls (z_push v st) h' P))) := zt_cS (as := [.ref a0, .int x1]) (kk := 1) zi_109_32 rfl (zt_callJ zj_109) (z_opT ((congrArg (fun o => z_lookup z_cps (o, 108)) zo_109).trans zq_cps_java_lang_AbstractStringBuilder_108) ((congrArg (fun o => z_lookup z_prs (o, 108)) zo_109).trans zq_prs_java_lang_AbstractStringBuilder_108)) ((congrArg (fun o => z_clk o 108) zo_109).trans zk_java_lang_AbstractStringBuilder_108) rfl rfl rfl rfl rfl
theorem zi_109_35 : z_ins 109 35 = some (.putfield 15, 3) := by decide +kernel
theorem ze_109_35 : z_T g d 109 35 ls (.ref b :: .ref a :: st) h P = z_pF h.1 a 12 0 (.ref b) (fun f => z_T g d 109 38 ls st (f, h.2) P) := zt_put zi_109_35 ((congrArg (fun o => z_fl o 15) zo_109).trans zf_java_lang_AbstractStringBuilder_15) (by decide +kernel) rfl rfl
theorem zi_109_38 : z_ins 109 38 = some (.return_, 1) := by decide +kernel
theorem ze_109_38 : z_T g d 109 38 ls [] h P = P (.inr none, h) := zt_return zi_109_38 zr_109
-- java/lang/AbstractStringBuilder.newCapacity(I)I
theorem zm_110 : z_maxL 110 = 6 := by decide +kernel
theorem zh_110 : z_hds 110 = [] := by decide +kernel
theorem zj_110 : z_jdk 110 = true := by decide +kernel
theorem zr_110 : z_rt 110 = (some .int) := by decide +kernel
theorem zn_110 : z_Ca g d 110 [.ref a0, .int x1] h P = z_T g d 110 0 [.ref a0, .int x1, z_un, z_un, z_un, z_un] [] h P := z_Ca_ent zm_110 rfl rfl
theorem zi_110_0 : z_ins 110 0 = some (.aload_n 0, 1) := by decide +kernel
theorem ze_110_0 : z_T g d 110 0 (.ref a :: ls) st h P = z_T g d 110 1 (.ref a :: ls) (.ref a :: st) h P := zt_aloadn zi_110_0 rfl rfl
theorem zi_110_1 : z_ins 110 1 = some (.getfield 15, 3) := by decide +kernel
theorem ze_110_1 : z_T g d 110 1 ls (.ref a :: st) h P = z_gR h.1 a 12 0 (fun x => z_T g d 110 4 ls (x :: st) h P) := zt_getR zi_110_1 ((congrArg (fun o => z_fl o 15) zo_110).trans zf_java_lang_AbstractStringBuilder_15)
theorem zi_110_4 : z_ins 110 4 = some (.arraylength, 1) := by decide +kernel
theorem ze_110_4 : z_T g d 110 4 ls (.ref a :: st) h P = z_aN h.1 a (fun n => z_T g d 110 5 ls (.int (nI n) :: st) h P) := zt_alen zi_110_4
theorem zi_110_5 : z_ins 110 5 = some (.istore_n 2, 1) := by decide +kernel
theorem ze_110_5 : z_T g d 110 5 (v0 :: v1 :: v2 :: ls) (.int x :: st) h P = z_T g d 110 6 (v0 :: v1 :: .int x :: ls) st h P := zt_istoren zi_110_5 rfl (Nat.le_add_left 3 _)
theorem zi_110_6 : z_ins 110 6 = some (.iload_n 1, 1) := by decide +kernel
theorem ze_110_6 : z_T g d 110 6 (v0 :: .int x :: ls) st h P = z_T g d 110 7 (v0 :: .int x :: ls) (.int x :: st) h P := zt_iloadn zi_110_6 rfl rfl
theorem zi_110_7 : z_ins 110 7 = some (.aload_n 0, 1) := by decide +kernel
theorem ze_110_7 : z_T g d 110 7 (.ref a :: ls) st h P = z_T g d 110 8 (.ref a :: ls) (.ref a :: st) h P := zt_aloadn zi_110_7 rfl rfl
theorem zi_110_8 : z_ins 110 8 = some (.getfield 22, 3) := by decide +kernel
theorem ze_110_8 : z_T g d 110 8 ls (.ref a :: st) h P = z_gI h.1 a 12 1 (fun x => z_T g d 110 11 ls (.int x :: st) h P) := zt_getI zi_110_8 ((congrArg (fun o => z_fl o 22) zo_110).trans zf_java_lang_AbstractStringBuilder_22)
theorem zi_110_11 : z_ins 110 11 = some (.ishl, 1) := by decide +kernel
theorem ze_110_11 : z_T g d 110 11 ls (.int y :: .int x :: st) h P = z_T g d 110 12 ls (.int (x <<< (y &&& 31)) :: st) h P := zt_bin (f := fun x y => x <<< (y &&& 31)) zi_110_11 rfl (fun _ _ _ => rfl)
theorem zi_110_12 : z_ins 110 12 = some (.istore_n 3, 1) := by decide +kernel
theorem ze_110_12 : z_T g d 110 12 (v0 :: v1 :: v2 :: v3 :: ls) (.int x :: st) h P = z_T g d 110 13 (v0 :: v1 :: v2 :: .int x :: ls) st h P := zt_istoren zi_110_12 rfl (Nat.le_add_left 4 _)
theorem zi_110_13 : z_ins 110 13 = some (.iload_n 3, 1) := by decide +kernel
theorem ze_110_13 : z_T g d 110 13 (v0 :: v1 :: v2 :: .int x :: ls) st h P = z_T g d 110 14 (v0 :: v1 :: v2 :: .int x :: ls) (.int x :: st) h P := zt_iloadn zi_110_13 rfl rfl
theorem zi_110_14 : z_ins 110 14 = some (.iload_n 2, 1) := by decide +kernel
theorem ze_110_14 : z_T g d 110 14 (v0 :: v1 :: .int x :: ls) st h P = z_T g d 110 15 (v0 :: v1 :: .int x :: ls) (.int x :: st) h P := zt_iloadn zi_110_14 rfl rfl
theorem zi_110_15 : z_ins 110 15 = some (.isub, 1) := by decide +kernel
theorem ze_110_15 : z_T g d 110 15 ls (.int y :: .int x :: st) h P = z_T g d 110 16 ls (.int (x - y) :: st) h P := zt_bin (f := fun x y => x - y) zi_110_15 rfl (fun _ _ _ => rfl)
theorem zi_110_16 : z_ins 110 16 = some (.istore 4, 2) := by decide +kernel
theorem ze_110_16 : z_T g d 110 16 (v0 :: v1 :: v2 :: v3 :: v4 :: ls) (.int x :: st) h P = z_T g d 110 18 (v0 :: v1 :: v2 :: v3 :: .int x :: ls) st h P := zt_istore zi_110_16 (Nat.le_add_left 5 _)
theorem zi_110_18 : z_ins 110 18 = some (.iload_n 2, 1) := by decide +kernel
theorem ze_110_18 : z_T g d 110 18 (v0 :: v1 :: .int x :: ls) st h P = z_T g d 110 19 (v0 :: v1 :: .int x :: ls) (.int x :: st) h P := zt_iloadn zi_110_18 rfl rfl
theorem zi_110_19 : z_ins 110 19 = some (.iload 4, 2) := by decide +kernel
theorem ze_110_19 : z_T g d 110 19 (v0 :: v1 :: v2 :: v3 :: .int x :: ls) st h P = z_T g d 110 21 (v0 :: v1 :: v2 :: v3 :: .int x :: ls) (.int x :: st) h P := zt_iload zi_110_19 rfl
theorem zi_110_21 : z_ins 110 21 = some (.iload_n 2, 1) := by decide +kernel
theorem ze_110_21 : z_T g d 110 21 (v0 :: v1 :: .int x :: ls) st h P = z_T g d 110 22 (v0 :: v1 :: .int x :: ls) (.int x :: st) h P := zt_iloadn zi_110_21 rfl rfl
theorem zi_110_22 : z_ins 110 22 = some (.iconst 2, 1) := by decide +kernel
theorem ze_110_22 : z_T g d 110 22 ls st h P = z_T g d 110 23 ls (.int (nI 2) :: st) h P := zt_iconst zi_110_22 rfl
theorem zi_110_23 : z_ins 110 23 = some (.aload_n 0, 1) := by decide +kernel
theorem ze_110_23 : z_T g d 110 23 (.ref a :: ls) st h P = z_T g d 110 24 (.ref a :: ls) (.ref a :: st) h P := zt_aloadn zi_110_23 rfl rfl
theorem zi_110_24 : z_ins 110 24 = some (.getfield 22, 3) := by decide +kernel
theorem ze_110_24 : z_T g d 110 24 ls (.ref a :: st) h P = z_gI h.1 a 12 1 (fun x => z_T g d 110 27 ls (.int x :: st) h P) := zt_getI zi_110_24 ((congrArg (fun o => z_fl o 22) zo_110).trans zf_java_lang_AbstractStringBuilder_22)
theorem zi_110_27 : z_ins 110 27 = some (.ishl, 1) := by decide +kernel
theorem ze_110_27 : z_T g d 110 27 ls (.int y :: .int x :: st) h P = z_T g d 110 28 ls (.int (x <<< (y &&& 31)) :: st) h P := zt_bin (f := fun x y => x <<< (y &&& 31)) zi_110_27 rfl (fun _ _ _ => rfl)
theorem zi_110_28 : z_ins 110 28 = some (.iadd, 1) := by decide +kernel
theorem ze_110_28 : z_T g d 110 28 ls (.int y :: .int x :: st) h P = z_T g d 110 29 ls (.int (x + y) :: st) h P := zt_bin (f := fun x y => x + y) zi_110_28 rfl (fun _ _ _ => rfl)
theorem zi_110_29 : z_ins 110 29 = some (.invokestatic 114, 3) := by decide +kernel
theorem ze_110_29 : z_T g d 110 29 ls (.int x2 :: .int x1 :: .int x0 :: st) h P = ((z_okS 8 st = true ∧ 0 < d) ∧ z_Ca g (d - 1) 141 [.int x0, .int x1, .int x2] h (fun r => z_kJ r (fun v h' => z_T g d 110 32 ls (z_push v st) h' P))) := zt_cS (as := [.int x0, .int x1, .int x2]) (kk := 1) zi_110_29 rfl (zt_callJ zj_110) (z_opT ((congrArg (fun o => z_lookup z_cps (o, 114)) zo_110).trans zq_cps_java_lang_AbstractStringBuilder_114) ((congrArg (fun o => z_lookup z_prs (o, 114)) zo_110).trans zq_prs_java_lang_AbstractStringBuilder_114)) ((congrArg (fun o => z_clk o 114) zo_110).trans zk_java_lang_AbstractStringBuilder_114) rfl rfl rfl rfl rfl
theorem zi_110_32 : z_ins 110 32 = some (.istore 5, 2) := by decide +kernel
theorem ze_110_32 : z_T g d 110 32 (v0 :: v1 :: v2 :: v3 :: v4 :: v5 :: ls) (.int x :: st) h P = z_T g d 110 34 (v0 :: v1 :: v2 :: v3 :: v4 :: .int x :: ls) st h P := zt_istore zi_110_32 (Nat.le_add_left 6 _)
theorem zi_110_34 : z_ins 110 34 = some (.iload 5, 2) := by decide +kernel
theorem ze_110_34 : z_T g d 110 34 (v0 :: v1 :: v2 :: v3 :: v4 :: .int x :: ls) st h P = z_T g d 110 36 (v0 :: v1 :: v2 :: v3 :: v4 :: .int x :: ls) (.int x :: st) h P := zt_iload zi_110_34 rfl
theorem zi_110_36 : z_ins 110 36 = some (.ldc 39, 2) := by decide +kernel
theorem ze_110_36 : z_T g d 110 36 ls st h P = z_T g d 110 38 ls (.int 2147483647 :: st) h P := zt_ldcI zi_110_36 ((congrArg (fun o => z_lookup z_srs (o, 39)) zo_110).trans zq_srs_java_lang_AbstractStringBuilder_39) ((congrArg (fun o => z_lookup z_kss (o, 39)) zo_110).trans zq_kss_java_lang_AbstractStringBuilder_39)
theorem zi_110_38 : z_ins 110 38 = some (.if_icmp .ne 13, 3) := by decide +kernel
theorem ze_110_38 : z_T g d 110 38 ls (.int y :: .int x :: st) h P = (if x = y then z_T g d 110 41 ls st h P else z_T g d 110 51 ls st h P) := zt_icmpne zi_110_38 (by decide)
theorem zi_110_41 : z_ins 110 41 = some (.new 120, 3) := by decide +kernel
theorem zi_110_44 : z_ins 110 44 = some (.dup, 1) := by decide +kernel
theorem ze_110_44 : z_T g d 110 44 ls (.ref a :: st) h P = z_T g d 110 45 ls (.ref a :: .ref a :: st) h P := zt_dup rfl zi_110_44
theorem ze_110_44_i : z_T g d 110 44 ls (.int x :: st) h P = z_T g d 110 45 ls (.int x :: .int x :: st) h P := zt_dup rfl zi_110_44
theorem zi_110_45 : z_ins 110 45 = some (.ldc 122, 2) := by decide +kernel
theorem zi_110_47 : z_ins 110 47 = some (.invokespecial 124, 3) := by decide +kernel
theorem zi_110_50 : z_ins 110 50 = some (.athrow, 1) := by decide +kernel
theorem zi_110_51 : z_ins 110 51 = some (.iload 5, 2) := by decide +kernel
theorem ze_110_51 : z_T g d 110 51 (v0 :: v1 :: v2 :: v3 :: v4 :: .int x :: ls) st h P = z_T g d 110 53 (v0 :: v1 :: v2 :: v3 :: v4 :: .int x :: ls) (.int x :: st) h P := zt_iload zi_110_51 rfl
theorem zi_110_53 : z_ins 110 53 = some (.aload_n 0, 1) := by decide +kernel
theorem ze_110_53 : z_T g d 110 53 (.ref a :: ls) st h P = z_T g d 110 54 (.ref a :: ls) (.ref a :: st) h P := zt_aloadn zi_110_53 rfl rfl
theorem zi_110_54 : z_ins 110 54 = some (.getfield 22, 3) := by decide +kernel
theorem ze_110_54 : z_T g d 110 54 ls (.ref a :: st) h P = z_gI h.1 a 12 1 (fun x => z_T g d 110 57 ls (.int x :: st) h P) := zt_getI zi_110_54 ((congrArg (fun o => z_fl o 22) zo_110).trans zf_java_lang_AbstractStringBuilder_22)
theorem zi_110_57 : z_ins 110 57 = some (.ishr, 1) := by decide +kernel
theorem ze_110_57 : z_T g d 110 57 ls (.int y :: .int x :: st) h P = z_T g d 110 58 ls (.int (x >>> (y &&& 31)) :: st) h P := zt_bin (f := fun x y => x >>> (y &&& 31)) zi_110_57 rfl (fun _ _ _ => rfl)
theorem zi_110_58 : z_ins 110 58 = some (.ireturn, 1) := by decide +kernel
theorem ze_110_58 : z_T g d 110 58 ls [.int x] h P = P (.inr (some (.int x)), h) := zt_ireturn zi_110_58 zr_110
-- java/lang/AbstractStringBuilder.append(Ljava/lang/String;)Ljava/lang/AbstractStringBuilder;
theorem zm_111 : z_maxL 111 = 3 := by decide +kernel
theorem zh_111 : z_hds 111 = [] := by decide +kernel
theorem zj_111 : z_jdk 111 = true := by decide +kernel
theorem zr_111 : z_rt 111 = (some (.object "java/lang/AbstractStringBuilder")) := by decide +kernel
theorem zn_111 : z_Ca g d 111 [.ref a0, .ref a1] h P = z_T g d 111 0 [.ref a0, .ref a1, z_un] [] h P := z_Ca_ent zm_111 rfl rfl
theorem zn_111_l : z_Ca g d 111 [.ref a0, .retAddr k1] h P = z_T g d 111 0 [.ref a0, .retAddr k1, z_un] [] h P := z_Ca_ent zm_111 rfl rfl
theorem zi_111_0 : z_ins 111 0 = some (.aload_n 1, 1) := by decide +kernel
theorem ze_111_0 : z_T g d 111 0 (v0 :: .ref a :: ls) st h P = z_T g d 111 1 (v0 :: .ref a :: ls) (.ref a :: st) h P := zt_aloadn zi_111_0 rfl rfl
theorem ze_111_0_s : z_T g d 111 0 (v0 :: .retAddr b :: ls) st h P = z_T g d 111 1 (v0 :: .retAddr b :: ls) (.retAddr b :: st) h P := zt_aloadnS zi_111_0 rfl rfl
theorem zi_111_1 : z_ins 111 1 = some (.ifnonnull 8, 3) := by decide +kernel
theorem ze_111_1 : z_T g d 111 1 ls (.ref a :: st) h P = z_T g d 111 9 ls st h P := zt_nnulR zi_111_1 (by decide)
theorem ze_111_1_n : z_T g d 111 1 ls (.null :: st) h P = z_T g d 111 4 ls st h P := zt_nnulN zi_111_1
theorem ze_111_1_s : z_T g d 111 1 ls (.retAddr b :: st) h P = z_T g d 111 9 ls st h P := zt_nnulS zi_111_1 (by decide)
theorem zi_111_4 : z_ins 111 4 = some (.aload_n 0, 1) := by decide +kernel
theorem ze_111_4 : z_T g d 111 4 (.ref a :: ls) st h P = z_T g d 111 5 (.ref a :: ls) (.ref a :: st) h P := zt_aloadn zi_111_4 rfl rfl
theorem zi_111_5 : z_ins 111 5 = some (.invokevirtual 204, 3) := by decide +kernel
theorem zi_111_8 : z_ins 111 8 = some (.areturn, 1) := by decide +kernel
theorem ze_111_8 : z_T g d 111 8 ls [.ref a] h P = P (.inr (some (.ref a)), h) := zt_areturn rfl zi_111_8 zr_111 rfl
theorem zi_111_9 : z_ins 111 9 = some (.aload_n 1, 1) := by decide +kernel
theorem ze_111_9 : z_T g d 111 9 (v0 :: .ref a :: ls) st h P = z_T g d 111 10 (v0 :: .ref a :: ls) (.ref a :: st) h P := zt_aloadn zi_111_9 rfl rfl
theorem ze_111_9_s : z_T g d 111 9 (v0 :: .retAddr b :: ls) st h P = z_T g d 111 10 (v0 :: .retAddr b :: ls) (.retAddr b :: st) h P := zt_aloadnS zi_111_9 rfl rfl
theorem zi_111_10 : z_ins 111 10 = some (.invokevirtual 32, 3) := by decide +kernel
theorem ze_111_10 : z_T g d 111 10 ls (.ref a :: st) h P = ((z_okS 8 st = true ∧ z_gO h.1 a 11 ∧ 0 < d) ∧ z_Ca g (d - 1) 123 [.ref a] h (fun r => z_kJ r (fun v h' => z_T g d 111 13 ls (z_push v st) h' P))) := zt_cV (as := []) (kk := 0) zi_111_10 rfl (zt_callJ zj_111) (z_opV ((congrArg (fun o => z_lookup z_cns (o, 32)) zo_111).trans zq_cns_java_lang_AbstractStringBuilder_32) ((congrArg (fun o => z_lookup z_prs (o, 32)) zo_111).trans zq_prs_java_lang_AbstractStringBuilder_32)) ((congrArg (fun o => z_clk o 32) zo_111).trans zk_java_lang_AbstractStringBuilder_32) rfl rfl rfl rfl (z_rcv0 zc_123)
theorem ze_111_10_r (hb : b < 6) : z_T g d 111 10 ls (.retAddr b :: st) h P = ((z_okS 8 st = true ∧ 0 < d) ∧ z_Ca g (d - 1) 123 [.retAddr b] h (fun r => z_kJ r (fun v h' => z_T g d 111 13 ls (z_push v st) h' P))) := zt_cS (as := [.retAddr b]) (kk := 0) zi_111_10 rfl (zt_callJ zj_111) (z_opV ((congrArg (fun o => z_lookup z_cns (o, 32)) zo_111).trans zq_cns_java_lang_AbstractStringBuilder_32) ((congrArg (fun o => z_lookup z_prs (o, 32)) zo_111).trans zq_prs_java_lang_AbstractStringBuilder_32)) ((congrArg (fun o => z_clk o 32) zo_111).trans zk_java_lang_AbstractStringBuilder_32) rfl rfl rfl rfl (z_rcvL hb zo_123)
theorem zi_111_13 : z_ins 111 13 = some (.istore_n 2, 1) := by decide +kernel
theorem ze_111_13 : z_T g d 111 13 (v0 :: v1 :: v2 :: ls) (.int x :: st) h P = z_T g d 111 14 (v0 :: v1 :: .int x :: ls) st h P := zt_istoren zi_111_13 rfl (Nat.le_add_left 3 _)
theorem zi_111_14 : z_ins 111 14 = some (.aload_n 0, 1) := by decide +kernel
theorem ze_111_14 : z_T g d 111 14 (.ref a :: ls) st h P = z_T g d 111 15 (.ref a :: ls) (.ref a :: st) h P := zt_aloadn zi_111_14 rfl rfl
theorem zi_111_15 : z_ins 111 15 = some (.aload_n 0, 1) := by decide +kernel
theorem ze_111_15 : z_T g d 111 15 (.ref a :: ls) st h P = z_T g d 111 16 (.ref a :: ls) (.ref a :: st) h P := zt_aloadn zi_111_15 rfl rfl
theorem zi_111_16 : z_ins 111 16 = some (.getfield 79, 3) := by decide +kernel
theorem ze_111_16 : z_T g d 111 16 ls (.ref a :: st) h P = z_gI h.1 a 12 3 (fun x => z_T g d 111 19 ls (.int x :: st) h P) := zt_getI zi_111_16 ((congrArg (fun o => z_fl o 79) zo_111).trans zf_java_lang_AbstractStringBuilder_79)
theorem zi_111_19 : z_ins 111 19 = some (.iload_n 2, 1) := by decide +kernel
theorem ze_111_19 : z_T g d 111 19 (v0 :: v1 :: .int x :: ls) st h P = z_T g d 111 20 (v0 :: v1 :: .int x :: ls) (.int x :: st) h P := zt_iloadn zi_111_19 rfl rfl
theorem zi_111_20 : z_ins 111 20 = some (.iadd, 1) := by decide +kernel
theorem ze_111_20 : z_T g d 111 20 ls (.int y :: .int x :: st) h P = z_T g d 111 21 ls (.int (x + y) :: st) h P := zt_bin (f := fun x y => x + y) zi_111_20 rfl (fun _ _ _ => rfl)
theorem zi_111_21 : z_ins 111 21 = some (.invokevirtual 100, 3) := by decide +kernel
theorem ze_111_21 : z_T g d 111 21 ls (.int x0 :: .ref a :: st) h P = ((z_okS 8 st = true ∧ z_gO h.1 a 12 ∧ 0 < d) ∧ z_Ca g (d - 1) 109 [.ref a, .int x0] h (fun r => z_kJ r (fun v h' => z_T g d 111 24 ls (z_push v st) h' P))) := zt_cV (as := [.int x0]) (kk := 0) zi_111_21 rfl (zt_callJ zj_111) (z_opV ((congrArg (fun o => z_lookup z_cns (o, 100)) zo_111).trans zq_cns_java_lang_AbstractStringBuilder_100) ((congrArg (fun o => z_lookup z_prs (o, 100)) zo_111).trans zq_prs_java_lang_AbstractStringBuilder_100)) ((congrArg (fun o => z_clk o 100) zo_111).trans zk_java_lang_AbstractStringBuilder_100) rfl rfl rfl rfl (z_rcv4 (by decide))
theorem zi_111_24 : z_ins 111 24 = some (.aload_n 0, 1) := by decide +kernel
theorem ze_111_24 : z_T g d 111 24 (.ref a :: ls) st h P = z_T g d 111 25 (.ref a :: ls) (.ref a :: st) h P := zt_aloadn zi_111_24 rfl rfl
theorem zi_111_25 : z_ins 111 25 = some (.aload_n 0, 1) := by decide +kernel
theorem ze_111_25 : z_T g d 111 25 (.ref a :: ls) st h P = z_T g d 111 26 (.ref a :: ls) (.ref a :: st) h P := zt_aloadn zi_111_25 rfl rfl
theorem zi_111_26 : z_ins 111 26 = some (.getfield 79, 3) := by decide +kernel
theorem ze_111_26 : z_T g d 111 26 ls (.ref a :: st) h P = z_gI h.1 a 12 3 (fun x => z_T g d 111 29 ls (.int x :: st) h P) := zt_getI zi_111_26 ((congrArg (fun o => z_fl o 79) zo_111).trans zf_java_lang_AbstractStringBuilder_79)
theorem zi_111_29 : z_ins 111 29 = some (.aload_n 1, 1) := by decide +kernel
theorem ze_111_29 : z_T g d 111 29 (v0 :: .ref a :: ls) st h P = z_T g d 111 30 (v0 :: .ref a :: ls) (.ref a :: st) h P := zt_aloadn zi_111_29 rfl rfl
theorem ze_111_29_s : z_T g d 111 29 (v0 :: .retAddr b :: ls) st h P = z_T g d 111 30 (v0 :: .retAddr b :: ls) (.retAddr b :: st) h P := zt_aloadnS zi_111_29 rfl rfl
theorem zi_111_30 : z_ins 111 30 = some (.invokevirtual 208, 3) := by decide +kernel
theorem ze_111_30 : z_T g d 111 30 ls (.ref a1 :: .int x0 :: .ref a :: st) h P = ((z_okS 8 st = true ∧ z_gO h.1 a 12 ∧ 0 < d) ∧ z_Ca g (d - 1) 117 [.ref a, .int x0, .ref a1] h (fun r => z_kJ r (fun v h' => z_T g d 111 33 ls (z_push v st) h' P))) := zt_cV (as := [.int x0, .ref a1]) (kk := 0) zi_111_30 rfl (zt_callJ zj_111) (z_opV ((congrArg (fun o => z_lookup z_cns (o, 208)) zo_111).trans zq_cns_java_lang_AbstractStringBuilder_208) ((congrArg (fun o => z_lookup z_prs (o, 208)) zo_111).trans zq_prs_java_lang_AbstractStringBuilder_208)) ((congrArg (fun o => z_clk o 208) zo_111).trans zk_java_lang_AbstractStringBuilder_208) rfl rfl rfl rfl (z_rcv4 (by decide))
theorem ze_111_30_l : z_T g d 111 30 ls (.retAddr k1 :: .int x0 :: .ref a :: st) h P = ((z_okS 8 st = true ∧ z_gO h.1 a 12 ∧ 0 < d) ∧ z_Ca g (d - 1) 117 [.ref a, .int x0, .retAddr k1] h (fun r => z_kJ r (fun v h' => z_T g d 111 33 ls (z_push v st) h' P))) := zt_cV (as := [.int x0, .retAddr k1]) (kk := 0) zi_111_30 rfl (zt_callJ zj_111) (z_opV ((congrArg (fun o => z_lookup z_cns (o, 208)) zo_111).trans zq_cns_java_lang_AbstractStringBuilder_208) ((congrArg (fun o => z_lookup z_prs (o, 208)) zo_111).trans zq_prs_java_lang_AbstractStringBuilder_208)) ((congrArg (fun o => z_clk o 208) zo_111).trans zk_java_lang_AbstractStringBuilder_208) rfl rfl rfl rfl (z_rcv4 (by decide))
theorem zi_111_33 : z_ins 111 33 = some (.aload_n 0, 1) := by decide +kernel
theorem ze_111_33 : z_T g d 111 33 (.ref a :: ls) st h P = z_T g d 111 34 (.ref a :: ls) (.ref a :: st) h P := zt_aloadn zi_111_33 rfl rfl
theorem zi_111_34 : z_ins 111 34 = some (.dup, 1) := by decide +kernel
theorem ze_111_34 : z_T g d 111 34 ls (.ref a :: st) h P = z_T g d 111 35 ls (.ref a :: .ref a :: st) h P := zt_dup rfl zi_111_34
theorem ze_111_34_i : z_T g d 111 34 ls (.int x :: st) h P = z_T g d 111 35 ls (.int x :: .int x :: st) h P := zt_dup rfl zi_111_34
theorem zi_111_35 : z_ins 111 35 = some (.getfield 79, 3) := by decide +kernel
theorem ze_111_35 : z_T g d 111 35 ls (.ref a :: st) h P = z_gI h.1 a 12 3 (fun x => z_T g d 111 38 ls (.int x :: st) h P) := zt_getI zi_111_35 ((congrArg (fun o => z_fl o 79) zo_111).trans zf_java_lang_AbstractStringBuilder_79)
theorem zi_111_38 : z_ins 111 38 = some (.iload_n 2, 1) := by decide +kernel
theorem ze_111_38 : z_T g d 111 38 (v0 :: v1 :: .int x :: ls) st h P = z_T g d 111 39 (v0 :: v1 :: .int x :: ls) (.int x :: st) h P := zt_iloadn zi_111_38 rfl rfl
theorem zi_111_39 : z_ins 111 39 = some (.iadd, 1) := by decide +kernel
theorem ze_111_39 : z_T g d 111 39 ls (.int y :: .int x :: st) h P = z_T g d 111 40 ls (.int (x + y) :: st) h P := zt_bin (f := fun x y => x + y) zi_111_39 rfl (fun _ _ _ => rfl)
theorem zi_111_40 : z_ins 111 40 = some (.putfield 79, 3) := by decide +kernel
theorem ze_111_40 : z_T g d 111 40 ls (.int x :: .ref a :: st) h P = z_pF h.1 a 12 3 (.int x) (fun f => z_T g d 111 43 ls st (f, h.2) P) := zt_put zi_111_40 ((congrArg (fun o => z_fl o 79) zo_111).trans zf_java_lang_AbstractStringBuilder_79) (by decide +kernel) rfl rfl
theorem zi_111_43 : z_ins 111 43 = some (.aload_n 0, 1) := by decide +kernel
theorem ze_111_43 : z_T g d 111 43 (.ref a :: ls) st h P = z_T g d 111 44 (.ref a :: ls) (.ref a :: st) h P := zt_aloadn zi_111_43 rfl rfl
theorem zi_111_44 : z_ins 111 44 = some (.areturn, 1) := by decide +kernel
theorem ze_111_44 : z_T g d 111 44 ls [.ref a] h P = P (.inr (some (.ref a)), h) := zt_areturn rfl zi_111_44 zr_111 rfl
-- java/lang/AbstractStringBuilder.append(C)Ljava/lang/AbstractStringBuilder;
theorem zm_112 : z_maxL 112 = 2 := by decide +kernel
theorem zh_112 : z_hds 112 = [] := by decide +kernel
theorem zj_112 : z_jdk 112 = true := by decide +kernel
theorem zr_112 : z_rt 112 = (some (.object "java/lang/AbstractStringBuilder")) := by decide +kernel
theorem zn_112 : z_Ca g d 112 [.ref a0, .int x1] h P = z_T g d 112 0 [.ref a0, .int x1] [] h P := z_Ca_ent zm_112 rfl rfl
theorem zi_112_0 : z_ins 112 0 = some (.aload_n 0, 1) := by decide +kernel
theorem ze_112_0 : z_T g d 112 0 (.ref a :: ls) st h P = z_T g d 112 1 (.ref a :: ls) (.ref a :: st) h P := zt_aloadn zi_112_0 rfl rfl
theorem zi_112_1 : z_ins 112 1 = some (.aload_n 0, 1) := by decide +kernel
theorem ze_112_1 : z_T g d 112 1 (.ref a :: ls) st h P = z_T g d 112 2 (.ref a :: ls) (.ref a :: st) h P := zt_aloadn zi_112_1 rfl rfl
theorem zi_112_2 : z_ins 112 2 = some (.getfield 79, 3) := by decide +kernel
theorem ze_112_2 : z_T g d 112 2 ls (.ref a :: st) h P = z_gI h.1 a 12 3 (fun x => z_T g d 112 5 ls (.int x :: st) h P) := zt_getI zi_112_2 ((congrArg (fun o => z_fl o 79) zo_112).trans zf_java_lang_AbstractStringBuilder_79)
theorem zi_112_5 : z_ins 112 5 = some (.iconst 1, 1) := by decide +kernel
theorem ze_112_5 : z_T g d 112 5 ls st h P = z_T g d 112 6 ls (.int (nI 1) :: st) h P := zt_iconst zi_112_5 rfl
theorem zi_112_6 : z_ins 112 6 = some (.iadd, 1) := by decide +kernel
theorem ze_112_6 : z_T g d 112 6 ls (.int y :: .int x :: st) h P = z_T g d 112 7 ls (.int (x + y) :: st) h P := zt_bin (f := fun x y => x + y) zi_112_6 rfl (fun _ _ _ => rfl)
theorem zi_112_7 : z_ins 112 7 = some (.invokevirtual 100, 3) := by decide +kernel
theorem ze_112_7 : z_T g d 112 7 ls (.int x0 :: .ref a :: st) h P = ((z_okS 8 st = true ∧ z_gO h.1 a 12 ∧ 0 < d) ∧ z_Ca g (d - 1) 109 [.ref a, .int x0] h (fun r => z_kJ r (fun v h' => z_T g d 112 10 ls (z_push v st) h' P))) := zt_cV (as := [.int x0]) (kk := 0) zi_112_7 rfl (zt_callJ zj_112) (z_opV ((congrArg (fun o => z_lookup z_cns (o, 100)) zo_112).trans zq_cns_java_lang_AbstractStringBuilder_100) ((congrArg (fun o => z_lookup z_prs (o, 100)) zo_112).trans zq_prs_java_lang_AbstractStringBuilder_100)) ((congrArg (fun o => z_clk o 100) zo_112).trans zk_java_lang_AbstractStringBuilder_100) rfl rfl rfl rfl (z_rcv4 (by decide))
theorem zi_112_10 : z_ins 112 10 = some (.aload_n 0, 1) := by decide +kernel
theorem ze_112_10 : z_T g d 112 10 (.ref a :: ls) st h P = z_T g d 112 11 (.ref a :: ls) (.ref a :: st) h P := zt_aloadn zi_112_10 rfl rfl
theorem zi_112_11 : z_ins 112 11 = some (.invokevirtual 83, 3) := by decide +kernel
theorem ze_112_11 : z_T g d 112 11 ls (.ref a :: st) h P = ((z_okS 8 st = true ∧ z_gO h.1 a 12 ∧ 0 < d) ∧ z_Ca g (d - 1) 115 [.ref a] h (fun r => z_kJ r (fun v h' => z_T g d 112 14 ls (z_push v st) h' P))) := zt_cV (as := []) (kk := 0) zi_112_11 rfl (zt_callJ zj_112) (z_opV ((congrArg (fun o => z_lookup z_cns (o, 83)) zo_112).trans zq_cns_java_lang_AbstractStringBuilder_83) ((congrArg (fun o => z_lookup z_prs (o, 83)) zo_112).trans zq_prs_java_lang_AbstractStringBuilder_83)) ((congrArg (fun o => z_clk o 83) zo_112).trans zk_java_lang_AbstractStringBuilder_83) rfl rfl rfl rfl (z_rcv4 (by decide))
theorem zi_112_14 : z_ins 112 14 = some (.ifCond .eq 31, 3) := by decide +kernel
theorem ze_112_14 : z_T g d 112 14 ls (.int x :: st) h P = (if x = nI 0 then z_T g d 112 45 ls st h P else z_T g d 112 17 ls st h P) := zt_ifeq zi_112_14 (by decide)
theorem zi_112_17 : z_ins 112 17 = some (.iload_n 1, 1) := by decide +kernel
theorem ze_112_17 : z_T g d 112 17 (v0 :: .int x :: ls) st h P = z_T g d 112 18 (v0 :: .int x :: ls) (.int x :: st) h P := zt_iloadn zi_112_17 rfl rfl
theorem zi_112_18 : z_ins 112 18 = some (.invokestatic 191, 3) := by decide +kernel
theorem ze_112_18 : z_T g d 112 18 ls (.int x0 :: st) h P = ((z_okS 8 st = true ∧ 0 < d) ∧ z_Ca g (d - 1) 136 [.int x0] h (fun r => z_kJ r (fun v h' => z_T g d 112 21 ls (z_push v st) h' P))) := zt_cS (as := [.int x0]) (kk := 1) zi_112_18 rfl (zt_callJ zj_112) (z_opT ((congrArg (fun o => z_lookup z_cps (o, 191)) zo_112).trans zq_cps_java_lang_AbstractStringBuilder_191) ((congrArg (fun o => z_lookup z_prs (o, 191)) zo_112).trans zq_prs_java_lang_AbstractStringBuilder_191)) ((congrArg (fun o => z_clk o 191) zo_112).trans zk_java_lang_AbstractStringBuilder_191) rfl rfl rfl rfl rfl
theorem zi_112_21 : z_ins 112 21 = some (.ifCond .eq 24, 3) := by decide +kernel
theorem ze_112_21 : z_T g d 112 21 ls (.int x :: st) h P = (if x = nI 0 then z_T g d 112 45 ls st h P else z_T g d 112 24 ls st h P) := zt_ifeq zi_112_21 (by decide)
theorem zi_112_24 : z_ins 112 24 = some (.aload_n 0, 1) := by decide +kernel
theorem ze_112_24 : z_T g d 112 24 (.ref a :: ls) st h P = z_T g d 112 25 (.ref a :: ls) (.ref a :: st) h P := zt_aloadn zi_112_24 rfl rfl
theorem zi_112_25 : z_ins 112 25 = some (.getfield 15, 3) := by decide +kernel
theorem ze_112_25 : z_T g d 112 25 ls (.ref a :: st) h P = z_gR h.1 a 12 0 (fun x => z_T g d 112 28 ls (x :: st) h P) := zt_getR zi_112_25 ((congrArg (fun o => z_fl o 15) zo_112).trans zf_java_lang_AbstractStringBuilder_15)
theorem zi_112_28 : z_ins 112 28 = some (.aload_n 0, 1) := by decide +kernel
theorem ze_112_28 : z_T g d 112 28 (.ref a :: ls) st h P = z_T g d 112 29 (.ref a :: ls) (.ref a :: st) h P := zt_aloadn zi_112_28 rfl rfl
theorem zi_112_29 : z_ins 112 29 = some (.dup, 1) := by decide +kernel
theorem ze_112_29 : z_T g d 112 29 ls (.ref a :: st) h P = z_T g d 112 30 ls (.ref a :: .ref a :: st) h P := zt_dup rfl zi_112_29
theorem ze_112_29_i : z_T g d 112 29 ls (.int x :: st) h P = z_T g d 112 30 ls (.int x :: .int x :: st) h P := zt_dup rfl zi_112_29
theorem zi_112_30 : z_ins 112 30 = some (.getfield 79, 3) := by decide +kernel
theorem ze_112_30 : z_T g d 112 30 ls (.ref a :: st) h P = z_gI h.1 a 12 3 (fun x => z_T g d 112 33 ls (.int x :: st) h P) := zt_getI zi_112_30 ((congrArg (fun o => z_fl o 79) zo_112).trans zf_java_lang_AbstractStringBuilder_79)
theorem zi_112_33 : z_ins 112 33 = some (.dup_x1, 1) := by decide +kernel
theorem ze_112_33 : z_T g d 112 33 ls (.int y :: .ref a :: st) h P = z_T g d 112 34 ls (.int y :: .ref a :: .int y :: st) h P := zt_dupx ⟨rfl, rfl⟩ zi_112_33
theorem zi_112_34 : z_ins 112 34 = some (.iconst 1, 1) := by decide +kernel
theorem ze_112_34 : z_T g d 112 34 ls st h P = z_T g d 112 35 ls (.int (nI 1) :: st) h P := zt_iconst zi_112_34 rfl
theorem zi_112_35 : z_ins 112 35 = some (.iadd, 1) := by decide +kernel
theorem ze_112_35 : z_T g d 112 35 ls (.int y :: .int x :: st) h P = z_T g d 112 36 ls (.int (x + y) :: st) h P := zt_bin (f := fun x y => x + y) zi_112_35 rfl (fun _ _ _ => rfl)
theorem zi_112_36 : z_ins 112 36 = some (.putfield 79, 3) := by decide +kernel
theorem ze_112_36 : z_T g d 112 36 ls (.int x :: .ref a :: st) h P = z_pF h.1 a 12 3 (.int x) (fun f => z_T g d 112 39 ls st (f, h.2) P) := zt_put zi_112_36 ((congrArg (fun o => z_fl o 79) zo_112).trans zf_java_lang_AbstractStringBuilder_79) (by decide +kernel) rfl rfl
theorem zi_112_39 : z_ins 112 39 = some (.iload_n 1, 1) := by decide +kernel
theorem ze_112_39 : z_T g d 112 39 (v0 :: .int x :: ls) st h P = z_T g d 112 40 (v0 :: .int x :: ls) (.int x :: st) h P := zt_iloadn zi_112_39 rfl rfl
theorem zi_112_40 : z_ins 112 40 = some (.i2b, 1) := by decide +kernel
theorem ze_112_40 : z_T g d 112 40 ls (.int x :: st) h P = z_T g d 112 41 ls (.int x.toInt8.toInt32 :: st) h P := zt_i2b zi_112_40
theorem zi_112_41 : z_ins 112 41 = some (.bastore, 1) := by decide +kernel
theorem ze_112_41 : z_T g d 112 41 ls (.int y :: .int x :: .ref a :: st) h P = z_aS h.1 a z_tB x y (fun f => z_T g d 112 42 ls st (f, h.2) P) := zt_bastore zi_112_41
theorem zi_112_42 : z_ins 112 42 = some (.goto 33, 3) := by decide +kernel
theorem ze_112_42 : z_T g d 112 42 ls st h P = z_T g d 112 75 ls st h P := zt_goto zi_112_42 (by decide)
theorem zi_112_45 : z_ins 112 45 = some (.aload_n 0, 1) := by decide +kernel
theorem ze_112_45 : z_T g d 112 45 (.ref a :: ls) st h P = z_T g d 112 46 (.ref a :: ls) (.ref a :: st) h P := zt_aloadn zi_112_45 rfl rfl
theorem zi_112_46 : z_ins 112 46 = some (.invokevirtual 83, 3) := by decide +kernel
theorem ze_112_46 : z_T g d 112 46 ls (.ref a :: st) h P = ((z_okS 8 st = true ∧ z_gO h.1 a 12 ∧ 0 < d) ∧ z_Ca g (d - 1) 115 [.ref a] h (fun r => z_kJ r (fun v h' => z_T g d 112 49 ls (z_push v st) h' P))) := zt_cV (as := []) (kk := 0) zi_112_46 rfl (zt_callJ zj_112) (z_opV ((congrArg (fun o => z_lookup z_cns (o, 83)) zo_112).trans zq_cns_java_lang_AbstractStringBuilder_83) ((congrArg (fun o => z_lookup z_prs (o, 83)) zo_112).trans zq_prs_java_lang_AbstractStringBuilder_83)) ((congrArg (fun o => z_clk o 83) zo_112).trans zk_java_lang_AbstractStringBuilder_83) rfl rfl rfl rfl (z_rcv4 (by decide))
theorem zi_112_49 : z_ins 112 49 = some (.ifCond .eq 7, 3) := by decide +kernel
theorem ze_112_49 : z_T g d 112 49 ls (.int x :: st) h P = (if x = nI 0 then z_T g d 112 56 ls st h P else z_T g d 112 52 ls st h P) := zt_ifeq zi_112_49 (by decide)
theorem zi_112_52 : z_ins 112 52 = some (.aload_n 0, 1) := by decide +kernel
theorem ze_112_52 : z_T g d 112 52 (.ref a :: ls) st h P = z_T g d 112 53 (.ref a :: ls) (.ref a :: st) h P := zt_aloadn zi_112_52 rfl rfl
theorem zi_112_53 : z_ins 112 53 = some (.invokevirtual 195, 3) := by decide +kernel
theorem zi_112_56 : z_ins 112 56 = some (.aload_n 0, 1) := by decide +kernel
theorem ze_112_56 : z_T g d 112 56 (.ref a :: ls) st h P = z_T g d 112 57 (.ref a :: ls) (.ref a :: st) h P := zt_aloadn zi_112_56 rfl rfl
theorem zi_112_57 : z_ins 112 57 = some (.getfield 15, 3) := by decide +kernel
theorem ze_112_57 : z_T g d 112 57 ls (.ref a :: st) h P = z_gR h.1 a 12 0 (fun x => z_T g d 112 60 ls (x :: st) h P) := zt_getR zi_112_57 ((congrArg (fun o => z_fl o 15) zo_112).trans zf_java_lang_AbstractStringBuilder_15)
theorem zi_112_60 : z_ins 112 60 = some (.aload_n 0, 1) := by decide +kernel
theorem ze_112_60 : z_T g d 112 60 (.ref a :: ls) st h P = z_T g d 112 61 (.ref a :: ls) (.ref a :: st) h P := zt_aloadn zi_112_60 rfl rfl
theorem zi_112_61 : z_ins 112 61 = some (.dup, 1) := by decide +kernel
theorem ze_112_61 : z_T g d 112 61 ls (.ref a :: st) h P = z_T g d 112 62 ls (.ref a :: .ref a :: st) h P := zt_dup rfl zi_112_61
theorem ze_112_61_i : z_T g d 112 61 ls (.int x :: st) h P = z_T g d 112 62 ls (.int x :: .int x :: st) h P := zt_dup rfl zi_112_61
theorem zi_112_62 : z_ins 112 62 = some (.getfield 79, 3) := by decide +kernel
theorem ze_112_62 : z_T g d 112 62 ls (.ref a :: st) h P = z_gI h.1 a 12 3 (fun x => z_T g d 112 65 ls (.int x :: st) h P) := zt_getI zi_112_62 ((congrArg (fun o => z_fl o 79) zo_112).trans zf_java_lang_AbstractStringBuilder_79)
theorem zi_112_65 : z_ins 112 65 = some (.dup_x1, 1) := by decide +kernel
theorem ze_112_65 : z_T g d 112 65 ls (.int y :: .ref a :: st) h P = z_T g d 112 66 ls (.int y :: .ref a :: .int y :: st) h P := zt_dupx ⟨rfl, rfl⟩ zi_112_65
theorem zi_112_66 : z_ins 112 66 = some (.iconst 1, 1) := by decide +kernel
theorem ze_112_66 : z_T g d 112 66 ls st h P = z_T g d 112 67 ls (.int (nI 1) :: st) h P := zt_iconst zi_112_66 rfl
theorem zi_112_67 : z_ins 112 67 = some (.iadd, 1) := by decide +kernel
theorem ze_112_67 : z_T g d 112 67 ls (.int y :: .int x :: st) h P = z_T g d 112 68 ls (.int (x + y) :: st) h P := zt_bin (f := fun x y => x + y) zi_112_67 rfl (fun _ _ _ => rfl)
theorem zi_112_68 : z_ins 112 68 = some (.putfield 79, 3) := by decide +kernel
theorem ze_112_68 : z_T g d 112 68 ls (.int x :: .ref a :: st) h P = z_pF h.1 a 12 3 (.int x) (fun f => z_T g d 112 71 ls st (f, h.2) P) := zt_put zi_112_68 ((congrArg (fun o => z_fl o 79) zo_112).trans zf_java_lang_AbstractStringBuilder_79) (by decide +kernel) rfl rfl
theorem zi_112_71 : z_ins 112 71 = some (.iload_n 1, 1) := by decide +kernel
theorem ze_112_71 : z_T g d 112 71 (v0 :: .int x :: ls) st h P = z_T g d 112 72 (v0 :: .int x :: ls) (.int x :: st) h P := zt_iloadn zi_112_71 rfl rfl
theorem zi_112_72 : z_ins 112 72 = some (.invokestatic 197, 3) := by decide +kernel
theorem zi_112_75 : z_ins 112 75 = some (.aload_n 0, 1) := by decide +kernel
theorem ze_112_75 : z_T g d 112 75 (.ref a :: ls) st h P = z_T g d 112 76 (.ref a :: ls) (.ref a :: st) h P := zt_aloadn zi_112_75 rfl rfl
theorem zi_112_76 : z_ins 112 76 = some (.areturn, 1) := by decide +kernel
theorem ze_112_76 : z_T g d 112 76 ls [.ref a] h P = P (.inr (some (.ref a)), h) := zt_areturn rfl zi_112_76 zr_112 rfl
-- java/lang/AbstractStringBuilder.append(I)Ljava/lang/AbstractStringBuilder;
theorem zm_113 : z_maxL 113 = 4 := by decide +kernel
theorem zh_113 : z_hds 113 = [] := by decide +kernel
theorem zj_113 : z_jdk 113 = true := by decide +kernel
theorem zr_113 : z_rt 113 = (some (.object "java/lang/AbstractStringBuilder")) := by decide +kernel
theorem zn_113 : z_Ca g d 113 [.ref a0, .int x1] h P = z_T g d 113 0 [.ref a0, .int x1, z_un, z_un] [] h P := z_Ca_ent zm_113 rfl rfl
theorem zi_113_0 : z_ins 113 0 = some (.aload_n 0, 1) := by decide +kernel
theorem ze_113_0 : z_T g d 113 0 (.ref a :: ls) st h P = z_T g d 113 1 (.ref a :: ls) (.ref a :: st) h P := zt_aloadn zi_113_0 rfl rfl
theorem zi_113_1 : z_ins 113 1 = some (.getfield 79, 3) := by decide +kernel
theorem ze_113_1 : z_T g d 113 1 ls (.ref a :: st) h P = z_gI h.1 a 12 3 (fun x => z_T g d 113 4 ls (.int x :: st) h P) := zt_getI zi_113_1 ((congrArg (fun o => z_fl o 79) zo_113).trans zf_java_lang_AbstractStringBuilder_79)
theorem zi_113_4 : z_ins 113 4 = some (.istore_n 2, 1) := by decide +kernel
theorem ze_113_4 : z_T g d 113 4 (v0 :: v1 :: v2 :: ls) (.int x :: st) h P = z_T g d 113 5 (v0 :: v1 :: .int x :: ls) st h P := zt_istoren zi_113_4 rfl (Nat.le_add_left 3 _)
theorem zi_113_5 : z_ins 113 5 = some (.iload_n 2, 1) := by decide +kernel
theorem ze_113_5 : z_T g d 113 5 (v0 :: v1 :: .int x :: ls) st h P = z_T g d 113 6 (v0 :: v1 :: .int x :: ls) (.int x :: st) h P := zt_iloadn zi_113_5 rfl rfl
theorem zi_113_6 : z_ins 113 6 = some (.iload_n 1, 1) := by decide +kernel
theorem ze_113_6 : z_T g d 113 6 (v0 :: .int x :: ls) st h P = z_T g d 113 7 (v0 :: .int x :: ls) (.int x :: st) h P := zt_iloadn zi_113_6 rfl rfl
theorem zi_113_7 : z_ins 113 7 = some (.invokestatic 245, 3) := by decide +kernel
theorem ze_113_7 : z_T g d 113 7 ls (.int x0 :: st) h P = ((z_okS 8 st = true ∧ 0 < d) ∧ z_Ca g (d - 1) 119 [.int x0] h (fun r => z_kJ r (fun v h' => z_T g d 113 10 ls (z_push v st) h' P))) := zt_cS (as := [.int x0]) (kk := 1) zi_113_7 rfl (zt_callJ zj_113) (z_opT ((congrArg (fun o => z_lookup z_cps (o, 245)) zo_113).trans zq_cps_java_lang_AbstractStringBuilder_245) ((congrArg (fun o => z_lookup z_prs (o, 245)) zo_113).trans zq_prs_java_lang_AbstractStringBuilder_245)) ((congrArg (fun o => z_clk o 245) zo_113).trans zk_java_lang_AbstractStringBuilder_245) rfl rfl rfl rfl rfl
theorem zi_113_10 : z_ins 113 10 = some (.iadd, 1) := by decide +kernel
theorem ze_113_10 : z_T g d 113 10 ls (.int y :: .int x :: st) h P = z_T g d 113 11 ls (.int (x + y) :: st) h P := zt_bin (f := fun x y => x + y) zi_113_10 rfl (fun _ _ _ => rfl)
theorem zi_113_11 : z_ins 113 11 = some (.istore_n 3, 1) := by decide +kernel
theorem ze_113_11 : z_T g d 113 11 (v0 :: v1 :: v2 :: v3 :: ls) (.int x :: st) h P = z_T g d 113 12 (v0 :: v1 :: v2 :: .int x :: ls) st h P := zt_istoren zi_113_11 rfl (Nat.le_add_left 4 _)
theorem zi_113_12 : z_ins 113 12 = some (.aload_n 0, 1) := by decide +kernel
theorem ze_113_12 : z_T g d 113 12 (.ref a :: ls) st h P = z_T g d 113 13 (.ref a :: ls) (.ref a :: st) h P := zt_aloadn zi_113_12 rfl rfl
theorem zi_113_13 : z_ins 113 13 = some (.iload_n 3, 1) := by decide +kernel
theorem ze_113_13 : z_T g d 113 13 (v0 :: v1 :: v2 :: .int x :: ls) st h P = z_T g d 113 14 (v0 :: v1 :: v2 :: .int x :: ls) (.int x :: st) h P := zt_iloadn zi_113_13 rfl rfl
theorem zi_113_14 : z_ins 113 14 = some (.invokevirtual 100, 3) := by decide +kernel
theorem ze_113_14 : z_T g d 113 14 ls (.int x0 :: .ref a :: st) h P = ((z_okS 8 st = true ∧ z_gO h.1 a 12 ∧ 0 < d) ∧ z_Ca g (d - 1) 109 [.ref a, .int x0] h (fun r => z_kJ r (fun v h' => z_T g d 113 17 ls (z_push v st) h' P))) := zt_cV (as := [.int x0]) (kk := 0) zi_113_14 rfl (zt_callJ zj_113) (z_opV ((congrArg (fun o => z_lookup z_cns (o, 100)) zo_113).trans zq_cns_java_lang_AbstractStringBuilder_100) ((congrArg (fun o => z_lookup z_prs (o, 100)) zo_113).trans zq_prs_java_lang_AbstractStringBuilder_100)) ((congrArg (fun o => z_clk o 100) zo_113).trans zk_java_lang_AbstractStringBuilder_100) rfl rfl rfl rfl (z_rcv4 (by decide))
theorem zi_113_17 : z_ins 113 17 = some (.aload_n 0, 1) := by decide +kernel
theorem ze_113_17 : z_T g d 113 17 (.ref a :: ls) st h P = z_T g d 113 18 (.ref a :: ls) (.ref a :: st) h P := zt_aloadn zi_113_17 rfl rfl
theorem zi_113_18 : z_ins 113 18 = some (.invokevirtual 83, 3) := by decide +kernel
theorem ze_113_18 : z_T g d 113 18 ls (.ref a :: st) h P = ((z_okS 8 st = true ∧ z_gO h.1 a 12 ∧ 0 < d) ∧ z_Ca g (d - 1) 115 [.ref a] h (fun r => z_kJ r (fun v h' => z_T g d 113 21 ls (z_push v st) h' P))) := zt_cV (as := []) (kk := 0) zi_113_18 rfl (zt_callJ zj_113) (z_opV ((congrArg (fun o => z_lookup z_cns (o, 83)) zo_113).trans zq_cns_java_lang_AbstractStringBuilder_83) ((congrArg (fun o => z_lookup z_prs (o, 83)) zo_113).trans zq_prs_java_lang_AbstractStringBuilder_83)) ((congrArg (fun o => z_clk o 83) zo_113).trans zk_java_lang_AbstractStringBuilder_83) rfl rfl rfl rfl (z_rcv4 (by decide))
theorem zi_113_21 : z_ins 113 21 = some (.ifCond .eq 16, 3) := by decide +kernel
theorem ze_113_21 : z_T g d 113 21 ls (.int x :: st) h P = (if x = nI 0 then z_T g d 113 37 ls st h P else z_T g d 113 24 ls st h P) := zt_ifeq zi_113_21 (by decide)
theorem zi_113_24 : z_ins 113 24 = some (.iload_n 1, 1) := by decide +kernel
theorem ze_113_24 : z_T g d 113 24 (v0 :: .int x :: ls) st h P = z_T g d 113 25 (v0 :: .int x :: ls) (.int x :: st) h P := zt_iloadn zi_113_24 rfl rfl
theorem zi_113_25 : z_ins 113 25 = some (.iload_n 3, 1) := by decide +kernel
theorem ze_113_25 : z_T g d 113 25 (v0 :: v1 :: v2 :: .int x :: ls) st h P = z_T g d 113 26 (v0 :: v1 :: v2 :: .int x :: ls) (.int x :: st) h P := zt_iloadn zi_113_25 rfl rfl
theorem zi_113_26 : z_ins 113 26 = some (.aload_n 0, 1) := by decide +kernel
theorem ze_113_26 : z_T g d 113 26 (.ref a :: ls) st h P = z_T g d 113 27 (.ref a :: ls) (.ref a :: st) h P := zt_aloadn zi_113_26 rfl rfl
theorem zi_113_27 : z_ins 113 27 = some (.getfield 15, 3) := by decide +kernel
theorem ze_113_27 : z_T g d 113 27 ls (.ref a :: st) h P = z_gR h.1 a 12 0 (fun x => z_T g d 113 30 ls (x :: st) h P) := zt_getR zi_113_27 ((congrArg (fun o => z_fl o 15) zo_113).trans zf_java_lang_AbstractStringBuilder_15)
theorem zi_113_30 : z_ins 113 30 = some (.invokestatic 248, 3) := by decide +kernel
theorem ze_113_30 : z_T g d 113 30 ls (.ref a2 :: .int x1 :: .int x0 :: st) h P = ((z_okS 8 st = true ∧ 0 < d) ∧ z_Ca g (d - 1) 118 [.int x0, .int x1, .ref a2] h (fun r => z_kJ r (fun v h' => z_T g d 113 33 ls (z_push v st) h' P))) := zt_cS (as := [.int x0, .int x1, .ref a2]) (kk := 1) zi_113_30 rfl (zt_callJ zj_113) (z_opT ((congrArg (fun o => z_lookup z_cps (o, 248)) zo_113).trans zq_cps_java_lang_AbstractStringBuilder_248) ((congrArg (fun o => z_lookup z_prs (o, 248)) zo_113).trans zq_prs_java_lang_AbstractStringBuilder_248)) ((congrArg (fun o => z_clk o 248) zo_113).trans zk_java_lang_AbstractStringBuilder_248) rfl rfl rfl rfl rfl
theorem zi_113_33 : z_ins 113 33 = some (.pop, 1) := by decide +kernel
theorem ze_113_33_i : z_T g d 113 33 ls (.int x :: st) h P = z_T g d 113 34 ls st h P := zt_pop rfl zi_113_33
theorem ze_113_33 : z_T g d 113 33 ls (.ref a :: st) h P = z_T g d 113 34 ls st h P := zt_pop rfl zi_113_33
theorem zi_113_34 : z_ins 113 34 = some (.goto 14, 3) := by decide +kernel
theorem ze_113_34 : z_T g d 113 34 ls st h P = z_T g d 113 48 ls st h P := zt_goto zi_113_34 (by decide)
theorem zi_113_37 : z_ins 113 37 = some (.iload_n 1, 1) := by decide +kernel
theorem ze_113_37 : z_T g d 113 37 (v0 :: .int x :: ls) st h P = z_T g d 113 38 (v0 :: .int x :: ls) (.int x :: st) h P := zt_iloadn zi_113_37 rfl rfl
theorem zi_113_38 : z_ins 113 38 = some (.iload_n 2, 1) := by decide +kernel
theorem ze_113_38 : z_T g d 113 38 (v0 :: v1 :: .int x :: ls) st h P = z_T g d 113 39 (v0 :: v1 :: .int x :: ls) (.int x :: st) h P := zt_iloadn zi_113_38 rfl rfl
theorem zi_113_39 : z_ins 113 39 = some (.iload_n 3, 1) := by decide +kernel
theorem ze_113_39 : z_T g d 113 39 (v0 :: v1 :: v2 :: .int x :: ls) st h P = z_T g d 113 40 (v0 :: v1 :: v2 :: .int x :: ls) (.int x :: st) h P := zt_iloadn zi_113_39 rfl rfl
theorem zi_113_40 : z_ins 113 40 = some (.aload_n 0, 1) := by decide +kernel
theorem ze_113_40 : z_T g d 113 40 (.ref a :: ls) st h P = z_T g d 113 41 (.ref a :: ls) (.ref a :: st) h P := zt_aloadn zi_113_40 rfl rfl
theorem zi_113_41 : z_ins 113 41 = some (.getfield 15, 3) := by decide +kernel
theorem ze_113_41 : z_T g d 113 41 ls (.ref a :: st) h P = z_gR h.1 a 12 0 (fun x => z_T g d 113 44 ls (x :: st) h P) := zt_getR zi_113_41 ((congrArg (fun o => z_fl o 15) zo_113).trans zf_java_lang_AbstractStringBuilder_15)
theorem zi_113_44 : z_ins 113 44 = some (.invokestatic 251, 3) := by decide +kernel
theorem zi_113_47 : z_ins 113 47 = some (.pop, 1) := by decide +kernel
theorem ze_113_47_i : z_T g d 113 47 ls (.int x :: st) h P = z_T g d 113 48 ls st h P := zt_pop rfl zi_113_47
theorem ze_113_47 : z_T g d 113 47 ls (.ref a :: st) h P = z_T g d 113 48 ls st h P := zt_pop rfl zi_113_47
theorem zi_113_48 : z_ins 113 48 = some (.aload_n 0, 1) := by decide +kernel
theorem ze_113_48 : z_T g d 113 48 (.ref a :: ls) st h P = z_T g d 113 49 (.ref a :: ls) (.ref a :: st) h P := zt_aloadn zi_113_48 rfl rfl
theorem zi_113_49 : z_ins 113 49 = some (.iload_n 3, 1) := by decide +kernel
theorem ze_113_49 : z_T g d 113 49 (v0 :: v1 :: v2 :: .int x :: ls) st h P = z_T g d 113 50 (v0 :: v1 :: v2 :: .int x :: ls) (.int x :: st) h P := zt_iloadn zi_113_49 rfl rfl
theorem zi_113_50 : z_ins 113 50 = some (.putfield 79, 3) := by decide +kernel
theorem ze_113_50 : z_T g d 113 50 ls (.int x :: .ref a :: st) h P = z_pF h.1 a 12 3 (.int x) (fun f => z_T g d 113 53 ls st (f, h.2) P) := zt_put zi_113_50 ((congrArg (fun o => z_fl o 79) zo_113).trans zf_java_lang_AbstractStringBuilder_79) (by decide +kernel) rfl rfl
theorem zi_113_53 : z_ins 113 53 = some (.aload_n 0, 1) := by decide +kernel
theorem ze_113_53 : z_T g d 113 53 (.ref a :: ls) st h P = z_T g d 113 54 (.ref a :: ls) (.ref a :: st) h P := zt_aloadn zi_113_53 rfl rfl
theorem zi_113_54 : z_ins 113 54 = some (.areturn, 1) := by decide +kernel
theorem ze_113_54 : z_T g d 113 54 ls [.ref a] h P = P (.inr (some (.ref a)), h) := zt_areturn rfl zi_113_54 zr_113 rfl
-- java/lang/AbstractStringBuilder.getValue()[B
theorem zm_114 : z_maxL 114 = 1 := by decide +kernel
theorem zh_114 : z_hds 114 = [] := by decide +kernel
theorem zj_114 : z_jdk 114 = true := by decide +kernel
theorem zr_114 : z_rt 114 = (some (.array .byte)) := by decide +kernel
theorem zn_114 : z_Ca g d 114 [.ref a0] h P = z_T g d 114 0 [.ref a0] [] h P := z_Ca_ent zm_114 rfl rfl
theorem zi_114_0 : z_ins 114 0 = some (.aload_n 0, 1) := by decide +kernel
theorem ze_114_0 : z_T g d 114 0 (.ref a :: ls) st h P = z_T g d 114 1 (.ref a :: ls) (.ref a :: st) h P := zt_aloadn zi_114_0 rfl rfl
theorem zi_114_1 : z_ins 114 1 = some (.getfield 15, 3) := by decide +kernel
theorem ze_114_1 : z_T g d 114 1 ls (.ref a :: st) h P = z_gR h.1 a 12 0 (fun x => z_T g d 114 4 ls (x :: st) h P) := zt_getR zi_114_1 ((congrArg (fun o => z_fl o 15) zo_114).trans zf_java_lang_AbstractStringBuilder_15)
theorem zi_114_4 : z_ins 114 4 = some (.areturn, 1) := by decide +kernel
theorem ze_114_4 : z_T g d 114 4 ls [.ref a] h P = P (.inr (some (.ref a)), h) := zt_areturn rfl zi_114_4 zr_114 rfl
-- java/lang/AbstractStringBuilder.isLatin1()Z
theorem zm_115 : z_maxL 115 = 1 := by decide +kernel
theorem zh_115 : z_hds 115 = [] := by decide +kernel
theorem zj_115 : z_jdk 115 = true := by decide +kernel
theorem zr_115 : z_rt 115 = (some .boolean) := by decide +kernel
theorem zn_115 : z_Ca g d 115 [.ref a0] h P = z_T g d 115 0 [.ref a0] [] h P := z_Ca_ent zm_115 rfl rfl
theorem zi_115_0 : z_ins 115 0 = some (.getstatic 18, 3) := by decide +kernel
theorem ze_115_0 : z_T g d 115 0 ls st h P = z_T g d 115 3 ls (.int (nI 1) :: st) h P := zt_static zi_115_0 ((congrArg (fun o => z_lookup z_gss (o, 18)) zo_115).trans zq_gss_java_lang_AbstractStringBuilder_18) rfl
theorem zi_115_3 : z_ins 115 3 = some (.ifCond .eq 14, 3) := by decide +kernel
theorem ze_115_3 : z_T g d 115 3 ls (.int x :: st) h P = (if x = nI 0 then z_T g d 115 17 ls st h P else z_T g d 115 6 ls st h P) := zt_ifeq zi_115_3 (by decide)
theorem zi_115_6 : z_ins 115 6 = some (.aload_n 0, 1) := by decide +kernel
theorem ze_115_6 : z_T g d 115 6 (.ref a :: ls) st h P = z_T g d 115 7 (.ref a :: ls) (.ref a :: st) h P := zt_aloadn zi_115_6 rfl rfl
theorem zi_115_7 : z_ins 115 7 = some (.getfield 22, 3) := by decide +kernel
theorem ze_115_7 : z_T g d 115 7 ls (.ref a :: st) h P = z_gI h.1 a 12 1 (fun x => z_T g d 115 10 ls (.int x :: st) h P) := zt_getI zi_115_7 ((congrArg (fun o => z_fl o 22) zo_115).trans zf_java_lang_AbstractStringBuilder_22)
theorem zi_115_10 : z_ins 115 10 = some (.ifCond .ne 7, 3) := by decide +kernel
theorem ze_115_10 : z_T g d 115 10 ls (.int x :: st) h P = (if x = nI 0 then z_T g d 115 13 ls st h P else z_T g d 115 17 ls st h P) := zt_ifne zi_115_10 (by decide)
theorem zi_115_13 : z_ins 115 13 = some (.iconst 1, 1) := by decide +kernel
theorem ze_115_13 : z_T g d 115 13 ls st h P = z_T g d 115 14 ls (.int (nI 1) :: st) h P := zt_iconst zi_115_13 rfl
theorem zi_115_14 : z_ins 115 14 = some (.goto 4, 3) := by decide +kernel
theorem ze_115_14 : z_T g d 115 14 ls st h P = z_T g d 115 18 ls st h P := zt_goto zi_115_14 (by decide)
theorem zi_115_17 : z_ins 115 17 = some (.iconst 0, 1) := by decide +kernel
theorem ze_115_17 : z_T g d 115 17 ls st h P = z_T g d 115 18 ls (.int (nI 0) :: st) h P := zt_iconst zi_115_17 rfl
theorem zi_115_18 : z_ins 115 18 = some (.ireturn, 1) := by decide +kernel
theorem ze_115_18 : z_T g d 115 18 ls [.int x] h P = ((x = nI 0 ∨ x = nI 1) ∧ P (.inr (some (.int x)), h)) := zt_zreturn zi_115_18 zr_115
-- java/lang/AbstractStringBuilder.inflateIfNeededFor(Ljava/lang/String;)V
theorem zm_116 : z_maxL 116 = 2 := by decide +kernel
theorem zh_116 : z_hds 116 = [] := by decide +kernel
theorem zj_116 : z_jdk 116 = true := by decide +kernel
theorem zr_116 : z_rt 116 = none := by decide +kernel
theorem zn_116 : z_Ca g d 116 [.ref a0, .ref a1] h P = z_T g d 116 0 [.ref a0, .ref a1] [] h P := z_Ca_ent zm_116 rfl rfl
theorem zn_116_l : z_Ca g d 116 [.ref a0, .retAddr k1] h P = z_T g d 116 0 [.ref a0, .retAddr k1] [] h P := z_Ca_ent zm_116 rfl rfl
theorem zi_116_0 : z_ins 116 0 = some (.getstatic 18, 3) := by decide +kernel
theorem ze_116_0 : z_T g d 116 0 ls st h P = z_T g d 116 3 ls (.int (nI 1) :: st) h P := zt_static zi_116_0 ((congrArg (fun o => z_lookup z_gss (o, 18)) zo_116).trans zq_gss_java_lang_AbstractStringBuilder_18) rfl
theorem zi_116_3 : z_ins 116 3 = some (.ifCond .eq 18, 3) := by decide +kernel
theorem ze_116_3 : z_T g d 116 3 ls (.int x :: st) h P = (if x = nI 0 then z_T g d 116 21 ls st h P else z_T g d 116 6 ls st h P) := zt_ifeq zi_116_3 (by decide)
theorem zi_116_6 : z_ins 116 6 = some (.aload_n 0, 1) := by decide +kernel
theorem ze_116_6 : z_T g d 116 6 (.ref a :: ls) st h P = z_T g d 116 7 (.ref a :: ls) (.ref a :: st) h P := zt_aloadn zi_116_6 rfl rfl
theorem zi_116_7 : z_ins 116 7 = some (.getfield 22, 3) := by decide +kernel
theorem ze_116_7 : z_T g d 116 7 ls (.ref a :: st) h P = z_gI h.1 a 12 1 (fun x => z_T g d 116 10 ls (.int x :: st) h P) := zt_getI zi_116_7 ((congrArg (fun o => z_fl o 22) zo_116).trans zf_java_lang_AbstractStringBuilder_22)
theorem zi_116_10 : z_ins 116 10 = some (.aload_n 1, 1) := by decide +kernel
theorem ze_116_10 : z_T g d 116 10 (v0 :: .ref a :: ls) st h P = z_T g d 116 11 (v0 :: .ref a :: ls) (.ref a :: st) h P := zt_aloadn zi_116_10 rfl rfl
theorem ze_116_10_s : z_T g d 116 10 (v0 :: .retAddr b :: ls) st h P = z_T g d 116 11 (v0 :: .retAddr b :: ls) (.retAddr b :: st) h P := zt_aloadnS zi_116_10 rfl rfl
theorem zi_116_11 : z_ins 116 11 = some (.invokevirtual 40, 3) := by decide +kernel
theorem ze_116_11 : z_T g d 116 11 ls (.ref a :: st) h P = ((z_okS 8 st = true ∧ z_gO h.1 a 11 ∧ 0 < d) ∧ z_Ca g (d - 1) 127 [.ref a] h (fun r => z_kJ r (fun v h' => z_T g d 116 14 ls (z_push v st) h' P))) := zt_cV (as := []) (kk := 0) zi_116_11 rfl (zt_callJ zj_116) (z_opV ((congrArg (fun o => z_lookup z_cns (o, 40)) zo_116).trans zq_cns_java_lang_AbstractStringBuilder_40) ((congrArg (fun o => z_lookup z_prs (o, 40)) zo_116).trans zq_prs_java_lang_AbstractStringBuilder_40)) ((congrArg (fun o => z_clk o 40) zo_116).trans zk_java_lang_AbstractStringBuilder_40) rfl rfl rfl rfl (z_rcv0 zc_127)
theorem ze_116_11_r (hb : b < 6) : z_T g d 116 11 ls (.retAddr b :: st) h P = ((z_okS 8 st = true ∧ 0 < d) ∧ z_Ca g (d - 1) 127 [.retAddr b] h (fun r => z_kJ r (fun v h' => z_T g d 116 14 ls (z_push v st) h' P))) := zt_cS (as := [.retAddr b]) (kk := 0) zi_116_11 rfl (zt_callJ zj_116) (z_opV ((congrArg (fun o => z_lookup z_cns (o, 40)) zo_116).trans zq_cns_java_lang_AbstractStringBuilder_40) ((congrArg (fun o => z_lookup z_prs (o, 40)) zo_116).trans zq_prs_java_lang_AbstractStringBuilder_40)) ((congrArg (fun o => z_clk o 40) zo_116).trans zk_java_lang_AbstractStringBuilder_40) rfl rfl rfl rfl (z_rcvL hb zo_127)
theorem zi_116_14 : z_ins 116 14 = some (.if_icmp .eq 7, 3) := by decide +kernel
theorem ze_116_14 : z_T g d 116 14 ls (.int y :: .int x :: st) h P = (if x = y then z_T g d 116 21 ls st h P else z_T g d 116 17 ls st h P) := zt_icmpeq zi_116_14 (by decide)
theorem zi_116_17 : z_ins 116 17 = some (.aload_n 0, 1) := by decide +kernel
theorem ze_116_17 : z_T g d 116 17 (.ref a :: ls) st h P = z_T g d 116 18 (.ref a :: ls) (.ref a :: st) h P := zt_aloadn zi_116_17 rfl rfl
theorem zi_116_18 : z_ins 116 18 = some (.invokevirtual 195, 3) := by decide +kernel
theorem zi_116_21 : z_ins 116 21 = some (.return_, 1) := by decide +kernel
theorem ze_116_21 : z_T g d 116 21 ls [] h P = P (.inr none, h) := zt_return zi_116_21 zr_116
-- java/lang/AbstractStringBuilder.putStringAt(ILjava/lang/String;)V
theorem zm_117 : z_maxL 117 = 3 := by decide +kernel
theorem zh_117 : z_hds 117 = [] := by decide +kernel
theorem zj_117 : z_jdk 117 = true := by decide +kernel
theorem zr_117 : z_rt 117 = none := by decide +kernel
theorem zn_117 : z_Ca g d 117 [.ref a0, .int x1, .ref a2] h P = z_T g d 117 0 [.ref a0, .int x1, .ref a2] [] h P := z_Ca_ent zm_117 rfl rfl
theorem zn_117_l : z_Ca g d 117 [.ref a0, .int x1, .retAddr k2] h P = z_T g d 117 0 [.ref a0, .int x1, .retAddr k2] [] h P := z_Ca_ent zm_117 rfl rfl
theorem zi_117_0 : z_ins 117 0 = some (.aload_n 0, 1) := by decide +kernel
theorem ze_117_0 : z_T g d 117 0 (.ref a :: ls) st h P = z_T g d 117 1 (.ref a :: ls) (.ref a :: st) h P := zt_aloadn zi_117_0 rfl rfl
theorem zi_117_1 : z_ins 117 1 = some (.aload_n 2, 1) := by decide +kernel
theorem ze_117_1 : z_T g d 117 1 (v0 :: v1 :: .ref a :: ls) st h P = z_T g d 117 2 (v0 :: v1 :: .ref a :: ls) (.ref a :: st) h P := zt_aloadn zi_117_1 rfl rfl
theorem ze_117_1_s : z_T g d 117 1 (v0 :: v1 :: .retAddr b :: ls) st h P = z_T g d 117 2 (v0 :: v1 :: .retAddr b :: ls) (.retAddr b :: st) h P := zt_aloadnS zi_117_1 rfl rfl
theorem zi_117_2 : z_ins 117 2 = some (.invokevirtual 397, 3) := by decide +kernel
theorem ze_117_2 : z_T g d 117 2 ls (.ref a0 :: .ref a :: st) h P = ((z_okS 8 st = true ∧ z_gO h.1 a 12 ∧ 0 < d) ∧ z_Ca g (d - 1) 116 [.ref a, .ref a0] h (fun r => z_kJ r (fun v h' => z_T g d 117 5 ls (z_push v st) h' P))) := zt_cV (as := [.ref a0]) (kk := 0) zi_117_2 rfl (zt_callJ zj_117) (z_opV ((congrArg (fun o => z_lookup z_cns (o, 397)) zo_117).trans zq_cns_java_lang_AbstractStringBuilder_397) ((congrArg (fun o => z_lookup z_prs (o, 397)) zo_117).trans zq_prs_java_lang_AbstractStringBuilder_397)) ((congrArg (fun o => z_clk o 397) zo_117).trans zk_java_lang_AbstractStringBuilder_397) rfl rfl rfl rfl (z_rcv4 (by decide))
theorem ze_117_2_l : z_T g d 117 2 ls (.retAddr k0 :: .ref a :: st) h P = ((z_okS 8 st = true ∧ z_gO h.1 a 12 ∧ 0 < d) ∧ z_Ca g (d - 1) 116 [.ref a, .retAddr k0] h (fun r => z_kJ r (fun v h' => z_T g d 117 5 ls (z_push v st) h' P))) := zt_cV (as := [.retAddr k0]) (kk := 0) zi_117_2 rfl (zt_callJ zj_117) (z_opV ((congrArg (fun o => z_lookup z_cns (o, 397)) zo_117).trans zq_cns_java_lang_AbstractStringBuilder_397) ((congrArg (fun o => z_lookup z_prs (o, 397)) zo_117).trans zq_prs_java_lang_AbstractStringBuilder_397)) ((congrArg (fun o => z_clk o 397) zo_117).trans zk_java_lang_AbstractStringBuilder_397) rfl rfl rfl rfl (z_rcv4 (by decide))
theorem zi_117_5 : z_ins 117 5 = some (.aload_n 2, 1) := by decide +kernel
theorem ze_117_5 : z_T g d 117 5 (v0 :: v1 :: .ref a :: ls) st h P = z_T g d 117 6 (v0 :: v1 :: .ref a :: ls) (.ref a :: st) h P := zt_aloadn zi_117_5 rfl rfl
theorem ze_117_5_s : z_T g d 117 5 (v0 :: v1 :: .retAddr b :: ls) st h P = z_T g d 117 6 (v0 :: v1 :: .retAddr b :: ls) (.retAddr b :: st) h P := zt_aloadnS zi_117_5 rfl rfl
theorem zi_117_6 : z_ins 117 6 = some (.aload_n 0, 1) := by decide +kernel
theorem ze_117_6 : z_T g d 117 6 (.ref a :: ls) st h P = z_T g d 117 7 (.ref a :: ls) (.ref a :: st) h P := zt_aloadn zi_117_6 rfl rfl
theorem zi_117_7 : z_ins 117 7 = some (.getfield 15, 3) := by decide +kernel
theorem ze_117_7 : z_T g d 117 7 ls (.ref a :: st) h P = z_gR h.1 a 12 0 (fun x => z_T g d 117 10 ls (x :: st) h P) := zt_getR zi_117_7 ((congrArg (fun o => z_fl o 15) zo_117).trans zf_java_lang_AbstractStringBuilder_15)
theorem zi_117_10 : z_ins 117 10 = some (.iload_n 1, 1) := by decide +kernel
theorem ze_117_10 : z_T g d 117 10 (v0 :: .int x :: ls) st h P = z_T g d 117 11 (v0 :: .int x :: ls) (.int x :: st) h P := zt_iloadn zi_117_10 rfl rfl
theorem zi_117_11 : z_ins 117 11 = some (.aload_n 0, 1) := by decide +kernel
theorem ze_117_11 : z_T g d 117 11 (.ref a :: ls) st h P = z_T g d 117 12 (.ref a :: ls) (.ref a :: st) h P := zt_aloadn zi_117_11 rfl rfl
theorem zi_117_12 : z_ins 117 12 = some (.getfield 22, 3) := by decide +kernel
theorem ze_117_12 : z_T g d 117 12 ls (.ref a :: st) h P = z_gI h.1 a 12 1 (fun x => z_T g d 117 15 ls (.int x :: st) h P) := zt_getI zi_117_12 ((congrArg (fun o => z_fl o 22) zo_117).trans zf_java_lang_AbstractStringBuilder_22)
theorem zi_117_15 : z_ins 117 15 = some (.invokevirtual 399, 3) := by decide +kernel
theorem ze_117_15 : z_T g d 117 15 ls (.int x2 :: .int x1 :: .ref a0 :: .ref a :: st) h P = ((z_okS 8 st = true ∧ z_gO h.1 a 11 ∧ 0 < d) ∧ z_Ca g (d - 1) 125 [.ref a, .ref a0, .int x1, .int x2] h (fun r => z_kJ r (fun v h' => z_T g d 117 18 ls (z_push v st) h' P))) := zt_cV (as := [.ref a0, .int x1, .int x2]) (kk := 0) zi_117_15 rfl (zt_callJ zj_117) (z_opV ((congrArg (fun o => z_lookup z_cns (o, 399)) zo_117).trans zq_cns_java_lang_AbstractStringBuilder_399) ((congrArg (fun o => z_lookup z_prs (o, 399)) zo_117).trans zq_prs_java_lang_AbstractStringBuilder_399)) ((congrArg (fun o => z_clk o 399) zo_117).trans zk_java_lang_AbstractStringBuilder_399) rfl rfl rfl rfl (z_rcv0 zc_125)
theorem ze_117_15_r (hb : b < 6) : z_T g d 117 15 ls (.int x2 :: .int x1 :: .ref a0 :: .retAddr b :: st) h P = ((z_okS 8 st = true ∧ 0 < d) ∧ z_Ca g (d - 1) 125 [.retAddr b, .ref a0, .int x1, .int x2] h (fun r => z_kJ r (fun v h' => z_T g d 117 18 ls (z_push v st) h' P))) := zt_cS (as := [.retAddr b, .ref a0, .int x1, .int x2]) (kk := 0) zi_117_15 rfl (zt_callJ zj_117) (z_opV ((congrArg (fun o => z_lookup z_cns (o, 399)) zo_117).trans zq_cns_java_lang_AbstractStringBuilder_399) ((congrArg (fun o => z_lookup z_prs (o, 399)) zo_117).trans zq_prs_java_lang_AbstractStringBuilder_399)) ((congrArg (fun o => z_clk o 399) zo_117).trans zk_java_lang_AbstractStringBuilder_399) rfl rfl rfl rfl (z_rcvL hb zo_125)
theorem zi_117_18 : z_ins 117 18 = some (.return_, 1) := by decide +kernel
theorem ze_117_18 : z_T g d 117 18 ls [] h P = P (.inr none, h) := zt_return zi_117_18 zr_117
-- java/lang/Integer.getChars(II[B)I
theorem zm_118 : z_maxL 118 = 7 := by decide +kernel
theorem zh_118 : z_hds 118 = [] := by decide +kernel
theorem zj_118 : z_jdk 118 = false := by decide +kernel
theorem zr_118 : z_rt 118 = (some .int) := by decide +kernel
theorem zn_118 : z_Ca g d 118 [.int x0, .int x1, .ref a2] h P = z_T g d 118 0 [.int x0, .int x1, .ref a2, z_un, z_un, z_un, z_un] [] h P := z_Ca_ent zm_118 rfl rfl
theorem zi_118_0 : z_ins 118 0 = some (.iload_n 1, 1) := by decide +kernel
theorem ze_118_0 : z_T g d 118 0 (v0 :: .int x :: ls) st h P = z_T g d 118 1 (v0 :: .int x :: ls) (.int x :: st) h P := zt_iloadn zi_118_0 rfl rfl
theorem zi_118_1 : z_ins 118 1 = some (.istore 5, 2) := by decide +kernel
theorem ze_118_1 : z_T g d 118 1 (v0 :: v1 :: v2 :: v3 :: v4 :: v5 :: ls) (.int x :: st) h P = z_T g d 118 3 (v0 :: v1 :: v2 :: v3 :: v4 :: .int x :: ls) st h P := zt_istore zi_118_1 (Nat.le_add_left 6 _)
theorem zi_118_3 : z_ins 118 3 = some (.iload_n 0, 1) := by decide +kernel
theorem ze_118_3 : z_T g d 118 3 (.int x :: ls) st h P = z_T g d 118 4 (.int x :: ls) (.int x :: st) h P := zt_iloadn zi_118_3 rfl rfl
theorem zi_118_4 : z_ins 118 4 = some (.ifCond .ge 7, 3) := by decide +kernel
theorem ze_118_4 : z_T g d 118 4 ls (.int x :: st) h P = (if x < nI 0 then z_T g d 118 7 ls st h P else z_T g d 118 11 ls st h P) := zt_ifge zi_118_4 (by decide)
theorem zi_118_7 : z_ins 118 7 = some (.iconst 1, 1) := by decide +kernel
theorem ze_118_7 : z_T g d 118 7 ls st h P = z_T g d 118 8 ls (.int (nI 1) :: st) h P := zt_iconst zi_118_7 rfl
theorem zi_118_8 : z_ins 118 8 = some (.goto 4, 3) := by decide +kernel
theorem ze_118_8 : z_T g d 118 8 ls st h P = z_T g d 118 12 ls st h P := zt_goto zi_118_8 (by decide)
theorem zi_118_11 : z_ins 118 11 = some (.iconst 0, 1) := by decide +kernel
theorem ze_118_11 : z_T g d 118 11 ls st h P = z_T g d 118 12 ls (.int (nI 0) :: st) h P := zt_iconst zi_118_11 rfl
theorem zi_118_12 : z_ins 118 12 = some (.istore 6, 2) := by decide +kernel
theorem ze_118_12 : z_T g d 118 12 (v0 :: v1 :: v2 :: v3 :: v4 :: v5 :: v6 :: ls) (.int x :: st) h P = z_T g d 118 14 (v0 :: v1 :: v2 :: v3 :: v4 :: v5 :: .int x :: ls) st h P := zt_istore zi_118_12 (Nat.le_add_left 7 _)
theorem zi_118_14 : z_ins 118 14 = some (.iload 6, 2) := by decide +kernel
theorem ze_118_14 : z_T g d 118 14 (v0 :: v1 :: v2 :: v3 :: v4 :: v5 :: .int x :: ls) st h P = z_T g d 118 16 (v0 :: v1 :: v2 :: v3 :: v4 :: v5 :: .int x :: ls) (.int x :: st) h P := zt_iload zi_118_14 rfl
theorem zi_118_16 : z_ins 118 16 = some (.ifCond .ne 6, 3) := by decide +kernel
theorem ze_118_16 : z_T g d 118 16 ls (.int x :: st) h P = (if x = nI 0 then z_T g d 118 19 ls st h P else z_T g d 118 22 ls st h P) := zt_ifne zi_118_16 (by decide)
theorem zi_118_19 : z_ins 118 19 = some (.iload_n 0, 1) := by decide +kernel
theorem ze_118_19 : z_T g d 118 19 (.int x :: ls) st h P = z_T g d 118 20 (.int x :: ls) (.int x :: st) h P := zt_iloadn zi_118_19 rfl rfl
theorem zi_118_20 : z_ins 118 20 = some (.ineg, 1) := by decide +kernel
theorem ze_118_20 : z_T g d 118 20 ls (.int x :: st) h P = z_T g d 118 21 ls (.int (-x) :: st) h P := zt_ineg zi_118_20
theorem zi_118_21 : z_ins 118 21 = some (.istore_n 0, 1) := by decide +kernel
theorem ze_118_21 : z_T g d 118 21 (v0 :: ls) (.int x :: st) h P = z_T g d 118 22 (.int x :: ls) st h P := zt_istoren zi_118_21 rfl (Nat.le_add_left 1 _)
theorem zi_118_22 : z_ins 118 22 = some (.iload_n 0, 1) := by decide +kernel
theorem ze_118_22 : z_T g d 118 22 (.int x :: ls) st h P = z_T g d 118 23 (.int x :: ls) (.int x :: st) h P := zt_iloadn zi_118_22 rfl rfl
theorem zi_118_23 : z_ins 118 23 = some (.bipush (-100), 2) := by decide +kernel
theorem ze_118_23 : z_T g d 118 23 ls st h P = z_T g d 118 25 ls (.int (-100) :: st) h P := zt_bipush zi_118_23 rfl
theorem zi_118_25 : z_ins 118 25 = some (.if_icmp .gt 47, 3) := by decide +kernel
theorem ze_118_25 : z_T g d 118 25 ls (.int y :: .int x :: st) h P = (if y < x then z_T g d 118 72 ls st h P else z_T g d 118 28 ls st h P) := zt_icmpgt zi_118_25 (by decide)
theorem zi_118_28 : z_ins 118 28 = some (.iload_n 0, 1) := by decide +kernel
theorem ze_118_28 : z_T g d 118 28 (.int x :: ls) st h P = z_T g d 118 29 (.int x :: ls) (.int x :: st) h P := zt_iloadn zi_118_28 rfl rfl
theorem zi_118_29 : z_ins 118 29 = some (.bipush 100, 2) := by decide +kernel
theorem ze_118_29 : z_T g d 118 29 ls st h P = z_T g d 118 31 ls (.int (nI 100) :: st) h P := zt_bipush zi_118_29 rfl
theorem zi_118_31 : z_ins 118 31 = some (.idiv, 1) := by decide +kernel
theorem ze_118_31 : z_T g d 118 31 ls (.int y :: .int x :: st) h P = (¬ y = nI 0 ∧ z_T g d 118 32 ls (.int (x / y) :: st) h P) := zt_idiv zi_118_31
theorem zi_118_32 : z_ins 118 32 = some (.istore_n 3, 1) := by decide +kernel
theorem ze_118_32 : z_T g d 118 32 (v0 :: v1 :: v2 :: v3 :: ls) (.int x :: st) h P = z_T g d 118 33 (v0 :: v1 :: v2 :: .int x :: ls) st h P := zt_istoren zi_118_32 rfl (Nat.le_add_left 4 _)
theorem zi_118_33 : z_ins 118 33 = some (.iload_n 3, 1) := by decide +kernel
theorem ze_118_33 : z_T g d 118 33 (v0 :: v1 :: v2 :: .int x :: ls) st h P = z_T g d 118 34 (v0 :: v1 :: v2 :: .int x :: ls) (.int x :: st) h P := zt_iloadn zi_118_33 rfl rfl
theorem zi_118_34 : z_ins 118 34 = some (.bipush 100, 2) := by decide +kernel
theorem ze_118_34 : z_T g d 118 34 ls st h P = z_T g d 118 36 ls (.int (nI 100) :: st) h P := zt_bipush zi_118_34 rfl
theorem zi_118_36 : z_ins 118 36 = some (.imul, 1) := by decide +kernel
theorem ze_118_36 : z_T g d 118 36 ls (.int y :: .int x :: st) h P = z_T g d 118 37 ls (.int (x * y) :: st) h P := zt_bin (f := fun x y => x * y) zi_118_36 rfl (fun _ _ _ => rfl)
theorem zi_118_37 : z_ins 118 37 = some (.iload_n 0, 1) := by decide +kernel
theorem ze_118_37 : z_T g d 118 37 (.int x :: ls) st h P = z_T g d 118 38 (.int x :: ls) (.int x :: st) h P := zt_iloadn zi_118_37 rfl rfl
theorem zi_118_38 : z_ins 118 38 = some (.isub, 1) := by decide +kernel
theorem ze_118_38 : z_T g d 118 38 ls (.int y :: .int x :: st) h P = z_T g d 118 39 ls (.int (x - y) :: st) h P := zt_bin (f := fun x y => x - y) zi_118_38 rfl (fun _ _ _ => rfl)
theorem zi_118_39 : z_ins 118 39 = some (.istore 4, 2) := by decide +kernel
theorem ze_118_39 : z_T g d 118 39 (v0 :: v1 :: v2 :: v3 :: v4 :: ls) (.int x :: st) h P = z_T g d 118 41 (v0 :: v1 :: v2 :: v3 :: .int x :: ls) st h P := zt_istore zi_118_39 (Nat.le_add_left 5 _)
theorem zi_118_41 : z_ins 118 41 = some (.iload_n 3, 1) := by decide +kernel
theorem ze_118_41 : z_T g d 118 41 (v0 :: v1 :: v2 :: .int x :: ls) st h P = z_T g d 118 42 (v0 :: v1 :: v2 :: .int x :: ls) (.int x :: st) h P := zt_iloadn zi_118_41 rfl rfl
theorem zi_118_42 : z_ins 118 42 = some (.istore_n 0, 1) := by decide +kernel
theorem ze_118_42 : z_T g d 118 42 (v0 :: ls) (.int x :: st) h P = z_T g d 118 43 (.int x :: ls) st h P := zt_istoren zi_118_42 rfl (Nat.le_add_left 1 _)
theorem zi_118_43 : z_ins 118 43 = some (.aload_n 2, 1) := by decide +kernel
theorem ze_118_43 : z_T g d 118 43 (v0 :: v1 :: .ref a :: ls) st h P = z_T g d 118 44 (v0 :: v1 :: .ref a :: ls) (.ref a :: st) h P := zt_aloadn zi_118_43 rfl rfl
theorem zi_118_44 : z_ins 118 44 = some (.iinc 5 (-1), 3) := by decide +kernel
theorem ze_118_44 : z_T g d 118 44 (v0 :: v1 :: v2 :: v3 :: v4 :: .int x :: ls) st h P = z_T g d 118 47 (v0 :: v1 :: v2 :: v3 :: v4 :: .int (x + (-1)) :: ls) st h P := zt_iinc zi_118_44 rfl rfl
theorem zi_118_47 : z_ins 118 47 = some (.iload 5, 2) := by decide +kernel
theorem ze_118_47 : z_T g d 118 47 (v0 :: v1 :: v2 :: v3 :: v4 :: .int x :: ls) st h P = z_T g d 118 49 (v0 :: v1 :: v2 :: v3 :: v4 :: .int x :: ls) (.int x :: st) h P := zt_iload zi_118_47 rfl
theorem zi_118_49 : z_ins 118 49 = some (.getstatic 83, 3) := by decide +kernel
theorem ze_118_49 : z_T g d 118 49 ls st h P = z_T g d 118 52 ls (.retAddr 97 :: st) h P := zt_static zi_118_49 ((congrArg (fun o => z_lookup z_gss (o, 83)) zo_118).trans zq_gss_java_lang_Integer_83) rfl
theorem zi_118_52 : z_ins 118 52 = some (.iload 4, 2) := by decide +kernel
theorem ze_118_52 : z_T g d 118 52 (v0 :: v1 :: v2 :: v3 :: .int x :: ls) st h P = z_T g d 118 54 (v0 :: v1 :: v2 :: v3 :: .int x :: ls) (.int x :: st) h P := zt_iload zi_118_52 rfl
theorem zi_118_54 : z_ins 118 54 = some (.baload, 1) := by decide +kernel
theorem ze_118_54 : z_T g d 118 54 ls (.int x :: .ref a :: st) h P = z_aL h.1 a z_tB x (fun v => z_T g d 118 55 ls (.int v :: st) h P) := zt_baload zi_118_54
theorem ze_118_54_s (hx : z_idx x 10 = true) : z_T g d 118 54 ls (.int x :: .retAddr 97 :: st) h P = z_T g d 118 55 ls (.int (nI (48 + x.toNatClampNeg)) :: st) h P := zt_digit zi_118_54 hx
theorem zi_118_55 : z_ins 118 55 = some (.bastore, 1) := by decide +kernel
theorem ze_118_55 : z_T g d 118 55 ls (.int y :: .int x :: .ref a :: st) h P = z_aS h.1 a z_tB x y (fun f => z_T g d 118 56 ls st (f, h.2) P) := zt_bastore zi_118_55
theorem zi_118_56 : z_ins 118 56 = some (.aload_n 2, 1) := by decide +kernel
theorem ze_118_56 : z_T g d 118 56 (v0 :: v1 :: .ref a :: ls) st h P = z_T g d 118 57 (v0 :: v1 :: .ref a :: ls) (.ref a :: st) h P := zt_aloadn zi_118_56 rfl rfl
theorem zi_118_57 : z_ins 118 57 = some (.iinc 5 (-1), 3) := by decide +kernel
theorem ze_118_57 : z_T g d 118 57 (v0 :: v1 :: v2 :: v3 :: v4 :: .int x :: ls) st h P = z_T g d 118 60 (v0 :: v1 :: v2 :: v3 :: v4 :: .int (x + (-1)) :: ls) st h P := zt_iinc zi_118_57 rfl rfl
theorem zi_118_60 : z_ins 118 60 = some (.iload 5, 2) := by decide +kernel
theorem ze_118_60 : z_T g d 118 60 (v0 :: v1 :: v2 :: v3 :: v4 :: .int x :: ls) st h P = z_T g d 118 62 (v0 :: v1 :: v2 :: v3 :: v4 :: .int x :: ls) (.int x :: st) h P := zt_iload zi_118_60 rfl
theorem zi_118_62 : z_ins 118 62 = some (.getstatic 87, 3) := by decide +kernel
theorem zi_118_65 : z_ins 118 65 = some (.iload 4, 2) := by decide +kernel
theorem ze_118_65 : z_T g d 118 65 (v0 :: v1 :: v2 :: v3 :: .int x :: ls) st h P = z_T g d 118 67 (v0 :: v1 :: v2 :: v3 :: .int x :: ls) (.int x :: st) h P := zt_iload zi_118_65 rfl
theorem zi_118_67 : z_ins 118 67 = some (.baload, 1) := by decide +kernel
theorem ze_118_67 : z_T g d 118 67 ls (.int x :: .ref a :: st) h P = z_aL h.1 a z_tB x (fun v => z_T g d 118 68 ls (.int v :: st) h P) := zt_baload zi_118_67
theorem ze_118_67_s (hx : z_idx x 10 = true) : z_T g d 118 67 ls (.int x :: .retAddr 97 :: st) h P = z_T g d 118 68 ls (.int (nI (48 + x.toNatClampNeg)) :: st) h P := zt_digit zi_118_67 hx
theorem zi_118_68 : z_ins 118 68 = some (.bastore, 1) := by decide +kernel
theorem ze_118_68 : z_T g d 118 68 ls (.int y :: .int x :: .ref a :: st) h P = z_aS h.1 a z_tB x y (fun f => z_T g d 118 69 ls st (f, h.2) P) := zt_bastore zi_118_68
theorem zi_118_69 : z_ins 118 69 = some (.goto (-47), 3) := by decide +kernel
theorem ze_118_69 : z_T g d 118 69 ls st h P = z_T g d 118 22 ls st h P := zt_goto zi_118_69 (by decide)
theorem zi_118_72 : z_ins 118 72 = some (.aload_n 2, 1) := by decide +kernel
theorem ze_118_72 : z_T g d 118 72 (v0 :: v1 :: .ref a :: ls) st h P = z_T g d 118 73 (v0 :: v1 :: .ref a :: ls) (.ref a :: st) h P := zt_aloadn zi_118_72 rfl rfl
theorem zi_118_73 : z_ins 118 73 = some (.iinc 5 (-1), 3) := by decide +kernel
theorem ze_118_73 : z_T g d 118 73 (v0 :: v1 :: v2 :: v3 :: v4 :: .int x :: ls) st h P = z_T g d 118 76 (v0 :: v1 :: v2 :: v3 :: v4 :: .int (x + (-1)) :: ls) st h P := zt_iinc zi_118_73 rfl rfl
theorem zi_118_76 : z_ins 118 76 = some (.iload 5, 2) := by decide +kernel
theorem ze_118_76 : z_T g d 118 76 (v0 :: v1 :: v2 :: v3 :: v4 :: .int x :: ls) st h P = z_T g d 118 78 (v0 :: v1 :: v2 :: v3 :: v4 :: .int x :: ls) (.int x :: st) h P := zt_iload zi_118_76 rfl
theorem zi_118_78 : z_ins 118 78 = some (.getstatic 83, 3) := by decide +kernel
theorem ze_118_78 : z_T g d 118 78 ls st h P = z_T g d 118 81 ls (.retAddr 97 :: st) h P := zt_static zi_118_78 ((congrArg (fun o => z_lookup z_gss (o, 83)) zo_118).trans zq_gss_java_lang_Integer_83) rfl
theorem zi_118_81 : z_ins 118 81 = some (.iload_n 0, 1) := by decide +kernel
theorem ze_118_81 : z_T g d 118 81 (.int x :: ls) st h P = z_T g d 118 82 (.int x :: ls) (.int x :: st) h P := zt_iloadn zi_118_81 rfl rfl
theorem zi_118_82 : z_ins 118 82 = some (.ineg, 1) := by decide +kernel
theorem ze_118_82 : z_T g d 118 82 ls (.int x :: st) h P = z_T g d 118 83 ls (.int (-x) :: st) h P := zt_ineg zi_118_82
theorem zi_118_83 : z_ins 118 83 = some (.baload, 1) := by decide +kernel
theorem ze_118_83 : z_T g d 118 83 ls (.int x :: .ref a :: st) h P = z_aL h.1 a z_tB x (fun v => z_T g d 118 84 ls (.int v :: st) h P) := zt_baload zi_118_83
theorem ze_118_83_s (hx : z_idx x 10 = true) : z_T g d 118 83 ls (.int x :: .retAddr 97 :: st) h P = z_T g d 118 84 ls (.int (nI (48 + x.toNatClampNeg)) :: st) h P := zt_digit zi_118_83 hx
theorem zi_118_84 : z_ins 118 84 = some (.bastore, 1) := by decide +kernel
theorem ze_118_84 : z_T g d 118 84 ls (.int y :: .int x :: .ref a :: st) h P = z_aS h.1 a z_tB x y (fun f => z_T g d 118 85 ls st (f, h.2) P) := zt_bastore zi_118_84
theorem zi_118_85 : z_ins 118 85 = some (.iload_n 0, 1) := by decide +kernel
theorem ze_118_85 : z_T g d 118 85 (.int x :: ls) st h P = z_T g d 118 86 (.int x :: ls) (.int x :: st) h P := zt_iloadn zi_118_85 rfl rfl
theorem zi_118_86 : z_ins 118 86 = some (.bipush (-9), 2) := by decide +kernel
theorem ze_118_86 : z_T g d 118 86 ls st h P = z_T g d 118 88 ls (.int (-9) :: st) h P := zt_bipush zi_118_86 rfl
theorem zi_118_88 : z_ins 118 88 = some (.if_icmp .ge 16, 3) := by decide +kernel
theorem ze_118_88 : z_T g d 118 88 ls (.int y :: .int x :: st) h P = (if x < y then z_T g d 118 91 ls st h P else z_T g d 118 104 ls st h P) := zt_icmpge zi_118_88 (by decide)
theorem zi_118_91 : z_ins 118 91 = some (.aload_n 2, 1) := by decide +kernel
theorem ze_118_91 : z_T g d 118 91 (v0 :: v1 :: .ref a :: ls) st h P = z_T g d 118 92 (v0 :: v1 :: .ref a :: ls) (.ref a :: st) h P := zt_aloadn zi_118_91 rfl rfl
theorem zi_118_92 : z_ins 118 92 = some (.iinc 5 (-1), 3) := by decide +kernel
theorem ze_118_92 : z_T g d 118 92 (v0 :: v1 :: v2 :: v3 :: v4 :: .int x :: ls) st h P = z_T g d 118 95 (v0 :: v1 :: v2 :: v3 :: v4 :: .int (x + (-1)) :: ls) st h P := zt_iinc zi_118_92 rfl rfl
theorem zi_118_95 : z_ins 118 95 = some (.iload 5, 2) := by decide +kernel
theorem ze_118_95 : z_T g d 118 95 (v0 :: v1 :: v2 :: v3 :: v4 :: .int x :: ls) st h P = z_T g d 118 97 (v0 :: v1 :: v2 :: v3 :: v4 :: .int x :: ls) (.int x :: st) h P := zt_iload zi_118_95 rfl
theorem zi_118_97 : z_ins 118 97 = some (.getstatic 87, 3) := by decide +kernel
theorem zi_118_100 : z_ins 118 100 = some (.iload_n 0, 1) := by decide +kernel
theorem ze_118_100 : z_T g d 118 100 (.int x :: ls) st h P = z_T g d 118 101 (.int x :: ls) (.int x :: st) h P := zt_iloadn zi_118_100 rfl rfl
theorem zi_118_101 : z_ins 118 101 = some (.ineg, 1) := by decide +kernel
theorem ze_118_101 : z_T g d 118 101 ls (.int x :: st) h P = z_T g d 118 102 ls (.int (-x) :: st) h P := zt_ineg zi_118_101
theorem zi_118_102 : z_ins 118 102 = some (.baload, 1) := by decide +kernel
theorem ze_118_102 : z_T g d 118 102 ls (.int x :: .ref a :: st) h P = z_aL h.1 a z_tB x (fun v => z_T g d 118 103 ls (.int v :: st) h P) := zt_baload zi_118_102
theorem ze_118_102_s (hx : z_idx x 10 = true) : z_T g d 118 102 ls (.int x :: .retAddr 97 :: st) h P = z_T g d 118 103 ls (.int (nI (48 + x.toNatClampNeg)) :: st) h P := zt_digit zi_118_102 hx
theorem zi_118_103 : z_ins 118 103 = some (.bastore, 1) := by decide +kernel
theorem ze_118_103 : z_T g d 118 103 ls (.int y :: .int x :: .ref a :: st) h P = z_aS h.1 a z_tB x y (fun f => z_T g d 118 104 ls st (f, h.2) P) := zt_bastore zi_118_103
theorem zi_118_104 : z_ins 118 104 = some (.iload 6, 2) := by decide +kernel
theorem ze_118_104 : z_T g d 118 104 (v0 :: v1 :: v2 :: v3 :: v4 :: v5 :: .int x :: ls) st h P = z_T g d 118 106 (v0 :: v1 :: v2 :: v3 :: v4 :: v5 :: .int x :: ls) (.int x :: st) h P := zt_iload zi_118_104 rfl
theorem zi_118_106 : z_ins 118 106 = some (.ifCond .eq 12, 3) := by decide +kernel
theorem ze_118_106 : z_T g d 118 106 ls (.int x :: st) h P = (if x = nI 0 then z_T g d 118 118 ls st h P else z_T g d 118 109 ls st h P) := zt_ifeq zi_118_106 (by decide)
theorem zi_118_109 : z_ins 118 109 = some (.aload_n 2, 1) := by decide +kernel
theorem ze_118_109 : z_T g d 118 109 (v0 :: v1 :: .ref a :: ls) st h P = z_T g d 118 110 (v0 :: v1 :: .ref a :: ls) (.ref a :: st) h P := zt_aloadn zi_118_109 rfl rfl
theorem zi_118_110 : z_ins 118 110 = some (.iinc 5 (-1), 3) := by decide +kernel
theorem ze_118_110 : z_T g d 118 110 (v0 :: v1 :: v2 :: v3 :: v4 :: .int x :: ls) st h P = z_T g d 118 113 (v0 :: v1 :: v2 :: v3 :: v4 :: .int (x + (-1)) :: ls) st h P := zt_iinc zi_118_110 rfl rfl
theorem zi_118_113 : z_ins 118 113 = some (.iload 5, 2) := by decide +kernel
theorem ze_118_113 : z_T g d 118 113 (v0 :: v1 :: v2 :: v3 :: v4 :: .int x :: ls) st h P = z_T g d 118 115 (v0 :: v1 :: v2 :: v3 :: v4 :: .int x :: ls) (.int x :: st) h P := zt_iload zi_118_113 rfl
theorem zi_118_115 : z_ins 118 115 = some (.bipush 45, 2) := by decide +kernel
theorem ze_118_115 : z_T g d 118 115 ls st h P = z_T g d 118 117 ls (.int (nI 45) :: st) h P := zt_bipush zi_118_115 rfl
theorem zi_118_117 : z_ins 118 117 = some (.bastore, 1) := by decide +kernel
theorem ze_118_117 : z_T g d 118 117 ls (.int y :: .int x :: .ref a :: st) h P = z_aS h.1 a z_tB x y (fun f => z_T g d 118 118 ls st (f, h.2) P) := zt_bastore zi_118_117
theorem zi_118_118 : z_ins 118 118 = some (.iload 5, 2) := by decide +kernel
theorem ze_118_118 : z_T g d 118 118 (v0 :: v1 :: v2 :: v3 :: v4 :: .int x :: ls) st h P = z_T g d 118 120 (v0 :: v1 :: v2 :: v3 :: v4 :: .int x :: ls) (.int x :: st) h P := zt_iload zi_118_118 rfl
theorem zi_118_120 : z_ins 118 120 = some (.ireturn, 1) := by decide +kernel
theorem ze_118_120 : z_T g d 118 120 ls [.int x] h P = P (.inr (some (.int x)), h) := zt_ireturn zi_118_120 zr_118
-- java/lang/Integer.stringSize(I)I
theorem zm_119 : z_maxL 119 = 4 := by decide +kernel
theorem zh_119 : z_hds 119 = [] := by decide +kernel
theorem zj_119 : z_jdk 119 = false := by decide +kernel
theorem zr_119 : z_rt 119 = (some .int) := by decide +kernel
theorem zn_119 : z_Ca g d 119 [.int x0] h P = z_T g d 119 0 [.int x0, z_un, z_un, z_un] [] h P := z_Ca_ent zm_119 rfl rfl
theorem zi_119_0 : z_ins 119 0 = some (.iconst 1, 1) := by decide +kernel
theorem ze_119_0 : z_T g d 119 0 ls st h P = z_T g d 119 1 ls (.int (nI 1) :: st) h P := zt_iconst zi_119_0 rfl
theorem zi_119_1 : z_ins 119 1 = some (.istore_n 1, 1) := by decide +kernel
theorem ze_119_1 : z_T g d 119 1 (v0 :: v1 :: ls) (.int x :: st) h P = z_T g d 119 2 (v0 :: .int x :: ls) st h P := zt_istoren zi_119_1 rfl (Nat.le_add_left 2 _)
theorem zi_119_2 : z_ins 119 2 = some (.iload_n 0, 1) := by decide +kernel
theorem ze_119_2 : z_T g d 119 2 (.int x :: ls) st h P = z_T g d 119 3 (.int x :: ls) (.int x :: st) h P := zt_iloadn zi_119_2 rfl rfl
theorem zi_119_3 : z_ins 119 3 = some (.ifCond .lt 8, 3) := by decide +kernel
theorem ze_119_3 : z_T g d 119 3 ls (.int x :: st) h P = (if x < nI 0 then z_T g d 119 11 ls st h P else z_T g d 119 6 ls st h P) := zt_iflt zi_119_3 (by decide)
theorem zi_119_6 : z_ins 119 6 = some (.iconst 0, 1) := by decide +kernel
theorem ze_119_6 : z_T g d 119 6 ls st h P = z_T g d 119 7 ls (.int (nI 0) :: st) h P := zt_iconst zi_119_6 rfl
theorem zi_119_7 : z_ins 119 7 = some (.istore_n 1, 1) := by decide +kernel
theorem ze_119_7 : z_T g d 119 7 (v0 :: v1 :: ls) (.int x :: st) h P = z_T g d 119 8 (v0 :: .int x :: ls) st h P := zt_istoren zi_119_7 rfl (Nat.le_add_left 2 _)
theorem zi_119_8 : z_ins 119 8 = some (.iload_n 0, 1) := by decide +kernel
theorem ze_119_8 : z_T g d 119 8 (.int x :: ls) st h P = z_T g d 119 9 (.int x :: ls) (.int x :: st) h P := zt_iloadn zi_119_8 rfl rfl
theorem zi_119_9 : z_ins 119 9 = some (.ineg, 1) := by decide +kernel
theorem ze_119_9 : z_T g d 119 9 ls (.int x :: st) h P = z_T g d 119 10 ls (.int (-x) :: st) h P := zt_ineg zi_119_9
theorem zi_119_10 : z_ins 119 10 = some (.istore_n 0, 1) := by decide +kernel
theorem ze_119_10 : z_T g d 119 10 (v0 :: ls) (.int x :: st) h P = z_T g d 119 11 (.int x :: ls) st h P := zt_istoren zi_119_10 rfl (Nat.le_add_left 1 _)
theorem zi_119_11 : z_ins 119 11 = some (.bipush (-10), 2) := by decide +kernel
theorem ze_119_11 : z_T g d 119 11 ls st h P = z_T g d 119 13 ls (.int (-10) :: st) h P := zt_bipush zi_119_11 rfl
theorem zi_119_13 : z_ins 119 13 = some (.istore_n 2, 1) := by decide +kernel
theorem ze_119_13 : z_T g d 119 13 (v0 :: v1 :: v2 :: ls) (.int x :: st) h P = z_T g d 119 14 (v0 :: v1 :: .int x :: ls) st h P := zt_istoren zi_119_13 rfl (Nat.le_add_left 3 _)
theorem zi_119_14 : z_ins 119 14 = some (.iconst 1, 1) := by decide +kernel
theorem ze_119_14 : z_T g d 119 14 ls st h P = z_T g d 119 15 ls (.int (nI 1) :: st) h P := zt_iconst zi_119_14 rfl
theorem zi_119_15 : z_ins 119 15 = some (.istore_n 3, 1) := by decide +kernel
theorem ze_119_15 : z_T g d 119 15 (v0 :: v1 :: v2 :: v3 :: ls) (.int x :: st) h P = z_T g d 119 16 (v0 :: v1 :: v2 :: .int x :: ls) st h P := zt_istoren zi_119_15 rfl (Nat.le_add_left 4 _)
theorem zi_119_16 : z_ins 119 16 = some (.iload_n 3, 1) := by decide +kernel
theorem ze_119_16 : z_T g d 119 16 (v0 :: v1 :: v2 :: .int x :: ls) st h P = z_T g d 119 17 (v0 :: v1 :: v2 :: .int x :: ls) (.int x :: st) h P := zt_iloadn zi_119_16 rfl rfl
theorem zi_119_17 : z_ins 119 17 = some (.bipush 10, 2) := by decide +kernel
theorem ze_119_17 : z_T g d 119 17 ls st h P = z_T g d 119 19 ls (.int (nI 10) :: st) h P := zt_bipush zi_119_17 rfl
theorem zi_119_19 : z_ins 119 19 = some (.if_icmp .ge 23, 3) := by decide +kernel
theorem ze_119_19 : z_T g d 119 19 ls (.int y :: .int x :: st) h P = (if x < y then z_T g d 119 22 ls st h P else z_T g d 119 42 ls st h P) := zt_icmpge zi_119_19 (by decide)
theorem zi_119_22 : z_ins 119 22 = some (.iload_n 0, 1) := by decide +kernel
theorem ze_119_22 : z_T g d 119 22 (.int x :: ls) st h P = z_T g d 119 23 (.int x :: ls) (.int x :: st) h P := zt_iloadn zi_119_22 rfl rfl
theorem zi_119_23 : z_ins 119 23 = some (.iload_n 2, 1) := by decide +kernel
theorem ze_119_23 : z_T g d 119 23 (v0 :: v1 :: .int x :: ls) st h P = z_T g d 119 24 (v0 :: v1 :: .int x :: ls) (.int x :: st) h P := zt_iloadn zi_119_23 rfl rfl
theorem zi_119_24 : z_ins 119 24 = some (.if_icmp .le 7, 3) := by decide +kernel
theorem ze_119_24 : z_T g d 119 24 ls (.int y :: .int x :: st) h P = (if y < x then z_T g d 119 27 ls st h P else z_T g d 119 31 ls st h P) := zt_icmple zi_119_24 (by decide)
theorem zi_119_27 : z_ins 119 27 = some (.iload_n 3, 1) := by decide +kernel
theorem ze_119_27 : z_T g d 119 27 (v0 :: v1 :: v2 :: .int x :: ls) st h P = z_T g d 119 28 (v0 :: v1 :: v2 :: .int x :: ls) (.int x :: st) h P := zt_iloadn zi_119_27 rfl rfl
theorem zi_119_28 : z_ins 119 28 = some (.iload_n 1, 1) := by decide +kernel
theorem ze_119_28 : z_T g d 119 28 (v0 :: .int x :: ls) st h P = z_T g d 119 29 (v0 :: .int x :: ls) (.int x :: st) h P := zt_iloadn zi_119_28 rfl rfl
theorem zi_119_29 : z_ins 119 29 = some (.iadd, 1) := by decide +kernel
theorem ze_119_29 : z_T g d 119 29 ls (.int y :: .int x :: st) h P = z_T g d 119 30 ls (.int (x + y) :: st) h P := zt_bin (f := fun x y => x + y) zi_119_29 rfl (fun _ _ _ => rfl)
theorem zi_119_30 : z_ins 119 30 = some (.ireturn, 1) := by decide +kernel
theorem ze_119_30 : z_T g d 119 30 ls [.int x] h P = P (.inr (some (.int x)), h) := zt_ireturn zi_119_30 zr_119
theorem zi_119_31 : z_ins 119 31 = some (.bipush 10, 2) := by decide +kernel
theorem ze_119_31 : z_T g d 119 31 ls st h P = z_T g d 119 33 ls (.int (nI 10) :: st) h P := zt_bipush zi_119_31 rfl
theorem zi_119_33 : z_ins 119 33 = some (.iload_n 2, 1) := by decide +kernel
theorem ze_119_33 : z_T g d 119 33 (v0 :: v1 :: .int x :: ls) st h P = z_T g d 119 34 (v0 :: v1 :: .int x :: ls) (.int x :: st) h P := zt_iloadn zi_119_33 rfl rfl
theorem zi_119_34 : z_ins 119 34 = some (.imul, 1) := by decide +kernel
theorem ze_119_34 : z_T g d 119 34 ls (.int y :: .int x :: st) h P = z_T g d 119 35 ls (.int (x * y) :: st) h P := zt_bin (f := fun x y => x * y) zi_119_34 rfl (fun _ _ _ => rfl)
theorem zi_119_35 : z_ins 119 35 = some (.istore_n 2, 1) := by decide +kernel
theorem ze_119_35 : z_T g d 119 35 (v0 :: v1 :: v2 :: ls) (.int x :: st) h P = z_T g d 119 36 (v0 :: v1 :: .int x :: ls) st h P := zt_istoren zi_119_35 rfl (Nat.le_add_left 3 _)
theorem zi_119_36 : z_ins 119 36 = some (.iinc 3 1, 3) := by decide +kernel
theorem ze_119_36 : z_T g d 119 36 (v0 :: v1 :: v2 :: .int x :: ls) st h P = z_T g d 119 39 (v0 :: v1 :: v2 :: .int (x + (nI 1)) :: ls) st h P := zt_iinc zi_119_36 rfl rfl
theorem zi_119_39 : z_ins 119 39 = some (.goto (-23), 3) := by decide +kernel
theorem ze_119_39 : z_T g d 119 39 ls st h P = z_T g d 119 16 ls st h P := zt_goto zi_119_39 (by decide)
theorem zi_119_42 : z_ins 119 42 = some (.bipush 10, 2) := by decide +kernel
theorem ze_119_42 : z_T g d 119 42 ls st h P = z_T g d 119 44 ls (.int (nI 10) :: st) h P := zt_bipush zi_119_42 rfl
theorem zi_119_44 : z_ins 119 44 = some (.iload_n 1, 1) := by decide +kernel
theorem ze_119_44 : z_T g d 119 44 (v0 :: .int x :: ls) st h P = z_T g d 119 45 (v0 :: .int x :: ls) (.int x :: st) h P := zt_iloadn zi_119_44 rfl rfl
theorem zi_119_45 : z_ins 119 45 = some (.iadd, 1) := by decide +kernel
theorem ze_119_45 : z_T g d 119 45 ls (.int y :: .int x :: st) h P = z_T g d 119 46 ls (.int (x + y) :: st) h P := zt_bin (f := fun x y => x + y) zi_119_45 rfl (fun _ _ _ => rfl)
theorem zi_119_46 : z_ins 119 46 = some (.ireturn, 1) := by decide +kernel
theorem ze_119_46 : z_T g d 119 46 ls [.int x] h P = P (.inr (some (.int x)), h) := zt_ireturn zi_119_46 zr_119
-- java/lang/Integer.numberOfTrailingZeros(I)I
theorem zm_120 : z_maxL 120 = 2 := by decide +kernel
theorem zh_120 : z_hds 120 = [] := by decide +kernel
theorem zj_120 : z_jdk 120 = false := by decide +kernel
theorem zr_120 : z_rt 120 = (some .int) := by decide +kernel
theorem zn_120 : z_Ca g d 120 [.int x0] h P = z_T g d 120 0 [.int x0, z_un] [] h P := z_Ca_ent zm_120 rfl rfl
theorem zi_120_0 : z_ins 120 0 = some (.iload_n 0, 1) := by decide +kernel
theorem ze_120_0 : z_T g d 120 0 (.int x :: ls) st h P = z_T g d 120 1 (.int x :: ls) (.int x :: st) h P := zt_iloadn zi_120_0 rfl rfl
theorem zi_120_1 : z_ins 120 1 = some (.iconst (-1), 1) := by decide +kernel
theorem ze_120_1 : z_T g d 120 1 ls st h P = z_T g d 120 2 ls (.int (-1) :: st) h P := zt_iconst zi_120_1 rfl
theorem zi_120_2 : z_ins 120 2 = some (.ixor, 1) := by decide +kernel
theorem ze_120_2 : z_T g d 120 2 ls (.int y :: .int x :: st) h P = z_T g d 120 3 ls (.int (x ^^^ y) :: st) h P := zt_bin (f := fun x y => x ^^^ y) zi_120_2 rfl (fun _ _ _ => rfl)
theorem zi_120_3 : z_ins 120 3 = some (.iload_n 0, 1) := by decide +kernel
theorem ze_120_3 : z_T g d 120 3 (.int x :: ls) st h P = z_T g d 120 4 (.int x :: ls) (.int x :: st) h P := zt_iloadn zi_120_3 rfl rfl
theorem zi_120_4 : z_ins 120 4 = some (.iconst 1, 1) := by decide +kernel
theorem ze_120_4 : z_T g d 120 4 ls st h P = z_T g d 120 5 ls (.int (nI 1) :: st) h P := zt_iconst zi_120_4 rfl
theorem zi_120_5 : z_ins 120 5 = some (.isub, 1) := by decide +kernel
theorem ze_120_5 : z_T g d 120 5 ls (.int y :: .int x :: st) h P = z_T g d 120 6 ls (.int (x - y) :: st) h P := zt_bin (f := fun x y => x - y) zi_120_5 rfl (fun _ _ _ => rfl)
theorem zi_120_6 : z_ins 120 6 = some (.iand, 1) := by decide +kernel
theorem ze_120_6 : z_T g d 120 6 ls (.int y :: .int x :: st) h P = z_T g d 120 7 ls (.int (x &&& y) :: st) h P := zt_bin (f := fun x y => x &&& y) zi_120_6 rfl (fun _ _ _ => rfl)
theorem zi_120_7 : z_ins 120 7 = some (.istore_n 0, 1) := by decide +kernel
theorem ze_120_7 : z_T g d 120 7 (v0 :: ls) (.int x :: st) h P = z_T g d 120 8 (.int x :: ls) st h P := zt_istoren zi_120_7 rfl (Nat.le_add_left 1 _)
theorem zi_120_8 : z_ins 120 8 = some (.iload_n 0, 1) := by decide +kernel
theorem ze_120_8 : z_T g d 120 8 (.int x :: ls) st h P = z_T g d 120 9 (.int x :: ls) (.int x :: st) h P := zt_iloadn zi_120_8 rfl rfl
theorem zi_120_9 : z_ins 120 9 = some (.ifCond .gt 8, 3) := by decide +kernel
theorem ze_120_9 : z_T g d 120 9 ls (.int x :: st) h P = (if nI 0 < x then z_T g d 120 17 ls st h P else z_T g d 120 12 ls st h P) := zt_ifgt zi_120_9 (by decide)
theorem zi_120_12 : z_ins 120 12 = some (.iload_n 0, 1) := by decide +kernel
theorem ze_120_12 : z_T g d 120 12 (.int x :: ls) st h P = z_T g d 120 13 (.int x :: ls) (.int x :: st) h P := zt_iloadn zi_120_12 rfl rfl
theorem zi_120_13 : z_ins 120 13 = some (.bipush 32, 2) := by decide +kernel
theorem ze_120_13 : z_T g d 120 13 ls st h P = z_T g d 120 15 ls (.int (nI 32) :: st) h P := zt_bipush zi_120_13 rfl
theorem zi_120_15 : z_ins 120 15 = some (.iand, 1) := by decide +kernel
theorem ze_120_15 : z_T g d 120 15 ls (.int y :: .int x :: st) h P = z_T g d 120 16 ls (.int (x &&& y) :: st) h P := zt_bin (f := fun x y => x &&& y) zi_120_15 rfl (fun _ _ _ => rfl)
theorem zi_120_16 : z_ins 120 16 = some (.ireturn, 1) := by decide +kernel
theorem ze_120_16 : z_T g d 120 16 ls [.int x] h P = P (.inr (some (.int x)), h) := zt_ireturn zi_120_16 zr_120
theorem zi_120_17 : z_ins 120 17 = some (.iconst 1, 1) := by decide +kernel
theorem ze_120_17 : z_T g d 120 17 ls st h P = z_T g d 120 18 ls (.int (nI 1) :: st) h P := zt_iconst zi_120_17 rfl
theorem zi_120_18 : z_ins 120 18 = some (.istore_n 1, 1) := by decide +kernel
theorem ze_120_18 : z_T g d 120 18 (v0 :: v1 :: ls) (.int x :: st) h P = z_T g d 120 19 (v0 :: .int x :: ls) st h P := zt_istoren zi_120_18 rfl (Nat.le_add_left 2 _)
theorem zi_120_19 : z_ins 120 19 = some (.iload_n 0, 1) := by decide +kernel
theorem ze_120_19 : z_T g d 120 19 (.int x :: ls) st h P = z_T g d 120 20 (.int x :: ls) (.int x :: st) h P := zt_iloadn zi_120_19 rfl rfl
theorem zi_120_20 : z_ins 120 20 = some (.ldc_w 264, 3) := by decide +kernel
theorem ze_120_20 : z_T g d 120 20 ls st h P = z_T g d 120 23 ls (.int 65536 :: st) h P := zt_ldcw zi_120_20 ((congrArg (fun o => z_lookup z_kss (o, 264)) zo_120).trans zq_kss_java_lang_Integer_264)
theorem zi_120_23 : z_ins 120 23 = some (.if_icmp .le 11, 3) := by decide +kernel
theorem ze_120_23 : z_T g d 120 23 ls (.int y :: .int x :: st) h P = (if y < x then z_T g d 120 26 ls st h P else z_T g d 120 34 ls st h P) := zt_icmple zi_120_23 (by decide)
theorem zi_120_26 : z_ins 120 26 = some (.iinc 1 16, 3) := by decide +kernel
theorem ze_120_26 : z_T g d 120 26 (v0 :: .int x :: ls) st h P = z_T g d 120 29 (v0 :: .int (x + (nI 16)) :: ls) st h P := zt_iinc zi_120_26 rfl rfl
theorem zi_120_29 : z_ins 120 29 = some (.iload_n 0, 1) := by decide +kernel
theorem ze_120_29 : z_T g d 120 29 (.int x :: ls) st h P = z_T g d 120 30 (.int x :: ls) (.int x :: st) h P := zt_iloadn zi_120_29 rfl rfl
theorem zi_120_30 : z_ins 120 30 = some (.bipush 16, 2) := by decide +kernel
theorem ze_120_30 : z_T g d 120 30 ls st h P = z_T g d 120 32 ls (.int (nI 16) :: st) h P := zt_bipush zi_120_30 rfl
theorem zi_120_32 : z_ins 120 32 = some (.iushr, 1) := by decide +kernel
theorem ze_120_32 : z_T g d 120 32 ls (.int y :: .int x :: st) h P = z_T g d 120 33 ls (.int ((x.toUInt32 >>> (y.toUInt32 &&& Int32.toUInt32 31)).toInt32) :: st) h P := zt_bin (f := fun x y => (x.toUInt32 >>> (y.toUInt32 &&& Int32.toUInt32 31)).toInt32) zi_120_32 rfl (fun _ _ _ => rfl)
theorem zi_120_33 : z_ins 120 33 = some (.istore_n 0, 1) := by decide +kernel
theorem ze_120_33 : z_T g d 120 33 (v0 :: ls) (.int x :: st) h P = z_T g d 120 34 (.int x :: ls) st h P := zt_istoren zi_120_33 rfl (Nat.le_add_left 1 _)
theorem zi_120_34 : z_ins 120 34 = some (.iload_n 0, 1) := by decide +kernel
theorem ze_120_34 : z_T g d 120 34 (.int x :: ls) st h P = z_T g d 120 35 (.int x :: ls) (.int x :: st) h P := zt_iloadn zi_120_34 rfl rfl
theorem zi_120_35 : z_ins 120 35 = some (.sipush 256, 3) := by decide +kernel
theorem ze_120_35 : z_T g d 120 35 ls st h P = z_T g d 120 38 ls (.int (nI 256) :: st) h P := zt_sipush zi_120_35 rfl
theorem zi_120_38 : z_ins 120 38 = some (.if_icmp .le 11, 3) := by decide +kernel
theorem ze_120_38 : z_T g d 120 38 ls (.int y :: .int x :: st) h P = (if y < x then z_T g d 120 41 ls st h P else z_T g d 120 49 ls st h P) := zt_icmple zi_120_38 (by decide)
theorem zi_120_41 : z_ins 120 41 = some (.iinc 1 8, 3) := by decide +kernel
theorem ze_120_41 : z_T g d 120 41 (v0 :: .int x :: ls) st h P = z_T g d 120 44 (v0 :: .int (x + (nI 8)) :: ls) st h P := zt_iinc zi_120_41 rfl rfl
theorem zi_120_44 : z_ins 120 44 = some (.iload_n 0, 1) := by decide +kernel
theorem ze_120_44 : z_T g d 120 44 (.int x :: ls) st h P = z_T g d 120 45 (.int x :: ls) (.int x :: st) h P := zt_iloadn zi_120_44 rfl rfl
theorem zi_120_45 : z_ins 120 45 = some (.bipush 8, 2) := by decide +kernel
theorem ze_120_45 : z_T g d 120 45 ls st h P = z_T g d 120 47 ls (.int (nI 8) :: st) h P := zt_bipush zi_120_45 rfl
theorem zi_120_47 : z_ins 120 47 = some (.iushr, 1) := by decide +kernel
theorem ze_120_47 : z_T g d 120 47 ls (.int y :: .int x :: st) h P = z_T g d 120 48 ls (.int ((x.toUInt32 >>> (y.toUInt32 &&& Int32.toUInt32 31)).toInt32) :: st) h P := zt_bin (f := fun x y => (x.toUInt32 >>> (y.toUInt32 &&& Int32.toUInt32 31)).toInt32) zi_120_47 rfl (fun _ _ _ => rfl)
theorem zi_120_48 : z_ins 120 48 = some (.istore_n 0, 1) := by decide +kernel
theorem ze_120_48 : z_T g d 120 48 (v0 :: ls) (.int x :: st) h P = z_T g d 120 49 (.int x :: ls) st h P := zt_istoren zi_120_48 rfl (Nat.le_add_left 1 _)
theorem zi_120_49 : z_ins 120 49 = some (.iload_n 0, 1) := by decide +kernel
theorem ze_120_49 : z_T g d 120 49 (.int x :: ls) st h P = z_T g d 120 50 (.int x :: ls) (.int x :: st) h P := zt_iloadn zi_120_49 rfl rfl
theorem zi_120_50 : z_ins 120 50 = some (.bipush 16, 2) := by decide +kernel
theorem ze_120_50 : z_T g d 120 50 ls st h P = z_T g d 120 52 ls (.int (nI 16) :: st) h P := zt_bipush zi_120_50 rfl
theorem zi_120_52 : z_ins 120 52 = some (.if_icmp .le 10, 3) := by decide +kernel
theorem ze_120_52 : z_T g d 120 52 ls (.int y :: .int x :: st) h P = (if y < x then z_T g d 120 55 ls st h P else z_T g d 120 62 ls st h P) := zt_icmple zi_120_52 (by decide)
theorem zi_120_55 : z_ins 120 55 = some (.iinc 1 4, 3) := by decide +kernel
theorem ze_120_55 : z_T g d 120 55 (v0 :: .int x :: ls) st h P = z_T g d 120 58 (v0 :: .int (x + (nI 4)) :: ls) st h P := zt_iinc zi_120_55 rfl rfl
theorem zi_120_58 : z_ins 120 58 = some (.iload_n 0, 1) := by decide +kernel
theorem ze_120_58 : z_T g d 120 58 (.int x :: ls) st h P = z_T g d 120 59 (.int x :: ls) (.int x :: st) h P := zt_iloadn zi_120_58 rfl rfl
theorem zi_120_59 : z_ins 120 59 = some (.iconst 4, 1) := by decide +kernel
theorem ze_120_59 : z_T g d 120 59 ls st h P = z_T g d 120 60 ls (.int (nI 4) :: st) h P := zt_iconst zi_120_59 rfl
theorem zi_120_60 : z_ins 120 60 = some (.iushr, 1) := by decide +kernel
theorem ze_120_60 : z_T g d 120 60 ls (.int y :: .int x :: st) h P = z_T g d 120 61 ls (.int ((x.toUInt32 >>> (y.toUInt32 &&& Int32.toUInt32 31)).toInt32) :: st) h P := zt_bin (f := fun x y => (x.toUInt32 >>> (y.toUInt32 &&& Int32.toUInt32 31)).toInt32) zi_120_60 rfl (fun _ _ _ => rfl)
theorem zi_120_61 : z_ins 120 61 = some (.istore_n 0, 1) := by decide +kernel
theorem ze_120_61 : z_T g d 120 61 (v0 :: ls) (.int x :: st) h P = z_T g d 120 62 (.int x :: ls) st h P := zt_istoren zi_120_61 rfl (Nat.le_add_left 1 _)
theorem zi_120_62 : z_ins 120 62 = some (.iload_n 0, 1) := by decide +kernel
theorem ze_120_62 : z_T g d 120 62 (.int x :: ls) st h P = z_T g d 120 63 (.int x :: ls) (.int x :: st) h P := zt_iloadn zi_120_62 rfl rfl
theorem zi_120_63 : z_ins 120 63 = some (.iconst 4, 1) := by decide +kernel
theorem ze_120_63 : z_T g d 120 63 ls st h P = z_T g d 120 64 ls (.int (nI 4) :: st) h P := zt_iconst zi_120_63 rfl
theorem zi_120_64 : z_ins 120 64 = some (.if_icmp .le 10, 3) := by decide +kernel
theorem ze_120_64 : z_T g d 120 64 ls (.int y :: .int x :: st) h P = (if y < x then z_T g d 120 67 ls st h P else z_T g d 120 74 ls st h P) := zt_icmple zi_120_64 (by decide)
theorem zi_120_67 : z_ins 120 67 = some (.iinc 1 2, 3) := by decide +kernel
theorem ze_120_67 : z_T g d 120 67 (v0 :: .int x :: ls) st h P = z_T g d 120 70 (v0 :: .int (x + (nI 2)) :: ls) st h P := zt_iinc zi_120_67 rfl rfl
theorem zi_120_70 : z_ins 120 70 = some (.iload_n 0, 1) := by decide +kernel
theorem ze_120_70 : z_T g d 120 70 (.int x :: ls) st h P = z_T g d 120 71 (.int x :: ls) (.int x :: st) h P := zt_iloadn zi_120_70 rfl rfl
theorem zi_120_71 : z_ins 120 71 = some (.iconst 2, 1) := by decide +kernel
theorem ze_120_71 : z_T g d 120 71 ls st h P = z_T g d 120 72 ls (.int (nI 2) :: st) h P := zt_iconst zi_120_71 rfl
theorem zi_120_72 : z_ins 120 72 = some (.iushr, 1) := by decide +kernel
theorem ze_120_72 : z_T g d 120 72 ls (.int y :: .int x :: st) h P = z_T g d 120 73 ls (.int ((x.toUInt32 >>> (y.toUInt32 &&& Int32.toUInt32 31)).toInt32) :: st) h P := zt_bin (f := fun x y => (x.toUInt32 >>> (y.toUInt32 &&& Int32.toUInt32 31)).toInt32) zi_120_72 rfl (fun _ _ _ => rfl)
theorem zi_120_73 : z_ins 120 73 = some (.istore_n 0, 1) := by decide +kernel
theorem ze_120_73 : z_T g d 120 73 (v0 :: ls) (.int x :: st) h P = z_T g d 120 74 (.int x :: ls) st h P := zt_istoren zi_120_73 rfl (Nat.le_add_left 1 _)
theorem zi_120_74 : z_ins 120 74 = some (.iload_n 1, 1) := by decide +kernel
theorem ze_120_74 : z_T g d 120 74 (v0 :: .int x :: ls) st h P = z_T g d 120 75 (v0 :: .int x :: ls) (.int x :: st) h P := zt_iloadn zi_120_74 rfl rfl
theorem zi_120_75 : z_ins 120 75 = some (.iload_n 0, 1) := by decide +kernel
theorem ze_120_75 : z_T g d 120 75 (.int x :: ls) st h P = z_T g d 120 76 (.int x :: ls) (.int x :: st) h P := zt_iloadn zi_120_75 rfl rfl
theorem zi_120_76 : z_ins 120 76 = some (.iconst 1, 1) := by decide +kernel
theorem ze_120_76 : z_T g d 120 76 ls st h P = z_T g d 120 77 ls (.int (nI 1) :: st) h P := zt_iconst zi_120_76 rfl
theorem zi_120_77 : z_ins 120 77 = some (.iushr, 1) := by decide +kernel
theorem ze_120_77 : z_T g d 120 77 ls (.int y :: .int x :: st) h P = z_T g d 120 78 ls (.int ((x.toUInt32 >>> (y.toUInt32 &&& Int32.toUInt32 31)).toInt32) :: st) h P := zt_bin (f := fun x y => (x.toUInt32 >>> (y.toUInt32 &&& Int32.toUInt32 31)).toInt32) zi_120_77 rfl (fun _ _ _ => rfl)
theorem zi_120_78 : z_ins 120 78 = some (.iadd, 1) := by decide +kernel
theorem ze_120_78 : z_T g d 120 78 ls (.int y :: .int x :: st) h P = z_T g d 120 79 ls (.int (x + y) :: st) h P := zt_bin (f := fun x y => x + y) zi_120_78 rfl (fun _ _ _ => rfl)
theorem zi_120_79 : z_ins 120 79 = some (.ireturn, 1) := by decide +kernel
theorem ze_120_79 : z_T g d 120 79 ls [.int x] h P = P (.inr (some (.int x)), h) := zt_ireturn zi_120_79 zr_120
-- java/lang/Integer.bitCount(I)I
theorem zm_121 : z_maxL 121 = 1 := by decide +kernel
theorem zh_121 : z_hds 121 = [] := by decide +kernel
theorem zj_121 : z_jdk 121 = false := by decide +kernel
theorem zr_121 : z_rt 121 = (some .int) := by decide +kernel
theorem zn_121 : z_Ca g d 121 [.int x0] h P = z_T g d 121 0 [.int x0] [] h P := z_Ca_ent zm_121 rfl rfl
theorem zi_121_0 : z_ins 121 0 = some (.iload_n 0, 1) := by decide +kernel
theorem ze_121_0 : z_T g d 121 0 (.int x :: ls) st h P = z_T g d 121 1 (.int x :: ls) (.int x :: st) h P := zt_iloadn zi_121_0 rfl rfl
theorem zi_121_1 : z_ins 121 1 = some (.iload_n 0, 1) := by decide +kernel
theorem ze_121_1 : z_T g d 121 1 (.int x :: ls) st h P = z_T g d 121 2 (.int x :: ls) (.int x :: st) h P := zt_iloadn zi_121_1 rfl rfl
theorem zi_121_2 : z_ins 121 2 = some (.iconst 1, 1) := by decide +kernel
theorem ze_121_2 : z_T g d 121 2 ls st h P = z_T g d 121 3 ls (.int (nI 1) :: st) h P := zt_iconst zi_121_2 rfl
theorem zi_121_3 : z_ins 121 3 = some (.iushr, 1) := by decide +kernel
theorem ze_121_3 : z_T g d 121 3 ls (.int y :: .int x :: st) h P = z_T g d 121 4 ls (.int ((x.toUInt32 >>> (y.toUInt32 &&& Int32.toUInt32 31)).toInt32) :: st) h P := zt_bin (f := fun x y => (x.toUInt32 >>> (y.toUInt32 &&& Int32.toUInt32 31)).toInt32) zi_121_3 rfl (fun _ _ _ => rfl)
theorem zi_121_4 : z_ins 121 4 = some (.ldc_w 265, 3) := by decide +kernel
theorem ze_121_4 : z_T g d 121 4 ls st h P = z_T g d 121 7 ls (.int 1431655765 :: st) h P := zt_ldcw zi_121_4 ((congrArg (fun o => z_lookup z_kss (o, 265)) zo_121).trans zq_kss_java_lang_Integer_265)
theorem zi_121_7 : z_ins 121 7 = some (.iand, 1) := by decide +kernel
theorem ze_121_7 : z_T g d 121 7 ls (.int y :: .int x :: st) h P = z_T g d 121 8 ls (.int (x &&& y) :: st) h P := zt_bin (f := fun x y => x &&& y) zi_121_7 rfl (fun _ _ _ => rfl)
theorem zi_121_8 : z_ins 121 8 = some (.isub, 1) := by decide +kernel
theorem ze_121_8 : z_T g d 121 8 ls (.int y :: .int x :: st) h P = z_T g d 121 9 ls (.int (x - y) :: st) h P := zt_bin (f := fun x y => x - y) zi_121_8 rfl (fun _ _ _ => rfl)
theorem zi_121_9 : z_ins 121 9 = some (.istore_n 0, 1) := by decide +kernel
theorem ze_121_9 : z_T g d 121 9 (v0 :: ls) (.int x :: st) h P = z_T g d 121 10 (.int x :: ls) st h P := zt_istoren zi_121_9 rfl (Nat.le_add_left 1 _)
theorem zi_121_10 : z_ins 121 10 = some (.iload_n 0, 1) := by decide +kernel
theorem ze_121_10 : z_T g d 121 10 (.int x :: ls) st h P = z_T g d 121 11 (.int x :: ls) (.int x :: st) h P := zt_iloadn zi_121_10 rfl rfl
theorem zi_121_11 : z_ins 121 11 = some (.ldc_w 266, 3) := by decide +kernel
theorem ze_121_11 : z_T g d 121 11 ls st h P = z_T g d 121 14 ls (.int 858993459 :: st) h P := zt_ldcw zi_121_11 ((congrArg (fun o => z_lookup z_kss (o, 266)) zo_121).trans zq_kss_java_lang_Integer_266)
theorem zi_121_14 : z_ins 121 14 = some (.iand, 1) := by decide +kernel
theorem ze_121_14 : z_T g d 121 14 ls (.int y :: .int x :: st) h P = z_T g d 121 15 ls (.int (x &&& y) :: st) h P := zt_bin (f := fun x y => x &&& y) zi_121_14 rfl (fun _ _ _ => rfl)
theorem zi_121_15 : z_ins 121 15 = some (.iload_n 0, 1) := by decide +kernel
theorem ze_121_15 : z_T g d 121 15 (.int x :: ls) st h P = z_T g d 121 16 (.int x :: ls) (.int x :: st) h P := zt_iloadn zi_121_15 rfl rfl
theorem zi_121_16 : z_ins 121 16 = some (.iconst 2, 1) := by decide +kernel
theorem ze_121_16 : z_T g d 121 16 ls st h P = z_T g d 121 17 ls (.int (nI 2) :: st) h P := zt_iconst zi_121_16 rfl
theorem zi_121_17 : z_ins 121 17 = some (.iushr, 1) := by decide +kernel
theorem ze_121_17 : z_T g d 121 17 ls (.int y :: .int x :: st) h P = z_T g d 121 18 ls (.int ((x.toUInt32 >>> (y.toUInt32 &&& Int32.toUInt32 31)).toInt32) :: st) h P := zt_bin (f := fun x y => (x.toUInt32 >>> (y.toUInt32 &&& Int32.toUInt32 31)).toInt32) zi_121_17 rfl (fun _ _ _ => rfl)
theorem zi_121_18 : z_ins 121 18 = some (.ldc_w 266, 3) := by decide +kernel
theorem ze_121_18 : z_T g d 121 18 ls st h P = z_T g d 121 21 ls (.int 858993459 :: st) h P := zt_ldcw zi_121_18 ((congrArg (fun o => z_lookup z_kss (o, 266)) zo_121).trans zq_kss_java_lang_Integer_266)
theorem zi_121_21 : z_ins 121 21 = some (.iand, 1) := by decide +kernel
theorem ze_121_21 : z_T g d 121 21 ls (.int y :: .int x :: st) h P = z_T g d 121 22 ls (.int (x &&& y) :: st) h P := zt_bin (f := fun x y => x &&& y) zi_121_21 rfl (fun _ _ _ => rfl)
theorem zi_121_22 : z_ins 121 22 = some (.iadd, 1) := by decide +kernel
theorem ze_121_22 : z_T g d 121 22 ls (.int y :: .int x :: st) h P = z_T g d 121 23 ls (.int (x + y) :: st) h P := zt_bin (f := fun x y => x + y) zi_121_22 rfl (fun _ _ _ => rfl)
theorem zi_121_23 : z_ins 121 23 = some (.istore_n 0, 1) := by decide +kernel
theorem ze_121_23 : z_T g d 121 23 (v0 :: ls) (.int x :: st) h P = z_T g d 121 24 (.int x :: ls) st h P := zt_istoren zi_121_23 rfl (Nat.le_add_left 1 _)
theorem zi_121_24 : z_ins 121 24 = some (.iload_n 0, 1) := by decide +kernel
theorem ze_121_24 : z_T g d 121 24 (.int x :: ls) st h P = z_T g d 121 25 (.int x :: ls) (.int x :: st) h P := zt_iloadn zi_121_24 rfl rfl
theorem zi_121_25 : z_ins 121 25 = some (.iload_n 0, 1) := by decide +kernel
theorem ze_121_25 : z_T g d 121 25 (.int x :: ls) st h P = z_T g d 121 26 (.int x :: ls) (.int x :: st) h P := zt_iloadn zi_121_25 rfl rfl
theorem zi_121_26 : z_ins 121 26 = some (.iconst 4, 1) := by decide +kernel
theorem ze_121_26 : z_T g d 121 26 ls st h P = z_T g d 121 27 ls (.int (nI 4) :: st) h P := zt_iconst zi_121_26 rfl
theorem zi_121_27 : z_ins 121 27 = some (.iushr, 1) := by decide +kernel
theorem ze_121_27 : z_T g d 121 27 ls (.int y :: .int x :: st) h P = z_T g d 121 28 ls (.int ((x.toUInt32 >>> (y.toUInt32 &&& Int32.toUInt32 31)).toInt32) :: st) h P := zt_bin (f := fun x y => (x.toUInt32 >>> (y.toUInt32 &&& Int32.toUInt32 31)).toInt32) zi_121_27 rfl (fun _ _ _ => rfl)
theorem zi_121_28 : z_ins 121 28 = some (.iadd, 1) := by decide +kernel
theorem ze_121_28 : z_T g d 121 28 ls (.int y :: .int x :: st) h P = z_T g d 121 29 ls (.int (x + y) :: st) h P := zt_bin (f := fun x y => x + y) zi_121_28 rfl (fun _ _ _ => rfl)
theorem zi_121_29 : z_ins 121 29 = some (.ldc_w 267, 3) := by decide +kernel
theorem ze_121_29 : z_T g d 121 29 ls st h P = z_T g d 121 32 ls (.int 252645135 :: st) h P := zt_ldcw zi_121_29 ((congrArg (fun o => z_lookup z_kss (o, 267)) zo_121).trans zq_kss_java_lang_Integer_267)
theorem zi_121_32 : z_ins 121 32 = some (.iand, 1) := by decide +kernel
theorem ze_121_32 : z_T g d 121 32 ls (.int y :: .int x :: st) h P = z_T g d 121 33 ls (.int (x &&& y) :: st) h P := zt_bin (f := fun x y => x &&& y) zi_121_32 rfl (fun _ _ _ => rfl)
theorem zi_121_33 : z_ins 121 33 = some (.istore_n 0, 1) := by decide +kernel
theorem ze_121_33 : z_T g d 121 33 (v0 :: ls) (.int x :: st) h P = z_T g d 121 34 (.int x :: ls) st h P := zt_istoren zi_121_33 rfl (Nat.le_add_left 1 _)
theorem zi_121_34 : z_ins 121 34 = some (.iload_n 0, 1) := by decide +kernel
theorem ze_121_34 : z_T g d 121 34 (.int x :: ls) st h P = z_T g d 121 35 (.int x :: ls) (.int x :: st) h P := zt_iloadn zi_121_34 rfl rfl
theorem zi_121_35 : z_ins 121 35 = some (.iload_n 0, 1) := by decide +kernel
theorem ze_121_35 : z_T g d 121 35 (.int x :: ls) st h P = z_T g d 121 36 (.int x :: ls) (.int x :: st) h P := zt_iloadn zi_121_35 rfl rfl
theorem zi_121_36 : z_ins 121 36 = some (.bipush 8, 2) := by decide +kernel
theorem ze_121_36 : z_T g d 121 36 ls st h P = z_T g d 121 38 ls (.int (nI 8) :: st) h P := zt_bipush zi_121_36 rfl
theorem zi_121_38 : z_ins 121 38 = some (.iushr, 1) := by decide +kernel
theorem ze_121_38 : z_T g d 121 38 ls (.int y :: .int x :: st) h P = z_T g d 121 39 ls (.int ((x.toUInt32 >>> (y.toUInt32 &&& Int32.toUInt32 31)).toInt32) :: st) h P := zt_bin (f := fun x y => (x.toUInt32 >>> (y.toUInt32 &&& Int32.toUInt32 31)).toInt32) zi_121_38 rfl (fun _ _ _ => rfl)
theorem zi_121_39 : z_ins 121 39 = some (.iadd, 1) := by decide +kernel
theorem ze_121_39 : z_T g d 121 39 ls (.int y :: .int x :: st) h P = z_T g d 121 40 ls (.int (x + y) :: st) h P := zt_bin (f := fun x y => x + y) zi_121_39 rfl (fun _ _ _ => rfl)
theorem zi_121_40 : z_ins 121 40 = some (.istore_n 0, 1) := by decide +kernel
theorem ze_121_40 : z_T g d 121 40 (v0 :: ls) (.int x :: st) h P = z_T g d 121 41 (.int x :: ls) st h P := zt_istoren zi_121_40 rfl (Nat.le_add_left 1 _)
theorem zi_121_41 : z_ins 121 41 = some (.iload_n 0, 1) := by decide +kernel
theorem ze_121_41 : z_T g d 121 41 (.int x :: ls) st h P = z_T g d 121 42 (.int x :: ls) (.int x :: st) h P := zt_iloadn zi_121_41 rfl rfl
theorem zi_121_42 : z_ins 121 42 = some (.iload_n 0, 1) := by decide +kernel
theorem ze_121_42 : z_T g d 121 42 (.int x :: ls) st h P = z_T g d 121 43 (.int x :: ls) (.int x :: st) h P := zt_iloadn zi_121_42 rfl rfl
theorem zi_121_43 : z_ins 121 43 = some (.bipush 16, 2) := by decide +kernel
theorem ze_121_43 : z_T g d 121 43 ls st h P = z_T g d 121 45 ls (.int (nI 16) :: st) h P := zt_bipush zi_121_43 rfl
theorem zi_121_45 : z_ins 121 45 = some (.iushr, 1) := by decide +kernel
theorem ze_121_45 : z_T g d 121 45 ls (.int y :: .int x :: st) h P = z_T g d 121 46 ls (.int ((x.toUInt32 >>> (y.toUInt32 &&& Int32.toUInt32 31)).toInt32) :: st) h P := zt_bin (f := fun x y => (x.toUInt32 >>> (y.toUInt32 &&& Int32.toUInt32 31)).toInt32) zi_121_45 rfl (fun _ _ _ => rfl)
theorem zi_121_46 : z_ins 121 46 = some (.iadd, 1) := by decide +kernel
theorem ze_121_46 : z_T g d 121 46 ls (.int y :: .int x :: st) h P = z_T g d 121 47 ls (.int (x + y) :: st) h P := zt_bin (f := fun x y => x + y) zi_121_46 rfl (fun _ _ _ => rfl)
theorem zi_121_47 : z_ins 121 47 = some (.istore_n 0, 1) := by decide +kernel
theorem ze_121_47 : z_T g d 121 47 (v0 :: ls) (.int x :: st) h P = z_T g d 121 48 (.int x :: ls) st h P := zt_istoren zi_121_47 rfl (Nat.le_add_left 1 _)
theorem zi_121_48 : z_ins 121 48 = some (.iload_n 0, 1) := by decide +kernel
theorem ze_121_48 : z_T g d 121 48 (.int x :: ls) st h P = z_T g d 121 49 (.int x :: ls) (.int x :: st) h P := zt_iloadn zi_121_48 rfl rfl
theorem zi_121_49 : z_ins 121 49 = some (.bipush 63, 2) := by decide +kernel
theorem ze_121_49 : z_T g d 121 49 ls st h P = z_T g d 121 51 ls (.int (nI 63) :: st) h P := zt_bipush zi_121_49 rfl
theorem zi_121_51 : z_ins 121 51 = some (.iand, 1) := by decide +kernel
theorem ze_121_51 : z_T g d 121 51 ls (.int y :: .int x :: st) h P = z_T g d 121 52 ls (.int (x &&& y) :: st) h P := zt_bin (f := fun x y => x &&& y) zi_121_51 rfl (fun _ _ _ => rfl)
theorem zi_121_52 : z_ins 121 52 = some (.ireturn, 1) := by decide +kernel
theorem ze_121_52 : z_T g d 121 52 ls [.int x] h P = P (.inr (some (.int x)), h) := zt_ireturn zi_121_52 zr_121
-- java/lang/String.<init>(Ljava/lang/StringBuilder;)V
theorem zm_122 : z_maxL 122 = 2 := by decide +kernel
theorem zh_122 : z_hds 122 = [] := by decide +kernel
theorem zj_122 : z_jdk 122 = true := by decide +kernel
theorem zr_122 : z_rt 122 = none := by decide +kernel
theorem zn_122 : z_Ca g d 122 [.ref a0, .ref a1] h P = z_T g d 122 0 [.ref a0, .ref a1] [] h P := z_Ca_ent zm_122 rfl rfl
theorem zn_122_l : z_Ca g d 122 [.retAddr k0, .ref a1] h P = z_T g d 122 0 [.retAddr k0, .ref a1] [] h P := z_Ca_ent zm_122 rfl rfl
theorem zi_122_0 : z_ins 122 0 = some (.aload_n 0, 1) := by decide +kernel
theorem ze_122_0 : z_T g d 122 0 (.ref a :: ls) st h P = z_T g d 122 1 (.ref a :: ls) (.ref a :: st) h P := zt_aloadn zi_122_0 rfl rfl
theorem ze_122_0_s : z_T g d 122 0 (.retAddr b :: ls) st h P = z_T g d 122 1 (.retAddr b :: ls) (.retAddr b :: st) h P := zt_aloadnS zi_122_0 rfl rfl
theorem zi_122_1 : z_ins 122 1 = some (.aload_n 1, 1) := by decide +kernel
theorem ze_122_1 : z_T g d 122 1 (v0 :: .ref a :: ls) st h P = z_T g d 122 2 (v0 :: .ref a :: ls) (.ref a :: st) h P := zt_aloadn zi_122_1 rfl rfl
theorem zi_122_2 : z_ins 122 2 = some (.aconst_null, 1) := by decide +kernel
theorem ze_122_2 : z_T g d 122 2 ls st h P = z_T g d 122 3 ls (.null :: st) h P := zt_null zi_122_2
theorem zi_122_3 : z_ins 122 3 = some (.invokespecial 489, 3) := by decide +kernel
theorem ze_122_3 : z_T g d 122 3 ls (.null :: .ref a0 :: .ref a :: st) h P = ((z_okS 8 st = true ∧ 0 < d) ∧ z_Ca g (d - 1) 126 [.ref a, .ref a0, .null] h (fun r => z_kJ r (fun v h' => z_T g d 122 6 ls (z_push v st) h' P))) := zt_cS (as := [.ref a, .ref a0, .null]) (kk := 2) zi_122_3 rfl (zt_callJ zj_122) (z_opI ((congrArg (fun o => z_lookup z_ois (o, 489)) zo_122).trans zq_ois_java_lang_String_489)) ((congrArg (fun o => z_clk o 489) zo_122).trans zk_java_lang_String_489) rfl rfl rfl rfl rfl
theorem zi_122_6 : z_ins 122 6 = some (.return_, 1) := by decide +kernel
theorem ze_122_6 : z_T g d 122 6 ls [] h P = P (.inr none, h) := zt_return zi_122_6 zr_122
-- java/lang/String.length()I
theorem zm_123 : z_maxL 123 = 1 := by decide +kernel
theorem zh_123 : z_hds 123 = [] := by decide +kernel
theorem zj_123 : z_jdk 123 = true := by decide +kernel
theorem zr_123 : z_rt 123 = (some .int) := by decide +kernel
theorem zn_123 : z_Ca g d 123 [.ref a0] h P = z_T g d 123 0 [.ref a0] [] h P := z_Ca_ent zm_123 rfl rfl
theorem zn_123_l : z_Ca g d 123 [.retAddr k0] h P = z_T g d 123 0 [.retAddr k0] [] h P := z_Ca_ent zm_123 rfl rfl
theorem zi_123_0 : z_ins 123 0 = some (.aload_n 0, 1) := by decide +kernel
theorem ze_123_0 : z_T g d 123 0 (.ref a :: ls) st h P = z_T g d 123 1 (.ref a :: ls) (.ref a :: st) h P := zt_aloadn zi_123_0 rfl rfl
theorem ze_123_0_s : z_T g d 123 0 (.retAddr b :: ls) st h P = z_T g d 123 1 (.retAddr b :: ls) (.retAddr b :: st) h P := zt_aloadnS zi_123_0 rfl rfl
theorem zi_123_1 : z_ins 123 1 = some (.getfield 9, 3) := by decide +kernel
theorem ze_123_1 : z_T g d 123 1 ls (.ref a :: st) h P = z_gR h.1 a 11 0 (fun x => z_T g d 123 4 ls (x :: st) h P) := zt_getR zi_123_1 ((congrArg (fun o => z_fl o 9) zo_123).trans zf_java_lang_String_9)
theorem ze_123_1_s (hb : b < 6) : z_T g d 123 1 ls (.retAddr b :: st) h P = z_T g d 123 4 ls (.retAddr (50 + b) :: st) h P := zt_getL0 zi_123_1 ((congrArg (fun o => z_fl o 9) zo_123).trans zf_java_lang_String_9) hb
theorem zi_123_4 : z_ins 123 4 = some (.arraylength, 1) := by decide +kernel
theorem ze_123_4 : z_T g d 123 4 ls (.ref a :: st) h P = z_aN h.1 a (fun n => z_T g d 123 5 ls (.int (nI n) :: st) h P) := zt_alen zi_123_4
theorem ze_123_4_s (hb : b < 6) : z_T g d 123 4 ls (.retAddr (50 + b) :: st) h P = z_T g d 123 5 ls (.int (nI (z_lit b).length) :: st) h P := zt_alenL zi_123_4 hb
theorem zi_123_5 : z_ins 123 5 = some (.aload_n 0, 1) := by decide +kernel
theorem ze_123_5 : z_T g d 123 5 (.ref a :: ls) st h P = z_T g d 123 6 (.ref a :: ls) (.ref a :: st) h P := zt_aloadn zi_123_5 rfl rfl
theorem ze_123_5_s : z_T g d 123 5 (.retAddr b :: ls) st h P = z_T g d 123 6 (.retAddr b :: ls) (.retAddr b :: st) h P := zt_aloadnS zi_123_5 rfl rfl
theorem zi_123_6 : z_ins 123 6 = some (.invokevirtual 335, 3) := by decide +kernel
theorem ze_123_6 : z_T g d 123 6 ls (.ref a :: st) h P = ((z_okS 8 st = true ∧ z_gO h.1 a 11 ∧ 0 < d) ∧ z_Ca g (d - 1) 127 [.ref a] h (fun r => z_kJ r (fun v h' => z_T g d 123 9 ls (z_push v st) h' P))) := zt_cV (as := []) (kk := 0) zi_123_6 rfl (zt_callJ zj_123) (z_opV ((congrArg (fun o => z_lookup z_cns (o, 335)) zo_123).trans zq_cns_java_lang_String_335) ((congrArg (fun o => z_lookup z_prs (o, 335)) zo_123).trans zq_prs_java_lang_String_335)) ((congrArg (fun o => z_clk o 335) zo_123).trans zk_java_lang_String_335) rfl rfl rfl rfl (z_rcv0 zc_127)
theorem ze_123_6_r (hb : b < 6) : z_T g d 123 6 ls (.retAddr b :: st) h P = ((z_okS 8 st = true ∧ 0 < d) ∧ z_Ca g (d - 1) 127 [.retAddr b] h (fun r => z_kJ r (fun v h' => z_T g d 123 9 ls (z_push v st) h' P))) := zt_cS (as := [.retAddr b]) (kk := 0) zi_123_6 rfl (zt_callJ zj_123) (z_opV ((congrArg (fun o => z_lookup z_cns (o, 335)) zo_123).trans zq_cns_java_lang_String_335) ((congrArg (fun o => z_lookup z_prs (o, 335)) zo_123).trans zq_prs_java_lang_String_335)) ((congrArg (fun o => z_clk o 335) zo_123).trans zk_java_lang_String_335) rfl rfl rfl rfl (z_rcvL hb zo_127)
theorem zi_123_9 : z_ins 123 9 = some (.ishr, 1) := by decide +kernel
theorem ze_123_9 : z_T g d 123 9 ls (.int y :: .int x :: st) h P = z_T g d 123 10 ls (.int (x >>> (y &&& 31)) :: st) h P := zt_bin (f := fun x y => x >>> (y &&& 31)) zi_123_9 rfl (fun _ _ _ => rfl)
theorem zi_123_10 : z_ins 123 10 = some (.ireturn, 1) := by decide +kernel
theorem ze_123_10 : z_T g d 123 10 ls [.int x] h P = P (.inr (some (.int x)), h) := zt_ireturn zi_123_10 zr_123
-- java/lang/String.charAt(I)C
theorem zm_124 : z_maxL 124 = 2 := by decide +kernel
theorem zh_124 : z_hds 124 = [] := by decide +kernel
theorem zj_124 : z_jdk 124 = true := by decide +kernel
theorem zr_124 : z_rt 124 = (some .char) := by decide +kernel
theorem zn_124 : z_Ca g d 124 [.ref a0, .int x1] h P = z_T g d 124 0 [.ref a0, .int x1] [] h P := z_Ca_ent zm_124 rfl rfl
theorem zn_124_l : z_Ca g d 124 [.retAddr k0, .int x1] h P = z_T g d 124 0 [.retAddr k0, .int x1] [] h P := z_Ca_ent zm_124 rfl rfl
theorem zi_124_0 : z_ins 124 0 = some (.aload_n 0, 1) := by decide +kernel
theorem ze_124_0 : z_T g d 124 0 (.ref a :: ls) st h P = z_T g d 124 1 (.ref a :: ls) (.ref a :: st) h P := zt_aloadn zi_124_0 rfl rfl
theorem ze_124_0_s : z_T g d 124 0 (.retAddr b :: ls) st h P = z_T g d 124 1 (.retAddr b :: ls) (.retAddr b :: st) h P := zt_aloadnS zi_124_0 rfl rfl
theorem zi_124_1 : z_ins 124 1 = some (.invokevirtual 492, 3) := by decide +kernel
theorem ze_124_1 : z_T g d 124 1 ls (.ref a :: st) h P = ((z_okS 8 st = true ∧ z_gO h.1 a 11 ∧ 0 < d) ∧ z_Ca g (d - 1) 128 [.ref a] h (fun r => z_kJ r (fun v h' => z_T g d 124 4 ls (z_push v st) h' P))) := zt_cV (as := []) (kk := 0) zi_124_1 rfl (zt_callJ zj_124) (z_opV ((congrArg (fun o => z_lookup z_cns (o, 492)) zo_124).trans zq_cns_java_lang_String_492) ((congrArg (fun o => z_lookup z_prs (o, 492)) zo_124).trans zq_prs_java_lang_String_492)) ((congrArg (fun o => z_clk o 492) zo_124).trans zk_java_lang_String_492) rfl rfl rfl rfl (z_rcv0 zc_128)
theorem ze_124_1_r (hb : b < 6) : z_T g d 124 1 ls (.retAddr b :: st) h P = ((z_okS 8 st = true ∧ 0 < d) ∧ z_Ca g (d - 1) 128 [.retAddr b] h (fun r => z_kJ r (fun v h' => z_T g d 124 4 ls (z_push v st) h' P))) := zt_cS (as := [.retAddr b]) (kk := 0) zi_124_1 rfl (zt_callJ zj_124) (z_opV ((congrArg (fun o => z_lookup z_cns (o, 492)) zo_124).trans zq_cns_java_lang_String_492) ((congrArg (fun o => z_lookup z_prs (o, 492)) zo_124).trans zq_prs_java_lang_String_492)) ((congrArg (fun o => z_clk o 492) zo_124).trans zk_java_lang_String_492) rfl rfl rfl rfl (z_rcvL hb zo_128)
theorem zi_124_4 : z_ins 124 4 = some (.ifCond .eq 12, 3) := by decide +kernel
theorem ze_124_4 : z_T g d 124 4 ls (.int x :: st) h P = (if x = nI 0 then z_T g d 124 16 ls st h P else z_T g d 124 7 ls st h P) := zt_ifeq zi_124_4 (by decide)
theorem zi_124_7 : z_ins 124 7 = some (.aload_n 0, 1) := by decide +kernel
theorem ze_124_7 : z_T g d 124 7 (.ref a :: ls) st h P = z_T g d 124 8 (.ref a :: ls) (.ref a :: st) h P := zt_aloadn zi_124_7 rfl rfl
theorem ze_124_7_s : z_T g d 124 7 (.retAddr b :: ls) st h P = z_T g d 124 8 (.retAddr b :: ls) (.retAddr b :: st) h P := zt_aloadnS zi_124_7 rfl rfl
theorem zi_124_8 : z_ins 124 8 = some (.getfield 9, 3) := by decide +kernel
theorem ze_124_8 : z_T g d 124 8 ls (.ref a :: st) h P = z_gR h.1 a 11 0 (fun x => z_T g d 124 11 ls (x :: st) h P) := zt_getR zi_124_8 ((congrArg (fun o => z_fl o 9) zo_124).trans zf_java_lang_String_9)
theorem ze_124_8_s (hb : b < 6) : z_T g d 124 8 ls (.retAddr b :: st) h P = z_T g d 124 11 ls (.retAddr (50 + b) :: st) h P := zt_getL0 zi_124_8 ((congrArg (fun o => z_fl o 9) zo_124).trans zf_java_lang_String_9) hb
theorem zi_124_11 : z_ins 124 11 = some (.iload_n 1, 1) := by decide +kernel
theorem ze_124_11 : z_T g d 124 11 (v0 :: .int x :: ls) st h P = z_T g d 124 12 (v0 :: .int x :: ls) (.int x :: st) h P := zt_iloadn zi_124_11 rfl rfl
theorem zi_124_12 : z_ins 124 12 = some (.invokestatic 495, 3) := by decide +kernel
theorem ze_124_12 : z_T g d 124 12 ls (.int x1 :: .ref a0 :: st) h P = ((z_okS 8 st = true ∧ 0 < d) ∧ z_Ca g (d - 1) 135 [.ref a0, .int x1] h (fun r => z_kJ r (fun v h' => z_T g d 124 15 ls (z_push v st) h' P))) := zt_cS (as := [.ref a0, .int x1]) (kk := 1) zi_124_12 rfl (zt_callJ zj_124) (z_opT ((congrArg (fun o => z_lookup z_cps (o, 495)) zo_124).trans zq_cps_java_lang_String_495) ((congrArg (fun o => z_lookup z_prs (o, 495)) zo_124).trans zq_prs_java_lang_String_495)) ((congrArg (fun o => z_clk o 495) zo_124).trans zk_java_lang_String_495) rfl rfl rfl rfl rfl
theorem zi_124_15 : z_ins 124 15 = some (.ireturn, 1) := by decide +kernel
theorem ze_124_15 : z_T g d 124 15 ls [.int x] h P = (vp_nar .char x = x ∧ P (.inr (some (.int x)), h)) := zt_narrow zi_124_15 zr_124 (by simp)
theorem zi_124_16 : z_ins 124 16 = some (.aload_n 0, 1) := by decide +kernel
theorem ze_124_16 : z_T g d 124 16 (.ref a :: ls) st h P = z_T g d 124 17 (.ref a :: ls) (.ref a :: st) h P := zt_aloadn zi_124_16 rfl rfl
theorem ze_124_16_s : z_T g d 124 16 (.retAddr b :: ls) st h P = z_T g d 124 17 (.retAddr b :: ls) (.retAddr b :: st) h P := zt_aloadnS zi_124_16 rfl rfl
theorem zi_124_17 : z_ins 124 17 = some (.getfield 9, 3) := by decide +kernel
theorem ze_124_17 : z_T g d 124 17 ls (.ref a :: st) h P = z_gR h.1 a 11 0 (fun x => z_T g d 124 20 ls (x :: st) h P) := zt_getR zi_124_17 ((congrArg (fun o => z_fl o 9) zo_124).trans zf_java_lang_String_9)
theorem ze_124_17_s (hb : b < 6) : z_T g d 124 17 ls (.retAddr b :: st) h P = z_T g d 124 20 ls (.retAddr (50 + b) :: st) h P := zt_getL0 zi_124_17 ((congrArg (fun o => z_fl o 9) zo_124).trans zf_java_lang_String_9) hb
theorem zi_124_20 : z_ins 124 20 = some (.iload_n 1, 1) := by decide +kernel
theorem ze_124_20 : z_T g d 124 20 (v0 :: .int x :: ls) st h P = z_T g d 124 21 (v0 :: .int x :: ls) (.int x :: st) h P := zt_iloadn zi_124_20 rfl rfl
theorem zi_124_21 : z_ins 124 21 = some (.invokestatic 498, 3) := by decide +kernel
theorem zi_124_24 : z_ins 124 24 = some (.ireturn, 1) := by decide +kernel
theorem ze_124_24 : z_T g d 124 24 ls [.int x] h P = (vp_nar .char x = x ∧ P (.inr (some (.int x)), h)) := zt_narrow zi_124_24 zr_124 (by simp)
-- java/lang/String.getBytes([BIB)V
theorem zm_125 : z_maxL 125 = 4 := by decide +kernel
theorem zh_125 : z_hds 125 = [] := by decide +kernel
theorem zj_125 : z_jdk 125 = true := by decide +kernel
theorem zr_125 : z_rt 125 = none := by decide +kernel
theorem zn_125 : z_Ca g d 125 [.ref a0, .ref a1, .int x2, .int x3] h P = z_T g d 125 0 [.ref a0, .ref a1, .int x2, .int x3] [] h P := z_Ca_ent zm_125 rfl rfl
theorem zn_125_l : z_Ca g d 125 [.retAddr k0, .ref a1, .int x2, .int x3] h P = z_T g d 125 0 [.retAddr k0, .ref a1, .int x2, .int x3] [] h P := z_Ca_ent zm_125 rfl rfl
theorem zi_125_0 : z_ins 125 0 = some (.aload_n 0, 1) := by decide +kernel
theorem ze_125_0 : z_T g d 125 0 (.ref a :: ls) st h P = z_T g d 125 1 (.ref a :: ls) (.ref a :: st) h P := zt_aloadn zi_125_0 rfl rfl
theorem ze_125_0_s : z_T g d 125 0 (.retAddr b :: ls) st h P = z_T g d 125 1 (.retAddr b :: ls) (.retAddr b :: st) h P := zt_aloadnS zi_125_0 rfl rfl
theorem zi_125_1 : z_ins 125 1 = some (.invokevirtual 335, 3) := by decide +kernel
theorem ze_125_1 : z_T g d 125 1 ls (.ref a :: st) h P = ((z_okS 8 st = true ∧ z_gO h.1 a 11 ∧ 0 < d) ∧ z_Ca g (d - 1) 127 [.ref a] h (fun r => z_kJ r (fun v h' => z_T g d 125 4 ls (z_push v st) h' P))) := zt_cV (as := []) (kk := 0) zi_125_1 rfl (zt_callJ zj_125) (z_opV ((congrArg (fun o => z_lookup z_cns (o, 335)) zo_125).trans zq_cns_java_lang_String_335) ((congrArg (fun o => z_lookup z_prs (o, 335)) zo_125).trans zq_prs_java_lang_String_335)) ((congrArg (fun o => z_clk o 335) zo_125).trans zk_java_lang_String_335) rfl rfl rfl rfl (z_rcv0 zc_127)
theorem ze_125_1_r (hb : b < 6) : z_T g d 125 1 ls (.retAddr b :: st) h P = ((z_okS 8 st = true ∧ 0 < d) ∧ z_Ca g (d - 1) 127 [.retAddr b] h (fun r => z_kJ r (fun v h' => z_T g d 125 4 ls (z_push v st) h' P))) := zt_cS (as := [.retAddr b]) (kk := 0) zi_125_1 rfl (zt_callJ zj_125) (z_opV ((congrArg (fun o => z_lookup z_cns (o, 335)) zo_125).trans zq_cns_java_lang_String_335) ((congrArg (fun o => z_lookup z_prs (o, 335)) zo_125).trans zq_prs_java_lang_String_335)) ((congrArg (fun o => z_clk o 335) zo_125).trans zk_java_lang_String_335) rfl rfl rfl rfl (z_rcvL hb zo_127)
theorem zi_125_4 : z_ins 125 4 = some (.iload_n 3, 1) := by decide +kernel
theorem ze_125_4 : z_T g d 125 4 (v0 :: v1 :: v2 :: .int x :: ls) st h P = z_T g d 125 5 (v0 :: v1 :: v2 :: .int x :: ls) (.int x :: st) h P := zt_iloadn zi_125_4 rfl rfl
theorem zi_125_5 : z_ins 125 5 = some (.if_icmp .ne 23, 3) := by decide +kernel
theorem ze_125_5 : z_T g d 125 5 ls (.int y :: .int x :: st) h P = (if x = y then z_T g d 125 8 ls st h P else z_T g d 125 28 ls st h P) := zt_icmpne zi_125_5 (by decide)
theorem zi_125_8 : z_ins 125 8 = some (.aload_n 0, 1) := by decide +kernel
theorem ze_125_8 : z_T g d 125 8 (.ref a :: ls) st h P = z_T g d 125 9 (.ref a :: ls) (.ref a :: st) h P := zt_aloadn zi_125_8 rfl rfl
theorem ze_125_8_s : z_T g d 125 8 (.retAddr b :: ls) st h P = z_T g d 125 9 (.retAddr b :: ls) (.retAddr b :: st) h P := zt_aloadnS zi_125_8 rfl rfl
theorem zi_125_9 : z_ins 125 9 = some (.getfield 9, 3) := by decide +kernel
theorem ze_125_9 : z_T g d 125 9 ls (.ref a :: st) h P = z_gR h.1 a 11 0 (fun x => z_T g d 125 12 ls (x :: st) h P) := zt_getR zi_125_9 ((congrArg (fun o => z_fl o 9) zo_125).trans zf_java_lang_String_9)
theorem ze_125_9_s (hb : b < 6) : z_T g d 125 9 ls (.retAddr b :: st) h P = z_T g d 125 12 ls (.retAddr (50 + b) :: st) h P := zt_getL0 zi_125_9 ((congrArg (fun o => z_fl o 9) zo_125).trans zf_java_lang_String_9) hb
theorem zi_125_12 : z_ins 125 12 = some (.iconst 0, 1) := by decide +kernel
theorem ze_125_12 : z_T g d 125 12 ls st h P = z_T g d 125 13 ls (.int (nI 0) :: st) h P := zt_iconst zi_125_12 rfl
theorem zi_125_13 : z_ins 125 13 = some (.aload_n 1, 1) := by decide +kernel
theorem ze_125_13 : z_T g d 125 13 (v0 :: .ref a :: ls) st h P = z_T g d 125 14 (v0 :: .ref a :: ls) (.ref a :: st) h P := zt_aloadn zi_125_13 rfl rfl
theorem zi_125_14 : z_ins 125 14 = some (.iload_n 2, 1) := by decide +kernel
theorem ze_125_14 : z_T g d 125 14 (v0 :: v1 :: .int x :: ls) st h P = z_T g d 125 15 (v0 :: v1 :: .int x :: ls) (.int x :: st) h P := zt_iloadn zi_125_14 rfl rfl
theorem zi_125_15 : z_ins 125 15 = some (.iload_n 3, 1) := by decide +kernel
theorem ze_125_15 : z_T g d 125 15 (v0 :: v1 :: v2 :: .int x :: ls) st h P = z_T g d 125 16 (v0 :: v1 :: v2 :: .int x :: ls) (.int x :: st) h P := zt_iloadn zi_125_15 rfl rfl
theorem zi_125_16 : z_ins 125 16 = some (.ishl, 1) := by decide +kernel
theorem ze_125_16 : z_T g d 125 16 ls (.int y :: .int x :: st) h P = z_T g d 125 17 ls (.int (x <<< (y &&& 31)) :: st) h P := zt_bin (f := fun x y => x <<< (y &&& 31)) zi_125_16 rfl (fun _ _ _ => rfl)
theorem zi_125_17 : z_ins 125 17 = some (.aload_n 0, 1) := by decide +kernel
theorem ze_125_17 : z_T g d 125 17 (.ref a :: ls) st h P = z_T g d 125 18 (.ref a :: ls) (.ref a :: st) h P := zt_aloadn zi_125_17 rfl rfl
theorem ze_125_17_s : z_T g d 125 17 (.retAddr b :: ls) st h P = z_T g d 125 18 (.retAddr b :: ls) (.retAddr b :: st) h P := zt_aloadnS zi_125_17 rfl rfl
theorem zi_125_18 : z_ins 125 18 = some (.getfield 9, 3) := by decide +kernel
theorem ze_125_18 : z_T g d 125 18 ls (.ref a :: st) h P = z_gR h.1 a 11 0 (fun x => z_T g d 125 21 ls (x :: st) h P) := zt_getR zi_125_18 ((congrArg (fun o => z_fl o 9) zo_125).trans zf_java_lang_String_9)
theorem ze_125_18_s (hb : b < 6) : z_T g d 125 18 ls (.retAddr b :: st) h P = z_T g d 125 21 ls (.retAddr (50 + b) :: st) h P := zt_getL0 zi_125_18 ((congrArg (fun o => z_fl o 9) zo_125).trans zf_java_lang_String_9) hb
theorem zi_125_21 : z_ins 125 21 = some (.arraylength, 1) := by decide +kernel
theorem ze_125_21 : z_T g d 125 21 ls (.ref a :: st) h P = z_aN h.1 a (fun n => z_T g d 125 22 ls (.int (nI n) :: st) h P) := zt_alen zi_125_21
theorem ze_125_21_s (hb : b < 6) : z_T g d 125 21 ls (.retAddr (50 + b) :: st) h P = z_T g d 125 22 ls (.int (nI (z_lit b).length) :: st) h P := zt_alenL zi_125_21 hb
theorem zi_125_22 : z_ins 125 22 = some (.invokestatic 212, 3) := by decide +kernel
theorem ze_125_22 : z_T g d 125 22 ls (.int y :: .int x :: .ref a :: .int x0 :: vw :: st) h P = (z_okS 8 st = true ∧ z_cP h vw x0 a x y (fun h' => z_T g d 125 25 ls st h' P)) := zt_copy zi_125_22 ((congrArg (fun o => z_lookup z_cps (o, 212)) zo_125).trans zq_cps_java_lang_String_212)
theorem zi_125_25 : z_ins 125 25 = some (.goto 18, 3) := by decide +kernel
theorem ze_125_25 : z_T g d 125 25 ls st h P = z_T g d 125 43 ls st h P := zt_goto zi_125_25 (by decide)
theorem zi_125_28 : z_ins 125 28 = some (.aload_n 0, 1) := by decide +kernel
theorem ze_125_28 : z_T g d 125 28 (.ref a :: ls) st h P = z_T g d 125 29 (.ref a :: ls) (.ref a :: st) h P := zt_aloadn zi_125_28 rfl rfl
theorem ze_125_28_s : z_T g d 125 28 (.retAddr b :: ls) st h P = z_T g d 125 29 (.retAddr b :: ls) (.retAddr b :: st) h P := zt_aloadnS zi_125_28 rfl rfl
theorem zi_125_29 : z_ins 125 29 = some (.getfield 9, 3) := by decide +kernel
theorem ze_125_29 : z_T g d 125 29 ls (.ref a :: st) h P = z_gR h.1 a 11 0 (fun x => z_T g d 125 32 ls (x :: st) h P) := zt_getR zi_125_29 ((congrArg (fun o => z_fl o 9) zo_125).trans zf_java_lang_String_9)
theorem ze_125_29_s (hb : b < 6) : z_T g d 125 29 ls (.retAddr b :: st) h P = z_T g d 125 32 ls (.retAddr (50 + b) :: st) h P := zt_getL0 zi_125_29 ((congrArg (fun o => z_fl o 9) zo_125).trans zf_java_lang_String_9) hb
theorem zi_125_32 : z_ins 125 32 = some (.iconst 0, 1) := by decide +kernel
theorem ze_125_32 : z_T g d 125 32 ls st h P = z_T g d 125 33 ls (.int (nI 0) :: st) h P := zt_iconst zi_125_32 rfl
theorem zi_125_33 : z_ins 125 33 = some (.aload_n 1, 1) := by decide +kernel
theorem ze_125_33 : z_T g d 125 33 (v0 :: .ref a :: ls) st h P = z_T g d 125 34 (v0 :: .ref a :: ls) (.ref a :: st) h P := zt_aloadn zi_125_33 rfl rfl
theorem zi_125_34 : z_ins 125 34 = some (.iload_n 2, 1) := by decide +kernel
theorem ze_125_34 : z_T g d 125 34 (v0 :: v1 :: .int x :: ls) st h P = z_T g d 125 35 (v0 :: v1 :: .int x :: ls) (.int x :: st) h P := zt_iloadn zi_125_34 rfl rfl
theorem zi_125_35 : z_ins 125 35 = some (.aload_n 0, 1) := by decide +kernel
theorem ze_125_35 : z_T g d 125 35 (.ref a :: ls) st h P = z_T g d 125 36 (.ref a :: ls) (.ref a :: st) h P := zt_aloadn zi_125_35 rfl rfl
theorem ze_125_35_s : z_T g d 125 35 (.retAddr b :: ls) st h P = z_T g d 125 36 (.retAddr b :: ls) (.retAddr b :: st) h P := zt_aloadnS zi_125_35 rfl rfl
theorem zi_125_36 : z_ins 125 36 = some (.getfield 9, 3) := by decide +kernel
theorem ze_125_36 : z_T g d 125 36 ls (.ref a :: st) h P = z_gR h.1 a 11 0 (fun x => z_T g d 125 39 ls (x :: st) h P) := zt_getR zi_125_36 ((congrArg (fun o => z_fl o 9) zo_125).trans zf_java_lang_String_9)
theorem ze_125_36_s (hb : b < 6) : z_T g d 125 36 ls (.retAddr b :: st) h P = z_T g d 125 39 ls (.retAddr (50 + b) :: st) h P := zt_getL0 zi_125_36 ((congrArg (fun o => z_fl o 9) zo_125).trans zf_java_lang_String_9) hb
theorem zi_125_39 : z_ins 125 39 = some (.arraylength, 1) := by decide +kernel
theorem ze_125_39 : z_T g d 125 39 ls (.ref a :: st) h P = z_aN h.1 a (fun n => z_T g d 125 40 ls (.int (nI n) :: st) h P) := zt_alen zi_125_39
theorem ze_125_39_s (hb : b < 6) : z_T g d 125 39 ls (.retAddr (50 + b) :: st) h P = z_T g d 125 40 ls (.int (nI (z_lit b).length) :: st) h P := zt_alenL zi_125_39 hb
theorem zi_125_40 : z_ins 125 40 = some (.invokestatic 106, 3) := by decide +kernel
theorem zi_125_43 : z_ins 125 43 = some (.return_, 1) := by decide +kernel
theorem ze_125_43 : z_T g d 125 43 ls [] h P = P (.inr none, h) := zt_return zi_125_43 zr_125
-- java/lang/String.<init>(Ljava/lang/AbstractStringBuilder;Ljava/lang/Void;)V
theorem zm_126 : z_maxL 126 = 5 := by decide +kernel
theorem zh_126 : z_hds 126 = [] := by decide +kernel
theorem zj_126 : z_jdk 126 = true := by decide +kernel
theorem zr_126 : z_rt 126 = none := by decide +kernel
theorem zn_126 : z_Ca g d 126 [.ref a0, .ref a1, .null] h P = z_T g d 126 0 [.ref a0, .ref a1, .null, z_un, z_un] [] h P := z_Ca_ent zm_126 rfl rfl
theorem zn_126_l : z_Ca g d 126 [.retAddr k0, .ref a1, .null] h P = z_T g d 126 0 [.retAddr k0, .ref a1, .null, z_un, z_un] [] h P := z_Ca_ent zm_126 rfl rfl
theorem zi_126_0 : z_ins 126 0 = some (.aload_n 0, 1) := by decide +kernel
theorem ze_126_0 : z_T g d 126 0 (.ref a :: ls) st h P = z_T g d 126 1 (.ref a :: ls) (.ref a :: st) h P := zt_aloadn zi_126_0 rfl rfl
theorem ze_126_0_s : z_T g d 126 0 (.retAddr b :: ls) st h P = z_T g d 126 1 (.retAddr b :: ls) (.retAddr b :: st) h P := zt_aloadnS zi_126_0 rfl rfl
theorem zi_126_1 : z_ins 126 1 = some (.invokespecial 1, 3) := by decide +kernel
theorem ze_126_1 : z_T g d 126 1 ls (.ref a :: st) h P = (z_okS 8 st = true ∧ z_T g d 126 4 ls st h P) := zt_objInit zi_126_1 ((congrArg (fun o => z_lookup z_ois (o, 1)) zo_126).trans zq_ois_java_lang_String_1)
theorem zi_126_4 : z_ins 126 4 = some (.aload_n 1, 1) := by decide +kernel
theorem ze_126_4 : z_T g d 126 4 (v0 :: .ref a :: ls) st h P = z_T g d 126 5 (v0 :: .ref a :: ls) (.ref a :: st) h P := zt_aloadn zi_126_4 rfl rfl
theorem zi_126_5 : z_ins 126 5 = some (.invokevirtual 552, 3) := by decide +kernel
theorem ze_126_5 : z_T g d 126 5 ls (.ref a :: st) h P = ((z_okS 8 st = true ∧ z_gO h.1 a 12 ∧ 0 < d) ∧ z_Ca g (d - 1) 114 [.ref a] h (fun r => z_kJ r (fun v h' => z_T g d 126 8 ls (z_push v st) h' P))) := zt_cV (as := []) (kk := 0) zi_126_5 rfl (zt_callJ zj_126) (z_opV ((congrArg (fun o => z_lookup z_cns (o, 552)) zo_126).trans zq_cns_java_lang_String_552) ((congrArg (fun o => z_lookup z_prs (o, 552)) zo_126).trans zq_prs_java_lang_String_552)) ((congrArg (fun o => z_clk o 552) zo_126).trans zk_java_lang_String_552) rfl rfl rfl rfl (z_rcv4 (by decide))
theorem zi_126_8 : z_ins 126 8 = some (.astore_n 3, 1) := by decide +kernel
theorem ze_126_8 : z_T g d 126 8 (v0 :: v1 :: v2 :: v3 :: ls) (.ref a :: st) h P = z_T g d 126 9 (v0 :: v1 :: v2 :: .ref a :: ls) st h P := zt_astoren rfl zi_126_8 rfl (Nat.le_add_left 4 _)
theorem zi_126_9 : z_ins 126 9 = some (.aload_n 1, 1) := by decide +kernel
theorem ze_126_9 : z_T g d 126 9 (v0 :: .ref a :: ls) st h P = z_T g d 126 10 (v0 :: .ref a :: ls) (.ref a :: st) h P := zt_aloadn zi_126_9 rfl rfl
theorem zi_126_10 : z_ins 126 10 = some (.invokevirtual 549, 3) := by decide +kernel
theorem ze_126_10 : z_T g d 126 10 ls (.ref a :: st) h P = ((z_okS 8 st = true ∧ z_gO h.1 a 12 ∧ 0 < d) ∧ z_Ca g (d - 1) 134 [.ref a] h (fun r => z_kJ r (fun v h' => z_T g d 126 13 ls (z_push v st) h' P))) := zt_cV (as := []) (kk := 0) zi_126_10 rfl (zt_callJ zj_126) (z_opV ((congrArg (fun o => z_lookup z_cns (o, 549)) zo_126).trans zq_cns_java_lang_String_549) ((congrArg (fun o => z_lookup z_prs (o, 549)) zo_126).trans zq_prs_java_lang_String_549)) ((congrArg (fun o => z_clk o 549) zo_126).trans zk_java_lang_String_549) rfl rfl rfl rfl (z_rcv4 (by decide))
theorem zi_126_13 : z_ins 126 13 = some (.istore 4, 2) := by decide +kernel
theorem ze_126_13 : z_T g d 126 13 (v0 :: v1 :: v2 :: v3 :: v4 :: ls) (.int x :: st) h P = z_T g d 126 15 (v0 :: v1 :: v2 :: v3 :: .int x :: ls) st h P := zt_istore zi_126_13 (Nat.le_add_left 5 _)
theorem zi_126_15 : z_ins 126 15 = some (.aload_n 1, 1) := by decide +kernel
theorem ze_126_15 : z_T g d 126 15 (v0 :: .ref a :: ls) st h P = z_T g d 126 16 (v0 :: .ref a :: ls) (.ref a :: st) h P := zt_aloadn zi_126_15 rfl rfl
theorem zi_126_16 : z_ins 126 16 = some (.invokevirtual 1047, 3) := by decide +kernel
theorem ze_126_16 : z_T g d 126 16 ls (.ref a :: st) h P = ((z_okS 8 st = true ∧ z_gO h.1 a 12 ∧ 0 < d) ∧ z_Ca g (d - 1) 115 [.ref a] h (fun r => z_kJ r (fun v h' => z_T g d 126 19 ls (z_push v st) h' P))) := zt_cV (as := []) (kk := 0) zi_126_16 rfl (zt_callJ zj_126) (z_opV ((congrArg (fun o => z_lookup z_cns (o, 1047)) zo_126).trans zq_cns_java_lang_String_1047) ((congrArg (fun o => z_lookup z_prs (o, 1047)) zo_126).trans zq_prs_java_lang_String_1047)) ((congrArg (fun o => z_clk o 1047) zo_126).trans zk_java_lang_String_1047) rfl rfl rfl rfl (z_rcv4 (by decide))
theorem zi_126_19 : z_ins 126 19 = some (.ifCond .eq 22, 3) := by decide +kernel
theorem ze_126_19 : z_T g d 126 19 ls (.int x :: st) h P = (if x = nI 0 then z_T g d 126 41 ls st h P else z_T g d 126 22 ls st h P) := zt_ifeq zi_126_19 (by decide)
theorem zi_126_22 : z_ins 126 22 = some (.aload_n 0, 1) := by decide +kernel
theorem ze_126_22 : z_T g d 126 22 (.ref a :: ls) st h P = z_T g d 126 23 (.ref a :: ls) (.ref a :: st) h P := zt_aloadn zi_126_22 rfl rfl
theorem ze_126_22_s : z_T g d 126 22 (.retAddr b :: ls) st h P = z_T g d 126 23 (.retAddr b :: ls) (.retAddr b :: st) h P := zt_aloadnS zi_126_22 rfl rfl
theorem zi_126_23 : z_ins 126 23 = some (.iconst 0, 1) := by decide +kernel
theorem ze_126_23 : z_T g d 126 23 ls st h P = z_T g d 126 24 ls (.int (nI 0) :: st) h P := zt_iconst zi_126_23 rfl
theorem zi_126_24 : z_ins 126 24 = some (.putfield 15, 3) := by decide +kernel
theorem ze_126_24 : z_T g d 126 24 ls (.int (nI 0) :: .ref a :: st) h P = z_pF h.1 a 11 1 (.int (nI 0)) (fun f => z_T g d 126 27 ls st (f, h.2) P) := zt_put zi_126_24 ((congrArg (fun o => z_fl o 15) zo_126).trans zf_java_lang_String_15) (by decide +kernel) rfl rfl
theorem zi_126_27 : z_ins 126 27 = some (.aload_n 0, 1) := by decide +kernel
theorem ze_126_27 : z_T g d 126 27 (.ref a :: ls) st h P = z_T g d 126 28 (.ref a :: ls) (.ref a :: st) h P := zt_aloadn zi_126_27 rfl rfl
theorem ze_126_27_s : z_T g d 126 27 (.retAddr b :: ls) st h P = z_T g d 126 28 (.retAddr b :: ls) (.retAddr b :: st) h P := zt_aloadnS zi_126_27 rfl rfl
theorem zi_126_28 : z_ins 126 28 = some (.aload_n 3, 1) := by decide +kernel
theorem ze_126_28 : z_T g d 126 28 (v0 :: v1 :: v2 :: .ref a :: ls) st h P = z_T g d 126 29 (v0 :: v1 :: v2 :: .ref a :: ls) (.ref a :: st) h P := zt_aloadn zi_126_28 rfl rfl
theorem zi_126_29 : z_ins 126 29 = some (.iconst 0, 1) := by decide +kernel
theorem ze_126_29 : z_T g d 126 29 ls st h P = z_T g d 126 30 ls (.int (nI 0) :: st) h P := zt_iconst zi_126_29 rfl
theorem zi_126_30 : z_ins 126 30 = some (.iload 4, 2) := by decide +kernel
theorem ze_126_30 : z_T g d 126 30 (v0 :: v1 :: v2 :: v3 :: .int x :: ls) st h P = z_T g d 126 32 (v0 :: v1 :: v2 :: v3 :: .int x :: ls) (.int x :: st) h P := zt_iload zi_126_30 rfl
theorem zi_126_32 : z_ins 126 32 = some (.invokestatic 54, 3) := by decide +kernel
theorem ze_126_32 : z_T g d 126 32 ls (.int x2 :: .int x1 :: .ref a0 :: st) h P = ((z_okS 8 st = true ∧ 0 < d) ∧ z_Ca g (d - 1) 139 [.ref a0, .int x1, .int x2] h (fun r => z_kJ r (fun v h' => z_T g d 126 35 ls (z_push v st) h' P))) := zt_cS (as := [.ref a0, .int x1, .int x2]) (kk := 1) zi_126_32 rfl (zt_callJ zj_126) (z_opT ((congrArg (fun o => z_lookup z_cps (o, 54)) zo_126).trans zq_cps_java_lang_String_54) ((congrArg (fun o => z_lookup z_prs (o, 54)) zo_126).trans zq_prs_java_lang_String_54)) ((congrArg (fun o => z_clk o 54) zo_126).trans zk_java_lang_String_54) rfl rfl rfl rfl rfl
theorem zi_126_35 : z_ins 126 35 = some (.putfield 9, 3) := by decide +kernel
theorem ze_126_35 : z_T g d 126 35 ls (.ref b :: .ref a :: st) h P = z_pF h.1 a 11 0 (.ref b) (fun f => z_T g d 126 38 ls st (f, h.2) P) := zt_put zi_126_35 ((congrArg (fun o => z_fl o 9) zo_126).trans zf_java_lang_String_9) (by decide +kernel) rfl rfl
theorem zi_126_38 : z_ins 126 38 = some (.goto 59, 3) := by decide +kernel
theorem ze_126_38 : z_T g d 126 38 ls st h P = z_T g d 126 97 ls st h P := zt_goto zi_126_38 (by decide)
theorem zi_126_41 : z_ins 126 41 = some (.getstatic 38, 3) := by decide +kernel
theorem ze_126_41 : z_T g d 126 41 ls st h P = z_T g d 126 44 ls (.int (nI 1) :: st) h P := zt_static zi_126_41 ((congrArg (fun o => z_lookup z_gss (o, 38)) zo_126).trans zq_gss_java_lang_String_38) rfl
theorem zi_126_44 : z_ins 126 44 = some (.ifCond .eq 35, 3) := by decide +kernel
theorem ze_126_44 : z_T g d 126 44 ls (.int x :: st) h P = (if x = nI 0 then z_T g d 126 79 ls st h P else z_T g d 126 47 ls st h P) := zt_ifeq zi_126_44 (by decide)
theorem zi_126_47 : z_ins 126 47 = some (.aload_n 1, 1) := by decide +kernel
theorem ze_126_47 : z_T g d 126 47 (v0 :: .ref a :: ls) st h P = z_T g d 126 48 (v0 :: .ref a :: ls) (.ref a :: st) h P := zt_aloadn zi_126_47 rfl rfl
theorem zi_126_48 : z_ins 126 48 = some (.getfield 1048, 3) := by decide +kernel
theorem ze_126_48 : z_T g d 126 48 ls (.ref a :: st) h P = z_gI h.1 a 12 2 (fun x => z_T g d 126 51 ls (.int x :: st) h P) := zt_getI zi_126_48 ((congrArg (fun o => z_fl o 1048) zo_126).trans zf_java_lang_String_1048)
theorem zi_126_51 : z_ins 126 51 = some (.ifCond .eq 28, 3) := by decide +kernel
theorem ze_126_51 : z_T g d 126 51 ls (.int x :: st) h P = (if x = nI 0 then z_T g d 126 79 ls st h P else z_T g d 126 54 ls st h P) := zt_ifeq zi_126_51 (by decide)
theorem zi_126_54 : z_ins 126 54 = some (.aload_n 0, 1) := by decide +kernel
theorem ze_126_54 : z_T g d 126 54 (.ref a :: ls) st h P = z_T g d 126 55 (.ref a :: ls) (.ref a :: st) h P := zt_aloadn zi_126_54 rfl rfl
theorem ze_126_54_s : z_T g d 126 54 (.retAddr b :: ls) st h P = z_T g d 126 55 (.retAddr b :: ls) (.retAddr b :: st) h P := zt_aloadnS zi_126_54 rfl rfl
theorem zi_126_55 : z_ins 126 55 = some (.aload_n 3, 1) := by decide +kernel
theorem ze_126_55 : z_T g d 126 55 (v0 :: v1 :: v2 :: .ref a :: ls) st h P = z_T g d 126 56 (v0 :: v1 :: v2 :: .ref a :: ls) (.ref a :: st) h P := zt_aloadn zi_126_55 rfl rfl
theorem zi_126_56 : z_ins 126 56 = some (.iconst 0, 1) := by decide +kernel
theorem ze_126_56 : z_T g d 126 56 ls st h P = z_T g d 126 57 ls (.int (nI 0) :: st) h P := zt_iconst zi_126_56 rfl
theorem zi_126_57 : z_ins 126 57 = some (.iload 4, 2) := by decide +kernel
theorem ze_126_57 : z_T g d 126 57 (v0 :: v1 :: v2 :: v3 :: .int x :: ls) st h P = z_T g d 126 59 (v0 :: v1 :: v2 :: v3 :: .int x :: ls) (.int x :: st) h P := zt_iload zi_126_57 rfl
theorem zi_126_59 : z_ins 126 59 = some (.invokestatic 1051, 3) := by decide +kernel
theorem zi_126_62 : z_ins 126 62 = some (.putfield 9, 3) := by decide +kernel
theorem ze_126_62 : z_T g d 126 62 ls (.ref b :: .ref a :: st) h P = z_pF h.1 a 11 0 (.ref b) (fun f => z_T g d 126 65 ls st (f, h.2) P) := zt_put zi_126_62 ((congrArg (fun o => z_fl o 9) zo_126).trans zf_java_lang_String_9) (by decide +kernel) rfl rfl
theorem zi_126_65 : z_ins 126 65 = some (.aload_n 0, 1) := by decide +kernel
theorem ze_126_65 : z_T g d 126 65 (.ref a :: ls) st h P = z_T g d 126 66 (.ref a :: ls) (.ref a :: st) h P := zt_aloadn zi_126_65 rfl rfl
theorem ze_126_65_s : z_T g d 126 65 (.retAddr b :: ls) st h P = z_T g d 126 66 (.retAddr b :: ls) (.retAddr b :: st) h P := zt_aloadnS zi_126_65 rfl rfl
theorem zi_126_66 : z_ins 126 66 = some (.aload_n 0, 1) := by decide +kernel
theorem ze_126_66 : z_T g d 126 66 (.ref a :: ls) st h P = z_T g d 126 67 (.ref a :: ls) (.ref a :: st) h P := zt_aloadn zi_126_66 rfl rfl
theorem ze_126_66_s : z_T g d 126 66 (.retAddr b :: ls) st h P = z_T g d 126 67 (.retAddr b :: ls) (.retAddr b :: st) h P := zt_aloadnS zi_126_66 rfl rfl
theorem zi_126_67 : z_ins 126 67 = some (.getfield 9, 3) := by decide +kernel
theorem ze_126_67 : z_T g d 126 67 ls (.ref a :: st) h P = z_gR h.1 a 11 0 (fun x => z_T g d 126 70 ls (x :: st) h P) := zt_getR zi_126_67 ((congrArg (fun o => z_fl o 9) zo_126).trans zf_java_lang_String_9)
theorem ze_126_67_s (hb : b < 6) : z_T g d 126 67 ls (.retAddr b :: st) h P = z_T g d 126 70 ls (.retAddr (50 + b) :: st) h P := zt_getL0 zi_126_67 ((congrArg (fun o => z_fl o 9) zo_126).trans zf_java_lang_String_9) hb
theorem zi_126_70 : z_ins 126 70 = some (.iload 4, 2) := by decide +kernel
theorem ze_126_70 : z_T g d 126 70 (v0 :: v1 :: v2 :: v3 :: .int x :: ls) st h P = z_T g d 126 72 (v0 :: v1 :: v2 :: v3 :: .int x :: ls) (.int x :: st) h P := zt_iload zi_126_70 rfl
theorem zi_126_72 : z_ins 126 72 = some (.invokestatic 47, 3) := by decide +kernel
theorem zi_126_75 : z_ins 126 75 = some (.putfield 15, 3) := by decide +kernel
theorem ze_126_75 : z_T g d 126 75 ls (.int (nI 0) :: .ref a :: st) h P = z_pF h.1 a 11 1 (.int (nI 0)) (fun f => z_T g d 126 78 ls st (f, h.2) P) := zt_put zi_126_75 ((congrArg (fun o => z_fl o 15) zo_126).trans zf_java_lang_String_15) (by decide +kernel) rfl rfl
theorem zi_126_78 : z_ins 126 78 = some (.return_, 1) := by decide +kernel
theorem ze_126_78 : z_T g d 126 78 ls [] h P = P (.inr none, h) := zt_return zi_126_78 zr_126
theorem zi_126_79 : z_ins 126 79 = some (.aload_n 0, 1) := by decide +kernel
theorem ze_126_79 : z_T g d 126 79 (.ref a :: ls) st h P = z_T g d 126 80 (.ref a :: ls) (.ref a :: st) h P := zt_aloadn zi_126_79 rfl rfl
theorem ze_126_79_s : z_T g d 126 79 (.retAddr b :: ls) st h P = z_T g d 126 80 (.retAddr b :: ls) (.retAddr b :: st) h P := zt_aloadnS zi_126_79 rfl rfl
theorem zi_126_80 : z_ins 126 80 = some (.iconst 1, 1) := by decide +kernel
theorem ze_126_80 : z_T g d 126 80 ls st h P = z_T g d 126 81 ls (.int (nI 1) :: st) h P := zt_iconst zi_126_80 rfl
theorem zi_126_81 : z_ins 126 81 = some (.putfield 15, 3) := by decide +kernel
theorem ze_126_81 : z_T g d 126 81 ls (.int (nI 0) :: .ref a :: st) h P = z_pF h.1 a 11 1 (.int (nI 0)) (fun f => z_T g d 126 84 ls st (f, h.2) P) := zt_put zi_126_81 ((congrArg (fun o => z_fl o 15) zo_126).trans zf_java_lang_String_15) (by decide +kernel) rfl rfl
theorem zi_126_84 : z_ins 126 84 = some (.aload_n 0, 1) := by decide +kernel
theorem ze_126_84 : z_T g d 126 84 (.ref a :: ls) st h P = z_T g d 126 85 (.ref a :: ls) (.ref a :: st) h P := zt_aloadn zi_126_84 rfl rfl
theorem ze_126_84_s : z_T g d 126 84 (.retAddr b :: ls) st h P = z_T g d 126 85 (.retAddr b :: ls) (.retAddr b :: st) h P := zt_aloadnS zi_126_84 rfl rfl
theorem zi_126_85 : z_ins 126 85 = some (.aload_n 3, 1) := by decide +kernel
theorem ze_126_85 : z_T g d 126 85 (v0 :: v1 :: v2 :: .ref a :: ls) st h P = z_T g d 126 86 (v0 :: v1 :: v2 :: .ref a :: ls) (.ref a :: st) h P := zt_aloadn zi_126_85 rfl rfl
theorem zi_126_86 : z_ins 126 86 = some (.iconst 0, 1) := by decide +kernel
theorem ze_126_86 : z_T g d 126 86 ls st h P = z_T g d 126 87 ls (.int (nI 0) :: st) h P := zt_iconst zi_126_86 rfl
theorem zi_126_87 : z_ins 126 87 = some (.iload 4, 2) := by decide +kernel
theorem ze_126_87 : z_T g d 126 87 (v0 :: v1 :: v2 :: v3 :: .int x :: ls) st h P = z_T g d 126 89 (v0 :: v1 :: v2 :: v3 :: .int x :: ls) (.int x :: st) h P := zt_iload zi_126_87 rfl
theorem zi_126_89 : z_ins 126 89 = some (.iconst 1, 1) := by decide +kernel
theorem ze_126_89 : z_T g d 126 89 ls st h P = z_T g d 126 90 ls (.int (nI 1) :: st) h P := zt_iconst zi_126_89 rfl
theorem zi_126_90 : z_ins 126 90 = some (.ishl, 1) := by decide +kernel
theorem ze_126_90 : z_T g d 126 90 ls (.int y :: .int x :: st) h P = z_T g d 126 91 ls (.int (x <<< (y &&& 31)) :: st) h P := zt_bin (f := fun x y => x <<< (y &&& 31)) zi_126_90 rfl (fun _ _ _ => rfl)
theorem zi_126_91 : z_ins 126 91 = some (.invokestatic 54, 3) := by decide +kernel
theorem ze_126_91 : z_T g d 126 91 ls (.int x2 :: .int x1 :: .ref a0 :: st) h P = ((z_okS 8 st = true ∧ 0 < d) ∧ z_Ca g (d - 1) 139 [.ref a0, .int x1, .int x2] h (fun r => z_kJ r (fun v h' => z_T g d 126 94 ls (z_push v st) h' P))) := zt_cS (as := [.ref a0, .int x1, .int x2]) (kk := 1) zi_126_91 rfl (zt_callJ zj_126) (z_opT ((congrArg (fun o => z_lookup z_cps (o, 54)) zo_126).trans zq_cps_java_lang_String_54) ((congrArg (fun o => z_lookup z_prs (o, 54)) zo_126).trans zq_prs_java_lang_String_54)) ((congrArg (fun o => z_clk o 54) zo_126).trans zk_java_lang_String_54) rfl rfl rfl rfl rfl
theorem zi_126_94 : z_ins 126 94 = some (.putfield 9, 3) := by decide +kernel
theorem ze_126_94 : z_T g d 126 94 ls (.ref b :: .ref a :: st) h P = z_pF h.1 a 11 0 (.ref b) (fun f => z_T g d 126 97 ls st (f, h.2) P) := zt_put zi_126_94 ((congrArg (fun o => z_fl o 9) zo_126).trans zf_java_lang_String_9) (by decide +kernel) rfl rfl
theorem zi_126_97 : z_ins 126 97 = some (.return_, 1) := by decide +kernel
theorem ze_126_97 : z_T g d 126 97 ls [] h P = P (.inr none, h) := zt_return zi_126_97 zr_126
-- java/lang/String.coder()B
theorem zm_127 : z_maxL 127 = 1 := by decide +kernel
theorem zh_127 : z_hds 127 = [] := by decide +kernel
theorem zj_127 : z_jdk 127 = true := by decide +kernel
theorem zr_127 : z_rt 127 = (some .byte) := by decide +kernel
theorem zn_127 : z_Ca g d 127 [.ref a0] h P = z_T g d 127 0 [.ref a0] [] h P := z_Ca_ent zm_127 rfl rfl
theorem zn_127_l : z_Ca g d 127 [.retAddr k0] h P = z_T g d 127 0 [.retAddr k0] [] h P := z_Ca_ent zm_127 rfl rfl
theorem zi_127_0 : z_ins 127 0 = some (.getstatic 38, 3) := by decide +kernel
theorem ze_127_0 : z_T g d 127 0 ls st h P = z_T g d 127 3 ls (.int (nI 1) :: st) h P := zt_static zi_127_0 ((congrArg (fun o => z_lookup z_gss (o, 38)) zo_127).trans zq_gss_java_lang_String_38) rfl
theorem zi_127_3 : z_ins 127 3 = some (.ifCond .eq 10, 3) := by decide +kernel
theorem ze_127_3 : z_T g d 127 3 ls (.int x :: st) h P = (if x = nI 0 then z_T g d 127 13 ls st h P else z_T g d 127 6 ls st h P) := zt_ifeq zi_127_3 (by decide)
theorem zi_127_6 : z_ins 127 6 = some (.aload_n 0, 1) := by decide +kernel
theorem ze_127_6 : z_T g d 127 6 (.ref a :: ls) st h P = z_T g d 127 7 (.ref a :: ls) (.ref a :: st) h P := zt_aloadn zi_127_6 rfl rfl
theorem ze_127_6_s : z_T g d 127 6 (.retAddr b :: ls) st h P = z_T g d 127 7 (.retAddr b :: ls) (.retAddr b :: st) h P := zt_aloadnS zi_127_6 rfl rfl
theorem zi_127_7 : z_ins 127 7 = some (.getfield 15, 3) := by decide +kernel
theorem ze_127_7 : z_T g d 127 7 ls (.ref a :: st) h P = z_gI h.1 a 11 1 (fun x => z_T g d 127 10 ls (.int x :: st) h P) := zt_getI zi_127_7 ((congrArg (fun o => z_fl o 15) zo_127).trans zf_java_lang_String_15)
theorem ze_127_7_s (hb : b < 6) : z_T g d 127 7 ls (.retAddr b :: st) h P = z_T g d 127 10 ls (.int (nI 0) :: st) h P := zt_getL1 zi_127_7 ((congrArg (fun o => z_fl o 15) zo_127).trans zf_java_lang_String_15) hb
theorem zi_127_10 : z_ins 127 10 = some (.goto 4, 3) := by decide +kernel
theorem ze_127_10 : z_T g d 127 10 ls st h P = z_T g d 127 14 ls st h P := zt_goto zi_127_10 (by decide)
theorem zi_127_13 : z_ins 127 13 = some (.iconst 1, 1) := by decide +kernel
theorem ze_127_13 : z_T g d 127 13 ls st h P = z_T g d 127 14 ls (.int (nI 1) :: st) h P := zt_iconst zi_127_13 rfl
theorem zi_127_14 : z_ins 127 14 = some (.ireturn, 1) := by decide +kernel
theorem ze_127_14 : z_T g d 127 14 ls [.int x] h P = (vp_nar .byte x = x ∧ P (.inr (some (.int x)), h)) := zt_narrow zi_127_14 zr_127 (by simp)
-- java/lang/String.isLatin1()Z
theorem zm_128 : z_maxL 128 = 1 := by decide +kernel
theorem zh_128 : z_hds 128 = [] := by decide +kernel
theorem zj_128 : z_jdk 128 = true := by decide +kernel
theorem zr_128 : z_rt 128 = (some .boolean) := by decide +kernel
theorem zn_128 : z_Ca g d 128 [.ref a0] h P = z_T g d 128 0 [.ref a0] [] h P := z_Ca_ent zm_128 rfl rfl
theorem zn_128_l : z_Ca g d 128 [.retAddr k0] h P = z_T g d 128 0 [.retAddr k0] [] h P := z_Ca_ent zm_128 rfl rfl
theorem zi_128_0 : z_ins 128 0 = some (.getstatic 38, 3) := by decide +kernel
theorem ze_128_0 : z_T g d 128 0 ls st h P = z_T g d 128 3 ls (.int (nI 1) :: st) h P := zt_static zi_128_0 ((congrArg (fun o => z_lookup z_gss (o, 38)) zo_128).trans zq_gss_java_lang_String_38) rfl
theorem zi_128_3 : z_ins 128 3 = some (.ifCond .eq 14, 3) := by decide +kernel
theorem ze_128_3 : z_T g d 128 3 ls (.int x :: st) h P = (if x = nI 0 then z_T g d 128 17 ls st h P else z_T g d 128 6 ls st h P) := zt_ifeq zi_128_3 (by decide)
theorem zi_128_6 : z_ins 128 6 = some (.aload_n 0, 1) := by decide +kernel
theorem ze_128_6 : z_T g d 128 6 (.ref a :: ls) st h P = z_T g d 128 7 (.ref a :: ls) (.ref a :: st) h P := zt_aloadn zi_128_6 rfl rfl
theorem ze_128_6_s : z_T g d 128 6 (.retAddr b :: ls) st h P = z_T g d 128 7 (.retAddr b :: ls) (.retAddr b :: st) h P := zt_aloadnS zi_128_6 rfl rfl
theorem zi_128_7 : z_ins 128 7 = some (.getfield 15, 3) := by decide +kernel
theorem ze_128_7 : z_T g d 128 7 ls (.ref a :: st) h P = z_gI h.1 a 11 1 (fun x => z_T g d 128 10 ls (.int x :: st) h P) := zt_getI zi_128_7 ((congrArg (fun o => z_fl o 15) zo_128).trans zf_java_lang_String_15)
theorem ze_128_7_s (hb : b < 6) : z_T g d 128 7 ls (.retAddr b :: st) h P = z_T g d 128 10 ls (.int (nI 0) :: st) h P := zt_getL1 zi_128_7 ((congrArg (fun o => z_fl o 15) zo_128).trans zf_java_lang_String_15) hb
theorem zi_128_10 : z_ins 128 10 = some (.ifCond .ne 7, 3) := by decide +kernel
theorem ze_128_10 : z_T g d 128 10 ls (.int x :: st) h P = (if x = nI 0 then z_T g d 128 13 ls st h P else z_T g d 128 17 ls st h P) := zt_ifne zi_128_10 (by decide)
theorem zi_128_13 : z_ins 128 13 = some (.iconst 1, 1) := by decide +kernel
theorem ze_128_13 : z_T g d 128 13 ls st h P = z_T g d 128 14 ls (.int (nI 1) :: st) h P := zt_iconst zi_128_13 rfl
theorem zi_128_14 : z_ins 128 14 = some (.goto 4, 3) := by decide +kernel
theorem ze_128_14 : z_T g d 128 14 ls st h P = z_T g d 128 18 ls st h P := zt_goto zi_128_14 (by decide)
theorem zi_128_17 : z_ins 128 17 = some (.iconst 0, 1) := by decide +kernel
theorem ze_128_17 : z_T g d 128 17 ls st h P = z_T g d 128 18 ls (.int (nI 0) :: st) h P := zt_iconst zi_128_17 rfl
theorem zi_128_18 : z_ins 128 18 = some (.ireturn, 1) := by decide +kernel
theorem ze_128_18 : z_T g d 128 18 ls [.int x] h P = ((x = nI 0 ∨ x = nI 1) ∧ P (.inr (some (.int x)), h)) := zt_zreturn zi_128_18 zr_128
-- java/lang/StringBuilder.<init>()V
theorem zm_129 : z_maxL 129 = 1 := by decide +kernel
theorem zh_129 : z_hds 129 = [] := by decide +kernel
theorem zj_129 : z_jdk 129 = true := by decide +kernel
theorem zr_129 : z_rt 129 = none := by decide +kernel
theorem zn_129 : z_Ca g d 129 [.ref a0] h P = z_T g d 129 0 [.ref a0] [] h P := z_Ca_ent zm_129 rfl rfl
theorem zi_129_0 : z_ins 129 0 = some (.aload_n 0, 1) := by decide +kernel
theorem ze_129_0 : z_T g d 129 0 (.ref a :: ls) st h P = z_T g d 129 1 (.ref a :: ls) (.ref a :: st) h P := zt_aloadn zi_129_0 rfl rfl
theorem zi_129_1 : z_ins 129 1 = some (.bipush 16, 2) := by decide +kernel
theorem ze_129_1 : z_T g d 129 1 ls st h P = z_T g d 129 3 ls (.int (nI 16) :: st) h P := zt_bipush zi_129_1 rfl
theorem zi_129_3 : z_ins 129 3 = some (.invokespecial 1, 3) := by decide +kernel
theorem ze_129_3 : z_T g d 129 3 ls (.int x0 :: .ref a :: st) h P = ((z_okS 8 st = true ∧ 0 < d) ∧ z_Ca g (d - 1) 107 [.ref a, .int x0] h (fun r => z_kJ r (fun v h' => z_T g d 129 6 ls (z_push v st) h' P))) := zt_cS (as := [.ref a, .int x0]) (kk := 2) zi_129_3 rfl (zt_callJ zj_129) (z_opI ((congrArg (fun o => z_lookup z_ois (o, 1)) zo_129).trans zq_ois_java_lang_StringBuilder_1)) ((congrArg (fun o => z_clk o 1) zo_129).trans zk_java_lang_StringBuilder_1) rfl rfl rfl rfl rfl
theorem zi_129_6 : z_ins 129 6 = some (.return_, 1) := by decide +kernel
theorem ze_129_6 : z_T g d 129 6 ls [] h P = P (.inr none, h) := zt_return zi_129_6 zr_129
-- java/lang/StringBuilder.append(Ljava/lang/String;)Ljava/lang/StringBuilder;
theorem zm_130 : z_maxL 130 = 2 := by decide +kernel
theorem zh_130 : z_hds 130 = [] := by decide +kernel
theorem zj_130 : z_jdk 130 = true := by decide +kernel
theorem zr_130 : z_rt 130 = (some (.object "java/lang/StringBuilder")) := by decide +kernel
theorem zn_130 : z_Ca g d 130 [.ref a0, .ref a1] h P = z_T g d 130 0 [.ref a0, .ref a1] [] h P := z_Ca_ent zm_130 rfl rfl
theorem zn_130_l : z_Ca g d 130 [.ref a0, .retAddr k1] h P = z_T g d 130 0 [.ref a0, .retAddr k1] [] h P := z_Ca_ent zm_130 rfl rfl
theorem zi_130_0 : z_ins 130 0 = some (.aload_n 0, 1) := by decide +kernel
theorem ze_130_0 : z_T g d 130 0 (.ref a :: ls) st h P = z_T g d 130 1 (.ref a :: ls) (.ref a :: st) h P := zt_aloadn zi_130_0 rfl rfl
theorem zi_130_1 : z_ins 130 1 = some (.aload_n 1, 1) := by decide +kernel
theorem ze_130_1 : z_T g d 130 1 (v0 :: .ref a :: ls) st h P = z_T g d 130 2 (v0 :: .ref a :: ls) (.ref a :: st) h P := zt_aloadn zi_130_1 rfl rfl
theorem ze_130_1_s : z_T g d 130 1 (v0 :: .retAddr b :: ls) st h P = z_T g d 130 2 (v0 :: .retAddr b :: ls) (.retAddr b :: st) h P := zt_aloadnS zi_130_1 rfl rfl
theorem zi_130_2 : z_ins 130 2 = some (.invokespecial 29, 3) := by decide +kernel
theorem ze_130_2 : z_T g d 130 2 ls (.ref a0 :: .ref a :: st) h P = ((z_okS 8 st = true ∧ z_gO h.1 a 12 ∧ 0 < d) ∧ z_Ca g (d - 1) 111 [.ref a, .ref a0] h (fun r => z_kJ r (fun v h' => z_T g d 130 5 ls (z_push v st) h' P))) := zt_cV (as := [.ref a0]) (kk := 2) zi_130_2 rfl (zt_callJ zj_130) (z_opI ((congrArg (fun o => z_lookup z_ois (o, 29)) zo_130).trans zq_ois_java_lang_StringBuilder_29)) ((congrArg (fun o => z_clk o 29) zo_130).trans zk_java_lang_StringBuilder_29) rfl rfl rfl rfl (z_rcv4 (by decide))
theorem ze_130_2_l : z_T g d 130 2 ls (.retAddr k0 :: .ref a :: st) h P = ((z_okS 8 st = true ∧ z_gO h.1 a 12 ∧ 0 < d) ∧ z_Ca g (d - 1) 111 [.ref a, .retAddr k0] h (fun r => z_kJ r (fun v h' => z_T g d 130 5 ls (z_push v st) h' P))) := zt_cV (as := [.retAddr k0]) (kk := 2) zi_130_2 rfl (zt_callJ zj_130) (z_opI ((congrArg (fun o => z_lookup z_ois (o, 29)) zo_130).trans zq_ois_java_lang_StringBuilder_29)) ((congrArg (fun o => z_clk o 29) zo_130).trans zk_java_lang_StringBuilder_29) rfl rfl rfl rfl (z_rcv4 (by decide))
theorem zi_130_5 : z_ins 130 5 = some (.pop, 1) := by decide +kernel
theorem ze_130_5_i : z_T g d 130 5 ls (.int x :: st) h P = z_T g d 130 6 ls st h P := zt_pop rfl zi_130_5
theorem ze_130_5 : z_T g d 130 5 ls (.ref a :: st) h P = z_T g d 130 6 ls st h P := zt_pop rfl zi_130_5
theorem zi_130_6 : z_ins 130 6 = some (.aload_n 0, 1) := by decide +kernel
theorem ze_130_6 : z_T g d 130 6 (.ref a :: ls) st h P = z_T g d 130 7 (.ref a :: ls) (.ref a :: st) h P := zt_aloadn zi_130_6 rfl rfl
theorem zi_130_7 : z_ins 130 7 = some (.areturn, 1) := by decide +kernel
theorem ze_130_7 : z_T g d 130 7 ls [.ref a] h P = P (.inr (some (.ref a)), h) := zt_areturn rfl zi_130_7 zr_130 rfl
-- java/lang/StringBuilder.append(C)Ljava/lang/StringBuilder;
theorem zm_131 : z_maxL 131 = 2 := by decide +kernel
theorem zh_131 : z_hds 131 = [] := by decide +kernel
theorem zj_131 : z_jdk 131 = true := by decide +kernel
theorem zr_131 : z_rt 131 = (some (.object "java/lang/StringBuilder")) := by decide +kernel
theorem zn_131 : z_Ca g d 131 [.ref a0, .int x1] h P = z_T g d 131 0 [.ref a0, .int x1] [] h P := z_Ca_ent zm_131 rfl rfl
theorem zi_131_0 : z_ins 131 0 = some (.aload_n 0, 1) := by decide +kernel
theorem ze_131_0 : z_T g d 131 0 (.ref a :: ls) st h P = z_T g d 131 1 (.ref a :: ls) (.ref a :: st) h P := zt_aloadn zi_131_0 rfl rfl
theorem zi_131_1 : z_ins 131 1 = some (.iload_n 1, 1) := by decide +kernel
theorem ze_131_1 : z_T g d 131 1 (v0 :: .int x :: ls) st h P = z_T g d 131 2 (v0 :: .int x :: ls) (.int x :: st) h P := zt_iloadn zi_131_1 rfl rfl
theorem zi_131_2 : z_ins 131 2 = some (.invokespecial 50, 3) := by decide +kernel
theorem ze_131_2 : z_T g d 131 2 ls (.int x0 :: .ref a :: st) h P = ((z_okS 8 st = true ∧ z_gO h.1 a 12 ∧ 0 < d) ∧ z_Ca g (d - 1) 112 [.ref a, .int x0] h (fun r => z_kJ r (fun v h' => z_T g d 131 5 ls (z_push v st) h' P))) := zt_cV (as := [.int x0]) (kk := 2) zi_131_2 rfl (zt_callJ zj_131) (z_opI ((congrArg (fun o => z_lookup z_ois (o, 50)) zo_131).trans zq_ois_java_lang_StringBuilder_50)) ((congrArg (fun o => z_clk o 50) zo_131).trans zk_java_lang_StringBuilder_50) rfl rfl rfl rfl (z_rcv4 (by decide))
theorem zi_131_5 : z_ins 131 5 = some (.pop, 1) := by decide +kernel
theorem ze_131_5_i : z_T g d 131 5 ls (.int x :: st) h P = z_T g d 131 6 ls st h P := zt_pop rfl zi_131_5
theorem ze_131_5 : z_T g d 131 5 ls (.ref a :: st) h P = z_T g d 131 6 ls st h P := zt_pop rfl zi_131_5
theorem zi_131_6 : z_ins 131 6 = some (.aload_n 0, 1) := by decide +kernel
theorem ze_131_6 : z_T g d 131 6 (.ref a :: ls) st h P = z_T g d 131 7 (.ref a :: ls) (.ref a :: st) h P := zt_aloadn zi_131_6 rfl rfl
theorem zi_131_7 : z_ins 131 7 = some (.areturn, 1) := by decide +kernel
theorem ze_131_7 : z_T g d 131 7 ls [.ref a] h P = P (.inr (some (.ref a)), h) := zt_areturn rfl zi_131_7 zr_131 rfl
-- java/lang/StringBuilder.append(I)Ljava/lang/StringBuilder;
theorem zm_132 : z_maxL 132 = 2 := by decide +kernel
theorem zh_132 : z_hds 132 = [] := by decide +kernel
theorem zj_132 : z_jdk 132 = true := by decide +kernel
theorem zr_132 : z_rt 132 = (some (.object "java/lang/StringBuilder")) := by decide +kernel
theorem zn_132 : z_Ca g d 132 [.ref a0, .int x1] h P = z_T g d 132 0 [.ref a0, .int x1] [] h P := z_Ca_ent zm_132 rfl rfl
theorem zi_132_0 : z_ins 132 0 = some (.aload_n 0, 1) := by decide +kernel
theorem ze_132_0 : z_T g d 132 0 (.ref a :: ls) st h P = z_T g d 132 1 (.ref a :: ls) (.ref a :: st) h P := zt_aloadn zi_132_0 rfl rfl
theorem zi_132_1 : z_ins 132 1 = some (.iload_n 1, 1) := by decide +kernel
theorem ze_132_1 : z_T g d 132 1 (v0 :: .int x :: ls) st h P = z_T g d 132 2 (v0 :: .int x :: ls) (.int x :: st) h P := zt_iloadn zi_132_1 rfl rfl
theorem zi_132_2 : z_ins 132 2 = some (.invokespecial 53, 3) := by decide +kernel
theorem ze_132_2 : z_T g d 132 2 ls (.int x0 :: .ref a :: st) h P = ((z_okS 8 st = true ∧ z_gO h.1 a 12 ∧ 0 < d) ∧ z_Ca g (d - 1) 113 [.ref a, .int x0] h (fun r => z_kJ r (fun v h' => z_T g d 132 5 ls (z_push v st) h' P))) := zt_cV (as := [.int x0]) (kk := 2) zi_132_2 rfl (zt_callJ zj_132) (z_opI ((congrArg (fun o => z_lookup z_ois (o, 53)) zo_132).trans zq_ois_java_lang_StringBuilder_53)) ((congrArg (fun o => z_clk o 53) zo_132).trans zk_java_lang_StringBuilder_53) rfl rfl rfl rfl (z_rcv4 (by decide))
theorem zi_132_5 : z_ins 132 5 = some (.pop, 1) := by decide +kernel
theorem ze_132_5_i : z_T g d 132 5 ls (.int x :: st) h P = z_T g d 132 6 ls st h P := zt_pop rfl zi_132_5
theorem ze_132_5 : z_T g d 132 5 ls (.ref a :: st) h P = z_T g d 132 6 ls st h P := zt_pop rfl zi_132_5
theorem zi_132_6 : z_ins 132 6 = some (.aload_n 0, 1) := by decide +kernel
theorem ze_132_6 : z_T g d 132 6 (.ref a :: ls) st h P = z_T g d 132 7 (.ref a :: ls) (.ref a :: st) h P := zt_aloadn zi_132_6 rfl rfl
theorem zi_132_7 : z_ins 132 7 = some (.areturn, 1) := by decide +kernel
theorem ze_132_7 : z_T g d 132 7 ls [.ref a] h P = P (.inr (some (.ref a)), h) := zt_areturn rfl zi_132_7 zr_132 rfl
-- java/lang/StringBuilder.toString()Ljava/lang/String;
theorem zm_133 : z_maxL 133 = 1 := by decide +kernel
theorem zh_133 : z_hds 133 = [] := by decide +kernel
theorem zj_133 : z_jdk 133 = true := by decide +kernel
theorem zr_133 : z_rt 133 = (some (.object "java/lang/String")) := by decide +kernel
theorem zn_133 : z_Ca g d 133 [.ref a0] h P = z_T g d 133 0 [.ref a0] [] h P := z_Ca_ent zm_133 rfl rfl
theorem zi_133_0 : z_ins 133 0 = some (.new 18, 3) := by decide +kernel
theorem ze_133_0 : z_T g d 133 0 ls st h P = z_nO h 11 4 [.null, .int 0, .int 0, .int 0] (fun q h' => z_T g d 133 3 ls (.ref q :: st) h' P) := zt_new zi_133_0 (by decide +kernel)
theorem zi_133_3 : z_ins 133 3 = some (.dup, 1) := by decide +kernel
theorem ze_133_3 : z_T g d 133 3 ls (.ref a :: st) h P = z_T g d 133 4 ls (.ref a :: .ref a :: st) h P := zt_dup rfl zi_133_3
theorem ze_133_3_i : z_T g d 133 3 ls (.int x :: st) h P = z_T g d 133 4 ls (.int x :: .int x :: st) h P := zt_dup rfl zi_133_3
theorem zi_133_4 : z_ins 133 4 = some (.aload_n 0, 1) := by decide +kernel
theorem ze_133_4 : z_T g d 133 4 (.ref a :: ls) st h P = z_T g d 133 5 (.ref a :: ls) (.ref a :: st) h P := zt_aloadn zi_133_4 rfl rfl
theorem zi_133_5 : z_ins 133 5 = some (.invokespecial 137, 3) := by decide +kernel
theorem ze_133_5 : z_T g d 133 5 ls (.ref a0 :: .ref a :: st) h P = ((z_okS 8 st = true ∧ 0 < d) ∧ z_Ca g (d - 1) 122 [.ref a, .ref a0] h (fun r => z_kJ r (fun v h' => z_T g d 133 8 ls (z_push v st) h' P))) := zt_cS (as := [.ref a, .ref a0]) (kk := 2) zi_133_5 rfl (zt_callJ zj_133) (z_opI ((congrArg (fun o => z_lookup z_ois (o, 137)) zo_133).trans zq_ois_java_lang_StringBuilder_137)) ((congrArg (fun o => z_clk o 137) zo_133).trans zk_java_lang_StringBuilder_137) rfl rfl rfl rfl rfl
theorem zi_133_8 : z_ins 133 8 = some (.areturn, 1) := by decide +kernel
theorem ze_133_8 : z_T g d 133 8 ls [.ref a] h P = P (.inr (some (.ref a)), h) := zt_areturn rfl zi_133_8 zr_133 rfl
-- java/lang/StringBuilder.length()I
theorem zm_134 : z_maxL 134 = 1 := by decide +kernel
theorem zh_134 : z_hds 134 = [] := by decide +kernel
theorem zj_134 : z_jdk 134 = true := by decide +kernel
theorem zr_134 : z_rt 134 = (some .int) := by decide +kernel
theorem zn_134 : z_Ca g d 134 [.ref a0] h P = z_T g d 134 0 [.ref a0] [] h P := z_Ca_ent zm_134 rfl rfl
theorem zi_134_0 : z_ins 134 0 = some (.aload_n 0, 1) := by decide +kernel
theorem ze_134_0 : z_T g d 134 0 (.ref a :: ls) st h P = z_T g d 134 1 (.ref a :: ls) (.ref a :: st) h P := zt_aloadn zi_134_0 rfl rfl
theorem zi_134_1 : z_ins 134 1 = some (.invokespecial 343, 3) := by decide +kernel
theorem ze_134_1 : z_T g d 134 1 ls (.ref a :: st) h P = ((z_okS 8 st = true ∧ z_gO h.1 a 12 ∧ 0 < d) ∧ z_Ca g (d - 1) 108 [.ref a] h (fun r => z_kJ r (fun v h' => z_T g d 134 4 ls (z_push v st) h' P))) := zt_cV (as := []) (kk := 2) zi_134_1 rfl (zt_callJ zj_134) (z_opI ((congrArg (fun o => z_lookup z_ois (o, 343)) zo_134).trans zq_ois_java_lang_StringBuilder_343)) ((congrArg (fun o => z_clk o 343) zo_134).trans zk_java_lang_StringBuilder_343) rfl rfl rfl rfl (z_rcv4 (by decide))
theorem zi_134_4 : z_ins 134 4 = some (.ireturn, 1) := by decide +kernel
theorem ze_134_4 : z_T g d 134 4 ls [.int x] h P = P (.inr (some (.int x)), h) := zt_ireturn zi_134_4 zr_134
-- java/lang/StringLatin1.charAt([BI)C
theorem zm_135 : z_maxL 135 = 2 := by decide +kernel
theorem zh_135 : z_hds 135 = [] := by decide +kernel
theorem zj_135 : z_jdk 135 = false := by decide +kernel
theorem zr_135 : z_rt 135 = (some .char) := by decide +kernel
theorem zn_135 : z_Ca g d 135 [.ref a0, .int x1] h P = z_T g d 135 0 [.ref a0, .int x1] [] h P := z_Ca_ent zm_135 rfl rfl
theorem zi_135_0 : z_ins 135 0 = some (.iload_n 1, 1) := by decide +kernel
theorem ze_135_0 : z_T g d 135 0 (v0 :: .int x :: ls) st h P = z_T g d 135 1 (v0 :: .int x :: ls) (.int x :: st) h P := zt_iloadn zi_135_0 rfl rfl
theorem zi_135_1 : z_ins 135 1 = some (.aload_n 0, 1) := by decide +kernel
theorem ze_135_1 : z_T g d 135 1 (.ref a :: ls) st h P = z_T g d 135 2 (.ref a :: ls) (.ref a :: st) h P := zt_aloadn zi_135_1 rfl rfl
theorem zi_135_2 : z_ins 135 2 = some (.arraylength, 1) := by decide +kernel
theorem ze_135_2 : z_T g d 135 2 ls (.ref a :: st) h P = z_aN h.1 a (fun n => z_T g d 135 3 ls (.int (nI n) :: st) h P) := zt_alen zi_135_2
theorem zi_135_3 : z_ins 135 3 = some (.invokestatic 9, 3) := by decide +kernel
theorem ze_135_3 (hj : 0 ≤ x ∧ x < y) (hok : z_okS 8 (.int y :: .int x :: st) = true) : z_T g d 135 3 ls (.int y :: .int x :: st) h P = z_T g d 135 6 ls st h P := zt_primS zi_135_3 ((congrArg (fun o => z_lookup z_cps (o, 9)) zo_135).trans zq_cps_java_lang_StringLatin1_9) ((congrArg (fun o => z_lookup z_prs (o, 9)) zo_135).trans zq_prs_java_lang_StringLatin1_9) (by decide) hok (by simp only [z_prim]; rw [if_pos hj])
theorem zi_135_6 : z_ins 135 6 = some (.aload_n 0, 1) := by decide +kernel
theorem ze_135_6 : z_T g d 135 6 (.ref a :: ls) st h P = z_T g d 135 7 (.ref a :: ls) (.ref a :: st) h P := zt_aloadn zi_135_6 rfl rfl
theorem zi_135_7 : z_ins 135 7 = some (.iload_n 1, 1) := by decide +kernel
theorem ze_135_7 : z_T g d 135 7 (v0 :: .int x :: ls) st h P = z_T g d 135 8 (v0 :: .int x :: ls) (.int x :: st) h P := zt_iloadn zi_135_7 rfl rfl
theorem zi_135_8 : z_ins 135 8 = some (.baload, 1) := by decide +kernel
theorem ze_135_8 : z_T g d 135 8 ls (.int x :: .ref a :: st) h P = z_aL h.1 a z_tB x (fun v => z_T g d 135 9 ls (.int v :: st) h P) := zt_baload zi_135_8
theorem zi_135_9 : z_ins 135 9 = some (.sipush 255, 3) := by decide +kernel
theorem ze_135_9 : z_T g d 135 9 ls st h P = z_T g d 135 12 ls (.int (nI 255) :: st) h P := zt_sipush zi_135_9 rfl
theorem zi_135_12 : z_ins 135 12 = some (.iand, 1) := by decide +kernel
theorem ze_135_12 : z_T g d 135 12 ls (.int y :: .int x :: st) h P = z_T g d 135 13 ls (.int (x &&& y) :: st) h P := zt_bin (f := fun x y => x &&& y) zi_135_12 rfl (fun _ _ _ => rfl)
theorem zi_135_13 : z_ins 135 13 = some (.i2c, 1) := by decide +kernel
theorem ze_135_13 : z_T g d 135 13 ls (.int x :: st) h P = z_T g d 135 14 ls (.int (x.toUInt32 % 65536).toInt32 :: st) h P := zt_i2c zi_135_13
theorem zi_135_14 : z_ins 135 14 = some (.ireturn, 1) := by decide +kernel
theorem ze_135_14 : z_T g d 135 14 ls [.int x] h P = (vp_nar .char x = x ∧ P (.inr (some (.int x)), h)) := zt_narrow zi_135_14 zr_135 (by simp)
-- java/lang/StringLatin1.canEncode(C)Z
theorem zm_136 : z_maxL 136 = 1 := by decide +kernel
theorem zh_136 : z_hds 136 = [] := by decide +kernel
theorem zj_136 : z_jdk 136 = false := by decide +kernel
theorem zr_136 : z_rt 136 = (some .boolean) := by decide +kernel
theorem zn_136 : z_Ca g d 136 [.int x0] h P = z_T g d 136 0 [.int x0] [] h P := z_Ca_ent zm_136 rfl rfl
theorem zi_136_0 : z_ins 136 0 = some (.iload_n 0, 1) := by decide +kernel
theorem ze_136_0 : z_T g d 136 0 (.int x :: ls) st h P = z_T g d 136 1 (.int x :: ls) (.int x :: st) h P := zt_iloadn zi_136_0 rfl rfl
theorem zi_136_1 : z_ins 136 1 = some (.sipush 255, 3) := by decide +kernel
theorem ze_136_1 : z_T g d 136 1 ls st h P = z_T g d 136 4 ls (.int (nI 255) :: st) h P := zt_sipush zi_136_1 rfl
theorem zi_136_4 : z_ins 136 4 = some (.if_icmp .gt 7, 3) := by decide +kernel
theorem ze_136_4 : z_T g d 136 4 ls (.int y :: .int x :: st) h P = (if y < x then z_T g d 136 11 ls st h P else z_T g d 136 7 ls st h P) := zt_icmpgt zi_136_4 (by decide)
theorem zi_136_7 : z_ins 136 7 = some (.iconst 1, 1) := by decide +kernel
theorem ze_136_7 : z_T g d 136 7 ls st h P = z_T g d 136 8 ls (.int (nI 1) :: st) h P := zt_iconst zi_136_7 rfl
theorem zi_136_8 : z_ins 136 8 = some (.goto 4, 3) := by decide +kernel
theorem ze_136_8 : z_T g d 136 8 ls st h P = z_T g d 136 12 ls st h P := zt_goto zi_136_8 (by decide)
theorem zi_136_11 : z_ins 136 11 = some (.iconst 0, 1) := by decide +kernel
theorem ze_136_11 : z_T g d 136 11 ls st h P = z_T g d 136 12 ls (.int (nI 0) :: st) h P := zt_iconst zi_136_11 rfl
theorem zi_136_12 : z_ins 136 12 = some (.ireturn, 1) := by decide +kernel
theorem ze_136_12 : z_T g d 136 12 ls [.int x] h P = ((x = nI 0 ∨ x = nI 1) ∧ P (.inr (some (.int x)), h)) := zt_zreturn zi_136_12 zr_136
-- java/util/Arrays.copyOf([BI)[B
theorem zm_137 : z_maxL 137 = 3 := by decide +kernel
theorem zh_137 : z_hds 137 = [] := by decide +kernel
theorem zj_137 : z_jdk 137 = false := by decide +kernel
theorem zr_137 : z_rt 137 = (some (.array .byte)) := by decide +kernel
theorem zn_137 : z_Ca g d 137 [.ref a0, .int x1] h P = z_T g d 137 0 [.ref a0, .int x1, z_un] [] h P := z_Ca_ent zm_137 rfl rfl
theorem zi_137_0 : z_ins 137 0 = some (.iload_n 1, 1) := by decide +kernel
theorem ze_137_0 : z_T g d 137 0 (v0 :: .int x :: ls) st h P = z_T g d 137 1 (v0 :: .int x :: ls) (.int x :: st) h P := zt_iloadn zi_137_0 rfl rfl
theorem zi_137_1 : z_ins 137 1 = some (.aload_n 0, 1) := by decide +kernel
theorem ze_137_1 : z_T g d 137 1 (.ref a :: ls) st h P = z_T g d 137 2 (.ref a :: ls) (.ref a :: st) h P := zt_aloadn zi_137_1 rfl rfl
theorem zi_137_2 : z_ins 137 2 = some (.arraylength, 1) := by decide +kernel
theorem ze_137_2 : z_T g d 137 2 ls (.ref a :: st) h P = z_aN h.1 a (fun n => z_T g d 137 3 ls (.int (nI n) :: st) h P) := zt_alen zi_137_2
theorem zi_137_3 : z_ins 137 3 = some (.if_icmp .ne 11, 3) := by decide +kernel
theorem ze_137_3 : z_T g d 137 3 ls (.int y :: .int x :: st) h P = (if x = y then z_T g d 137 6 ls st h P else z_T g d 137 14 ls st h P) := zt_icmpne zi_137_3 (by decide)
theorem zi_137_6 : z_ins 137 6 = some (.aload_n 0, 1) := by decide +kernel
theorem ze_137_6 : z_T g d 137 6 (.ref a :: ls) st h P = z_T g d 137 7 (.ref a :: ls) (.ref a :: st) h P := zt_aloadn zi_137_6 rfl rfl
theorem zi_137_7 : z_ins 137 7 = some (.invokevirtual 310, 3) := by decide +kernel
theorem ze_137_7 : z_T g d 137 7 ls (.ref a :: st) h P = (z_okS 8 st = true ∧ z_nC h 1 a (fun q h' => z_T g d 137 10 ls (.ref q :: st) h' P)) := zt_clone zi_137_7 ((congrArg (fun o => z_lookup z_cns (o, 310)) zo_137).trans zq_cns_java_util_Arrays_310)
theorem zi_137_10 : z_ins 137 10 = some (.checkcast 311, 3) := by decide +kernel
theorem ze_137_10 : z_T g d 137 10 ls (.ref a :: st) h P = (z_cst h 1 a = true ∧ z_T g d 137 13 ls (.ref a :: st) h P) := zt_cast zi_137_10 ((congrArg (fun o => z_lookup z_ccs (o, 311)) zo_137).trans zq_ccs_java_util_Arrays_311)
theorem zi_137_13 : z_ins 137 13 = some (.areturn, 1) := by decide +kernel
theorem ze_137_13 : z_T g d 137 13 ls [.ref a] h P = P (.inr (some (.ref a)), h) := zt_areturn rfl zi_137_13 zr_137 rfl
theorem zi_137_14 : z_ins 137 14 = some (.iload_n 1, 1) := by decide +kernel
theorem ze_137_14 : z_T g d 137 14 (v0 :: .int x :: ls) st h P = z_T g d 137 15 (v0 :: .int x :: ls) (.int x :: st) h P := zt_iloadn zi_137_14 rfl rfl
theorem zi_137_15 : z_ins 137 15 = some (.newarray .byte, 2) := by decide +kernel
theorem ze_137_15 : z_T g d 137 15 ls (.int x :: st) h P = z_nA h .byte x (fun q h' => z_T g d 137 17 ls (.ref q :: st) h' P) := zt_newarray zi_137_15
theorem zi_137_17 : z_ins 137 17 = some (.astore_n 2, 1) := by decide +kernel
theorem ze_137_17 : z_T g d 137 17 (v0 :: v1 :: v2 :: ls) (.ref a :: st) h P = z_T g d 137 18 (v0 :: v1 :: .ref a :: ls) st h P := zt_astoren rfl zi_137_17 rfl (Nat.le_add_left 3 _)
theorem zi_137_18 : z_ins 137 18 = some (.aload_n 0, 1) := by decide +kernel
theorem ze_137_18 : z_T g d 137 18 (.ref a :: ls) st h P = z_T g d 137 19 (.ref a :: ls) (.ref a :: st) h P := zt_aloadn zi_137_18 rfl rfl
theorem zi_137_19 : z_ins 137 19 = some (.iconst 0, 1) := by decide +kernel
theorem ze_137_19 : z_T g d 137 19 ls st h P = z_T g d 137 20 ls (.int (nI 0) :: st) h P := zt_iconst zi_137_19 rfl
theorem zi_137_20 : z_ins 137 20 = some (.aload_n 2, 1) := by decide +kernel
theorem ze_137_20 : z_T g d 137 20 (v0 :: v1 :: .ref a :: ls) st h P = z_T g d 137 21 (v0 :: v1 :: .ref a :: ls) (.ref a :: st) h P := zt_aloadn zi_137_20 rfl rfl
theorem zi_137_21 : z_ins 137 21 = some (.iconst 0, 1) := by decide +kernel
theorem ze_137_21 : z_T g d 137 21 ls st h P = z_T g d 137 22 ls (.int (nI 0) :: st) h P := zt_iconst zi_137_21 rfl
theorem zi_137_22 : z_ins 137 22 = some (.aload_n 0, 1) := by decide +kernel
theorem ze_137_22 : z_T g d 137 22 (.ref a :: ls) st h P = z_T g d 137 23 (.ref a :: ls) (.ref a :: st) h P := zt_aloadn zi_137_22 rfl rfl
theorem zi_137_23 : z_ins 137 23 = some (.arraylength, 1) := by decide +kernel
theorem ze_137_23 : z_T g d 137 23 ls (.ref a :: st) h P = z_aN h.1 a (fun n => z_T g d 137 24 ls (.int (nI n) :: st) h P) := zt_alen zi_137_23
theorem zi_137_24 : z_ins 137 24 = some (.iload_n 1, 1) := by decide +kernel
theorem ze_137_24 : z_T g d 137 24 (v0 :: .int x :: ls) st h P = z_T g d 137 25 (v0 :: .int x :: ls) (.int x :: st) h P := zt_iloadn zi_137_24 rfl rfl
theorem zi_137_25 : z_ins 137 25 = some (.invokestatic 304, 3) := by decide +kernel
theorem ze_137_25 (hok : z_okS 8 (.int y :: .int x :: st) = true) : z_T g d 137 25 ls (.int y :: .int x :: st) h P = z_T g d 137 28 ls (.int (if y < x then y else x) :: st) h P := zt_primS zi_137_25 ((congrArg (fun o => z_lookup z_cps (o, 304)) zo_137).trans zq_cps_java_util_Arrays_304) ((congrArg (fun o => z_lookup z_prs (o, 304)) zo_137).trans zq_prs_java_util_Arrays_304) (by decide) hok rfl
theorem zi_137_28 : z_ins 137 28 = some (.invokestatic 150, 3) := by decide +kernel
theorem ze_137_28 : z_T g d 137 28 ls (.int y :: .int x :: .ref a :: .int x0 :: vw :: st) h P = (z_okS 8 st = true ∧ z_cP h vw x0 a x y (fun h' => z_T g d 137 31 ls st h' P)) := zt_copy zi_137_28 ((congrArg (fun o => z_lookup z_cps (o, 150)) zo_137).trans zq_cps_java_util_Arrays_150)
theorem zi_137_31 : z_ins 137 31 = some (.aload_n 2, 1) := by decide +kernel
theorem ze_137_31 : z_T g d 137 31 (v0 :: v1 :: .ref a :: ls) st h P = z_T g d 137 32 (v0 :: v1 :: .ref a :: ls) (.ref a :: st) h P := zt_aloadn zi_137_31 rfl rfl
theorem zi_137_32 : z_ins 137 32 = some (.areturn, 1) := by decide +kernel
theorem ze_137_32 : z_T g d 137 32 ls [.ref a] h P = P (.inr (some (.ref a)), h) := zt_areturn rfl zi_137_32 zr_137 rfl
-- java/util/Arrays.checkLength(II)V
theorem zm_138 : z_maxL 138 = 2 := by decide +kernel
theorem zh_138 : z_hds 138 = [] := by decide +kernel
theorem zj_138 : z_jdk 138 = false := by decide +kernel
theorem zr_138 : z_rt 138 = none := by decide +kernel
theorem zn_138 : z_Ca g d 138 [.int x0, .int x1] h P = z_T g d 138 0 [.int x0, .int x1] [] h P := z_Ca_ent zm_138 rfl rfl
theorem zi_138_0 : z_ins 138 0 = some (.iload_n 1, 1) := by decide +kernel
theorem ze_138_0 : z_T g d 138 0 (v0 :: .int x :: ls) st h P = z_T g d 138 1 (v0 :: .int x :: ls) (.int x :: st) h P := zt_iloadn zi_138_0 rfl rfl
theorem zi_138_1 : z_ins 138 1 = some (.iload_n 0, 1) := by decide +kernel
theorem ze_138_1 : z_T g d 138 1 (.int x :: ls) st h P = z_T g d 138 2 (.int x :: ls) (.int x :: st) h P := zt_iloadn zi_138_1 rfl rfl
theorem zi_138_2 : z_ins 138 2 = some (.if_icmp .ge 35, 3) := by decide +kernel
theorem ze_138_2 : z_T g d 138 2 ls (.int y :: .int x :: st) h P = (if x < y then z_T g d 138 5 ls st h P else z_T g d 138 37 ls st h P) := zt_icmpge zi_138_2 (by decide)
theorem zi_138_5 : z_ins 138 5 = some (.new 43, 3) := by decide +kernel
theorem zi_138_8 : z_ins 138 8 = some (.dup, 1) := by decide +kernel
theorem ze_138_8 : z_T g d 138 8 ls (.ref a :: st) h P = z_T g d 138 9 ls (.ref a :: .ref a :: st) h P := zt_dup rfl zi_138_8
theorem ze_138_8_i : z_T g d 138 8 ls (.int x :: st) h P = z_T g d 138 9 ls (.int x :: .int x :: st) h P := zt_dup rfl zi_138_8
theorem zi_138_9 : z_ins 138 9 = some (.new 45, 3) := by decide +kernel
theorem zi_138_12 : z_ins 138 12 = some (.dup, 1) := by decide +kernel
theorem ze_138_12 : z_T g d 138 12 ls (.ref a :: st) h P = z_T g d 138 13 ls (.ref a :: .ref a :: st) h P := zt_dup rfl zi_138_12
theorem ze_138_12_i : z_T g d 138 12 ls (.int x :: st) h P = z_T g d 138 13 ls (.int x :: .int x :: st) h P := zt_dup rfl zi_138_12
theorem zi_138_13 : z_ins 138 13 = some (.invokespecial 47, 3) := by decide +kernel
theorem zi_138_16 : z_ins 138 16 = some (.iload_n 0, 1) := by decide +kernel
theorem ze_138_16 : z_T g d 138 16 (.int x :: ls) st h P = z_T g d 138 17 (.int x :: ls) (.int x :: st) h P := zt_iloadn zi_138_16 rfl rfl
theorem zi_138_17 : z_ins 138 17 = some (.invokevirtual 54, 3) := by decide +kernel
theorem zi_138_20 : z_ins 138 20 = some (.ldc_w 337, 3) := by decide +kernel
theorem zi_138_23 : z_ins 138 23 = some (.invokevirtual 50, 3) := by decide +kernel
theorem zi_138_26 : z_ins 138 26 = some (.iload_n 1, 1) := by decide +kernel
theorem ze_138_26 : z_T g d 138 26 (v0 :: .int x :: ls) st h P = z_T g d 138 27 (v0 :: .int x :: ls) (.int x :: st) h P := zt_iloadn zi_138_26 rfl rfl
theorem zi_138_27 : z_ins 138 27 = some (.invokevirtual 54, 3) := by decide +kernel
theorem zi_138_30 : z_ins 138 30 = some (.invokevirtual 61, 3) := by decide +kernel
theorem zi_138_33 : z_ins 138 33 = some (.invokespecial 65, 3) := by decide +kernel
theorem zi_138_36 : z_ins 138 36 = some (.athrow, 1) := by decide +kernel
theorem zi_138_37 : z_ins 138 37 = some (.return_, 1) := by decide +kernel
theorem ze_138_37 : z_T g d 138 37 ls [] h P = P (.inr none, h) := zt_return zi_138_37 zr_138
-- java/util/Arrays.copyOfRange([BII)[B
theorem zm_139 : z_maxL 139 = 3 := by decide +kernel
theorem zh_139 : z_hds 139 = [] := by decide +kernel
theorem zj_139 : z_jdk 139 = false := by decide +kernel
theorem zr_139 : z_rt 139 = (some (.array .byte)) := by decide +kernel
theorem zn_139 : z_Ca g d 139 [.ref a0, .int x1, .int x2] h P = z_T g d 139 0 [.ref a0, .int x1, .int x2] [] h P := z_Ca_ent zm_139 rfl rfl
theorem zi_139_0 : z_ins 139 0 = some (.iload_n 1, 1) := by decide +kernel
theorem ze_139_0 : z_T g d 139 0 (v0 :: .int x :: ls) st h P = z_T g d 139 1 (v0 :: .int x :: ls) (.int x :: st) h P := zt_iloadn zi_139_0 rfl rfl
theorem zi_139_1 : z_ins 139 1 = some (.ifCond .ne 9, 3) := by decide +kernel
theorem ze_139_1 : z_T g d 139 1 ls (.int x :: st) h P = (if x = nI 0 then z_T g d 139 4 ls st h P else z_T g d 139 10 ls st h P) := zt_ifne zi_139_1 (by decide)
theorem zi_139_4 : z_ins 139 4 = some (.iload_n 2, 1) := by decide +kernel
theorem ze_139_4 : z_T g d 139 4 (v0 :: v1 :: .int x :: ls) st h P = z_T g d 139 5 (v0 :: v1 :: .int x :: ls) (.int x :: st) h P := zt_iloadn zi_139_4 rfl rfl
theorem zi_139_5 : z_ins 139 5 = some (.aload_n 0, 1) := by decide +kernel
theorem ze_139_5 : z_T g d 139 5 (.ref a :: ls) st h P = z_T g d 139 6 (.ref a :: ls) (.ref a :: st) h P := zt_aloadn zi_139_5 rfl rfl
theorem zi_139_6 : z_ins 139 6 = some (.arraylength, 1) := by decide +kernel
theorem ze_139_6 : z_T g d 139 6 ls (.ref a :: st) h P = z_aN h.1 a (fun n => z_T g d 139 7 ls (.int (nI n) :: st) h P) := zt_alen zi_139_6
theorem zi_139_7 : z_ins 139 7 = some (.if_icmp .eq 10, 3) := by decide +kernel
theorem ze_139_7 : z_T g d 139 7 ls (.int y :: .int x :: st) h P = (if x = y then z_T g d 139 17 ls st h P else z_T g d 139 10 ls st h P) := zt_icmpeq zi_139_7 (by decide)
theorem zi_139_10 : z_ins 139 10 = some (.aload_n 0, 1) := by decide +kernel
theorem ze_139_10 : z_T g d 139 10 (.ref a :: ls) st h P = z_T g d 139 11 (.ref a :: ls) (.ref a :: st) h P := zt_aloadn zi_139_10 rfl rfl
theorem zi_139_11 : z_ins 139 11 = some (.iload_n 1, 1) := by decide +kernel
theorem ze_139_11 : z_T g d 139 11 (v0 :: .int x :: ls) st h P = z_T g d 139 12 (v0 :: .int x :: ls) (.int x :: st) h P := zt_iloadn zi_139_11 rfl rfl
theorem zi_139_12 : z_ins 139 12 = some (.iload_n 2, 1) := by decide +kernel
theorem ze_139_12 : z_T g d 139 12 (v0 :: v1 :: .int x :: ls) st h P = z_T g d 139 13 (v0 :: v1 :: .int x :: ls) (.int x :: st) h P := zt_iloadn zi_139_12 rfl rfl
theorem zi_139_13 : z_ins 139 13 = some (.invokestatic 339, 3) := by decide +kernel
theorem ze_139_13 : z_T g d 139 13 ls (.int x2 :: .int x1 :: .ref a0 :: st) h P = ((z_okS 8 st = true ∧ 0 < d) ∧ z_Ca g (d - 1) 140 [.ref a0, .int x1, .int x2] h (fun r => z_k r (fun v h' => z_T g d 139 16 ls (z_push v st) h' P) P)) := zt_cS (as := [.ref a0, .int x1, .int x2]) (kk := 1) zi_139_13 rfl (zt_call zj_139 zh_139) (z_opT ((congrArg (fun o => z_lookup z_cps (o, 339)) zo_139).trans zq_cps_java_util_Arrays_339) ((congrArg (fun o => z_lookup z_prs (o, 339)) zo_139).trans zq_prs_java_util_Arrays_339)) ((congrArg (fun o => z_clk o 339) zo_139).trans zk_java_util_Arrays_339) rfl rfl rfl rfl rfl
theorem zi_139_16 : z_ins 139 16 = some (.areturn, 1) := by decide +kernel
theorem ze_139_16 : z_T g d 139 16 ls [.ref a] h P = P (.inr (some (.ref a)), h) := zt_areturn rfl zi_139_16 zr_139 rfl
theorem zi_139_17 : z_ins 139 17 = some (.aload_n 0, 1) := by decide +kernel
theorem ze_139_17 : z_T g d 139 17 (.ref a :: ls) st h P = z_T g d 139 18 (.ref a :: ls) (.ref a :: st) h P := zt_aloadn zi_139_17 rfl rfl
theorem zi_139_18 : z_ins 139 18 = some (.invokevirtual 310, 3) := by decide +kernel
theorem ze_139_18 : z_T g d 139 18 ls (.ref a :: st) h P = (z_okS 8 st = true ∧ z_nC h 1 a (fun q h' => z_T g d 139 21 ls (.ref q :: st) h' P)) := zt_clone zi_139_18 ((congrArg (fun o => z_lookup z_cns (o, 310)) zo_139).trans zq_cns_java_util_Arrays_310)
theorem zi_139_21 : z_ins 139 21 = some (.checkcast 311, 3) := by decide +kernel
theorem ze_139_21 : z_T g d 139 21 ls (.ref a :: st) h P = (z_cst h 1 a = true ∧ z_T g d 139 24 ls (.ref a :: st) h P) := zt_cast zi_139_21 ((congrArg (fun o => z_lookup z_ccs (o, 311)) zo_139).trans zq_ccs_java_util_Arrays_311)
theorem zi_139_24 : z_ins 139 24 = some (.areturn, 1) := by decide +kernel
theorem ze_139_24 : z_T g d 139 24 ls [.ref a] h P = P (.inr (some (.ref a)), h) := zt_areturn rfl zi_139_24 zr_139 rfl
-- java/util/Arrays.copyOfRangeByte([BII)[B
theorem zm_140 : z_maxL 140 = 5 := by decide +kernel
theorem zh_140 : z_hds 140 = [] := by decide +kernel
theorem zj_140 : z_jdk 140 = false := by decide +kernel
theorem zr_140 : z_rt 140 = (some (.array .byte)) := by decide +kernel
theorem zn_140 : z_Ca g d 140 [.ref a0, .int x1, .int x2] h P = z_T g d 140 0 [.ref a0, .int x1, .int x2, z_un, z_un] [] h P := z_Ca_ent zm_140 rfl rfl
theorem zi_140_0 : z_ins 140 0 = some (.iload_n 1, 1) := by decide +kernel
theorem ze_140_0 : z_T g d 140 0 (v0 :: .int x :: ls) st h P = z_T g d 140 1 (v0 :: .int x :: ls) (.int x :: st) h P := zt_iloadn zi_140_0 rfl rfl
theorem zi_140_1 : z_ins 140 1 = some (.iload_n 2, 1) := by decide +kernel
theorem ze_140_1 : z_T g d 140 1 (v0 :: v1 :: .int x :: ls) st h P = z_T g d 140 2 (v0 :: v1 :: .int x :: ls) (.int x :: st) h P := zt_iloadn zi_140_1 rfl rfl
theorem zi_140_2 : z_ins 140 2 = some (.invokestatic 343, 3) := by decide +kernel
theorem ze_140_2 : z_T g d 140 2 ls (.int x1 :: .int x0 :: st) h P = ((z_okS 8 st = true ∧ 0 < d) ∧ z_Ca g (d - 1) 138 [.int x0, .int x1] h (fun r => z_k r (fun v h' => z_T g d 140 5 ls (z_push v st) h' P) P)) := zt_cS (as := [.int x0, .int x1]) (kk := 1) zi_140_2 rfl (zt_call zj_140 zh_140) (z_opT ((congrArg (fun o => z_lookup z_cps (o, 343)) zo_140).trans zq_cps_java_util_Arrays_343) ((congrArg (fun o => z_lookup z_prs (o, 343)) zo_140).trans zq_prs_java_util_Arrays_343)) ((congrArg (fun o => z_clk o 343) zo_140).trans zk_java_util_Arrays_343) rfl rfl rfl rfl rfl
theorem zi_140_5 : z_ins 140 5 = some (.iload_n 2, 1) := by decide +kernel
theorem ze_140_5 : z_T g d 140 5 (v0 :: v1 :: .int x :: ls) st h P = z_T g d 140 6 (v0 :: v1 :: .int x :: ls) (.int x :: st) h P := zt_iloadn zi_140_5 rfl rfl
theorem zi_140_6 : z_ins 140 6 = some (.iload_n 1, 1) := by decide +kernel
theorem ze_140_6 : z_T g d 140 6 (v0 :: .int x :: ls) st h P = z_T g d 140 7 (v0 :: .int x :: ls) (.int x :: st) h P := zt_iloadn zi_140_6 rfl rfl
theorem zi_140_7 : z_ins 140 7 = some (.isub, 1) := by decide +kernel
theorem ze_140_7 : z_T g d 140 7 ls (.int y :: .int x :: st) h P = z_T g d 140 8 ls (.int (x - y) :: st) h P := zt_bin (f := fun x y => x - y) zi_140_7 rfl (fun _ _ _ => rfl)
theorem zi_140_8 : z_ins 140 8 = some (.istore_n 3, 1) := by decide +kernel
theorem ze_140_8 : z_T g d 140 8 (v0 :: v1 :: v2 :: v3 :: ls) (.int x :: st) h P = z_T g d 140 9 (v0 :: v1 :: v2 :: .int x :: ls) st h P := zt_istoren zi_140_8 rfl (Nat.le_add_left 4 _)
theorem zi_140_9 : z_ins 140 9 = some (.iload_n 3, 1) := by decide +kernel
theorem ze_140_9 : z_T g d 140 9 (v0 :: v1 :: v2 :: .int x :: ls) st h P = z_T g d 140 10 (v0 :: v1 :: v2 :: .int x :: ls) (.int x :: st) h P := zt_iloadn zi_140_9 rfl rfl
theorem zi_140_10 : z_ins 140 10 = some (.newarray .byte, 2) := by decide +kernel
theorem ze_140_10 : z_T g d 140 10 ls (.int x :: st) h P = z_nA h .byte x (fun q h' => z_T g d 140 12 ls (.ref q :: st) h' P) := zt_newarray zi_140_10
theorem zi_140_12 : z_ins 140 12 = some (.astore 4, 2) := by decide +kernel
theorem ze_140_12 : z_T g d 140 12 (v0 :: v1 :: v2 :: v3 :: v4 :: ls) (.ref a :: st) h P = z_T g d 140 14 (v0 :: v1 :: v2 :: v3 :: .ref a :: ls) st h P := zt_astore rfl zi_140_12 (Nat.le_add_left 5 _)
theorem zi_140_14 : z_ins 140 14 = some (.aload_n 0, 1) := by decide +kernel
theorem ze_140_14 : z_T g d 140 14 (.ref a :: ls) st h P = z_T g d 140 15 (.ref a :: ls) (.ref a :: st) h P := zt_aloadn zi_140_14 rfl rfl
theorem zi_140_15 : z_ins 140 15 = some (.iload_n 1, 1) := by decide +kernel
theorem ze_140_15 : z_T g d 140 15 (v0 :: .int x :: ls) st h P = z_T g d 140 16 (v0 :: .int x :: ls) (.int x :: st) h P := zt_iloadn zi_140_15 rfl rfl
theorem zi_140_16 : z_ins 140 16 = some (.aload 4, 2) := by decide +kernel
theorem ze_140_16 : z_T g d 140 16 (v0 :: v1 :: v2 :: v3 :: .ref a :: ls) st h P = z_T g d 140 18 (v0 :: v1 :: v2 :: v3 :: .ref a :: ls) (.ref a :: st) h P := zt_aload zi_140_16 rfl
theorem zi_140_18 : z_ins 140 18 = some (.iconst 0, 1) := by decide +kernel
theorem ze_140_18 : z_T g d 140 18 ls st h P = z_T g d 140 19 ls (.int (nI 0) :: st) h P := zt_iconst zi_140_18 rfl
theorem zi_140_19 : z_ins 140 19 = some (.aload_n 0, 1) := by decide +kernel
theorem ze_140_19 : z_T g d 140 19 (.ref a :: ls) st h P = z_T g d 140 20 (.ref a :: ls) (.ref a :: st) h P := zt_aloadn zi_140_19 rfl rfl
theorem zi_140_20 : z_ins 140 20 = some (.arraylength, 1) := by decide +kernel
theorem ze_140_20 : z_T g d 140 20 ls (.ref a :: st) h P = z_aN h.1 a (fun n => z_T g d 140 21 ls (.int (nI n) :: st) h P) := zt_alen zi_140_20
theorem zi_140_21 : z_ins 140 21 = some (.iload_n 1, 1) := by decide +kernel
theorem ze_140_21 : z_T g d 140 21 (v0 :: .int x :: ls) st h P = z_T g d 140 22 (v0 :: .int x :: ls) (.int x :: st) h P := zt_iloadn zi_140_21 rfl rfl
theorem zi_140_22 : z_ins 140 22 = some (.isub, 1) := by decide +kernel
theorem ze_140_22 : z_T g d 140 22 ls (.int y :: .int x :: st) h P = z_T g d 140 23 ls (.int (x - y) :: st) h P := zt_bin (f := fun x y => x - y) zi_140_22 rfl (fun _ _ _ => rfl)
theorem zi_140_23 : z_ins 140 23 = some (.iload_n 3, 1) := by decide +kernel
theorem ze_140_23 : z_T g d 140 23 (v0 :: v1 :: v2 :: .int x :: ls) st h P = z_T g d 140 24 (v0 :: v1 :: v2 :: .int x :: ls) (.int x :: st) h P := zt_iloadn zi_140_23 rfl rfl
theorem zi_140_24 : z_ins 140 24 = some (.invokestatic 304, 3) := by decide +kernel
theorem ze_140_24 (hok : z_okS 8 (.int y :: .int x :: st) = true) : z_T g d 140 24 ls (.int y :: .int x :: st) h P = z_T g d 140 27 ls (.int (if y < x then y else x) :: st) h P := zt_primS zi_140_24 ((congrArg (fun o => z_lookup z_cps (o, 304)) zo_140).trans zq_cps_java_util_Arrays_304) ((congrArg (fun o => z_lookup z_prs (o, 304)) zo_140).trans zq_prs_java_util_Arrays_304) (by decide) hok rfl
theorem zi_140_27 : z_ins 140 27 = some (.invokestatic 150, 3) := by decide +kernel
theorem ze_140_27 : z_T g d 140 27 ls (.int y :: .int x :: .ref a :: .int x0 :: vw :: st) h P = (z_okS 8 st = true ∧ z_cP h vw x0 a x y (fun h' => z_T g d 140 30 ls st h' P)) := zt_copy zi_140_27 ((congrArg (fun o => z_lookup z_cps (o, 150)) zo_140).trans zq_cps_java_util_Arrays_150)
theorem zi_140_30 : z_ins 140 30 = some (.aload 4, 2) := by decide +kernel
theorem ze_140_30 : z_T g d 140 30 (v0 :: v1 :: v2 :: v3 :: .ref a :: ls) st h P = z_T g d 140 32 (v0 :: v1 :: v2 :: v3 :: .ref a :: ls) (.ref a :: st) h P := zt_aload zi_140_30 rfl
theorem zi_140_32 : z_ins 140 32 = some (.areturn, 1) := by decide +kernel
theorem ze_140_32 : z_T g d 140 32 ls [.ref a] h P = P (.inr (some (.ref a)), h) := zt_areturn rfl zi_140_32 zr_140 rfl
-- jdk/internal/util/ArraysSupport.newLength(III)I
theorem zm_141 : z_maxL 141 = 4 := by decide +kernel
theorem zh_141 : z_hds 141 = [] := by decide +kernel
theorem zj_141 : z_jdk 141 = false := by decide +kernel
theorem zr_141 : z_rt 141 = (some .int) := by decide +kernel
theorem zn_141 : z_Ca g d 141 [.int x0, .int x1, .int x2] h P = z_T g d 141 0 [.int x0, .int x1, .int x2, z_un] [] h P := z_Ca_ent zm_141 rfl rfl
theorem zi_141_0 : z_ins 141 0 = some (.iload_n 0, 1) := by decide +kernel
theorem ze_141_0 : z_T g d 141 0 (.int x :: ls) st h P = z_T g d 141 1 (.int x :: ls) (.int x :: st) h P := zt_iloadn zi_141_0 rfl rfl
theorem zi_141_1 : z_ins 141 1 = some (.iload_n 1, 1) := by decide +kernel
theorem ze_141_1 : z_T g d 141 1 (v0 :: .int x :: ls) st h P = z_T g d 141 2 (v0 :: .int x :: ls) (.int x :: st) h P := zt_iloadn zi_141_1 rfl rfl
theorem zi_141_2 : z_ins 141 2 = some (.iload_n 2, 1) := by decide +kernel
theorem ze_141_2 : z_T g d 141 2 (v0 :: v1 :: .int x :: ls) st h P = z_T g d 141 3 (v0 :: v1 :: .int x :: ls) (.int x :: st) h P := zt_iloadn zi_141_2 rfl rfl
theorem zi_141_3 : z_ins 141 3 = some (.invokestatic 194, 3) := by decide +kernel
theorem ze_141_3 (hok : z_okS 8 (.int y :: .int x :: st) = true) : z_T g d 141 3 ls (.int y :: .int x :: st) h P = z_T g d 141 6 ls (.int (if x < y then y else x) :: st) h P := zt_primS zi_141_3 ((congrArg (fun o => z_lookup z_cps (o, 194)) zo_141).trans zq_cps_jdk_internal_util_ArraysSupport_194) ((congrArg (fun o => z_lookup z_prs (o, 194)) zo_141).trans zq_prs_jdk_internal_util_ArraysSupport_194) (by decide) hok rfl
theorem zi_141_6 : z_ins 141 6 = some (.iadd, 1) := by decide +kernel
theorem ze_141_6 : z_T g d 141 6 ls (.int y :: .int x :: st) h P = z_T g d 141 7 ls (.int (x + y) :: st) h P := zt_bin (f := fun x y => x + y) zi_141_6 rfl (fun _ _ _ => rfl)
theorem zi_141_7 : z_ins 141 7 = some (.istore_n 3, 1) := by decide +kernel
theorem ze_141_7 : z_T g d 141 7 (v0 :: v1 :: v2 :: v3 :: ls) (.int x :: st) h P = z_T g d 141 8 (v0 :: v1 :: v2 :: .int x :: ls) st h P := zt_istoren zi_141_7 rfl (Nat.le_add_left 4 _)
theorem zi_141_8 : z_ins 141 8 = some (.iconst 0, 1) := by decide +kernel
theorem ze_141_8 : z_T g d 141 8 ls st h P = z_T g d 141 9 ls (.int (nI 0) :: st) h P := zt_iconst zi_141_8 rfl
theorem zi_141_9 : z_ins 141 9 = some (.iload_n 3, 1) := by decide +kernel
theorem ze_141_9 : z_T g d 141 9 (v0 :: v1 :: v2 :: .int x :: ls) st h P = z_T g d 141 10 (v0 :: v1 :: v2 :: .int x :: ls) (.int x :: st) h P := zt_iloadn zi_141_9 rfl rfl
theorem zi_141_10 : z_ins 141 10 = some (.if_icmp .ge 11, 3) := by decide +kernel
theorem ze_141_10 : z_T g d 141 10 ls (.int y :: .int x :: st) h P = (if x < y then z_T g d 141 13 ls st h P else z_T g d 141 21 ls st h P) := zt_icmpge zi_141_10 (by decide)
theorem zi_141_13 : z_ins 141 13 = some (.iload_n 3, 1) := by decide +kernel
theorem ze_141_13 : z_T g d 141 13 (v0 :: v1 :: v2 :: .int x :: ls) st h P = z_T g d 141 14 (v0 :: v1 :: v2 :: .int x :: ls) (.int x :: st) h P := zt_iloadn zi_141_13 rfl rfl
theorem zi_141_14 : z_ins 141 14 = some (.ldc 200, 2) := by decide +kernel
theorem ze_141_14 : z_T g d 141 14 ls st h P = z_T g d 141 16 ls (.int 2147483639 :: st) h P := zt_ldcI zi_141_14 ((congrArg (fun o => z_lookup z_srs (o, 200)) zo_141).trans zq_srs_jdk_internal_util_ArraysSupport_200) ((congrArg (fun o => z_lookup z_kss (o, 200)) zo_141).trans zq_kss_jdk_internal_util_ArraysSupport_200)
theorem zi_141_16 : z_ins 141 16 = some (.if_icmp .gt 5, 3) := by decide +kernel
theorem ze_141_16 : z_T g d 141 16 ls (.int y :: .int x :: st) h P = (if y < x then z_T g d 141 21 ls st h P else z_T g d 141 19 ls st h P) := zt_icmpgt zi_141_16 (by decide)
theorem zi_141_19 : z_ins 141 19 = some (.iload_n 3, 1) := by decide +kernel
theorem ze_141_19 : z_T g d 141 19 (v0 :: v1 :: v2 :: .int x :: ls) st h P = z_T g d 141 20 (v0 :: v1 :: v2 :: .int x :: ls) (.int x :: st) h P := zt_iloadn zi_141_19 rfl rfl
theorem zi_141_20 : z_ins 141 20 = some (.ireturn, 1) := by decide +kernel
theorem ze_141_20 : z_T g d 141 20 ls [.int x] h P = P (.inr (some (.int x)), h) := zt_ireturn zi_141_20 zr_141
theorem zi_141_21 : z_ins 141 21 = some (.iload_n 0, 1) := by decide +kernel
theorem ze_141_21 : z_T g d 141 21 (.int x :: ls) st h P = z_T g d 141 22 (.int x :: ls) (.int x :: st) h P := zt_iloadn zi_141_21 rfl rfl
theorem zi_141_22 : z_ins 141 22 = some (.iload_n 1, 1) := by decide +kernel
theorem ze_141_22 : z_T g d 141 22 (v0 :: .int x :: ls) st h P = z_T g d 141 23 (v0 :: .int x :: ls) (.int x :: st) h P := zt_iloadn zi_141_22 rfl rfl
theorem zi_141_23 : z_ins 141 23 = some (.invokestatic 201, 3) := by decide +kernel
theorem zi_141_26 : z_ins 141 26 = some (.ireturn, 1) := by decide +kernel
theorem ze_141_26 : z_T g d 141 26 ls [.int x] h P = P (.inr (some (.int x)), h) := zt_ireturn zi_141_26 zr_141
end
