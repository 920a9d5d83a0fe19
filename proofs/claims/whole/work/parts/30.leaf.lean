/-! small methods -/
set_option maxRecDepth 100000 in
set_option maxHeartbeats 4000000 in
theorem k_F_kindOf (l : Launch) (D : va_G) (k5 : mf_k5) (t0 : Nat × Nat) (A : Nat → Prop) (H : Heap) (h : Int32) : mf_cRO l my_F_kindOf mc_F_kindOf 1 (some .int) { frames := 0, cells := 0, slots := 0, locals := 0 } D (mf_tys k5) t0 A H [.int h] (some (.int (mf_kind h))) := by
  refine mf_of (by decide) (Nat.le_of_ble_eq_true rfl) ?_
  intro p e s m below meth c ls C hH hr hlk hnm hmt hl hS
  have hl : lv_has ls 1 [(0, .int h)] := hl
  refine lv_iload_n C.x C.b md_F_kindOf_0 rfl (lv_at hl 0 rfl) ?_
  refine lv_iconst (v := 1) C.x C.b md_F_kindOf_1 (by decide) ?_
  refine lv_ishr C.x C.b md_F_kindOf_2 ?_
  refine lv_bipush (v := 7) C.x C.b md_F_kindOf_3 (by decide) ?_
  refine lv_iand C.x C.b md_F_kindOf_5 ?_
  rw [show mf_kind h = ((h >>> (1 &&& 31)) &&& 7) by rfl]
  exact mf_ri C.x C.b hH hr hlk md_F_kindOf_6
set_option maxRecDepth 100000 in
set_option maxHeartbeats 4000000 in
theorem k_F_isSide (l : Launch) (D : va_G) (k5 : mf_k5) (t0 : Nat × Nat) (A : Nat → Prop) (H : Heap) (a : Int32) : mf_cRO l my_F_isSide mc_F_isSide 1 (some .boolean) { frames := 0, cells := 0, slots := 0, locals := 0 } D (mf_tys k5) t0 A H [.int a] (some (.int (mf_bI (decide (a = 0 ∨ a = 1))))) := by
  refine mf_of (by decide) (Nat.le_of_ble_eq_true rfl) ?_
  intro p e s m below meth c ls C hH hr hlk hnm hmt hl hS
  have hl : lv_has ls 1 [(0, .int a)] := hl
  refine lv_iload_n C.x C.b md_F_isSide_0 rfl (lv_at hl 0 rfl) ?_
  refine lv_if_eq (tgt := 9) C.x C.b md_F_isSide_1 (by decide) (fun h1 => ?_) (fun h1 => ?_)
  · skip
    refine lv_iconst (v := 1) C.x C.b md_F_isSide_9 (by decide) ?_
    refine lv_goto (tgt := 14) C.x C.b md_F_isSide_10 (by decide) ?_
    rw [show mf_bI (decide (a = 0 ∨ a = 1)) = 1 by first | (simp [mf_bI, h1]; done) | (exfalso; simp_all; done)]
    exact mf_rz C.x C.b hH hr hlk rfl md_F_isSide_14
  · skip
    refine lv_iload_n C.x C.b md_F_isSide_4 rfl (lv_at hl 0 rfl) ?_
    refine lv_iconst (v := 1) C.x C.b md_F_isSide_5 (by decide) ?_
    refine lv_icmp_ne (tgt := 13) C.x C.b md_F_isSide_6 (by decide) (fun h2 => ?_) (fun h2 => ?_)
    · skip
      refine lv_iconst (v := 0) C.x C.b md_F_isSide_13 (by decide) ?_
      rw [show mf_bI (decide (a = 0 ∨ a = 1)) = 0 by first | (simp [mf_bI, h1, h2]; done) | (exfalso; simp_all; done)]
      exact mf_rz C.x C.b hH hr hlk rfl md_F_isSide_14
    · skip
      refine lv_iconst (v := 1) C.x C.b md_F_isSide_9 (by decide) ?_
      refine lv_goto (tgt := 14) C.x C.b md_F_isSide_10 (by decide) ?_
      rw [show mf_bI (decide (a = 0 ∨ a = 1)) = 1 by first | (simp [mf_bI, h1, h2]; done) | (exfalso; simp_all; done)]
      exact mf_rz C.x C.b hH hr hlk rfl md_F_isSide_14
set_option maxRecDepth 100000 in
set_option maxHeartbeats 4000000 in
theorem k_F_isPrice (l : Launch) (D : va_G) (k5 : mf_k5) (t0 : Nat × Nat) (A : Nat → Prop) (H : Heap) (a : Int32) : mf_cRO l my_F_isPrice mc_F_isPrice 1 (some .boolean) { frames := 0, cells := 0, slots := 0, locals := 0 } D (mf_tys k5) t0 A H [.int a] (some (.int (mf_bI (mf_prOk a)))) := by
  refine mf_of (by decide) (Nat.le_of_ble_eq_true rfl) ?_
  intro p e s m below meth c ls C hH hr hlk hnm hmt hl hS
  have hl : lv_has ls 1 [(0, .int a)] := hl
  refine lv_iload_n C.x C.b md_F_isPrice_0 rfl (lv_at hl 0 rfl) ?_
  refine lv_iconst (v := 1) C.x C.b md_F_isPrice_1 (by decide) ?_
  refine lv_icmp_lt (tgt := 16) C.x C.b md_F_isPrice_2 (by decide) (fun h1 => ?_) (fun h1 => ?_)
  · skip
    refine lv_iconst (v := 0) C.x C.b md_F_isPrice_16 (by decide) ?_
    rw [show mf_bI (mf_prOk a) = 0 by first | (simp [mf_bI, mf_prOk, h1, Int32.not_le.mpr h1]; done) | (exfalso; simp_all; done)]
    exact mf_rz C.x C.b hH hr hlk rfl md_F_isPrice_17
  · skip
    refine lv_iload_n C.x C.b md_F_isPrice_5 rfl (lv_at hl 0 rfl) ?_
    refine lv_sipush (v := 10000) C.x C.b md_F_isPrice_6 (by decide) ?_
    refine lv_icmp_gt (tgt := 16) C.x C.b md_F_isPrice_9 (by decide) (fun h2 => ?_) (fun h2 => ?_)
    · skip
      refine lv_iconst (v := 0) C.x C.b md_F_isPrice_16 (by decide) ?_
      rw [show mf_bI (mf_prOk a) = 0 by first | (simp [mf_bI, mf_prOk, h1, Int32.not_lt.mp h1, h2, Int32.not_le.mpr h2]; done) | (exfalso; simp_all; done)]
      exact mf_rz C.x C.b hH hr hlk rfl md_F_isPrice_17
    · skip
      refine lv_iconst (v := 1) C.x C.b md_F_isPrice_12 (by decide) ?_
      refine lv_goto (tgt := 17) C.x C.b md_F_isPrice_13 (by decide) ?_
      rw [show mf_bI (mf_prOk a) = 1 by first | (simp [mf_bI, mf_prOk, h1, Int32.not_lt.mp h1, h2, Int32.not_lt.mp h2]; done) | (exfalso; simp_all; done)]
      exact mf_rz C.x C.b hH hr hlk rfl md_F_isPrice_17
set_option maxRecDepth 100000 in
set_option maxHeartbeats 4000000 in
theorem k_F_isQuantity (l : Launch) (D : va_G) (k5 : mf_k5) (t0 : Nat × Nat) (A : Nat → Prop) (H : Heap) (a : Int32) : mf_cRO l my_F_isQuantity mc_F_isQuantity 1 (some .boolean) { frames := 0, cells := 0, slots := 0, locals := 0 } D (mf_tys k5) t0 A H [.int a] (some (.int (mf_bI (mf_qtOk a)))) := by
  refine mf_of (by decide) (Nat.le_of_ble_eq_true rfl) ?_
  intro p e s m below meth c ls C hH hr hlk hnm hmt hl hS
  have hl : lv_has ls 1 [(0, .int a)] := hl
  refine lv_iload_n C.x C.b md_F_isQuantity_0 rfl (lv_at hl 0 rfl) ?_
  refine lv_iconst (v := 1) C.x C.b md_F_isQuantity_1 (by decide) ?_
  refine lv_icmp_lt (tgt := 15) C.x C.b md_F_isQuantity_2 (by decide) (fun h1 => ?_) (fun h1 => ?_)
  · skip
    refine lv_iconst (v := 0) C.x C.b md_F_isQuantity_15 (by decide) ?_
    rw [show mf_bI (mf_qtOk a) = 0 by first | (simp [mf_bI, mf_qtOk, h1, Int32.not_le.mpr h1]; done) | (exfalso; simp_all; done)]
    exact mf_rz C.x C.b hH hr hlk rfl md_F_isQuantity_16
  · skip
    refine lv_iload_n C.x C.b md_F_isQuantity_5 rfl (lv_at hl 0 rfl) ?_
    refine lv_ldc (v := 1000000) C.x C.b C.o (C.t mt_196) md_F_isQuantity_6 ?_
    refine lv_icmp_gt (tgt := 15) C.x C.b md_F_isQuantity_8 (by decide) (fun h2 => ?_) (fun h2 => ?_)
    · skip
      refine lv_iconst (v := 0) C.x C.b md_F_isQuantity_15 (by decide) ?_
      rw [show mf_bI (mf_qtOk a) = 0 by first | (simp [mf_bI, mf_qtOk, h1, Int32.not_lt.mp h1, h2, Int32.not_le.mpr h2]; done) | (exfalso; simp_all; done)]
      exact mf_rz C.x C.b hH hr hlk rfl md_F_isQuantity_16
    · skip
      refine lv_iconst (v := 1) C.x C.b md_F_isQuantity_11 (by decide) ?_
      refine lv_goto (tgt := 16) C.x C.b md_F_isQuantity_12 (by decide) ?_
      rw [show mf_bI (mf_qtOk a) = 1 by first | (simp [mf_bI, mf_qtOk, h1, Int32.not_lt.mp h1, h2, Int32.not_lt.mp h2]; done) | (exfalso; simp_all; done)]
      exact mf_rz C.x C.b hH hr hlk rfl md_F_isQuantity_16
set_option maxRecDepth 100000 in
set_option maxHeartbeats 4000000 in
theorem k_F_otherSide (l : Launch) (D : va_G) (k5 : mf_k5) (t0 : Nat × Nat) (A : Nat → Prop) (H : Heap) (a : Int32) : mf_cRO l my_F_otherSide mc_F_otherSide 1 (some .int) { frames := 0, cells := 0, slots := 0, locals := 0 } D (mf_tys k5) t0 A H [.int a] (some (.int (mf_other a))) := by
  refine mf_of (by decide) (Nat.le_of_ble_eq_true rfl) ?_
  intro p e s m below meth c ls C hH hr hlk hnm hmt hl hS
  have hl : lv_has ls 1 [(0, .int a)] := hl
  refine lv_iload_n C.x C.b md_F_otherSide_0 rfl (lv_at hl 0 rfl) ?_
  refine lv_if_ne (tgt := 8) C.x C.b md_F_otherSide_1 (by decide) (fun h1 => ?_) (fun h1 => ?_)
  · skip
    refine lv_iconst (v := 0) C.x C.b md_F_otherSide_8 (by decide) ?_
    rw [show mf_other a = 0 by first | (simp [mf_other, h1]; done) | (exfalso; simp_all; done)]
    exact mf_ri C.x C.b hH hr hlk md_F_otherSide_9
  · skip
    refine lv_iconst (v := 1) C.x C.b md_F_otherSide_4 (by decide) ?_
    refine lv_goto (tgt := 9) C.x C.b md_F_otherSide_5 (by decide) ?_
    rw [show mf_other a = 1 by first | (simp [mf_other, h1]; done) | (exfalso; simp_all; done)]
    exact mf_ri C.x C.b hH hr hlk md_F_otherSide_9
set_option maxRecDepth 100000 in
set_option maxHeartbeats 4000000 in
theorem k_F_isBetter (l : Launch) (D : va_G) (k5 : mf_k5) (t0 : Nat × Nat) (A : Nat → Prop) (H : Heap) (a b t : Int32) : mf_cRO l my_F_isBetter mc_F_isBetter 3 (some .boolean) { frames := 0, cells := 0, slots := 0, locals := 0 } D (mf_tys k5) t0 A H [.int a, .int b, .int t] (some (.int (mf_bI (mf_better a b t)))) := by
  refine mf_of (by decide) (Nat.le_of_ble_eq_true rfl) ?_
  intro p e s m below meth c ls C hH hr hlk hnm hmt hl hS
  have hl : lv_has ls 3 [(0, .int a), (1, .int b), (2, .int t)] := hl
  refine lv_iload_n C.x C.b md_F_isBetter_0 rfl (lv_at hl 0 rfl) ?_
  refine lv_if_ne (tgt := 17) C.x C.b md_F_isBetter_1 (by decide) (fun h1 => ?_) (fun h1 => ?_)
  · skip
    refine lv_iload_n C.x C.b md_F_isBetter_17 rfl (lv_at hl 1 rfl) ?_
    refine lv_iload_n C.x C.b md_F_isBetter_18 rfl (lv_at hl 2 rfl) ?_
    refine lv_icmp_ge (tgt := 26) C.x C.b md_F_isBetter_19 (by decide) (fun h2 => ?_) (fun h2 => ?_)
    · skip
      refine lv_iconst (v := 0) C.x C.b md_F_isBetter_26 (by decide) ?_
      rw [show mf_bI (mf_better a b t) = 0 by first | (simp [mf_bI, mf_better, h1, h2, Int32.not_lt.mpr h2]; done) | (exfalso; simp_all; done)]
      exact mf_rz C.x C.b hH hr hlk rfl md_F_isBetter_27
    · skip
      refine lv_iconst (v := 1) C.x C.b md_F_isBetter_22 (by decide) ?_
      refine lv_goto (tgt := 27) C.x C.b md_F_isBetter_23 (by decide) ?_
      rw [show mf_bI (mf_better a b t) = 1 by first | (simp [mf_bI, mf_better, h1, h2, Int32.not_le.mp h2]; done) | (exfalso; simp_all; done)]
      exact mf_rz C.x C.b hH hr hlk rfl md_F_isBetter_27
  · skip
    refine lv_iload_n C.x C.b md_F_isBetter_4 rfl (lv_at hl 1 rfl) ?_
    refine lv_iload_n C.x C.b md_F_isBetter_5 rfl (lv_at hl 2 rfl) ?_
    refine lv_icmp_le (tgt := 13) C.x C.b md_F_isBetter_6 (by decide) (fun h3 => ?_) (fun h3 => ?_)
    · skip
      refine lv_iconst (v := 0) C.x C.b md_F_isBetter_13 (by decide) ?_
      refine lv_goto (tgt := 27) C.x C.b md_F_isBetter_14 (by decide) ?_
      rw [show mf_bI (mf_better a b t) = 0 by first | (simp [mf_bI, mf_better, h1, h3, Int32.not_lt.mpr h3]; done) | (exfalso; simp_all; done)]
      exact mf_rz C.x C.b hH hr hlk rfl md_F_isBetter_27
    · skip
      refine lv_iconst (v := 1) C.x C.b md_F_isBetter_9 (by decide) ?_
      refine lv_goto (tgt := 27) C.x C.b md_F_isBetter_10 (by decide) ?_
      rw [show mf_bI (mf_better a b t) = 1 by first | (simp [mf_bI, mf_better, h1, h3, Int32.not_le.mp h3]; done) | (exfalso; simp_all; done)]
      exact mf_rz C.x C.b hH hr hlk rfl md_F_isBetter_27
set_option maxRecDepth 100000 in
set_option maxHeartbeats 4000000 in
theorem k_O_restsOn (l : Launch) (D : va_G) (k5 : mf_k5) (t0 : Nat × Nat) (A : Nat → Prop) (H : Heap) (x : Nat) (o : mf_O) (a : Int32) (ho : va_at D mf_cl (x, .inr (1, mf_fs o)) H) : mf_cRO l my_O_restsOn mc_O_restsOn 2 (some .boolean) { frames := 0, cells := 0, slots := 0, locals := 0 } D (mf_tys k5) t0 A H [.ref x, .int a] (some (.int (mf_bI (mf_rests o a)))) := by
  refine mf_of (by decide) (Nat.le_of_ble_eq_true rfl) ?_
  intro p e s m below meth c ls C hH hr hlk hnm hmt hl hS
  have hl : lv_has ls 2 [(0, .ref x), (1, .int a)] := hl
  refine lv_aload_n C.x C.b md_O_restsOn_0 rfl (lv_at hl 0 rfl) ?_
  refine mf_gf C (ci := 1) (N := 6) rfl mi_O 3 (by decide) mt_249 ho (v := .int (mf_wt o)) rfl md_O_restsOn_1 ?_
  refine lv_if_ne (tgt := 19) C.x C.b md_O_restsOn_4 (by decide) (fun h1 => ?_) (fun h1 => ?_)
  · skip
    refine lv_iconst (v := 0) C.x C.b md_O_restsOn_19 (by decide) ?_
    rw [show mf_bI (mf_rests o a) = 0 by first | (simp [mf_bI, mf_rests, h1]; done) | (exfalso; simp_all; done)]
    exact mf_rz C.x C.b hH hr hlk rfl md_O_restsOn_20
  · skip
    refine lv_aload_n C.x C.b md_O_restsOn_7 rfl (lv_at hl 0 rfl) ?_
    refine mf_gf C (ci := 1) (N := 6) rfl mi_O 2 (by decide) mt_247 ho (v := .int (mf_sd o)) rfl md_O_restsOn_8 ?_
    refine lv_iload_n C.x C.b md_O_restsOn_11 rfl (lv_at hl 1 rfl) ?_
    refine lv_icmp_ne (tgt := 19) C.x C.b md_O_restsOn_12 (by decide) (fun h2 => ?_) (fun h2 => ?_)
    · skip
      refine lv_iconst (v := 0) C.x C.b md_O_restsOn_19 (by decide) ?_
      rw [show mf_bI (mf_rests o a) = 0 by first | (simp [mf_bI, mf_rests, h1, h2]; done) | (exfalso; simp_all; done)]
      exact mf_rz C.x C.b hH hr hlk rfl md_O_restsOn_20
    · skip
      refine lv_iconst (v := 1) C.x C.b md_O_restsOn_15 (by decide) ?_
      refine lv_goto (tgt := 20) C.x C.b md_O_restsOn_16 (by decide) ?_
      rw [show mf_bI (mf_rests o a) = 1 by first | (simp [mf_bI, mf_rests, h1, h2]; done) | (exfalso; simp_all; done)]
      exact mf_rz C.x C.b hH hr hlk rfl md_O_restsOn_20
set_option maxRecDepth 100000 in
set_option maxHeartbeats 4000000 in
theorem k_O_isDueAt (l : Launch) (D : va_G) (k5 : mf_k5) (t0 : Nat × Nat) (A : Nat → Prop) (H : Heap) (x : Nat) (o : mf_O) (a : Int32) (ho : va_at D mf_cl (x, .inr (1, mf_fs o)) H) : mf_cRO l my_O_isDueAt mc_O_isDueAt 2 (some .boolean) { frames := 0, cells := 0, slots := 0, locals := 0 } D (mf_tys k5) t0 A H [.ref x, .int a] (some (.int (mf_bI (mf_due o a)))) := by
  refine mf_of (by decide) (Nat.le_of_ble_eq_true rfl) ?_
  intro p e s m below meth c ls C hH hr hlk hnm hmt hl hS
  have hl : lv_has ls 2 [(0, .ref x), (1, .int a)] := hl
  refine lv_aload_n C.x C.b md_O_isDueAt_0 rfl (lv_at hl 0 rfl) ?_
  refine mf_gf C (ci := 1) (N := 6) rfl mi_O 3 (by decide) mt_249 ho (v := .int (mf_wt o)) rfl md_O_isDueAt_1 ?_
  refine lv_if_eq (tgt := 11) C.x C.b md_O_isDueAt_4 (by decide) (fun h1 => ?_) (fun h1 => ?_)
  · skip
    refine lv_iconst (v := 0) C.x C.b md_O_isDueAt_11 (by decide) ?_
    rw [show mf_bI (mf_due o a) = 0 by first | (simp [mf_bI, mf_due, h1]; done) | (exfalso; simp_all; done)]
    exact mf_rz C.x C.b hH hr hlk rfl md_O_isDueAt_12
  · skip
    refine lv_iload_n C.x C.b md_O_isDueAt_7 rfl (lv_at hl 1 rfl) ?_
    refine lv_if_ne (tgt := 13) C.x C.b md_O_isDueAt_8 (by decide) (fun h2 => ?_) (fun h2 => ?_)
    · skip
      refine lv_aload_n C.x C.b md_O_isDueAt_13 rfl (lv_at hl 0 rfl) ?_
      refine mf_gf C (ci := 1) (N := 6) rfl mi_O 2 (by decide) mt_247 ho (v := .int (mf_sd o)) rfl md_O_isDueAt_14 ?_
      refine lv_if_ne (tgt := 36) C.x C.b md_O_isDueAt_17 (by decide) (fun h3 => ?_) (fun h3 => ?_)
      · skip
        refine lv_iload_n C.x C.b md_O_isDueAt_36 rfl (lv_at hl 1 rfl) ?_
        refine lv_aload_n C.x C.b md_O_isDueAt_37 rfl (lv_at hl 0 rfl) ?_
        refine mf_gf C (ci := 1) (N := 6) rfl mi_O 4 (by decide) mt_251 ho (v := .int (mf_pr o)) rfl md_O_isDueAt_38 ?_
        refine lv_icmp_gt (tgt := 48) C.x C.b md_O_isDueAt_41 (by decide) (fun h4 => ?_) (fun h4 => ?_)
        · skip
          refine lv_iconst (v := 0) C.x C.b md_O_isDueAt_48 (by decide) ?_
          rw [show mf_bI (mf_due o a) = 0 by first | (simp [mf_bI, mf_due, h1, h2, h3, h4, Int32.not_le.mpr h4]; done) | (exfalso; simp_all; done)]
          exact mf_rz C.x C.b hH hr hlk rfl md_O_isDueAt_49
        · skip
          refine lv_iconst (v := 1) C.x C.b md_O_isDueAt_44 (by decide) ?_
          refine lv_goto (tgt := 49) C.x C.b md_O_isDueAt_45 (by decide) ?_
          rw [show mf_bI (mf_due o a) = 1 by first | (simp [mf_bI, mf_due, h1, h2, h3, h4, Int32.not_lt.mp h4]; done) | (exfalso; simp_all; done)]
          exact mf_rz C.x C.b hH hr hlk rfl md_O_isDueAt_49
      · skip
        refine lv_iload_n C.x C.b md_O_isDueAt_20 rfl (lv_at hl 1 rfl) ?_
        refine lv_aload_n C.x C.b md_O_isDueAt_21 rfl (lv_at hl 0 rfl) ?_
        refine mf_gf C (ci := 1) (N := 6) rfl mi_O 4 (by decide) mt_251 ho (v := .int (mf_pr o)) rfl md_O_isDueAt_22 ?_
        refine lv_icmp_lt (tgt := 32) C.x C.b md_O_isDueAt_25 (by decide) (fun h5 => ?_) (fun h5 => ?_)
        · skip
          refine lv_iconst (v := 0) C.x C.b md_O_isDueAt_32 (by decide) ?_
          refine lv_goto (tgt := 49) C.x C.b md_O_isDueAt_33 (by decide) ?_
          rw [show mf_bI (mf_due o a) = 0 by first | (simp [mf_bI, mf_due, h1, h2, h3, h5, Int32.not_le.mpr h5]; done) | (exfalso; simp_all; done)]
          exact mf_rz C.x C.b hH hr hlk rfl md_O_isDueAt_49
        · skip
          refine lv_iconst (v := 1) C.x C.b md_O_isDueAt_28 (by decide) ?_
          refine lv_goto (tgt := 49) C.x C.b md_O_isDueAt_29 (by decide) ?_
          rw [show mf_bI (mf_due o a) = 1 by first | (simp [mf_bI, mf_due, h1, h2, h3, h5, Int32.not_lt.mp h5]; done) | (exfalso; simp_all; done)]
          exact mf_rz C.x C.b hH hr hlk rfl md_O_isDueAt_49
    · skip
      refine lv_iconst (v := 0) C.x C.b md_O_isDueAt_11 (by decide) ?_
      rw [show mf_bI (mf_due o a) = 0 by first | (simp [mf_bI, mf_due, h1, h2]; done) | (exfalso; simp_all; done)]
      exact mf_rz C.x C.b hH hr hlk rfl md_O_isDueAt_12
set_option maxRecDepth 100000 in
set_option maxHeartbeats 4000000 in
theorem k_O_queuesWith (l : Launch) (D : va_G) (k5 : mf_k5) (t0 : Nat × Nat) (A : Nat → Prop) (H : Heap) (x y : Nat) (o q : mf_O) (ho : va_at D mf_cl (x, .inr (1, mf_fs o)) H) (hq : va_at D mf_cl (y, .inr (1, mf_fs q)) H) : mf_cRO l my_O_queuesWith mc_O_queuesWith 2 (some .boolean) { frames := 0, cells := 0, slots := 0, locals := 0 } D (mf_tys k5) t0 A H [.ref x, .ref y] (some (.int (mf_bI (mf_queues o q)))) := by
  refine mf_of (by decide) (Nat.le_of_ble_eq_true rfl) ?_
  intro p e s m below meth c ls C hH hr hlk hnm hmt hl hS
  have hl : lv_has ls 2 [(0, .ref x), (1, .ref y)] := hl
  refine lv_aload_n C.x C.b md_O_queuesWith_0 rfl (lv_at hl 0 rfl) ?_
  refine mf_gf C (ci := 1) (N := 6) rfl mi_O 3 (by decide) mt_249 ho (v := .int (mf_wt o)) rfl md_O_queuesWith_1 ?_
  refine lv_if_ne (tgt := 14) C.x C.b md_O_queuesWith_4 (by decide) (fun h1 => ?_) (fun h1 => ?_)
  · skip
    refine lv_aload_n C.x C.b md_O_queuesWith_14 rfl (lv_at hl 0 rfl) ?_
    refine mf_gf C (ci := 1) (N := 6) rfl mi_O 3 (by decide) mt_249 ho (v := .int (mf_wt o)) rfl md_O_queuesWith_15 ?_
    refine lv_if_eq (tgt := 32) C.x C.b md_O_queuesWith_18 (by decide) (fun h2 => ?_) (fun h2 => ?_)
    · skip
      refine lv_iconst (v := 0) C.x C.b md_O_queuesWith_32 (by decide) ?_
      rw [show mf_bI (mf_queues o q) = 0 by first | (simp [mf_bI, mf_queues, h1, h2]; done) | (exfalso; simp_all; done)]
      exact mf_rz C.x C.b hH hr hlk rfl md_O_queuesWith_33
    · skip
      refine lv_aload_n C.x C.b md_O_queuesWith_21 rfl (lv_at hl 1 rfl) ?_
      refine mf_gf C (ci := 1) (N := 6) rfl mi_O 3 (by decide) mt_249 hq (v := .int (mf_wt q)) rfl md_O_queuesWith_22 ?_
      refine lv_if_eq (tgt := 32) C.x C.b md_O_queuesWith_25 (by decide) (fun h3 => ?_) (fun h3 => ?_)
      · skip
        refine lv_iconst (v := 0) C.x C.b md_O_queuesWith_32 (by decide) ?_
        rw [show mf_bI (mf_queues o q) = 0 by first | (simp [mf_bI, mf_queues, h1, h2, h3]; done) | (exfalso; simp_all; done)]
        exact mf_rz C.x C.b hH hr hlk rfl md_O_queuesWith_33
      · skip
        refine lv_iconst (v := 1) C.x C.b md_O_queuesWith_28 (by decide) ?_
        refine lv_goto (tgt := 33) C.x C.b md_O_queuesWith_29 (by decide) ?_
        rw [show mf_bI (mf_queues o q) = 1 by first | (simp [mf_bI, mf_queues, h1, h2, h3]; done) | (exfalso; simp_all; done)]
        exact mf_rz C.x C.b hH hr hlk rfl md_O_queuesWith_33
  · skip
    refine lv_aload_n C.x C.b md_O_queuesWith_7 rfl (lv_at hl 1 rfl) ?_
    refine mf_gf C (ci := 1) (N := 6) rfl mi_O 3 (by decide) mt_249 hq (v := .int (mf_wt q)) rfl md_O_queuesWith_8 ?_
    refine lv_if_eq (tgt := 34) C.x C.b md_O_queuesWith_11 (by decide) (fun h4 => ?_) (fun h4 => ?_)
    · skip
      refine lv_aload_n C.x C.b md_O_queuesWith_34 rfl (lv_at hl 0 rfl) ?_
      refine mf_gf C (ci := 1) (N := 6) rfl mi_O 2 (by decide) mt_247 ho (v := .int (mf_sd o)) rfl md_O_queuesWith_35 ?_
      refine lv_aload_n C.x C.b md_O_queuesWith_38 rfl (lv_at hl 1 rfl) ?_
      refine mf_gf C (ci := 1) (N := 6) rfl mi_O 2 (by decide) mt_247 hq (v := .int (mf_sd q)) rfl md_O_queuesWith_39 ?_
      refine lv_icmp_ne (tgt := 60) C.x C.b md_O_queuesWith_42 (by decide) (fun h5 => ?_) (fun h5 => ?_)
      · skip
        refine lv_iconst (v := 0) C.x C.b md_O_queuesWith_60 (by decide) ?_
        rw [show mf_bI (mf_queues o q) = 0 by first | (simp [mf_bI, mf_queues, h1, h4, h5]; done) | (exfalso; simp_all; done)]
        exact mf_rz C.x C.b hH hr hlk rfl md_O_queuesWith_61
      · skip
        refine lv_aload_n C.x C.b md_O_queuesWith_45 rfl (lv_at hl 0 rfl) ?_
        refine mf_gf C (ci := 1) (N := 6) rfl mi_O 4 (by decide) mt_251 ho (v := .int (mf_pr o)) rfl md_O_queuesWith_46 ?_
        refine lv_aload_n C.x C.b md_O_queuesWith_49 rfl (lv_at hl 1 rfl) ?_
        refine mf_gf C (ci := 1) (N := 6) rfl mi_O 4 (by decide) mt_251 hq (v := .int (mf_pr q)) rfl md_O_queuesWith_50 ?_
        refine lv_icmp_ne (tgt := 60) C.x C.b md_O_queuesWith_53 (by decide) (fun h6 => ?_) (fun h6 => ?_)
        · skip
          refine lv_iconst (v := 0) C.x C.b md_O_queuesWith_60 (by decide) ?_
          rw [show mf_bI (mf_queues o q) = 0 by first | (simp [mf_bI, mf_queues, h1, h4, h5, h6]; done) | (exfalso; simp_all; done)]
          exact mf_rz C.x C.b hH hr hlk rfl md_O_queuesWith_61
        · skip
          refine lv_iconst (v := 1) C.x C.b md_O_queuesWith_56 (by decide) ?_
          refine lv_goto (tgt := 61) C.x C.b md_O_queuesWith_57 (by decide) ?_
          rw [show mf_bI (mf_queues o q) = 1 by first | (simp [mf_bI, mf_queues, h1, h4, h5, h6]; done) | (exfalso; simp_all; done)]
          exact mf_rz C.x C.b hH hr hlk rfl md_O_queuesWith_61
    · skip
      refine lv_aload_n C.x C.b md_O_queuesWith_14 rfl (lv_at hl 0 rfl) ?_
      refine mf_gf C (ci := 1) (N := 6) rfl mi_O 3 (by decide) mt_249 ho (v := .int (mf_wt o)) rfl md_O_queuesWith_15 ?_
      refine lv_if_eq (tgt := 32) C.x C.b md_O_queuesWith_18 (by decide) (fun h7 => ?_) (fun h7 => ?_)
      · skip
        refine lv_iconst (v := 0) C.x C.b md_O_queuesWith_32 (by decide) ?_
        rw [show mf_bI (mf_queues o q) = 0 by first | (simp [mf_bI, mf_queues, h1, h4, h7]; done) | (exfalso; simp_all; done)]
        exact mf_rz C.x C.b hH hr hlk rfl md_O_queuesWith_33
      · skip
        refine lv_aload_n C.x C.b md_O_queuesWith_21 rfl (lv_at hl 1 rfl) ?_
        refine mf_gf C (ci := 1) (N := 6) rfl mi_O 3 (by decide) mt_249 hq (v := .int (mf_wt q)) rfl md_O_queuesWith_22 ?_
        refine lv_if_eq (tgt := 32) C.x C.b md_O_queuesWith_25 (by decide) (fun h8 => ?_) (fun h8 => ?_)
        · skip
          refine lv_iconst (v := 0) C.x C.b md_O_queuesWith_32 (by decide) ?_
          rw [show mf_bI (mf_queues o q) = 0 by first | (simp [mf_bI, mf_queues, h1, h4, h7, h8]; done) | (exfalso; simp_all; done)]
          exact mf_rz C.x C.b hH hr hlk rfl md_O_queuesWith_33
        · skip
          refine lv_iconst (v := 1) C.x C.b md_O_queuesWith_28 (by decide) ?_
          refine lv_goto (tgt := 33) C.x C.b md_O_queuesWith_29 (by decide) ?_
          rw [show mf_bI (mf_queues o q) = 1 by first | (simp [mf_bI, mf_queues, h1, h4, h7, h8]; done) | (exfalso; simp_all; done)]
          exact mf_rz C.x C.b hH hr hlk rfl md_O_queuesWith_33
