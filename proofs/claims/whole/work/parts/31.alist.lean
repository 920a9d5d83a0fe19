/-! ArrayList: reading -/
set_option maxRecDepth 100000 in
set_option maxHeartbeats 4000000 in
theorem k_Pc_checkIndex (l : Launch) (D : va_G) (k5 : mf_k5) (t0 : Nat × Nat) (A : Nat → Prop) (H : Heap) (i n : Int32) (h0 : ¬ i < 0) (hn : i < n) : mf_cRO l my_Pc_checkIndex mc_Pc_checkIndex 3 (some .int) { frames := 0, cells := 0, slots := 0, locals := 0 } D (mf_tys k5) t0 A H [.int i, .int n, .null] (some (.int i)) := by
  refine mf_of (by decide) (Nat.le_of_ble_eq_true rfl) ?_
  intro p e s m below meth c ls C hH hr hlk hnm hmt hl hS
  have hl : lv_has ls 3 [(0, .int i), (1, .int n), (2, .null)] := hl
  refine lv_iload_n C.x C.b md_Pc_checkIndex_0 rfl (lv_at hl 0 rfl) ?_
  refine lv_if_lt (tgt := 9) C.x C.b md_Pc_checkIndex_1 (by decide) (fun h1 => ?_) (fun h1 => ?_)
  · exact absurd h1 h0
  · skip
    refine lv_iload_n C.x C.b md_Pc_checkIndex_4 rfl (lv_at hl 0 rfl) ?_
    refine lv_iload_n C.x C.b md_Pc_checkIndex_5 rfl (lv_at hl 1 rfl) ?_
    refine lv_icmp_lt (tgt := 16) C.x C.b md_Pc_checkIndex_6 (by decide) (fun h2 => ?_) (fun h2 => ?_)
    · skip
      refine lv_iload_n C.x C.b md_Pc_checkIndex_16 rfl (lv_at hl 0 rfl) ?_
      exact mf_ri C.x C.b hH hr hlk md_Pc_checkIndex_17
    · exact absurd hn h2
set_option maxRecDepth 100000 in
set_option maxHeartbeats 4000000 in
theorem k_Ob_checkIndex (l : Launch) (D : va_G) (k5 : mf_k5) (t0 : Nat × Nat) (A : Nat → Prop) (H : Heap) (i n : Int32) (h0 : ¬ i < 0) (hn : i < n) : mf_cRO l my_Ob_checkIndex mc_Ob_checkIndex 2 (some .int) { frames := 1, cells := 0, slots := 0, locals := 22 } D (mf_tys k5) t0 A H [.int i, .int n] (some (.int i)) := by
  refine mf_of (by decide) (Nat.le_of_ble_eq_true rfl) ?_
  intro p e s m below meth c ls C hH hr hlk hnm hmt hl hS
  have hl : lv_has ls 2 [(0, .int i), (1, .int n)] := hl
  refine lv_iload_n C.x C.b md_Ob_checkIndex_0 rfl (lv_at hl 0 rfl) ?_
  refine lv_iload_n C.x C.b md_Ob_checkIndex_1 rfl (lv_at hl 1 rfl) ?_
  refine lv_null C.x C.b md_Ob_checkIndex_2 ?_
  refine mf_cks (va_runS (As := [.int i, .int n, .null]) (rest := []) C.f (k_Pc_checkIndex l D k5 t0 A H i n h0 hn) (mf_cS C mt_215 mt_213 mt_12 mt_214 mh_Pc_checkIndex ⟨by decide, by decide⟩) (mf_preS C.ev hS) rfl rfl hl.1 rfl (lv_room (Nat.le_of_ble_eq_true rfl)) md_Ob_checkIndex_3 ⟨by omega, by omega⟩) ?_
  exact mf_ri C.x C.b hH hr hlk md_Ob_checkIndex_6
set_option maxRecDepth 100000 in
set_option maxHeartbeats 4000000 in
theorem k_A_size (l : Launch) (D : va_G) (k5 : mf_k5) (t0 : Nat × Nat) (A : Nat → Prop) (H : Heap) (al : Nat) (as : List Nat) (hA : mf_AL D k5 t0 A H al as) : mf_cRO l my_A_size mc_A_size 1 (some .int) { frames := 0, cells := 0, slots := 0, locals := 0 } D (mf_tys k5) t0 A H [.ref al] (some (.int (nI as.length))) := by
  obtain ⟨ed, mc, hal, hA1, hle, hor⟩ := hA
  refine mf_of (by decide) (Nat.le_of_ble_eq_true rfl) ?_
  intro p e s m below meth c ls C hH hr hlk hnm hmt hl hS
  have hl : lv_has ls 1 [(0, .ref al)] := hl
  refine lv_aload_n C.x C.b md_A_size_0 rfl (lv_at hl 0 rfl) ?_
  refine mf_gf C (ci := 0) (N := 3) rfl mi_A 1 (by decide) mt_44 hal (v := .int (nI as.length)) rfl md_A_size_1 ?_
  exact mf_ri C.x C.b hH hr hlk md_A_size_4
set_option maxRecDepth 100000 in
set_option maxHeartbeats 4000000 in
theorem k_A_elementData (l : Launch) (D : va_G) (k5 : mf_k5) (t0 : Nat × Nat) (A : Nat → Prop) (H : Heap) (al ed cap i a : Nat) (sz mc : Value) (f : Nat → Option Nat) (hal : va_at D mf_cl (al, .inr (0, [.ref ed, sz, mc])) H) (hed : va_at D mf_cl (ed, .inl (k5.1, cap, .inr (.inr (.inr (.inr f))))) H) (hi : i < cap) (hc : cap < 2 ^ 31) (hf : f i = some a) : mf_cRO l my_A_elementData mc_A_elementData 2 (some (.object "java/lang/Object")) { frames := 0, cells := 0, slots := 0, locals := 0 } D (mf_tys k5) t0 A H [.ref al, .int (nI i)] (some (.ref a)) := by
  refine mf_of (by decide) (Nat.le_of_ble_eq_true rfl) ?_
  intro p e s m below meth c ls C hH hr hlk hnm hmt hl hS
  have hl : lv_has ls 2 [(0, .ref al), (1, .int (nI i))] := hl
  refine lv_aload_n C.x C.b md_A_elementData_0 rfl (lv_at hl 0 rfl) ?_
  refine mf_gf C (ci := 0) (N := 3) rfl mi_A 0 (by decide) mt_43 hal (v := .ref ed) rfl md_A_elementData_1 ?_
  refine lv_iload_n C.x C.b md_A_elementData_4 rfl (lv_at hl 1 rfl) ?_
  refine mf_aald C (t := 0) rfl hed hi hc hf md_A_elementData_5 ?_
  exact mf_ra C.x C.b hH hr (Or.inl ⟨_, rfl⟩) hlk md_A_elementData_6
set_option maxRecDepth 100000 in
set_option maxHeartbeats 4000000 in
theorem k_A_get (l : Launch) (D : va_G) (k5 : mf_k5) (t0 : Nat × Nat) (A : Nat → Prop) (H : Heap) (al i a : Nat) (as : List Nat) (hA : mf_AL D k5 t0 A H al as) (hi : as[i]? = some a) : mf_cRO l my_A_get mc_A_get 2 (some (.object "java/lang/Object")) { frames := 2, cells := 0, slots := 0, locals := 43 } D (mf_tys k5) t0 A H [.ref al, .int (nI i)] (some (.ref a)) := by
  obtain ⟨ed, mc, hal, hA1, hle, ⟨rfl, -⟩ | ⟨cap, f, hed, hA2, h1, h2, h3, hf⟩⟩ := hA
  · simp at hi
  have hi1 : i < as.length := (List.getElem?_eq_some_iff.mp hi).1
  refine mf_of (by decide) (Nat.le_of_ble_eq_true rfl) ?_
  intro p e s m below meth c ls C hH hr hlk hnm hmt hl hS
  have hl : lv_has ls 2 [(0, .ref al), (1, .int (nI i))] := hl
  refine lv_iload_n C.x C.b md_A_get_0 rfl (lv_at hl 1 rfl) ?_
  refine lv_aload_n C.x C.b md_A_get_1 rfl (lv_at hl 0 rfl) ?_
  refine mf_gf C (ci := 0) (N := 3) rfl mi_A 1 (by decide) mt_44 hal (v := .int (nI as.length)) rfl md_A_get_2 ?_
  refine mf_cks (va_runS (As := [.int (nI i), .int (nI as.length)]) (rest := []) C.f (k_Ob_checkIndex l D k5 t0 A H (nI i) (nI as.length) (nI_pos (by omega)) (nI_lt hi1 (by omega))) (mf_cS C mt_212 mt_210 mt_11 mt_211 mh_Ob_checkIndex ⟨by decide, by decide⟩) (mf_preS C.ev hS) rfl rfl hl.1 rfl (lv_room (Nat.le_of_ble_eq_true rfl)) md_A_get_5 ⟨by omega, by omega⟩) ?_
  refine lv_pop C.x C.b md_A_get_8 rfl ?_
  refine lv_aload_n C.x C.b md_A_get_9 rfl (lv_at hl 0 rfl) ?_
  refine lv_iload_n C.x C.b md_A_get_10 rfl (lv_at hl 1 rfl) ?_
  refine mf_cks (va_runV (As := [.int (nI i)]) (rest := []) C.f (k_A_elementData l D k5 t0 A H al ed cap i a _ _ f hal hed (by omega) (by omega) (hf i a hi)) (mf_cV C mt_219 mt_216 mt_4 mt_217 mt_218 mh_A_elementData ⟨by decide, by decide⟩) (mf_preV C.ev hS (mf_rv C (ci := 0) (N := 3) rfl hal)) rfl rfl hl.1 rfl (lv_room (Nat.le_of_ble_eq_true rfl)) md_A_get_11 ⟨by omega, by omega⟩) ?_
  exact mf_ra C.x C.b hH hr (Or.inl ⟨_, rfl⟩) hlk md_A_get_14
