/-! MatchFloor: coming in -/
theorem mf_meet_len (c : mf_O) (j : Nat) (r : mf_O) (st : mf_M) : (mf_meet c j r st).2.1.length ≤ st.1.length := by
  unfold mf_meet
  split
  · exact (List.eraseIdx_sublist _ _).length_le
  · dsimp only
    split
    · exact (List.eraseIdx_sublist _ _).length_le
    · rw [List.length_set]; exact Nat.le_refl _
theorem mf_match_len (p : Int32) : ∀ (n : Nat) (c : mf_O) (st : mf_M), (mf_match n p c st).2.1.length ≤ st.1.length := by
  intro n
  induction n with
  | zero => intro c st; exact Nat.le_refl _
  | succ n ih =>
    intro c st
    rw [mf_match]
    split
    · split
      · exact Nat.le_refl _
      · split
        · exact Nat.le_trans (ih _ _) (mf_meet_len _ _ _ _)
        · exact Nat.le_refl _
    · exact Nat.le_refl _
theorem mf_stops_g : ∀ (n : Nat) (st : mf_S), (mf_stops n st).2.2.2.1 ≤ st.2.2.2.1 + 41 * n := by
  intro n
  induction n with
  | zero => intro st; exact Nat.le_refl _
  | succ n ih =>
    intro st
    rw [mf_stops]
    split
    · exact Nat.le_add_right _ _
    · rename_i q _
      have h1 := ih ((mf_match 41 0 q.2 (st.1.eraseIdx q.1, st.2.2)).2.1, st.2.1 + 1, (mf_match 41 0 q.2 (st.1.eraseIdx q.1, st.2.2)).2.2)
      have h2 := mf_match_g 0 41 q.2 (st.1.eraseIdx q.1, st.2.2)
      refine Nat.le_trans h1 ?_
      have h2 : (mf_match 41 0 q.2 (st.1.eraseIdx q.1, st.2.2)).2.2.2.1 ≤ st.2.2.2.1 + 41 := h2
      show (mf_match 41 0 q.2 (st.1.eraseIdx q.1, st.2.2)).2.2.2.1 + 41 * n ≤ st.2.2.2.1 + 41 * (n + 1)
      omega
set_option maxRecDepth 100000 in
set_option maxHeartbeats 4000000 in
theorem k_F_comeIn (l : Launch) (D : va_G) (k5 : mf_k5) (t0 : Nat × Nat) (A : Nat → Prop) (H : Heap) (x al tp ca : Nat) (due met kind : Int32) (co : mf_O) (L : List mf_O) (g : mf_G) (hM : mf_MS D k5 t0 A H x al tp ca due (co, L, met, g)) (hln : L.length ≤ 39) (hg : g.1 + 41 * 41 < 2 ^ 31) : mf_cWR l my_F_comeIn mc_F_comeIn 6 (some .int) { frames := 7, cells := 1, slots := 60, locals := 191 } D (mf_tys k5) t0 A H [.ref x, .ref ca, .int kind] (some (.int (mf_comeIn co kind (L, due, met, g)).1)) (fun H1 => mf_SS D k5 t0 A H1 x al tp (mf_comeIn co kind (L, due, met, g)).2) (mf_fr A H (mf_cM D k5)) 1 60 := by
  refine mf_of (by decide) (Nat.le_of_ble_eq_true rfl) ?_
  intro p e s m below meth c ls C hH hr hlk hnm hmt hl hS
  have hl : lv_has ls 6 [(0, .ref x), (1, .ref ca), (2, .int kind)] := hl
  have fin3 : ∀ (ls : Array Slot) (H2 : Heap) (locs : List Loc) (v : Int32) (st : mf_S), mf_SS D k5 t0 A H2 x al tp st → st.2.2.2.1 + 41 * 40 < 2 ^ 31 → mf_Eq A (mf_cM D k5) H H2 → va_S A s.heap H2 locs → mf_comeIn co kind (L, due, met, g) = (v, mf_stops 40 st) → lv_has ls 6 [(4, .int v), (0, .ref x)] → W p l e ({ frames := 7, cells := 1, slots := 60, locals := 191 } : Room) s m (([.ref x, .ref ca, .int kind] : List Value).toArray) below meth c H2 locs 1 60 (MQ below (mf_Kw (some (.int (mf_comeIn co kind (L, due, met, g)).1)) (fun H1 => mf_SS D k5 t0 A H1 x al tp (mf_comeIn co kind (L, due, met, g)).2) (mf_fr A H (mf_cM D k5))) (([.ref x, .ref ca, .int kind] : List Value).toArray) s 1 60 A) (F0 m 83 ls []) := by
    intro ls H2 locs v st hM hg hE hS hsp hl
    obtain ⟨ks, -, hC, -⟩ := id hM
    refine lv_aload_n C.x C.b md_F_comeIn_83 rfl (lv_at hl 1 rfl) ?_
    refine mf_cwn (va_runV (As := []) (rest := []) C.f (k_F_matchDueStops l D k5 t0 A H2 x al tp st hM hg) (mf_cV C mt_385 mt_382 mt_1 mt_384 ms_15 mh_F_matchDueStops ⟨by decide, by decide⟩) (mf_preV C.ev hS (mf_rv C (ci := 3) (N := 4) rfl hC.1)) rfl rfl hl.1 rfl (lv_room (Nat.le_of_ble_eq_true rfl)) md_F_comeIn_84 ⟨by first | omega | exact Nat.le_of_ble_eq_true rfl, by first | omega | exact Nat.le_of_ble_eq_true rfl⟩) hS (fun _ _ h => h.1) (fun H locs hB hz hk hS => ?_)
    refine lv_iload C.x C.b md_F_comeIn_87 (lv_at hl 0 rfl) ?_
    rw [hsp]
    exact mf_wi C.x C.b hr hlk md_F_comeIn_89 hB (hE.tr (L := mf_cM D k5) ⟨hz, hk⟩ (fun _ h => h) (fun _ h => h)) hH hS.2.2 (Nat.le_refl _) (Nat.le_refl _)
  have fin2 : ∀ (ls : Array Slot) (H2 : Heap) (locs : List Loc) (z : Int32) (c1 : mf_O) (L1 : List mf_O) (met1 : Int32) (g1 : mf_G), mf_MS D k5 t0 A H2 x al tp ca due (c1, L1, met1, g1) → L1.length ≤ 39 → g1.1 + 41 * 40 < 2 ^ 31 → mf_Eq A (mf_cM D k5) H H2 → va_S A s.heap H2 locs → (if kind = 4 ∨ kind = 5 then (co, L, met, g) else mf_match 41 (if kind = 1 then 0 else mf_pr co) co (L, met, g)) = (c1, L1, met1, g1) → (z = 0 ↔ ¬ (kind = 0 ∨ kind = 4 ∨ kind = 5)) → lv_has ls 6 [(5, .int z), (4, .int (mf_lf co - mf_lf c1)), (0, .ref x), (1, .ref ca)] → W p l e ({ frames := 7, cells := 1, slots := 60, locals := 191 } : Room) s m (([.ref x, .ref ca, .int kind] : List Value).toArray) below meth c H2 locs 0 0 (MQ below (mf_Kw (some (.int (mf_comeIn co kind (L, due, met, g)).1)) (fun H1 => mf_SS D k5 t0 A H1 x al tp (mf_comeIn co kind (L, due, met, g)).2) (mf_fr A H (mf_cM D k5))) (([.ref x, .ref ca, .int kind] : List Value).toArray) s 1 60 A) (F0 m 62 ls []) := by
    intro ls H2 locs z c1 L1 met1 g1 hM hln hg hE hS hsp hz0 hl
    obtain ⟨ks, hL, hC, hT, hca, hAc, hni⟩ := id hM
    have hL : mf_L ks = L1 := hL
    have hC : mf_CL D k5 t0 A H2 x al tp due met1 ks := hC
    have hT : mf_TP D k5 A H2 tp g1 := hT
    have hca : va_at D mf_cl (ca, .inr (1, mf_fs c1)) H2 := hca
    obtain ⟨hx, hAx, hAL, hks, hnd⟩ := id hC
    obtain ⟨ed, mc, hal, hA1, hle, hor⟩ := id hAL
    rw [List.length_map] at hle
    have hun : ∀ b : Bool, b = decide ((kind = 0 ∨ kind = 4 ∨ kind = 5) ∧ 0 < mf_lf c1) → mf_comeIn co kind (L, due, met, g) = (mf_lf co - mf_lf c1, mf_stops 40 (if b = true then L1 ++ [c1] else L1, due, met1, g1)) := by
      intro b hb
      unfold mf_comeIn
      dsimp only
      rw [hsp]
      dsimp only
      rw [hb]
      simp only [decide_eq_true_eq]
    refine lv_iload C.x C.b md_F_comeIn_62 (lv_at hl 0 rfl) ?_
    refine lv_if_eq (tgt := 83) C.x C.b md_F_comeIn_64 (by decide) (fun h1 => ?_) (fun h1 => ?_)
    · skip
      refine W.widen (k := 1) (n := 60) (by omega) (by omega) ?_
      exact fin3 _ _ _ _ (L1, due, met1, g1) ⟨ks, hL, hC, hT⟩ hg hE hS (hun false (by rw [decide_eq_false]; exact fun q => hz0.mp h1 q.1)) (lv_sub hl [1, 2] rfl)
    · skip
      refine lv_aload_n C.x C.b md_F_comeIn_67 rfl (lv_at hl 3 rfl) ?_
      refine mf_gfN C (ci := 1) (N := 6) rfl mi_O 5 (by decide) (C.ev.2.1.1 (81, "MatchFloor$Order", "left", "I") (List.mem_of_getElem? (i := 9) rfl)) hca (v := .int (mf_lf c1)) rfl md_F_comeIn_68 ?_
      refine lv_if_le (tgt := 83) C.x C.b md_F_comeIn_71 (by decide) (fun h2 => ?_) (fun h2 => ?_)
      · skip
        refine W.widen (k := 1) (n := 60) (by omega) (by omega) ?_
        exact fin3 _ _ _ _ (L1, due, met1, g1) ⟨ks, hL, hC, hT⟩ hg hE hS (hun false (by rw [decide_eq_false]; exact fun q => (Int32.not_lt.mpr h2) q.2)) (lv_sub hl [1, 2] rfl)
      · skip
        have hel : ∀ b ∈ ks.map (fun q => q.1), ∃ fs, va_at D mf_cl (b, .inr (1, fs)) H2 := fun b hb => by
          obtain ⟨q, hq1, hq2⟩ := List.mem_map.mp hb
          exact ⟨_, by rw [← hq2]; exact (hks q hq1).1⟩
        have hkl : (ks.map (fun q => q.1)).length = L1.length := by rw [List.length_map, ← hL, List.length_map]
        refine lv_aload_n C.x C.b md_F_comeIn_74 rfl (lv_at hl 2 rfl) ?_
        refine mf_gf C (ci := 3) (N := 4) rfl mi_F 0 (by decide) mt_84 hx (v := .ref al) rfl md_F_comeIn_75 ?_
        refine lv_aload_n C.x C.b md_F_comeIn_78 rfl (lv_at hl 3 rfl) ?_
        refine mf_cws (va_runV (As := [.ref ca]) (rest := []) C.f (k_A_add l D k5 t0 A H2 al ca _ _ hAL (by omega) hca hel) (mf_cV C mt_333 mt_330 mt_4 mt_331 mt_332 mh_A_add ⟨by decide, by decide⟩) (mf_preV C.ev hS (mf_rv C (ci := 0) (N := 3) rfl hal)) rfl rfl hl.1 rfl (lv_room (Nat.le_of_ble_eq_true rfl)) md_F_comeIn_79 ⟨by first | omega | exact Nat.le_of_ble_eq_true rfl, by first | omega | exact Nat.le_of_ble_eq_true rfl⟩) hS (fun _ _ h => h.1) (fun H locs hB hz hk hS => ?_)
        have hE4 : mf_Eq A [D.1 0, k5.1] H2 H := ⟨hz, hk⟩
        have hC4 := hC.ad C.nd hE4 hca hAc hni hB
        refine lv_pop C.x C.b md_F_comeIn_82 rfl ?_
        refine fin3 _ _ _ _ (L1 ++ [c1], due, met1, g1) ⟨ks ++ [(ca, c1)], ?_, hC4, hT.cl C.nd hE4 (by simp)⟩ hg (hE.tr (L := mf_cM D k5) hE4 (fun _ h => h) (by simp)) hS (hun true ?_) (lv_sub hl [1, 2] rfl)
        · show mf_L (ks ++ [(ca, c1)]) = L1 ++ [c1]; rw [← hL]; exact List.map_append
        · symm; rw [decide_eq_true_eq]; exact ⟨Classical.not_not.mp (fun q => h1 (hz0.mpr q)), Int32.not_le.mp h2⟩
  have fin1 : ∀ (ls : Array Slot) (H2 : Heap) (locs : List Loc) (c1 : mf_O) (L1 : List mf_O) (met1 : Int32) (g1 : mf_G), mf_MS D k5 t0 A H2 x al tp ca due (c1, L1, met1, g1) → L1.length ≤ 39 → g1.1 + 41 * 40 < 2 ^ 31 → mf_Eq A (mf_cM D k5) H H2 → va_S A s.heap H2 locs → (if kind = 4 ∨ kind = 5 then (co, L, met, g) else mf_match 41 (if kind = 1 then 0 else mf_pr co) co (L, met, g)) = (c1, L1, met1, g1) → lv_has ls 6 [(3, .int (mf_lf co)), (0, .ref x), (1, .ref ca), (2, .int kind)] → W p l e ({ frames := 7, cells := 1, slots := 60, locals := 191 } : Room) s m (([.ref x, .ref ca, .int kind] : List Value).toArray) below meth c H2 locs 0 0 (MQ below (mf_Kw (some (.int (mf_comeIn co kind (L, due, met, g)).1)) (fun H1 => mf_SS D k5 t0 A H1 x al tp (mf_comeIn co kind (L, due, met, g)).2) (mf_fr A H (mf_cM D k5))) (([.ref x, .ref ca, .int kind] : List Value).toArray) s 1 60 A) (F0 m 33 ls []) := by
    intro ls H2 locs c1 L1 met1 g1 hM hln hg hE hS hsp hl
    obtain ⟨ks, hL, hC, hT, hca, hAc, hni⟩ := id hM
    have hL : mf_L ks = L1 := hL
    have hC : mf_CL D k5 t0 A H2 x al tp due met1 ks := hC
    have hT : mf_TP D k5 A H2 tp g1 := hT
    have hca : va_at D mf_cl (ca, .inr (1, mf_fs c1)) H2 := hca
    obtain ⟨hx, hAx, hAL, hks, hnd⟩ := id hC
    obtain ⟨ed, mc, hal, hA1, hle, hor⟩ := id hAL
    rw [List.length_map] at hle
    refine lv_iload_n C.x C.b md_F_comeIn_33 rfl (lv_at hl 0 rfl) ?_
    refine lv_aload_n C.x C.b md_F_comeIn_34 rfl (lv_at hl 2 rfl) ?_
    refine mf_gfN C (ci := 1) (N := 6) rfl mi_O 5 (by decide) (C.ev.2.1.1 (81, "MatchFloor$Order", "left", "I") (List.mem_of_getElem? (i := 9) rfl)) hca (v := .int (mf_lf c1)) rfl md_F_comeIn_35 ?_
    refine lv_isub C.x C.b md_F_comeIn_38 ?_
    refine lv_istore (lv' := [(4, .int ((mf_lf co) - (mf_lf c1))), (3, .int (mf_lf co)), (0, .ref x), (1, .ref ca), (2, .int kind)]) C.x C.b md_F_comeIn_39 hl (by decide) rfl (fun ls hl => ?_)
    refine lv_iload_n C.x C.b md_F_comeIn_41 rfl (lv_at hl 4 rfl) ?_
    refine lv_if_eq (tgt := 55) C.x C.b md_F_comeIn_42 (by decide) (fun h3 => ?_) (fun h3 => ?_)
    · skip
      refine lv_iconst (v := 1) C.x C.b md_F_comeIn_55 (by decide) ?_
      refine lv_goto (tgt := 60) C.x C.b md_F_comeIn_56 (by decide) ?_
      refine lv_istore (lv' := [(5, .int 1), (4, .int ((mf_lf co) - (mf_lf c1))), (3, .int (mf_lf co)), (0, .ref x), (1, .ref ca), (2, .int kind)]) C.x C.b md_F_comeIn_60 hl (by decide) rfl (fun ls hl => ?_)
      exact fin2 _ _ _ 1 c1 L1 met1 g1 hM hln hg hE hS hsp (by simp [h3]) (lv_sub hl [0, 1, 3, 4] rfl)
    · skip
      refine lv_iload_n C.x C.b md_F_comeIn_45 rfl (lv_at hl 4 rfl) ?_
      refine lv_iconst (v := 4) C.x C.b md_F_comeIn_46 (by decide) ?_
      refine lv_icmp_eq (tgt := 55) C.x C.b md_F_comeIn_47 (by decide) (fun h4 => ?_) (fun h4 => ?_)
      · skip
        refine lv_iconst (v := 1) C.x C.b md_F_comeIn_55 (by decide) ?_
        refine lv_goto (tgt := 60) C.x C.b md_F_comeIn_56 (by decide) ?_
        refine lv_istore (lv' := [(5, .int 1), (4, .int ((mf_lf co) - (mf_lf c1))), (3, .int (mf_lf co)), (0, .ref x), (1, .ref ca), (2, .int kind)]) C.x C.b md_F_comeIn_60 hl (by decide) rfl (fun ls hl => ?_)
        exact fin2 _ _ _ 1 c1 L1 met1 g1 hM hln hg hE hS hsp (by simp [h3, h4]) (lv_sub hl [0, 1, 3, 4] rfl)
      · skip
        refine lv_iload_n C.x C.b md_F_comeIn_50 rfl (lv_at hl 4 rfl) ?_
        refine lv_iconst (v := 5) C.x C.b md_F_comeIn_51 (by decide) ?_
        refine lv_icmp_ne (tgt := 59) C.x C.b md_F_comeIn_52 (by decide) (fun h5 => ?_) (fun h5 => ?_)
        · skip
          refine lv_iconst (v := 0) C.x C.b md_F_comeIn_59 (by decide) ?_
          refine lv_istore (lv' := [(5, .int 0), (4, .int ((mf_lf co) - (mf_lf c1))), (3, .int (mf_lf co)), (0, .ref x), (1, .ref ca), (2, .int kind)]) C.x C.b md_F_comeIn_60 hl (by decide) rfl (fun ls hl => ?_)
          exact fin2 _ _ _ 0 c1 L1 met1 g1 hM hln hg hE hS hsp (by simp [h3, h4, h5]) (lv_sub hl [0, 1, 3, 4] rfl)
        · skip
          refine lv_iconst (v := 1) C.x C.b md_F_comeIn_55 (by decide) ?_
          refine lv_goto (tgt := 60) C.x C.b md_F_comeIn_56 (by decide) ?_
          refine lv_istore (lv' := [(5, .int 1), (4, .int ((mf_lf co) - (mf_lf c1))), (3, .int (mf_lf co)), (0, .ref x), (1, .ref ca), (2, .int kind)]) C.x C.b md_F_comeIn_60 hl (by decide) rfl (fun ls hl => ?_)
          exact fin2 _ _ _ 1 c1 L1 met1 g1 hM hln hg hE hS hsp (by simp [h3, h4, h5]) (lv_sub hl [0, 1, 3, 4] rfl)
  obtain ⟨ks, hL, hC, hT, hca, hAc, hni⟩ := id hM
  have hL : mf_L ks = L := hL
  have hC : mf_CL D k5 t0 A H x al tp due met ks := hC
  have hT : mf_TP D k5 A H tp g := hT
  have hca : va_at D mf_cl (ca, .inr (1, mf_fs co)) H := hca
  obtain ⟨hx, hAx, hAL, hks, hnd⟩ := id hC
  obtain ⟨ed, mc, hal, hA1, hle, hor⟩ := id hAL
  rw [List.length_map] at hle
  refine lv_aload_n C.x C.b md_F_comeIn_0 rfl (lv_at hl 1 rfl) ?_
  refine mf_gfN C (ci := 1) (N := 6) rfl mi_O 5 (by decide) (C.ev.2.1.1 (81, "MatchFloor$Order", "left", "I") (List.mem_of_getElem? (i := 9) rfl)) hca (v := .int (mf_lf co)) rfl md_F_comeIn_1 ?_
  refine lv_istore_n (lv' := [(3, .int (mf_lf co)), (0, .ref x), (1, .ref ca), (2, .int kind)]) C.x C.b md_F_comeIn_4 rfl hl (by decide) rfl (fun ls hl => ?_)
  refine lv_iload_n C.x C.b md_F_comeIn_5 rfl (lv_at hl 3 rfl) ?_
  refine lv_iconst (v := 4) C.x C.b md_F_comeIn_6 (by decide) ?_
  refine lv_icmp_eq (tgt := 33) C.x C.b md_F_comeIn_7 (by decide) (fun h6 => ?_) (fun h6 => ?_)
  · skip
    exact fin1 _ _ _ co L met g hM hln (by omega) mf_Eq.rf hS (if_pos (by simp [h6])) (lv_sub hl [0, 1, 2, 3] rfl)
  · skip
    refine lv_iload_n C.x C.b md_F_comeIn_10 rfl (lv_at hl 3 rfl) ?_
    refine lv_iconst (v := 5) C.x C.b md_F_comeIn_11 (by decide) ?_
    refine lv_icmp_eq (tgt := 33) C.x C.b md_F_comeIn_12 (by decide) (fun h7 => ?_) (fun h7 => ?_)
    · skip
      exact fin1 _ _ _ co L met g hM hln (by omega) mf_Eq.rf hS (if_pos (by simp [h6, h7])) (lv_sub hl [0, 1, 2, 3] rfl)
    · skip
      refine lv_aload_n C.x C.b md_F_comeIn_15 rfl (lv_at hl 1 rfl) ?_
      refine lv_aload_n C.x C.b md_F_comeIn_16 rfl (lv_at hl 2 rfl) ?_
      refine lv_iload_n C.x C.b md_F_comeIn_17 rfl (lv_at hl 3 rfl) ?_
      refine lv_iconst (v := 1) C.x C.b md_F_comeIn_18 (by decide) ?_
      refine lv_icmp_ne (tgt := 26) C.x C.b md_F_comeIn_19 (by decide) (fun h8 => ?_) (fun h8 => ?_)
      · skip
        refine lv_aload_n C.x C.b md_F_comeIn_26 rfl (lv_at hl 2 rfl) ?_
        refine mf_gfN C (ci := 1) (N := 6) rfl mi_O 4 (by decide) (C.ev.2.1.1 (92, "MatchFloor$Order", "price", "I") (List.mem_of_getElem? (i := 8) rfl)) hca (v := .int (mf_pr co)) rfl md_F_comeIn_27 ?_
        refine mf_cwn (va_runV (As := [.ref ca, .int (mf_pr co)]) (rest := []) C.f (k_F_match l D k5 t0 A H x al tp ca due (mf_pr co) co (L, met, g) hM (by show g.1 + 41 < 2 ^ 31; omega)) (mf_cV C mt_304 mt_301 mt_1 mt_303 ms_8 mh_F_match ⟨by decide, by decide⟩) (mf_preV C.ev hS (mf_rv C (ci := 3) (N := 4) rfl hx)) rfl rfl hl.1 rfl (lv_room (Nat.le_of_ble_eq_true rfl)) md_F_comeIn_30 ⟨by first | omega | exact Nat.le_of_ble_eq_true rfl, by first | omega | exact Nat.le_of_ble_eq_true rfl⟩) hS (fun _ _ h => h.1) (fun H locs hB5 hz5 hk5 hS => ?_)
        have hgn := mf_match_g (mf_pr co) 41 co (L, met, g)
        have hlm := mf_match_len (mf_pr co) 41 co (L, met, g)
        obtain ⟨⟨c1, L1, met1, g1⟩, hq1⟩ : ∃ q, mf_match 41 (mf_pr co) co (L, met, g) = q := ⟨_, rfl⟩
        rw [hq1] at hB5 hgn hlm
        have hgn : g1.1 ≤ g.1 + 41 := hgn
        have hlm : L1.length ≤ L.length := hlm
        exact fin1 _ _ _ c1 L1 met1 g1 hB5 (by omega) (by omega) ⟨hz5, hk5⟩ hS (by rw [if_neg (by simp [h6, h7, h8])]; simp only [h6, h7, h8, if_true, if_false]; exact hq1) (lv_sub hl [0, 1, 2, 3] rfl)
      · skip
        refine lv_iconst (v := 0) C.x C.b md_F_comeIn_22 (by decide) ?_
        refine lv_goto (tgt := 30) C.x C.b md_F_comeIn_23 (by decide) ?_
        refine mf_cwn (va_runV (As := [.ref ca, .int 0]) (rest := []) C.f (k_F_match l D k5 t0 A H x al tp ca due 0 co (L, met, g) hM (by show g.1 + 41 < 2 ^ 31; omega)) (mf_cV C mt_304 mt_301 mt_1 mt_303 ms_8 mh_F_match ⟨by decide, by decide⟩) (mf_preV C.ev hS (mf_rv C (ci := 3) (N := 4) rfl hx)) rfl rfl hl.1 rfl (lv_room (Nat.le_of_ble_eq_true rfl)) md_F_comeIn_30 ⟨by first | omega | exact Nat.le_of_ble_eq_true rfl, by first | omega | exact Nat.le_of_ble_eq_true rfl⟩) hS (fun _ _ h => h.1) (fun H locs hB5 hz5 hk5 hS => ?_)
        have hgn := mf_match_g 0 41 co (L, met, g)
        have hlm := mf_match_len 0 41 co (L, met, g)
        obtain ⟨⟨c1, L1, met1, g1⟩, hq1⟩ : ∃ q, mf_match 41 0 co (L, met, g) = q := ⟨_, rfl⟩
        rw [hq1] at hB5 hgn hlm
        have hgn : g1.1 ≤ g.1 + 41 := hgn
        have hlm : L1.length ≤ L.length := hlm
        exact fin1 _ _ _ c1 L1 met1 g1 hB5 (by omega) (by omega) ⟨hz5, hk5⟩ hS (by rw [if_neg (by simp [h6, h7, h8])]; simp only [h6, h7, h8, if_true, if_false]; exact hq1) (lv_sub hl [0, 1, 2, 3] rfl)
