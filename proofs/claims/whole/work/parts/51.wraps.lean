/-! the law: calls of the class in a try -/
theorem mf_SS.eq {D : va_G} {k5 : mf_k5} {t0 : Nat × Nat} {A : Nat → Prop} {H H1 : Heap} {x al tp : Nat} {st : mf_S} {L : List ClassId} (h : mf_SS D k5 t0 A H x al tp st) (E : mf_Eq A L H H1) (n0 : D.1 0 ∉ L) (n1 : D.1 1 ∉ L) (n2 : D.1 2 ∉ L) (n3 : D.1 3 ∉ L) (n5 : k5.1 ∉ L) (n6 : k5.2.1 ∉ L) (n7 : k5.2.2.1 ∉ L) : mf_SS D k5 t0 A H1 x al tp st := by
  obtain ⟨ks, h1, h2, h3⟩ := h
  exact ⟨ks, h1, h2.eq E n0 n1 n3 n5, h3.eq E n2 n6 n7⟩
theorem mf_SS.ol {D : va_G} {k5 : mf_k5} {t0 : Nat × Nat} {A : Nat → Prop} {H H1 : Heap} {x al tp : Nat} {st : mf_S} (nd : (mf_ids D (mf_tys k5)).Nodup) (h : mf_SS D k5 t0 A H x al tp st) (E : mf_Eq A [k5.2.2.2.2] H H1) : mf_SS D k5 t0 A H1 x al tp st :=
  h.eq E (by simp [mf_nd nd (i := 0) (j := 9) rfl rfl (by decide)]) (by simp [mf_nd nd (i := 1) (j := 9) rfl rfl (by decide)]) (by simp [mf_nd nd (i := 2) (j := 9) rfl rfl (by decide)]) (by simp [mf_nd nd (i := 3) (j := 9) rfl rfl (by decide)]) (by simp [mf_nd nd (i := 5) (j := 9) rfl rfl (by decide)]) (by simp [mf_nd nd (i := 6) (j := 9) rfl rfl (by decide)]) (by simp [mf_nd nd (i := 7) (j := 9) rfl rfl (by decide)])
theorem mf_notL {D : va_G} {k5 : mf_k5} (nd : (mf_ids D (mf_tys k5)).Nodup) : k5.2.2.2.2 ∉ mf_cM D k5 := by
  simp [mf_nd nd (i := 9) (j := 0) rfl rfl (by decide), mf_nd nd (i := 9) (j := 1) rfl rfl (by decide), mf_nd nd (i := 9) (j := 2) rfl rfl (by decide), mf_nd nd (i := 9) (j := 3) rfl rfl (by decide), mf_nd nd (i := 9) (j := 5) rfl rfl (by decide), mf_nd nd (i := 9) (j := 7) rfl rfl (by decide)]
abbrev mf_cO (D : va_G) (k5 : mf_k5) : List ClassId := k5.2.2.2.2 :: mf_cM D k5
theorem mf_submit_x {i h p q : Int32} {st : mf_S} (hn : (mf_submit i h p q st).1.1 ≠ 0) : (mf_submit i h p q st).2 = st := by
  unfold mf_submit at hn ⊢
  split
  · rename_i h1
    rw [if_pos h1] at hn
    split
    · rfl
    · rename_i h2
      rw [if_neg h2] at hn
      exact absurd rfl hn
  · rfl
theorem mf_cancel_x {i : Int32} {st : mf_S} (hn : (mf_cancel i st).1.1 ≠ 0) : (mf_cancel i st).2 = st := by
  unfold mf_cancel at hn ⊢
  split
  · rfl
  · rename_i z h1
    rw [h1] at hn
    exact absurd rfl hn
theorem mf_withdraw_x {i : Int32} {st : mf_S} (hn : (mf_withdraw i st).1.1 ≠ 0) : (mf_withdraw i st).2 = st := by
  unfold mf_withdraw at hn ⊢
  split
  · rename_i h1
    rw [if_pos h1] at hn
    exact absurd rfl hn
  · rfl
theorem mf_amend_x {i p q : Int32} {st : mf_S} (hn : (mf_amend i p q st).1.1 ≠ 0) : (mf_amend i p q st).2 = st := by
  unfold mf_amend at hn ⊢
  split
  · rename_i h1
    rw [if_pos h1] at hn
    split
    · rfl
    · rename_i z h2
      rw [h2] at hn
      dsimp only at hn
      split at hn
      · exact absurd rfl hn
      · exact absurd rfl hn
  · rfl
set_option maxRecDepth 100000 in
set_option maxHeartbeats 4000000 in
theorem k_L_submit (l : Launch) (D : va_G) (k5 : mf_k5) (t0 : Nat × Nat) (A : Nat → Prop) (H : Heap) (hlt : l.stackTraces = false) (x al tp : Nat) (i h0 p0 q0 : Int32) (L : List mf_O) (due met : Int32) (g : mf_G) (o : Nat) (f : Nat → Int64) (hM : mf_SS D k5 t0 A H x al tp (L, due, met, g)) (hg : g.1 + 41 * 41 < 2 ^ 31) (ho : va_at D mf_cl (o, .inl (k5.2.2.2.2, 1, .inr (.inl f))) H) (hAo : A o) : mf_cLW l my_L_submit mc_L_submit 7 (some .int) [(0, 14, 17, 13), (0, 14, 21, 15)] { frames := 9, cells := 2, slots := 66, locals := 242 } D (mf_tys k5) t0 A H [.ref x, .int i, .int h0, .int p0, .int q0, .ref o] (some (.int (nI (mf_submit i h0 p0 q0 (L, due, met, g)).1.1))) (fun H1 => mf_SS D k5 t0 A H1 x al tp (mf_submit i h0 p0 q0 (L, due, met, g)).2 ∧ ∃ f1, va_at D mf_cl (o, .inl (k5.2.2.2.2, 1, .inr (.inl f1))) H1 ∧ ((mf_submit i h0 p0 q0 (L, due, met, g)).1.1 = 0 → f1 0 = ((mf_submit i h0 p0 q0 (L, due, met, g)).1.2).toInt64)) (mf_fr A H (mf_cO D k5)) 2 66 := by
  have hx := (show ∃ ks, _ from hM).elim fun ks z => z.2.1.1
  refine mf_ofW (by decide) (Nat.le_of_ble_eq_true rfl) ?_
  intro p e s m below meth c ls C hH hr hlk htb hl hS
  have hl : lv_has ls 7 [(0, .ref x), (1, .int i), (2, .int h0), (3, .int p0), (4, .int q0), (5, .ref o)] := hl
  refine lv_aload C.x C.b md_L_submit_0 (lv_at hl 5 rfl) ?_
  refine lv_iconst (v := 0) C.x C.b md_L_submit_2 (by decide) ?_
  refine lv_aload_n C.x C.b md_L_submit_3 rfl (lv_at hl 0 rfl) ?_
  refine lv_iload_n C.x C.b md_L_submit_4 rfl (lv_at hl 1 rfl) ?_
  refine lv_iload_n C.x C.b md_L_submit_5 rfl (lv_at hl 2 rfl) ?_
  refine lv_iload_n C.x C.b md_L_submit_6 rfl (lv_at hl 3 rfl) ?_
  refine lv_iload C.x C.b md_L_submit_7 (lv_at hl 4 rfl) ?_
  refine mf_cxs (vx_runV (As := [.int i, .int h0, .int p0, .int q0]) (rest := [.int 0, .ref o]) C.f (k_F_submit l D k5 t0 A H hlt x al tp i h0 p0 q0 L due met g hM hg) (mf_cV C mt_117 mt_114 mt_1 mt_115 mt_116 mh_F_submit ⟨by decide, by decide⟩) (mf_preV C.ev hS (mf_rv C (ci := 3) (N := 4) rfl hx)) rfl rfl hl.1 rfl (lv_room (Nat.le_of_ble_eq_true rfl)) md_L_submit_9 ⟨Nat.le_of_ble_eq_true rfl, Nat.le_of_ble_eq_true rfl⟩) hS (fun _ _ h => h.1) (fun E ce q9 H1 locs hX hz hk hS hce hcv hcl => ?_) (fun H1 locs hok hB hz hk hS => ?_)
  · have hE1 : mf_Eq A [] H H1 := ⟨hz, fun q hq _ => hk q hq⟩
    have hM1 := hM.eq hE1 (by simp) (by simp) (by simp) (by simp) (by simp) (by simp) (by simp)
    have ho1 := hE1.ka ho (by simp)
    have hxw := C.ev.2.1.2.2.2.2.2.2.1.2
    rcases hX with ⟨hcd, rfl⟩ | ⟨hcd, rfl⟩
    · skip
      refine vx_catch C.o [] _ _ htb (fun z h => by cases h) rfl (by decide) (C.t mt_112) ((hxw.1 _ (List.mem_of_getElem? (i := 0) rfl)).use rfl) hce hcv hcl ?_
      show W p l e ({ frames := 9, cells := 2, slots := 66, locals := 242 } : Room) s m _ below meth c H1 locs _ _ _ (F0 m 17 ls [.ref q9])
      refine lv_astore (lv' := [(6, .ref q9), (0, .ref x), (1, .int i), (2, .int h0), (3, .int p0), (4, .int q0), (5, .ref o)]) C.x C.b md_L_submit_17 hl (by decide) rfl (fun ls hl => ?_)
      refine lv_iconst (v := 1) C.x C.b md_L_submit_19 (by decide) ?_
      rw [hcd]
      exact mf_wi C.x C.b hr hlk md_L_submit_20 ⟨(by rw [mf_submit_x (by rw [hcd]; decide)]; exact hM1), f, ho1, fun z => absurd z (by decide)⟩ (hE1.tr (L := mf_cO D k5) mf_Eq.rf (by simp) (fun _ h => h)) hH hS.2.2 (by decide) (by decide)
    · skip
      refine vx_catch C.o [_] _ _ htb (fun z hz9 => by cases List.mem_singleton.mp hz9; exact Or.inr ⟨by decide, _, C.t mt_112, hxw.2.2 _ (List.mem_of_getElem? (i := 0) rfl)⟩) rfl (by decide) (C.t mt_113) ((hxw.1 _ (List.mem_of_getElem? (i := 1) rfl)).use rfl) hce hcv hcl ?_
      show W p l e ({ frames := 9, cells := 2, slots := 66, locals := 242 } : Room) s m _ below meth c H1 locs _ _ _ (F0 m 21 ls [.ref q9])
      refine lv_astore (lv' := [(6, .ref q9), (0, .ref x), (1, .int i), (2, .int h0), (3, .int p0), (4, .int q0), (5, .ref o)]) C.x C.b md_L_submit_21 hl (by decide) rfl (fun ls hl => ?_)
      refine lv_iconst (v := 2) C.x C.b md_L_submit_23 (by decide) ?_
      rw [hcd]
      exact mf_wi C.x C.b hr hlk md_L_submit_24 ⟨(by rw [mf_submit_x (by rw [hcd]; decide)]; exact hM1), f, ho1, fun z => absurd z (by decide)⟩ (hE1.tr (L := mf_cO D k5) mf_Eq.rf (by simp) (fun _ h => h)) hH hS.2.2 (by decide) (by decide)
  · have hE1 : mf_Eq A (mf_cM D k5) H H1 := mf_Eq.tr (L1 := mf_cM D k5) (L := mf_cM D k5) ⟨hz, hk⟩ mf_Eq.rf (by simp) (fun _ h => h)
    have ho1 := hE1.ka ho (mf_notL C.nd)
    refine lv_i2l (v := ((mf_submit i h0 p0 q0 (L, due, met, g)).1.2).toInt64) C.x C.b md_L_submit_12 rfl ?_
    refine mf_last C (t := 4) (i := 0) rfl ho1 (by decide) (by decide) hS hAo md_L_submit_13 (fun H2 locs ho2 hE2 hS => ?_)
    refine lv_goto (tgt := 25) C.x C.b md_L_submit_14 (by decide) ?_
    refine lv_iconst (v := 0) C.x C.b md_L_submit_25 (by decide) ?_
    rw [hok]
    exact mf_wi C.x C.b hr hlk md_L_submit_26 ⟨hB.ol C.nd hE2, _, ho2, fun _ => by simp [vp_updL]⟩ (hE1.tr (L := mf_cO D k5) hE2 (fun _ h => List.mem_cons_of_mem _ h) (by simp)) hH hS.2.2 (by decide) (by decide)
set_option maxRecDepth 100000 in
set_option maxHeartbeats 4000000 in
theorem k_L_cancel (l : Launch) (D : va_G) (k5 : mf_k5) (t0 : Nat × Nat) (A : Nat → Prop) (H : Heap) (hlt : l.stackTraces = false) (x al tp : Nat) (i : Int32) (L : List mf_O) (due met : Int32) (g : mf_G) (o : Nat) (f : Nat → Int64) (hM : mf_SS D k5 t0 A H x al tp (L, due, met, g)) (ho : va_at D mf_cl (o, .inl (k5.2.2.2.2, 1, .inr (.inl f))) H) (hAo : A o) : mf_cLW l my_L_cancel mc_L_cancel 4 (some .int) [(0, 9, 12, 21)] { frames := 7, cells := 1, slots := 6, locals := 128 } D (mf_tys k5) t0 A H [.ref x, .int i, .ref o] (some (.int (nI (mf_cancel i (L, due, met, g)).1.1))) (fun H1 => mf_SS D k5 t0 A H1 x al tp (mf_cancel i (L, due, met, g)).2 ∧ ∃ f1, va_at D mf_cl (o, .inl (k5.2.2.2.2, 1, .inr (.inl f1))) H1 ∧ ((mf_cancel i (L, due, met, g)).1.1 = 0 → f1 0 = ((mf_cancel i (L, due, met, g)).1.2).toInt64)) (mf_fr A H (mf_cO D k5)) 1 6 := by
  have hx := (show ∃ ks, _ from hM).elim fun ks z => z.2.1.1
  refine mf_ofW (by decide) (Nat.le_of_ble_eq_true rfl) ?_
  intro p e s m below meth c ls C hH hr hlk htb hl hS
  have hl : lv_has ls 4 [(0, .ref x), (1, .int i), (2, .ref o)] := hl
  refine lv_aload_n C.x C.b md_L_cancel_0 rfl (lv_at hl 2 rfl) ?_
  refine lv_iconst (v := 0) C.x C.b md_L_cancel_1 (by decide) ?_
  refine lv_aload_n C.x C.b md_L_cancel_2 rfl (lv_at hl 0 rfl) ?_
  refine lv_iload_n C.x C.b md_L_cancel_3 rfl (lv_at hl 1 rfl) ?_
  refine mf_cxs (vx_runV (As := [.int i]) (rest := [.int 0, .ref o]) C.f (k_F_cancel l D k5 t0 A H hlt x al tp i L due met g hM) (mf_cV C mt_401 mt_398 mt_1 mt_399 mt_400 mh_F_cancel ⟨by decide, by decide⟩) (mf_preV C.ev hS (mf_rv C (ci := 3) (N := 4) rfl hx)) rfl rfl hl.1 rfl (lv_room (Nat.le_of_ble_eq_true rfl)) md_L_cancel_4 ⟨Nat.le_of_ble_eq_true rfl, Nat.le_of_ble_eq_true rfl⟩) hS (fun _ _ h => h.1) (fun E ce q9 H1 locs hX hz hk hS hce hcv hcl => ?_) (fun H1 locs hok hB hz hk hS => ?_)
  · have hE1 : mf_Eq A [] H H1 := ⟨hz, fun q hq _ => hk q hq⟩
    have hM1 := hM.eq hE1 (by simp) (by simp) (by simp) (by simp) (by simp) (by simp) (by simp)
    have ho1 := hE1.ka ho (by simp)
    have hxw := C.ev.2.1.2.2.2.2.2.2.1.2
    rcases hX with ⟨hcd, rfl⟩
    · skip
      refine vx_catch C.o [] _ _ htb (fun z h => by cases h) rfl (by decide) (C.t mt_397) ((hxw.1 _ (List.mem_of_getElem? (i := 2) rfl)).use rfl) hce hcv hcl ?_
      show W p l e ({ frames := 7, cells := 1, slots := 6, locals := 128 } : Room) s m _ below meth c H1 locs _ _ _ (F0 m 12 ls [.ref q9])
      refine lv_astore_n (lv' := [(3, .ref q9), (0, .ref x), (1, .int i), (2, .ref o)]) C.x C.b md_L_cancel_12 rfl hl (by decide) rfl (fun ls hl => ?_)
      refine lv_iconst (v := 1) C.x C.b md_L_cancel_13 (by decide) ?_
      rw [hcd]
      exact mf_wi C.x C.b hr hlk md_L_cancel_14 ⟨(by rw [mf_cancel_x (by rw [hcd]; decide)]; exact hM1), f, ho1, fun z => absurd z (by decide)⟩ (hE1.tr (L := mf_cO D k5) mf_Eq.rf (by simp) (fun _ h => h)) hH hS.2.2 (by decide) (by decide)
  · have hE1 : mf_Eq A (mf_cM D k5) H H1 := mf_Eq.tr (L1 := [D.1 0, k5.1]) (L := mf_cM D k5) ⟨hz, hk⟩ mf_Eq.rf (by simp) (fun _ h => h)
    have ho1 := hE1.ka ho (mf_notL C.nd)
    refine lv_i2l (v := ((mf_cancel i (L, due, met, g)).1.2).toInt64) C.x C.b md_L_cancel_7 rfl ?_
    refine mf_last C (t := 4) (i := 0) rfl ho1 (by decide) (by decide) hS hAo md_L_cancel_8 (fun H2 locs ho2 hE2 hS => ?_)
    refine lv_goto (tgt := 15) C.x C.b md_L_cancel_9 (by decide) ?_
    refine lv_iconst (v := 0) C.x C.b md_L_cancel_15 (by decide) ?_
    rw [hok]
    exact mf_wi C.x C.b hr hlk md_L_cancel_16 ⟨hB.ol C.nd hE2, _, ho2, fun _ => by simp [vp_updL]⟩ (hE1.tr (L := mf_cO D k5) hE2 (fun _ h => List.mem_cons_of_mem _ h) (by simp)) hH hS.2.2 (by decide) (by decide)
set_option maxRecDepth 100000 in
set_option maxHeartbeats 4000000 in
theorem k_L_amend (l : Launch) (D : va_G) (k5 : mf_k5) (t0 : Nat × Nat) (A : Nat → Prop) (H : Heap) (hlt : l.stackTraces = false) (x al tp : Nat) (i p0 q0 : Int32) (L : List mf_O) (due met : Int32) (g : mf_G) (o : Nat) (f : Nat → Int64) (hM : mf_SS D k5 t0 A H x al tp (L, due, met, g)) (hg : g.1 + 41 * 41 < 2 ^ 31) (ho : va_at D mf_cl (o, .inl (k5.2.2.2.2, 1, .inr (.inl f))) H) (hAo : A o) : mf_cLW l my_L_amend mc_L_amend 6 (some .int) [(0, 12, 15, 13), (0, 12, 19, 21)] { frames := 9, cells := 1, slots := 60, locals := 241 } D (mf_tys k5) t0 A H [.ref x, .int i, .int p0, .int q0, .ref o] (some (.int (nI (mf_amend i p0 q0 (L, due, met, g)).1.1))) (fun H1 => mf_SS D k5 t0 A H1 x al tp (mf_amend i p0 q0 (L, due, met, g)).2 ∧ ∃ f1, va_at D mf_cl (o, .inl (k5.2.2.2.2, 1, .inr (.inl f1))) H1 ∧ ((mf_amend i p0 q0 (L, due, met, g)).1.1 = 0 → f1 0 = ((mf_amend i p0 q0 (L, due, met, g)).1.2).toInt64)) (mf_fr A H (mf_cO D k5)) 1 60 := by
  have hx := (show ∃ ks, _ from hM).elim fun ks z => z.2.1.1
  refine mf_ofW (by decide) (Nat.le_of_ble_eq_true rfl) ?_
  intro p e s m below meth c ls C hH hr hlk htb hl hS
  have hl : lv_has ls 6 [(0, .ref x), (1, .int i), (2, .int p0), (3, .int q0), (4, .ref o)] := hl
  refine lv_aload C.x C.b md_L_amend_0 (lv_at hl 4 rfl) ?_
  refine lv_iconst (v := 0) C.x C.b md_L_amend_2 (by decide) ?_
  refine lv_aload_n C.x C.b md_L_amend_3 rfl (lv_at hl 0 rfl) ?_
  refine lv_iload_n C.x C.b md_L_amend_4 rfl (lv_at hl 1 rfl) ?_
  refine lv_iload_n C.x C.b md_L_amend_5 rfl (lv_at hl 2 rfl) ?_
  refine lv_iload_n C.x C.b md_L_amend_6 rfl (lv_at hl 3 rfl) ?_
  refine mf_cxs (vx_runV (As := [.int i, .int p0, .int q0]) (rest := [.int 0, .ref o]) C.f (k_F_amend l D k5 t0 A H hlt x al tp i p0 q0 L due met g hM hg) (mf_cV C mt_424 mt_421 mt_1 mt_422 mt_423 mh_F_amend ⟨by decide, by decide⟩) (mf_preV C.ev hS (mf_rv C (ci := 3) (N := 4) rfl hx)) rfl rfl hl.1 rfl (lv_room (Nat.le_of_ble_eq_true rfl)) md_L_amend_7 ⟨Nat.le_of_ble_eq_true rfl, Nat.le_of_ble_eq_true rfl⟩) hS (fun _ _ h => h.1) (fun E ce q9 H1 locs hX hz hk hS hce hcv hcl => ?_) (fun H1 locs hok hB hz hk hS => ?_)
  · have hE1 : mf_Eq A [] H H1 := ⟨hz, fun q hq _ => hk q hq⟩
    have hM1 := hM.eq hE1 (by simp) (by simp) (by simp) (by simp) (by simp) (by simp) (by simp)
    have ho1 := hE1.ka ho (by simp)
    have hxw := C.ev.2.1.2.2.2.2.2.2.1.2
    rcases hX with ⟨hcd, rfl⟩ | ⟨hcd, rfl⟩
    · skip
      refine vx_catch C.o [] _ _ htb (fun z h => by cases h) rfl (by decide) (C.t mt_112) ((hxw.1 _ (List.mem_of_getElem? (i := 0) rfl)).use rfl) hce hcv hcl ?_
      show W p l e ({ frames := 9, cells := 1, slots := 60, locals := 241 } : Room) s m _ below meth c H1 locs _ _ _ (F0 m 15 ls [.ref q9])
      refine lv_astore (lv' := [(5, .ref q9), (0, .ref x), (1, .int i), (2, .int p0), (3, .int q0), (4, .ref o)]) C.x C.b md_L_amend_15 hl (by decide) rfl (fun ls hl => ?_)
      refine lv_iconst (v := 1) C.x C.b md_L_amend_17 (by decide) ?_
      rw [hcd]
      exact mf_wi C.x C.b hr hlk md_L_amend_18 ⟨(by rw [mf_amend_x (by rw [hcd]; decide)]; exact hM1), f, ho1, fun z => absurd z (by decide)⟩ (hE1.tr (L := mf_cO D k5) mf_Eq.rf (by simp) (fun _ h => h)) hH hS.2.2 (by decide) (by decide)
    · skip
      refine vx_catch C.o [_] _ _ htb (fun z hz9 => by cases List.mem_singleton.mp hz9; exact Or.inr ⟨by decide, _, C.t mt_112, hxw.2.2 _ (List.mem_of_getElem? (i := 1) rfl)⟩) rfl (by decide) (C.t mt_397) ((hxw.1 _ (List.mem_of_getElem? (i := 2) rfl)).use rfl) hce hcv hcl ?_
      show W p l e ({ frames := 9, cells := 1, slots := 60, locals := 241 } : Room) s m _ below meth c H1 locs _ _ _ (F0 m 19 ls [.ref q9])
      refine lv_astore (lv' := [(5, .ref q9), (0, .ref x), (1, .int i), (2, .int p0), (3, .int q0), (4, .ref o)]) C.x C.b md_L_amend_19 hl (by decide) rfl (fun ls hl => ?_)
      refine lv_iconst (v := 2) C.x C.b md_L_amend_21 (by decide) ?_
      rw [hcd]
      exact mf_wi C.x C.b hr hlk md_L_amend_22 ⟨(by rw [mf_amend_x (by rw [hcd]; decide)]; exact hM1), f, ho1, fun z => absurd z (by decide)⟩ (hE1.tr (L := mf_cO D k5) mf_Eq.rf (by simp) (fun _ h => h)) hH hS.2.2 (by decide) (by decide)
  · have hE1 : mf_Eq A (mf_cM D k5) H H1 := mf_Eq.tr (L1 := mf_cM D k5) (L := mf_cM D k5) ⟨hz, hk⟩ mf_Eq.rf (by simp) (fun _ h => h)
    have ho1 := hE1.ka ho (mf_notL C.nd)
    refine lv_i2l (v := ((mf_amend i p0 q0 (L, due, met, g)).1.2).toInt64) C.x C.b md_L_amend_10 rfl ?_
    refine mf_last C (t := 4) (i := 0) rfl ho1 (by decide) (by decide) hS hAo md_L_amend_11 (fun H2 locs ho2 hE2 hS => ?_)
    refine lv_goto (tgt := 23) C.x C.b md_L_amend_12 (by decide) ?_
    refine lv_iconst (v := 0) C.x C.b md_L_amend_23 (by decide) ?_
    rw [hok]
    exact mf_wi C.x C.b hr hlk md_L_amend_24 ⟨hB.ol C.nd hE2, _, ho2, fun _ => by simp [vp_updL]⟩ (hE1.tr (L := mf_cO D k5) hE2 (fun _ h => List.mem_cons_of_mem _ h) (by simp)) hH hS.2.2 (by decide) (by decide)
set_option maxRecDepth 100000 in
set_option maxHeartbeats 4000000 in
theorem k_L_withdraw (l : Launch) (D : va_G) (k5 : mf_k5) (t0 : Nat × Nat) (A : Nat → Prop) (H : Heap) (hlt : l.stackTraces = false) (x al tp : Nat) (i : Int32) (L : List mf_O) (due met : Int32) (g : mf_G) (o : Nat) (f : Nat → Int64) (hM : mf_SS D k5 t0 A H x al tp (L, due, met, g)) (ho : va_at D mf_cl (o, .inl (k5.2.2.2.2, 1, .inr (.inl f))) H) (hAo : A o) : mf_cLW l my_L_withdraw mc_L_withdraw 4 (some .int) [(0, 9, 12, 13)] { frames := 7, cells := 1, slots := 6, locals := 129 } D (mf_tys k5) t0 A H [.ref x, .int i, .ref o] (some (.int (nI (mf_withdraw i (L, due, met, g)).1.1))) (fun H1 => mf_SS D k5 t0 A H1 x al tp (mf_withdraw i (L, due, met, g)).2 ∧ ∃ f1, va_at D mf_cl (o, .inl (k5.2.2.2.2, 1, .inr (.inl f1))) H1 ∧ ((mf_withdraw i (L, due, met, g)).1.1 = 0 → f1 0 = ((mf_withdraw i (L, due, met, g)).1.2).toInt64)) (mf_fr A H (mf_cO D k5)) 1 6 := by
  have hx := (show ∃ ks, _ from hM).elim fun ks z => z.2.1.1
  refine mf_ofW (by decide) (Nat.le_of_ble_eq_true rfl) ?_
  intro p e s m below meth c ls C hH hr hlk htb hl hS
  have hl : lv_has ls 4 [(0, .ref x), (1, .int i), (2, .ref o)] := hl
  refine lv_aload_n C.x C.b md_L_withdraw_0 rfl (lv_at hl 2 rfl) ?_
  refine lv_iconst (v := 0) C.x C.b md_L_withdraw_1 (by decide) ?_
  refine lv_aload_n C.x C.b md_L_withdraw_2 rfl (lv_at hl 0 rfl) ?_
  refine lv_iload_n C.x C.b md_L_withdraw_3 rfl (lv_at hl 1 rfl) ?_
  refine mf_cxs (vx_runV (As := [.int i]) (rest := [.int 0, .ref o]) C.f (k_F_withdraw l D k5 t0 A H hlt x al tp i L due met g hM) (mf_cV C mt_431 mt_428 mt_1 mt_429 mt_430 mh_F_withdraw ⟨by decide, by decide⟩) (mf_preV C.ev hS (mf_rv C (ci := 3) (N := 4) rfl hx)) rfl rfl hl.1 rfl (lv_room (Nat.le_of_ble_eq_true rfl)) md_L_withdraw_4 ⟨Nat.le_of_ble_eq_true rfl, Nat.le_of_ble_eq_true rfl⟩) hS (fun _ _ h => h.1) (fun E ce q9 H1 locs hX hz hk hS hce hcv hcl => ?_) (fun H1 locs hok hB hz hk hS => ?_)
  · have hE1 : mf_Eq A [] H H1 := ⟨hz, fun q hq _ => hk q hq⟩
    have hM1 := hM.eq hE1 (by simp) (by simp) (by simp) (by simp) (by simp) (by simp) (by simp)
    have ho1 := hE1.ka ho (by simp)
    have hxw := C.ev.2.1.2.2.2.2.2.2.1.2
    rcases hX with ⟨hcd, rfl⟩
    · skip
      refine vx_catch C.o [] _ _ htb (fun z h => by cases h) rfl (by decide) (C.t mt_112) ((hxw.1 _ (List.mem_of_getElem? (i := 0) rfl)).use rfl) hce hcv hcl ?_
      show W p l e ({ frames := 7, cells := 1, slots := 6, locals := 129 } : Room) s m _ below meth c H1 locs _ _ _ (F0 m 12 ls [.ref q9])
      refine lv_astore_n (lv' := [(3, .ref q9), (0, .ref x), (1, .int i), (2, .ref o)]) C.x C.b md_L_withdraw_12 rfl hl (by decide) rfl (fun ls hl => ?_)
      refine lv_iconst (v := 1) C.x C.b md_L_withdraw_13 (by decide) ?_
      rw [hcd]
      exact mf_wi C.x C.b hr hlk md_L_withdraw_14 ⟨(by rw [mf_withdraw_x (by rw [hcd]; decide)]; exact hM1), f, ho1, fun z => absurd z (by decide)⟩ (hE1.tr (L := mf_cO D k5) mf_Eq.rf (by simp) (fun _ h => h)) hH hS.2.2 (by decide) (by decide)
  · have hE1 : mf_Eq A (mf_cM D k5) H H1 := mf_Eq.tr (L1 := [D.1 0, k5.1]) (L := mf_cM D k5) ⟨hz, hk⟩ mf_Eq.rf (by simp) (fun _ h => h)
    have ho1 := hE1.ka ho (mf_notL C.nd)
    refine lv_i2l (v := ((mf_withdraw i (L, due, met, g)).1.2).toInt64) C.x C.b md_L_withdraw_7 rfl ?_
    refine mf_last C (t := 4) (i := 0) rfl ho1 (by decide) (by decide) hS hAo md_L_withdraw_8 (fun H2 locs ho2 hE2 hS => ?_)
    refine lv_goto (tgt := 15) C.x C.b md_L_withdraw_9 (by decide) ?_
    refine lv_iconst (v := 0) C.x C.b md_L_withdraw_15 (by decide) ?_
    rw [hok]
    exact mf_wi C.x C.b hr hlk md_L_withdraw_16 ⟨hB.ol C.nd hE2, _, ho2, fun _ => by simp [vp_updL]⟩ (hE1.tr (L := mf_cO D k5) hE2 (fun _ h => List.mem_cons_of_mem _ h) (by simp)) hH hS.2.2 (by decide) (by decide)
set_option maxRecDepth 100000 in
set_option maxHeartbeats 4000000 in
theorem k_L_levels (l : Launch) (D : va_G) (k5 : mf_k5) (t0 : Nat × Nat) (A : Nat → Prop) (H : Heap) (hlt : l.stackTraces = false) (x al tp : Nat) (s0 : Int32) (L : List mf_O) (due met : Int32) (g : mf_G) (o : Nat) (f : Nat → Int64) (hM : mf_SS D k5 t0 A H x al tp (L, due, met, g)) (hpr : ∀ r ∈ L, mf_pr r ≠ 0) (ho : va_at D mf_cl (o, .inl (k5.2.2.2.2, 1, .inr (.inl f))) H) (hAo : A o) : mf_cLW l my_L_levels mc_L_levels 4 (some .int) [(0, 9, 12, 13)] { frames := 7, cells := 1, slots := 6, locals := 135 } D (mf_tys k5) t0 A H [.ref x, .int s0, .ref o] (some (.int (nI (mf_levels s0 (L, due, met, g)).1))) (fun H1 => mf_SS D k5 t0 A H1 x al tp (L, due, met, g) ∧ ∃ f1, va_at D mf_cl (o, .inl (k5.2.2.2.2, 1, .inr (.inl f1))) H1 ∧ ((mf_levels s0 (L, due, met, g)).1 = 0 → f1 0 = ((mf_levels s0 (L, due, met, g)).2).toInt64)) (mf_fr A H (mf_cO D k5)) 1 6 := by
  have hx := (show ∃ ks, _ from hM).elim fun ks z => z.2.1.1
  refine mf_ofW (by decide) (Nat.le_of_ble_eq_true rfl) ?_
  intro p e s m below meth c ls C hH hr hlk htb hl hS
  have hl : lv_has ls 4 [(0, .ref x), (1, .int s0), (2, .ref o)] := hl
  refine lv_aload_n C.x C.b md_L_levels_0 rfl (lv_at hl 2 rfl) ?_
  refine lv_iconst (v := 0) C.x C.b md_L_levels_1 (by decide) ?_
  refine lv_aload_n C.x C.b md_L_levels_2 rfl (lv_at hl 0 rfl) ?_
  refine lv_iload_n C.x C.b md_L_levels_3 rfl (lv_at hl 1 rfl) ?_
  refine mf_cxs (vx_runV (As := [.int s0]) (rest := [.int 0, .ref o]) C.f (k_F_levels l D k5 t0 A H hlt x al tp s0 L due met g hM hpr) (mf_cV C mt_439 mt_436 mt_1 mt_437 mt_438 mh_F_levels ⟨by decide, by decide⟩) (mf_preV C.ev hS (mf_rv C (ci := 3) (N := 4) rfl hx)) rfl rfl hl.1 rfl (lv_room (Nat.le_of_ble_eq_true rfl)) md_L_levels_4 ⟨Nat.le_of_ble_eq_true rfl, Nat.le_of_ble_eq_true rfl⟩) hS (fun _ _ h => h.1) (fun E ce q9 H1 locs hX hz hk hS hce hcv hcl => ?_) (fun H1 locs hok hB hz hk hS => ?_)
  · have hE1 : mf_Eq A [] H H1 := ⟨hz, fun q hq _ => hk q hq⟩
    have hM1 := hM.eq hE1 (by simp) (by simp) (by simp) (by simp) (by simp) (by simp) (by simp)
    have ho1 := hE1.ka ho (by simp)
    have hxw := C.ev.2.1.2.2.2.2.2.2.1.2
    rcases hX with ⟨hcd, rfl⟩
    · skip
      refine vx_catch C.o [] _ _ htb (fun z h => by cases h) rfl (by decide) (C.t mt_112) ((hxw.1 _ (List.mem_of_getElem? (i := 0) rfl)).use rfl) hce hcv hcl ?_
      show W p l e ({ frames := 7, cells := 1, slots := 6, locals := 135 } : Room) s m _ below meth c H1 locs _ _ _ (F0 m 12 ls [.ref q9])
      refine lv_astore_n (lv' := [(3, .ref q9), (0, .ref x), (1, .int s0), (2, .ref o)]) C.x C.b md_L_levels_12 rfl hl (by decide) rfl (fun ls hl => ?_)
      refine lv_iconst (v := 1) C.x C.b md_L_levels_13 (by decide) ?_
      rw [hcd]
      exact mf_wi C.x C.b hr hlk md_L_levels_14 ⟨hM1, f, ho1, fun z => absurd z (by decide)⟩ (hE1.tr (L := mf_cO D k5) mf_Eq.rf (by simp) (fun _ h => h)) hH hS.2.2 (by decide) (by decide)
  · have hE1 : mf_Eq A (mf_cM D k5) H H1 := mf_Eq.tr (L1 := []) (L := mf_cM D k5) ⟨hz, hk⟩ mf_Eq.rf (by simp) (fun _ h => h)
    have ho1 := hE1.ka ho (mf_notL C.nd)
    refine lv_i2l (v := ((mf_levels s0 (L, due, met, g)).2).toInt64) C.x C.b md_L_levels_7 rfl ?_
    refine mf_last C (t := 4) (i := 0) rfl ho1 (by decide) (by decide) hS hAo md_L_levels_8 (fun H2 locs ho2 hE2 hS => ?_)
    refine lv_goto (tgt := 15) C.x C.b md_L_levels_9 (by decide) ?_
    refine lv_iconst (v := 0) C.x C.b md_L_levels_15 (by decide) ?_
    rw [hok]
    exact mf_wi C.x C.b hr hlk md_L_levels_16 ⟨hB.ol C.nd hE2, _, ho2, fun _ => by simp [vp_updL]⟩ (hE1.tr (L := mf_cO D k5) hE2 (fun _ h => List.mem_cons_of_mem _ h) (by simp)) hH hS.2.2 (by decide) (by decide)
set_option maxRecDepth 100000 in
set_option maxHeartbeats 4000000 in
theorem k_L_level (l : Launch) (D : va_G) (k5 : mf_k5) (t0 : Nat × Nat) (A : Nat → Prop) (H : Heap) (hlt : l.stackTraces = false) (x al tp : Nat) (s0 k0 w0 : Int32) (L : List mf_O) (due met : Int32) (g : mf_G) (o : Nat) (f : Nat → Int64) (hM : mf_SS D k5 t0 A H x al tp (L, due, met, g)) (hpr : ∀ r ∈ L, mf_pr r ≠ 0) (ho : va_at D mf_cl (o, .inl (k5.2.2.2.2, 1, .inr (.inl f))) H) (hAo : A o) : mf_cLW l my_L_level mc_L_level 6 (some .int) [(0, 12, 15, 13), (0, 12, 19, 36)] { frames := 7, cells := 1, slots := 6, locals := 139 } D (mf_tys k5) t0 A H [.ref x, .int s0, .int k0, .int w0, .ref o] (some (.int (nI (mf_level s0 k0 w0 (L, due, met, g)).1))) (fun H1 => mf_SS D k5 t0 A H1 x al tp (L, due, met, g) ∧ ∃ f1, va_at D mf_cl (o, .inl (k5.2.2.2.2, 1, .inr (.inl f1))) H1 ∧ ((mf_level s0 k0 w0 (L, due, met, g)).1 = 0 → f1 0 = ((mf_level s0 k0 w0 (L, due, met, g)).2).toInt64)) (mf_fr A H (mf_cO D k5)) 1 6 := by
  have hx := (show ∃ ks, _ from hM).elim fun ks z => z.2.1.1
  refine mf_ofW (by decide) (Nat.le_of_ble_eq_true rfl) ?_
  intro p e s m below meth c ls C hH hr hlk htb hl hS
  have hl : lv_has ls 6 [(0, .ref x), (1, .int s0), (2, .int k0), (3, .int w0), (4, .ref o)] := hl
  refine lv_aload C.x C.b md_L_level_0 (lv_at hl 4 rfl) ?_
  refine lv_iconst (v := 0) C.x C.b md_L_level_2 (by decide) ?_
  refine lv_aload_n C.x C.b md_L_level_3 rfl (lv_at hl 0 rfl) ?_
  refine lv_iload_n C.x C.b md_L_level_4 rfl (lv_at hl 1 rfl) ?_
  refine lv_iload_n C.x C.b md_L_level_5 rfl (lv_at hl 2 rfl) ?_
  refine lv_iload_n C.x C.b md_L_level_6 rfl (lv_at hl 3 rfl) ?_
  refine mf_cxs (vx_runV (As := [.int s0, .int k0, .int w0]) (rest := [.int 0, .ref o]) C.f (k_F_level l D k5 t0 A H hlt x al tp s0 k0 w0 L due met g hM hpr) (mf_cV C mt_459 mt_456 mt_1 mt_457 mt_458 mh_F_level ⟨by decide, by decide⟩) (mf_preV C.ev hS (mf_rv C (ci := 3) (N := 4) rfl hx)) rfl rfl hl.1 rfl (lv_room (Nat.le_of_ble_eq_true rfl)) md_L_level_7 ⟨Nat.le_of_ble_eq_true rfl, Nat.le_of_ble_eq_true rfl⟩) hS (fun _ _ h => h.1) (fun E ce q9 H1 locs hX hz hk hS hce hcv hcl => ?_) (fun H1 locs hok hB hz hk hS => ?_)
  · have hE1 : mf_Eq A [] H H1 := ⟨hz, fun q hq _ => hk q hq⟩
    have hM1 := hM.eq hE1 (by simp) (by simp) (by simp) (by simp) (by simp) (by simp) (by simp)
    have ho1 := hE1.ka ho (by simp)
    have hxw := C.ev.2.1.2.2.2.2.2.2.1.2
    rcases hX with ⟨hcd, rfl⟩ | ⟨hcd, rfl⟩
    · skip
      refine vx_catch C.o [] _ _ htb (fun z h => by cases h) rfl (by decide) (C.t mt_112) ((hxw.1 _ (List.mem_of_getElem? (i := 0) rfl)).use rfl) hce hcv hcl ?_
      show W p l e ({ frames := 7, cells := 1, slots := 6, locals := 139 } : Room) s m _ below meth c H1 locs _ _ _ (F0 m 15 ls [.ref q9])
      refine lv_astore (lv' := [(5, .ref q9), (0, .ref x), (1, .int s0), (2, .int k0), (3, .int w0), (4, .ref o)]) C.x C.b md_L_level_15 hl (by decide) rfl (fun ls hl => ?_)
      refine lv_iconst (v := 1) C.x C.b md_L_level_17 (by decide) ?_
      rw [hcd]
      exact mf_wi C.x C.b hr hlk md_L_level_18 ⟨hM1, f, ho1, fun z => absurd z (by decide)⟩ (hE1.tr (L := mf_cO D k5) mf_Eq.rf (by simp) (fun _ h => h)) hH hS.2.2 (by decide) (by decide)
    · skip
      refine vx_catch C.o [_] _ _ htb (fun z hz9 => by cases List.mem_singleton.mp hz9; exact Or.inr ⟨by decide, _, C.t mt_112, hxw.2.2 _ (List.mem_of_getElem? (i := 2) rfl)⟩) rfl (by decide) (C.t mt_455) ((hxw.1 _ (List.mem_of_getElem? (i := 3) rfl)).use rfl) hce hcv hcl ?_
      show W p l e ({ frames := 7, cells := 1, slots := 6, locals := 139 } : Room) s m _ below meth c H1 locs _ _ _ (F0 m 19 ls [.ref q9])
      refine lv_astore (lv' := [(5, .ref q9), (0, .ref x), (1, .int s0), (2, .int k0), (3, .int w0), (4, .ref o)]) C.x C.b md_L_level_19 hl (by decide) rfl (fun ls hl => ?_)
      refine lv_iconst (v := 2) C.x C.b md_L_level_21 (by decide) ?_
      rw [hcd]
      exact mf_wi C.x C.b hr hlk md_L_level_22 ⟨hM1, f, ho1, fun z => absurd z (by decide)⟩ (hE1.tr (L := mf_cO D k5) mf_Eq.rf (by simp) (fun _ h => h)) hH hS.2.2 (by decide) (by decide)
  · have hE1 : mf_Eq A (mf_cM D k5) H H1 := mf_Eq.tr (L1 := []) (L := mf_cM D k5) ⟨hz, hk⟩ mf_Eq.rf (by simp) (fun _ h => h)
    have ho1 := hE1.ka ho (mf_notL C.nd)
    refine lv_i2l (v := ((mf_level s0 k0 w0 (L, due, met, g)).2).toInt64) C.x C.b md_L_level_10 rfl ?_
    refine mf_last C (t := 4) (i := 0) rfl ho1 (by decide) (by decide) hS hAo md_L_level_11 (fun H2 locs ho2 hE2 hS => ?_)
    refine lv_goto (tgt := 23) C.x C.b md_L_level_12 (by decide) ?_
    refine lv_iconst (v := 0) C.x C.b md_L_level_23 (by decide) ?_
    rw [hok]
    exact mf_wi C.x C.b hr hlk md_L_level_24 ⟨hB.ol C.nd hE2, _, ho2, fun _ => by simp [vp_updL]⟩ (hE1.tr (L := mf_cO D k5) hE2 (fun _ h => List.mem_cons_of_mem _ h) (by simp)) hH hS.2.2 (by decide) (by decide)
set_option maxRecDepth 100000 in
set_option maxHeartbeats 4000000 in
theorem k_L_order (l : Launch) (D : va_G) (k5 : mf_k5) (t0 : Nat × Nat) (A : Nat → Prop) (H : Heap) (hlt : l.stackTraces = false) (x al tp : Nat) (i w0 : Int32) (L : List mf_O) (due met : Int32) (g : mf_G) (o : Nat) (f : Nat → Int64) (hM : mf_SS D k5 t0 A H x al tp (L, due, met, g)) (ho : va_at D mf_cl (o, .inl (k5.2.2.2.2, 1, .inr (.inl f))) H) (hAo : A o) : mf_cLW l my_L_order mc_L_order 5 (some .int) [(0, 10, 13, 21), (0, 10, 17, 13)] { frames := 7, cells := 1, slots := 6, locals := 114 } D (mf_tys k5) t0 A H [.ref x, .int i, .int w0, .ref o] (some (.int (nI (mf_ordr i w0 (L, due, met, g)).1))) (fun H1 => mf_SS D k5 t0 A H1 x al tp (L, due, met, g) ∧ ∃ f1, va_at D mf_cl (o, .inl (k5.2.2.2.2, 1, .inr (.inl f1))) H1 ∧ ((mf_ordr i w0 (L, due, met, g)).1 = 0 → f1 0 = ((mf_ordr i w0 (L, due, met, g)).2).toInt64)) (mf_fr A H (mf_cO D k5)) 1 6 := by
  have hx := (show ∃ ks, _ from hM).elim fun ks z => z.2.1.1
  refine mf_ofW (by decide) (Nat.le_of_ble_eq_true rfl) ?_
  intro p e s m below meth c ls C hH hr hlk htb hl hS
  have hl : lv_has ls 5 [(0, .ref x), (1, .int i), (2, .int w0), (3, .ref o)] := hl
  refine lv_aload_n C.x C.b md_L_order_0 rfl (lv_at hl 3 rfl) ?_
  refine lv_iconst (v := 0) C.x C.b md_L_order_1 (by decide) ?_
  refine lv_aload_n C.x C.b md_L_order_2 rfl (lv_at hl 0 rfl) ?_
  refine lv_iload_n C.x C.b md_L_order_3 rfl (lv_at hl 1 rfl) ?_
  refine lv_iload_n C.x C.b md_L_order_4 rfl (lv_at hl 2 rfl) ?_
  refine mf_cxs (vx_runV (As := [.int i, .int w0]) (rest := [.int 0, .ref o]) C.f (k_F_order l D k5 t0 A H hlt x al tp i w0 L due met g hM) (mf_cV C mt_495 mt_492 mt_1 mt_493 mt_494 mh_F_order ⟨by decide, by decide⟩) (mf_preV C.ev hS (mf_rv C (ci := 3) (N := 4) rfl hx)) rfl rfl hl.1 rfl (lv_room (Nat.le_of_ble_eq_true rfl)) md_L_order_5 ⟨Nat.le_of_ble_eq_true rfl, Nat.le_of_ble_eq_true rfl⟩) hS (fun _ _ h => h.1) (fun E ce q9 H1 locs hX hz hk hS hce hcv hcl => ?_) (fun H1 locs hok hB hz hk hS => ?_)
  · have hE1 : mf_Eq A [] H H1 := ⟨hz, fun q hq _ => hk q hq⟩
    have hM1 := hM.eq hE1 (by simp) (by simp) (by simp) (by simp) (by simp) (by simp) (by simp)
    have ho1 := hE1.ka ho (by simp)
    have hxw := C.ev.2.1.2.2.2.2.2.2.1.2
    rcases hX with ⟨hcd, rfl⟩ | ⟨hcd, rfl⟩
    · skip
      refine vx_catch C.o [] _ _ htb (fun z h => by cases h) rfl (by decide) (C.t mt_397) ((hxw.1 _ (List.mem_of_getElem? (i := 2) rfl)).use rfl) hce hcv hcl ?_
      show W p l e ({ frames := 7, cells := 1, slots := 6, locals := 114 } : Room) s m _ below meth c H1 locs _ _ _ (F0 m 13 ls [.ref q9])
      refine lv_astore (lv' := [(4, .ref q9), (0, .ref x), (1, .int i), (2, .int w0), (3, .ref o)]) C.x C.b md_L_order_13 hl (by decide) rfl (fun ls hl => ?_)
      refine lv_iconst (v := 1) C.x C.b md_L_order_15 (by decide) ?_
      rw [hcd]
      exact mf_wi C.x C.b hr hlk md_L_order_16 ⟨hM1, f, ho1, fun z => absurd z (by decide)⟩ (hE1.tr (L := mf_cO D k5) mf_Eq.rf (by simp) (fun _ h => h)) hH hS.2.2 (by decide) (by decide)
    · skip
      refine vx_catch C.o [_] _ _ htb (fun z hz9 => by cases List.mem_singleton.mp hz9; exact Or.inr ⟨by decide, _, C.t mt_397, hxw.2.2 _ (List.mem_of_getElem? (i := 3) rfl)⟩) rfl (by decide) (C.t mt_112) ((hxw.1 _ (List.mem_of_getElem? (i := 0) rfl)).use rfl) hce hcv hcl ?_
      show W p l e ({ frames := 7, cells := 1, slots := 6, locals := 114 } : Room) s m _ below meth c H1 locs _ _ _ (F0 m 17 ls [.ref q9])
      refine lv_astore (lv' := [(4, .ref q9), (0, .ref x), (1, .int i), (2, .int w0), (3, .ref o)]) C.x C.b md_L_order_17 hl (by decide) rfl (fun ls hl => ?_)
      refine lv_iconst (v := 2) C.x C.b md_L_order_19 (by decide) ?_
      rw [hcd]
      exact mf_wi C.x C.b hr hlk md_L_order_20 ⟨hM1, f, ho1, fun z => absurd z (by decide)⟩ (hE1.tr (L := mf_cO D k5) mf_Eq.rf (by simp) (fun _ h => h)) hH hS.2.2 (by decide) (by decide)
  · have hE1 : mf_Eq A (mf_cM D k5) H H1 := mf_Eq.tr (L1 := []) (L := mf_cM D k5) ⟨hz, hk⟩ mf_Eq.rf (by simp) (fun _ h => h)
    have ho1 := hE1.ka ho (mf_notL C.nd)
    refine lv_i2l (v := ((mf_ordr i w0 (L, due, met, g)).2).toInt64) C.x C.b md_L_order_8 rfl ?_
    refine mf_last C (t := 4) (i := 0) rfl ho1 (by decide) (by decide) hS hAo md_L_order_9 (fun H2 locs ho2 hE2 hS => ?_)
    refine lv_goto (tgt := 21) C.x C.b md_L_order_10 (by decide) ?_
    refine lv_iconst (v := 0) C.x C.b md_L_order_21 (by decide) ?_
    rw [hok]
    exact mf_wi C.x C.b hr hlk md_L_order_22 ⟨hB.ol C.nd hE2, _, ho2, fun _ => by simp [vp_updL]⟩ (hE1.tr (L := mf_cO D k5) hE2 (fun _ h => List.mem_cons_of_mem _ h) (by simp)) hH hS.2.2 (by decide) (by decide)
set_option maxRecDepth 100000 in
set_option maxHeartbeats 4000000 in
theorem k_L_fill (l : Launch) (D : va_G) (k5 : mf_k5) (t0 : Nat × Nat) (A : Nat → Prop) (H : Heap) (hlt : l.stackTraces = false) (x al tp : Nat) (k0 w0 : Int32) (L : List mf_O) (due met : Int32) (g : mf_G) (o : Nat) (f : Nat → Int64) (hM : mf_SS D k5 t0 A H x al tp (L, due, met, g)) (hg : g.1 < 2 ^ 31) (ho : va_at D mf_cl (o, .inl (k5.2.2.2.2, 1, .inr (.inl f))) H) (hAo : A o) : mf_cLW l my_L_fill mc_L_fill 5 (some .int) [(0, 10, 13, 13), (0, 10, 17, 36)] { frames := 7, cells := 1, slots := 6, locals := 112 } D (mf_tys k5) t0 A H [.ref x, .int k0, .int w0, .ref o] (some (.int (nI (mf_fill k0 w0 g).1))) (fun H1 => mf_SS D k5 t0 A H1 x al tp (L, due, met, g) ∧ ∃ f1, va_at D mf_cl (o, .inl (k5.2.2.2.2, 1, .inr (.inl f1))) H1 ∧ ((mf_fill k0 w0 g).1 = 0 → f1 0 = ((mf_fill k0 w0 g).2).toInt64)) (mf_fr A H (mf_cO D k5)) 1 6 := by
  have hx := (show ∃ ks, _ from hM).elim fun ks z => z.2.1.1
  refine mf_ofW (by decide) (Nat.le_of_ble_eq_true rfl) ?_
  intro p e s m below meth c ls C hH hr hlk htb hl hS
  have hl : lv_has ls 5 [(0, .ref x), (1, .int k0), (2, .int w0), (3, .ref o)] := hl
  refine lv_aload_n C.x C.b md_L_fill_0 rfl (lv_at hl 3 rfl) ?_
  refine lv_iconst (v := 0) C.x C.b md_L_fill_1 (by decide) ?_
  refine lv_aload_n C.x C.b md_L_fill_2 rfl (lv_at hl 0 rfl) ?_
  refine lv_iload_n C.x C.b md_L_fill_3 rfl (lv_at hl 1 rfl) ?_
  refine lv_iload_n C.x C.b md_L_fill_4 rfl (lv_at hl 2 rfl) ?_
  refine mf_cxs (vx_runV (As := [.int k0, .int w0]) (rest := [.int 0, .ref o]) C.f (k_F_fill l D k5 t0 A H hlt x al tp k0 w0 L due met g hM hg) (mf_cV C mt_511 mt_508 mt_1 mt_509 mt_510 mh_F_fill ⟨by decide, by decide⟩) (mf_preV C.ev hS (mf_rv C (ci := 3) (N := 4) rfl hx)) rfl rfl hl.1 rfl (lv_room (Nat.le_of_ble_eq_true rfl)) md_L_fill_5 ⟨Nat.le_of_ble_eq_true rfl, Nat.le_of_ble_eq_true rfl⟩) hS (fun _ _ h => h.1) (fun E ce q9 H1 locs hX hz hk hS hce hcv hcl => ?_) (fun H1 locs hok hB hz hk hS => ?_)
  · have hE1 : mf_Eq A [] H H1 := ⟨hz, fun q hq _ => hk q hq⟩
    have hM1 := hM.eq hE1 (by simp) (by simp) (by simp) (by simp) (by simp) (by simp) (by simp)
    have ho1 := hE1.ka ho (by simp)
    have hxw := C.ev.2.1.2.2.2.2.2.2.1.2
    rcases hX with ⟨hcd, rfl⟩ | ⟨hcd, rfl⟩
    · skip
      refine vx_catch C.o [] _ _ htb (fun z h => by cases h) rfl (by decide) (C.t mt_112) ((hxw.1 _ (List.mem_of_getElem? (i := 0) rfl)).use rfl) hce hcv hcl ?_
      show W p l e ({ frames := 7, cells := 1, slots := 6, locals := 112 } : Room) s m _ below meth c H1 locs _ _ _ (F0 m 13 ls [.ref q9])
      refine lv_astore (lv' := [(4, .ref q9), (0, .ref x), (1, .int k0), (2, .int w0), (3, .ref o)]) C.x C.b md_L_fill_13 hl (by decide) rfl (fun ls hl => ?_)
      refine lv_iconst (v := 1) C.x C.b md_L_fill_15 (by decide) ?_
      rw [hcd]
      exact mf_wi C.x C.b hr hlk md_L_fill_16 ⟨hM1, f, ho1, fun z => absurd z (by decide)⟩ (hE1.tr (L := mf_cO D k5) mf_Eq.rf (by simp) (fun _ h => h)) hH hS.2.2 (by decide) (by decide)
    · skip
      refine vx_catch C.o [_] _ _ htb (fun z hz9 => by cases List.mem_singleton.mp hz9; exact Or.inr ⟨by decide, _, C.t mt_112, hxw.2.2 _ (List.mem_of_getElem? (i := 2) rfl)⟩) rfl (by decide) (C.t mt_455) ((hxw.1 _ (List.mem_of_getElem? (i := 3) rfl)).use rfl) hce hcv hcl ?_
      show W p l e ({ frames := 7, cells := 1, slots := 6, locals := 112 } : Room) s m _ below meth c H1 locs _ _ _ (F0 m 17 ls [.ref q9])
      refine lv_astore (lv' := [(4, .ref q9), (0, .ref x), (1, .int k0), (2, .int w0), (3, .ref o)]) C.x C.b md_L_fill_17 hl (by decide) rfl (fun ls hl => ?_)
      refine lv_iconst (v := 2) C.x C.b md_L_fill_19 (by decide) ?_
      rw [hcd]
      exact mf_wi C.x C.b hr hlk md_L_fill_20 ⟨hM1, f, ho1, fun z => absurd z (by decide)⟩ (hE1.tr (L := mf_cO D k5) mf_Eq.rf (by simp) (fun _ h => h)) hH hS.2.2 (by decide) (by decide)
  · have hE1 : mf_Eq A (mf_cM D k5) H H1 := mf_Eq.tr (L1 := []) (L := mf_cM D k5) ⟨hz, hk⟩ mf_Eq.rf (by simp) (fun _ h => h)
    have ho1 := hE1.ka ho (mf_notL C.nd)
    refine lv_i2l (v := ((mf_fill k0 w0 g).2).toInt64) C.x C.b md_L_fill_8 rfl ?_
    refine mf_last C (t := 4) (i := 0) rfl ho1 (by decide) (by decide) hS hAo md_L_fill_9 (fun H2 locs ho2 hE2 hS => ?_)
    refine lv_goto (tgt := 21) C.x C.b md_L_fill_10 (by decide) ?_
    refine lv_iconst (v := 0) C.x C.b md_L_fill_21 (by decide) ?_
    rw [hok]
    exact mf_wi C.x C.b hr hlk md_L_fill_22 ⟨hB.ol C.nd hE2, _, ho2, fun _ => by simp [vp_updL]⟩ (hE1.tr (L := mf_cO D k5) hE2 (fun _ h => List.mem_cons_of_mem _ h) (by simp)) hH hS.2.2 (by decide) (by decide)
set_option maxRecDepth 100000 in
set_option maxHeartbeats 4000000 in
theorem k_L_figure (l : Launch) (D : va_G) (k5 : mf_k5) (t0 : Nat × Nat) (A : Nat → Prop) (H : Heap) (hlt : l.stackTraces = false) (x al tp : Nat) (k0 : Int32) (L : List mf_O) (due met : Int32) (g : mf_G) (o : Nat) (f : Nat → Int64) (hM : mf_SS D k5 t0 A H x al tp (L, due, met, g)) (ho : va_at D mf_cl (o, .inl (k5.2.2.2.2, 1, .inr (.inl f))) H) (hAo : A o) : mf_cLW l my_L_figure mc_L_figure 4 (some .int) [(0, 9, 12, 13)] { frames := 7, cells := 1, slots := 6, locals := 111 } D (mf_tys k5) t0 A H [.ref x, .int k0, .ref o] (some (.int (nI (mf_figure k0 (L, due, met, g)).1))) (fun H1 => mf_SS D k5 t0 A H1 x al tp (L, due, met, g) ∧ ∃ f1, va_at D mf_cl (o, .inl (k5.2.2.2.2, 1, .inr (.inl f1))) H1 ∧ ((mf_figure k0 (L, due, met, g)).1 = 0 → f1 0 = ((mf_figure k0 (L, due, met, g)).2).toInt64)) (mf_fr A H (mf_cO D k5)) 1 6 := by
  have hx := (show ∃ ks, _ from hM).elim fun ks z => z.2.1.1
  refine mf_ofW (by decide) (Nat.le_of_ble_eq_true rfl) ?_
  intro p e s m below meth c ls C hH hr hlk htb hl hS
  have hl : lv_has ls 4 [(0, .ref x), (1, .int k0), (2, .ref o)] := hl
  refine lv_aload_n C.x C.b md_L_figure_0 rfl (lv_at hl 2 rfl) ?_
  refine lv_iconst (v := 0) C.x C.b md_L_figure_1 (by decide) ?_
  refine lv_aload_n C.x C.b md_L_figure_2 rfl (lv_at hl 0 rfl) ?_
  refine lv_iload_n C.x C.b md_L_figure_3 rfl (lv_at hl 1 rfl) ?_
  refine mf_cxs (vx_runV (As := [.int k0]) (rest := [.int 0, .ref o]) C.f (k_F_figure l D k5 t0 A H hlt x al tp k0 L due met g hM) (mf_cV C mt_523 mt_520 mt_1 mt_521 mt_522 mh_F_figure ⟨by decide, by decide⟩) (mf_preV C.ev hS (mf_rv C (ci := 3) (N := 4) rfl hx)) rfl rfl hl.1 rfl (lv_room (Nat.le_of_ble_eq_true rfl)) md_L_figure_4 ⟨Nat.le_of_ble_eq_true rfl, Nat.le_of_ble_eq_true rfl⟩) hS (fun _ _ h => h.1) (fun E ce q9 H1 locs hX hz hk hS hce hcv hcl => ?_) (fun H1 locs hok hB hz hk hS => ?_)
  · have hE1 : mf_Eq A [] H H1 := ⟨hz, fun q hq _ => hk q hq⟩
    have hM1 := hM.eq hE1 (by simp) (by simp) (by simp) (by simp) (by simp) (by simp) (by simp)
    have ho1 := hE1.ka ho (by simp)
    have hxw := C.ev.2.1.2.2.2.2.2.2.1.2
    rcases hX with ⟨hcd, rfl⟩
    · skip
      refine vx_catch C.o [] _ _ htb (fun z h => by cases h) rfl (by decide) (C.t mt_112) ((hxw.1 _ (List.mem_of_getElem? (i := 0) rfl)).use rfl) hce hcv hcl ?_
      show W p l e ({ frames := 7, cells := 1, slots := 6, locals := 111 } : Room) s m _ below meth c H1 locs _ _ _ (F0 m 12 ls [.ref q9])
      refine lv_astore_n (lv' := [(3, .ref q9), (0, .ref x), (1, .int k0), (2, .ref o)]) C.x C.b md_L_figure_12 rfl hl (by decide) rfl (fun ls hl => ?_)
      refine lv_iconst (v := 1) C.x C.b md_L_figure_13 (by decide) ?_
      rw [hcd]
      exact mf_wi C.x C.b hr hlk md_L_figure_14 ⟨hM1, f, ho1, fun z => absurd z (by decide)⟩ (hE1.tr (L := mf_cO D k5) mf_Eq.rf (by simp) (fun _ h => h)) hH hS.2.2 (by decide) (by decide)
  · have hE1 : mf_Eq A (mf_cM D k5) H H1 := mf_Eq.tr (L1 := []) (L := mf_cM D k5) ⟨hz, hk⟩ mf_Eq.rf (by simp) (fun _ h => h)
    have ho1 := hE1.ka ho (mf_notL C.nd)
    refine lv_i2l (v := ((mf_figure k0 (L, due, met, g)).2).toInt64) C.x C.b md_L_figure_7 rfl ?_
    refine mf_last C (t := 4) (i := 0) rfl ho1 (by decide) (by decide) hS hAo md_L_figure_8 (fun H2 locs ho2 hE2 hS => ?_)
    refine lv_goto (tgt := 15) C.x C.b md_L_figure_9 (by decide) ?_
    refine lv_iconst (v := 0) C.x C.b md_L_figure_15 (by decide) ?_
    rw [hok]
    exact mf_wi C.x C.b hr hlk md_L_figure_16 ⟨hB.ol C.nd hE2, _, ho2, fun _ => by simp [vp_updL]⟩ (hE1.tr (L := mf_cO D k5) hE2 (fun _ h => List.mem_cons_of_mem _ h) (by simp)) hH hS.2.2 (by decide) (by decide)
