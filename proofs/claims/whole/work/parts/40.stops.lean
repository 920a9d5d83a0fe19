/-! MatchFloor: the due stops -/
/-- the book, with all that belongs to it -/
def mf_SS (D : va_G) (k5 : mf_k5) (t0 : Nat × Nat) (A : Nat → Prop) (H : Heap) (x al tp : Nat) (st : mf_S) : Prop := ∃ ks, mf_L ks = st.1 ∧ mf_CL D k5 t0 A H x al tp st.2.1 st.2.2.1 ks ∧ mf_TP D k5 A H tp st.2.2.2
theorem mf_nodup_erase {l : List Nat} {j a : Nat} (h : l.Nodup) (hj : l[j]? = some a) : a ∉ l.eraseIdx j := by
  intro z
  have hp := (mf_perm_erase hj).nodup h
  exact (List.nodup_cons.mp hp).1 z
set_option maxRecDepth 100000 in
set_option maxHeartbeats 4000000 in
theorem k_F_matchDueStops (l : Launch) (D : va_G) (k5 : mf_k5) (t0 : Nat × Nat) (A : Nat → Prop) (H : Heap) (x al tp : Nat) (st : mf_S) (hM : mf_SS D k5 t0 A H x al tp st) (hg : st.2.2.2.1 + 41 * 40 < 2 ^ 31) : mf_cWR l my_F_matchDueStops mc_F_matchDueStops 3 none { frames := 5, cells := 0, slots := 0, locals := 154 } D (mf_tys k5) t0 A H [.ref x] none (fun H1 => mf_SS D k5 t0 A H1 x al tp (mf_stops 40 st)) (mf_fr A H (mf_cM D k5)) 0 0 := by
  refine mf_of (by decide) (Nat.le_of_ble_eq_true rfl) ?_
  intro p e s m below meth c ls C hH hr hlk hnm hmt hl hS
  have hl : lv_has ls 3 [(0, .ref x)] := hl
  have loop : ∀ (n k : Nat) (ls : Array Slot) (H2 : Heap) (locs : List Loc) (L : List mf_O) (due met : Int32) (g : mf_G), n + k = 40 → mf_SS D k5 t0 A H2 x al tp (L, due, met, g) → g.1 + 41 * n < 2 ^ 31 → mf_Eq A (mf_cM D k5) H H2 → va_S A s.heap H2 locs → mf_stops 40 st = mf_stops n (L, due, met, g) → lv_has ls 3 [(1, .int (nI k)), (0, .ref x)] → W p l e ({ frames := 5, cells := 0, slots := 0, locals := 154 } : Room) s m (([.ref x] : List Value).toArray) below meth c H2 locs 0 0 (MQ below (mf_Kw none (fun H1 => mf_SS D k5 t0 A H1 x al tp (mf_stops 40 st)) (mf_fr A H (mf_cM D k5))) (([.ref x] : List Value).toArray) s 0 0 A) (F0 m 2 ls []) := by
    intro n
    induction n with
    | zero =>
      intro k ls H2 locs L due met g hk hM hg hE hS hsp hl
      obtain rfl : k = 40 := by omega
      refine lv_iload_n C.x C.b md_F_matchDueStops_2 rfl (lv_at hl 0 rfl) ?_
      refine lv_bipush (v := 40) C.x C.b md_F_matchDueStops_3 (by decide) ?_
      refine lv_icmp_ge (tgt := 51) C.x C.b md_F_matchDueStops_5 (by decide) (fun h1 => ?_) (fun h1 => ?_)
      · skip
        refine mf_wv C.x C.b hr hlk md_F_matchDueStops_51 ?_ hE hH hS.2.2 (Nat.le_refl _) (Nat.le_refl _)
        rw [hsp, show mf_stops 0 (L, due, met, g) = (L, due, met, g) from rfl]
        exact hM
      · exact absurd (by decide) h1
    | succ n ih =>
      intro k ls H2 locs L due met g hk hM hg hE hS hsp hl
      obtain ⟨ks, hL, hC, hT⟩ := id hM
      have hL : mf_L ks = L := hL
      have hC : mf_CL D k5 t0 A H2 x al tp due met ks := hC
      have hT : mf_TP D k5 A H2 tp g := hT
      obtain ⟨hx, hAx, hAL, hks, hnd⟩ := id hC
      obtain ⟨ed, mc, hal, hA1, hle, hor⟩ := id hAL
      rw [List.length_map] at hle
      refine lv_iload_n C.x C.b md_F_matchDueStops_2 rfl (lv_at hl 0 rfl) ?_
      refine lv_bipush (v := 40) C.x C.b md_F_matchDueStops_3 (by decide) ?_
      refine lv_icmp_ge (tgt := 51) C.x C.b md_F_matchDueStops_5 (by decide) (fun h2 => ?_) (fun h2 => ?_)
      · exact absurd h2 (show ¬ nI k ≥ nI 40 from nI_ge (by omega) (by decide))
      · skip
        refine lv_aload_n C.x C.b md_F_matchDueStops_8 rfl (lv_at hl 1 rfl) ?_
        refine mf_cks (va_runV (As := []) (rest := []) C.f (k_F_placeOfDue l D k5 t0 A H2 x al tp due met ks g hC hT) (mf_cV C mt_389 mt_386 mt_1 mt_388 ms_16 mh_F_placeOfDue ⟨by decide, by decide⟩) (mf_preV C.ev hS (mf_rv C (ci := 3) (N := 4) rfl hx)) rfl rfl hl.1 rfl (lv_room (Nat.le_of_ble_eq_true rfl)) md_F_matchDueStops_9 ⟨by first | omega | exact Nat.le_of_ble_eq_true rfl, by first | omega | exact Nat.le_of_ble_eq_true rfl⟩) ?_
        rw [hL]
        rcases hp : mf_dueAt g.2.1 L with _ | ⟨j, r⟩
        · skip
          show W p l e ({ frames := 5, cells := 0, slots := 0, locals := 154 } : Room) s m (([.ref x] : List Value).toArray) below meth c H2 locs 0 0 (MQ below (mf_Kw none (fun H1 => mf_SS D k5 t0 A H1 x al tp (mf_stops 40 st)) (mf_fr A H (mf_cM D k5))) (([.ref x] : List Value).toArray) s 0 0 A) (F0 m 12 ls [.int (-1)])
          refine lv_istore_n (lv' := [(2, .int (-1)), (1, .int (nI k)), (0, .ref x)]) C.x C.b md_F_matchDueStops_12 rfl hl (by decide) rfl (fun ls hl => ?_)
          refine lv_iload_n C.x C.b md_F_matchDueStops_13 rfl (lv_at hl 0 rfl) ?_
          refine lv_iconst (v := (-1)) C.x C.b md_F_matchDueStops_14 (by decide) ?_
          refine lv_icmp_ne (tgt := 19) C.x C.b md_F_matchDueStops_15 (by decide) (fun h3 => ?_) (fun h3 => ?_)
          · exact absurd rfl h3
          · skip
            refine mf_wv C.x C.b hr hlk md_F_matchDueStops_18 ?_ hE hH hS.2.2 (Nat.le_refl _) (Nat.le_refl _)
            rw [hsp, show mf_stops (n + 1) (L, due, met, g) = (L, due, met, g) from by unfold mf_stops; dsimp only; rw [hp]]
            exact hM
        · skip
          show W p l e ({ frames := 5, cells := 0, slots := 0, locals := 154 } : Room) s m (([.ref x] : List Value).toArray) below meth c H2 locs 0 0 (MQ below (mf_Kw none (fun H1 => mf_SS D k5 t0 A H1 x al tp (mf_stops 40 st)) (mf_fr A H (mf_cM D k5))) (([.ref x] : List Value).toArray) s 0 0 A) (F0 m 12 ls [.int (nI j)])
          have hjr : L[j]? = some r := ((mf_pick_in _ _ L).2 j r hp).1
          obtain ⟨a, hq⟩ : ∃ a, ks[j]? = some (a, r) := mf_ka_of (by rw [hL]; exact hjr)
          have ha : va_at D mf_cl (a, .inr (1, mf_fs r)) H2 := (hks _ (List.mem_of_getElem? hq)).1
          have hAa : A a := (hks _ (List.mem_of_getElem? hq)).2
          have hjn : j < ks.length := (List.getElem?_eq_some_iff.mp hq).1
          refine lv_istore_n (lv' := [(2, .int (nI j)), (1, .int (nI k)), (0, .ref x)]) C.x C.b md_F_matchDueStops_12 rfl hl (by decide) rfl (fun ls hl => ?_)
          refine lv_iload_n C.x C.b md_F_matchDueStops_13 rfl (lv_at hl 0 rfl) ?_
          refine lv_iconst (v := (-1)) C.x C.b md_F_matchDueStops_14 (by decide) ?_
          refine lv_icmp_ne (tgt := 19) C.x C.b md_F_matchDueStops_15 (by decide) (fun h4 => ?_) (fun h4 => ?_)
          · skip
            refine lv_aload_n C.x C.b md_F_matchDueStops_19 rfl (lv_at hl 2 rfl) ?_
            refine lv_dup C.x C.b md_F_matchDueStops_20 rfl ?_
            refine mf_gf C (ci := 3) (N := 4) rfl mi_F 2 (by decide) mt_86 hx (v := .int due) rfl md_F_matchDueStops_21 ?_
            refine lv_iconst (v := 1) C.x C.b md_F_matchDueStops_24 (by decide) ?_
            refine lv_iadd C.x C.b md_F_matchDueStops_25 ?_
            refine mf_pf C (ci := 3) (N := 4) rfl mi_F mp_F mn_F 2 (by decide) mt_86 rfl (v := .int (due + 1)) rfl rfl hx (Nat.le_of_ble_eq_true rfl) (fs' := [.ref al, .ref tp, .int (due + 1), .int met]) rfl hS hAx md_F_matchDueStops_26 (fun H3 locs hx3 hz3 ho3 hS => ?_)
            have hE3 : mf_Eq A [D.1 3] H2 H3 := mf_Eq.one hz3 ho3 hAx (mf_co_o hx)
            have hC3 := hC.se C.nd hx3 hE3
            have ha3 := hE3.ko ha (by simp [mf_nd C.nd (i := 1) (j := 3) rfl rfl (by decide)])
            have hel3 : ∀ b ∈ ks.map (fun q => q.1), ∃ fs, va_at D mf_cl (b, .inr (1, fs)) H3 := fun b hb => by
              obtain ⟨q, hq1, hq2⟩ := List.mem_map.mp hb
              exact ⟨_, by rw [← hq2]; exact (hC3.2.2.2.1 q hq1).1⟩
            obtain ⟨ed3, mc3, hal3, -⟩ := id hC3.2.2.1
            refine lv_aload_n C.x C.b md_F_matchDueStops_29 rfl (lv_at hl 2 rfl) ?_
            refine lv_aload_n C.x C.b md_F_matchDueStops_30 rfl (lv_at hl 2 rfl) ?_
            refine mf_gf C (ci := 3) (N := 4) rfl mi_F 0 (by decide) mt_84 hx3 (v := .ref al) rfl md_F_matchDueStops_31 ?_
            refine lv_iload_n C.x C.b md_F_matchDueStops_34 rfl (lv_at hl 0 rfl) ?_
            refine mf_cws (va_runV (As := [.int (nI j)]) (rest := [.ref x]) C.f (k_A_remove l D k5 t0 A H3 al j a _ hC3.2.2.1 (mf_kq hq) hel3) (mf_cV C mt_312 mt_309 mt_4 mt_310 mt_311 mh_A_remove ⟨by decide, by decide⟩) (mf_preV C.ev hS (mf_rv C (ci := 0) (N := 3) rfl hal3)) rfl rfl hl.1 rfl (lv_room (Nat.le_of_ble_eq_true rfl)) md_F_matchDueStops_35 ⟨by first | omega | exact Nat.le_of_ble_eq_true rfl, by first | omega | exact Nat.le_of_ble_eq_true rfl⟩) hS (fun _ _ h => h.1) (fun H locs hB4 hz4 hk4 hS => ?_)
            have hE4 : mf_Eq A [D.1 0, k5.1] H3 H := ⟨hz4, hk4⟩
            have hC4 := hC3.er C.nd hE4 hB4
            have hE34 : mf_Eq A [D.1 0, k5.1, D.1 3] H2 H := hE3.tr (L := [D.1 0, k5.1, D.1 3]) hE4 (by simp) (by simp)
            have ha4 := hE34.ko ha (by simp [mf_nd C.nd (i := 1) (j := 3) rfl rfl (by decide), mf_nd C.nd (i := 1) (j := 0) rfl rfl (by decide), mf_nd C.nd (i := 1) (j := 5) rfl rfl (by decide)])
            refine mf_cast C (ci := 1) (N := 6) rfl mt_220 ha4 md_F_matchDueStops_38 ?_
            refine lv_iconst (v := 0) C.x C.b md_F_matchDueStops_41 (by decide) ?_
            have hM4 : mf_MS D k5 t0 A H x al tp a (due + 1) (r, L.eraseIdx j, met, g) := ⟨ks.eraseIdx j, by rw [← hL]; exact (mf_map_erase _ _ _).symm, hC4, hT.cl C.nd hE34 (by simp), ha4, hAa, by rw [← mf_map_erase]; exact mf_nodup_erase hnd (mf_kq hq)⟩
            refine mf_cwn (va_runV (As := [.ref a, .int 0]) (rest := []) C.f (k_F_match l D k5 t0 A H x al tp a (due + 1) 0 r (L.eraseIdx j, met, g) hM4 (by show g.1 + 41 < 2 ^ 31; omega)) (mf_cV C mt_304 mt_301 mt_1 mt_303 ms_8 mh_F_match ⟨by decide, by decide⟩) (mf_preV C.ev hS (mf_rv C (ci := 3) (N := 4) rfl hC4.1)) rfl rfl hl.1 rfl (lv_room (Nat.le_of_ble_eq_true rfl)) md_F_matchDueStops_42 ⟨by first | omega | exact Nat.le_of_ble_eq_true rfl, by first | omega | exact Nat.le_of_ble_eq_true rfl⟩) hS (fun _ _ h => h.1) (fun H locs hB5 hz5 hk5 hS => ?_)
            refine lv_iinc (k := 1) (v := nI (k + 1)) (lv' := [(1, .int (nI (k + 1))), (2, .int (nI j)), (0, .ref x)]) C.x C.b md_F_matchDueStops_45 hl rfl (nI_1 _) (by decide) rfl (fun ls hl => ?_)
            refine lv_goto (tgt := 2) C.x C.b md_F_matchDueStops_48 (by decide) ?_
            have hgn := mf_match_g 0 41 r (L.eraseIdx j, met, g)
            obtain ⟨⟨c1, L1, met1, g1⟩, hq1⟩ : ∃ q, mf_match 41 0 r (L.eraseIdx j, met, g) = q := ⟨_, rfl⟩
            rw [hq1] at hB5 hgn
            have hgn : g1.1 ≤ g.1 + 41 := hgn
            obtain ⟨ks5, w1, w2, w3, -⟩ := hB5
            refine ih (k + 1) ls _ _ L1 (due + 1) met1 g1 (by omega) ⟨ks5, w1, w2, w3⟩ (by omega) (hE.tr (L := mf_cM D k5) (hE34.tr (L := mf_cM D k5) ⟨hz5, hk5⟩ (by simp) (fun _ h => h)) (fun _ h => h) (fun _ h => h)) hS ?_ (lv_sub hl [0, 2] rfl)
            rw [hsp, mf_stops]
            dsimp only
            rw [hp]
            dsimp only
            rw [hq1]
          · exact absurd h4 (mf_nI_ne (by omega))
  refine lv_iconst (v := 0) C.x C.b md_F_matchDueStops_0 (by decide) ?_
  refine lv_istore_n (lv' := [(1, .int 0), (0, .ref x)]) C.x C.b md_F_matchDueStops_1 rfl hl (by decide) rfl (fun ls hl => ?_)
  obtain ⟨L, due, met, g⟩ := st
  exact loop 40 0 ls H [] L due met g rfl hM hg mf_Eq.rf hS rfl (lv_sub hl [0, 1] rfl)
