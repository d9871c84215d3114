set_option maxHeartbeats 4000000 in
set_option maxRecDepth 100000 in
theorem c1_hasClass (l : Launch) (V : gV) (ad : gA) (T : rS) (x : Int32) : kMi l yX1_hasClass cX1_hasClass 2 (some .boolean) ({ frames := 0, cells := 0, slots := 0, locals := 0 } : Room) [.ref (ad 1 0 0), .int x] V ad T (fun r T' => r = rb (s_isC T x) ∧ T' = T) := by
  refine kMi.of (by decide) (Nat.le_of_ble_eq_true rfl) ?_
  intro p e s m_ below meth c ls E sz hC hz hW hl
  have hx := hC.1
  have hb := hC.2.1
  have hl : lv_has ls 2 [(0, .ref (ad 1 0 0)), (1, .int x)] := hl
  refine lv_iload_n hx hb dX1_hasClass_0 rfl (lv_at hl 1 rfl) ?_
  refine lv_if_lt (tgt := 16) hx hb dX1_hasClass_1 (by decide) (fun c_1 => ?_) (fun c_1 => ?_)
  · refine lv_iconst (v := 0) hx hb dX1_hasClass_16 (by decide) ?_
    exact kr_zret hC hz hW (by decide) (⟨(rb_0 (fun w => w.1 c_1)).symm, rfl⟩) (by decide) (by decide) dX1_hasClass_17
  · refine lv_iload_n hx hb dX1_hasClass_4 rfl (lv_at hl 1 rfl) ?_
    refine lv_aload_n hx hb dX1_hasClass_5 rfl (lv_at hl 0 rfl) ?_
    refine kg_hi_3 hC hW kf_RX1_23 dX1_hasClass_6 ?_
    refine lv_icmp_ge (tgt := 16) hx hb dX1_hasClass_9 (by decide) (fun c_9 => ?_) (fun c_9 => ?_)
    · refine lv_iconst (v := 0) hx hb dX1_hasClass_16 (by decide) ?_
      exact kr_zret hC hz hW (by decide) (⟨(rb_0 (fun w => Int32.not_le.mpr w.2 c_9)).symm, rfl⟩) (by decide) (by decide) dX1_hasClass_17
    · refine lv_iconst (v := 1) hx hb dX1_hasClass_12 (by decide) ?_
      refine lv_goto (tgt := 17) hx hb dX1_hasClass_13 (by decide) ?_
      exact kr_zret hC hz hW (by decide) (⟨(rb_1 ⟨c_1, Int32.not_le.mp c_9⟩).symm, rfl⟩) (by decide) (by decide) dX1_hasClass_17
set_option maxHeartbeats 4000000 in
set_option maxRecDepth 100000 in
theorem c1_addChild (l : Launch) (V : gV) (ad : gA) (T : rS) (nc : Nat) (h1 : T.1 1 0 = nI nc) (hnc : nc < 8) (x : Int32) : kMi l yX1_addChild cX1_addChild 2 (some .int) ({ frames := 1, cells := 0, slots := 0, locals := 23 } : Room) [.ref (ad 1 0 0), .int x] V ad T (fun r T' => r = nI nc ∧ T' = su (s_imr (su T 2 (va_up (T.1 2) nc x)) nc 6) 1 (fun _ => nI (nc + 1))) := by
  refine kMi.of (by decide) (Nat.le_of_ble_eq_true rfl) ?_
  intro p e s m_ below meth c ls E sz hC hz hW hl
  have hx := hC.1
  have hb := hC.2.1
  have hl : lv_has ls 2 [(0, .ref (ad 1 0 0)), (1, .int x)] := hl
  refine lv_aload_n hx hb dX1_addChild_0 rfl (lv_at hl 0 rfl) ?_
  refine kg_hi_0 hC hW kf_RX1_9 dX1_addChild_1 ?_
  refine lv_aload_n hx hb dX1_addChild_4 rfl (lv_at hl 0 rfl) ?_
  refine kg_hi_3 hC hW kf_RX1_23 dX1_addChild_5 ?_
  refine gq_top (nI nc) (h1) ?_
  refine lv_iload_n hx hb dX1_addChild_8 rfl (lv_at hl 1 rfl) ?_
  refine ks_par hC hW (by omega) dX1_addChild_9 (fun H locs hW => ?_)
  refine lv_aload_n hx hb dX1_addChild_10 rfl (lv_at hl 0 rfl) ?_
  refine kg_hi_1 hC hW kf_RX1_17 dX1_addChild_11 ?_
  refine lv_aload_n hx hb dX1_addChild_14 rfl (lv_at hl 0 rfl) ?_
  refine kg_hi_3 hC hW kf_RX1_23 dX1_addChild_15 ?_
  refine gq_top (nI nc) (h1) ?_
  refine ka_out hC hW (by omega) dX1_addChild_18 ?_
  refine lv_iconst (v := (-1)) hx hb dX1_addChild_19 (by decide) ?_
  refine kc_Sv hC hW (kc_fill_row l V ad _ hnc (-1)) km_RX1_27 kst_yJ7_fill_53178 kz_RJ7 kd_yJ7_fill_53178 dn_J7_fill_53178.2 rfl hl.1 ⟨by decide, by decide⟩ (Nat.le_of_ble_eq_true rfl) ⟨by decide, by decide⟩ dX1_addChild_20 (fun T_20 H locs p_20 hW => ?_)
  subst p_20
  refine lv_aload_n hx hb dX1_addChild_23 rfl (lv_at hl 0 rfl) ?_
  refine lv_dup hx hb dX1_addChild_24 rfl ?_
  refine kg_hi_3 hC hW kf_RX1_23 dX1_addChild_25 ?_
  refine gq_top (nI nc) (h1) ?_
  refine lv_iconst (v := 1) hx hb dX1_addChild_28 (by decide) ?_
  refine lv_iadd hx hb dX1_addChild_29 ?_
  refine gq_top (nI (nc + 1)) (nI_1 nc) ?_
  refine kp_hi_3 hC hW kf_RX1_23 dX1_addChild_30 (fun H locs hW => ?_)
  refine lv_aload_n hx hb dX1_addChild_33 rfl (lv_at hl 0 rfl) ?_
  refine kg_hi_3 hC hW kf_RX1_23 dX1_addChild_34 ?_
  refine gq_top (nI (nc + 1)) (rfl) ?_
  refine lv_iconst (v := 1) hx hb dX1_addChild_37 (by decide) ?_
  refine lv_isub hx hb dX1_addChild_38 ?_
  refine gq_top (nI nc) (nI_pred nc) ?_
  exact kr_iret hC hz hW (⟨rfl, rfl⟩) (by decide) (by decide) dX1_addChild_39
theorem s_upf_0 (S : rS) (g n : Nat) : s_upf S g n 0 = 0 := by cases n <;> rfl
theorem s_und_congr {S S2 : rS} (h2 : S2.1 2 = S.1 2) (h3 : S2.1 3 = S.1 3) (x g : Nat) : s_und S2 x g = s_und S x g := by
  unfold s_und
  rw [s_upf_congr h2 h3, h3]
set_option maxHeartbeats 4000000 in
set_option maxRecDepth 100000 in
theorem c1_understood (l : Launch) (V : gV) (ad : gA) (T : rS) (x0 g nc : Nat) (hp : s_par T nc) (h1 : T.1 1 0 = nI nc) (hx0 : x0 ≤ nc) (hg : g < 6) : kMi l yX1_understood cX1_understood 5 (some .int) ({ frames := 1, cells := 0, slots := 0, locals := 21 } : Room) [.ref (ad 1 0 0), .int (nI x0 - 1), .int (nI g)] V ad T (fun r T' => r = s_und T x0 g ∧ T' = T) := by
  refine kMi.of (by decide) (Nat.le_of_ble_eq_true rfl) ?_
  intro p e s m_ below meth c ls E sz hC hz hW hl
  have hx := hC.1
  have hb := hC.2.1
  have hl : lv_has ls 5 [(0, .ref (ad 1 0 0)), (1, .int (nI x0 - 1)), (2, .int (nI g))] := hl
  have hnc := hp.1
  refine lv_iload_n hx hb dX1_understood_0 rfl (lv_at hl 1 rfl) ?_
  refine lv_istore_n (lv' := [(3, .int (nI x0 - 1)), (0, .ref (ad 1 0 0)), (1, .int (nI x0 - 1)), (2, .int (nI g))]) hx hb dX1_understood_1 rfl hl (by decide) rfl (fun ls hl => ?_)
  refine lv_iconst (v := (nI 0)) hx hb dX1_understood_2 (by decide) ?_
  refine lv_istore (lv' := [(4, .int ((nI 0))), (3, .int (nI x0 - 1)), (0, .ref (ad 1 0 0)), (1, .int (nI x0 - 1)), (2, .int (nI g))]) hx hb dX1_understood_3 hl (by decide) rfl (fun ls hl => ?_)
  refine g_loop (T := Nat × Nat) (fun x H locs ls => (x.1 ≤ nc ∧ x.1 + x.2 ≤ 8 ∧ s_upf T g 9 x0 = s_upf T g 9 x.1) ∧ cmW V (gAd ad E sz) s.heap ad E T H locs ∧ lv_has ls 5 [(4, .int (nI x.2)), (3, .int (nI x.1 - 1)), (0, .ref (ad 1 0 0)), (1, .int (nI x0 - 1)), (2, .int (nI g))]) (fun x => 8 - x.2) (fun x ih H locs ls hI => ?_) ((x0, 0)) ⟨⟨hx0, by show x0 + 0 ≤ 8; omega, rfl⟩, hW, lv_sub hl [0, 1, 2, 3, 4] rfl⟩
  obtain ⟨⟨hxn, hxu, hup⟩, hW, hl⟩ := hI
  refine lv_iload hx hb dX1_understood_5 (lv_at hl 0 rfl) ?_
  refine lv_bipush (v := (nI 8)) hx hb dX1_understood_7 (by decide) ?_
  refine gn_icmp_ge (tgt := 54) hx hb (by omega) (by omega) dX1_understood_9 (by decide) (fun c_9 => ?_) (fun c_9 => ?_)
  · have hx0z : x.1 = 0 := by omega
    refine lv_iconst (v := (-1)) hx hb dX1_understood_54 (by decide) ?_
    exact kr_iret hC hz hW (⟨by unfold s_und; rw [hup, hx0z, s_upf_0]; rfl, rfl⟩) (by decide) (by decide) dX1_understood_55
  · refine lv_aload_n hx hb dX1_understood_12 rfl (lv_at hl 2 rfl) ?_
    refine lv_iload_n hx hb dX1_understood_13 rfl (lv_at hl 1 rfl) ?_
    refine kc_Vi hC hW (kv_hi ) rfl (c1_hasClass l V ad _ (nI x.1 - 1)) km_RX1_37 kn_yX1_hasClass ks_yX1_hasClass kz_RX1 kd_yX1_hasClass dn_X1_hasClass rfl hl.1 ⟨by decide, by decide⟩ (Nat.le_of_ble_eq_true rfl) ⟨by decide, by decide⟩ dX1_understood_14 (fun r_14 T_14 H locs p_14 hW => ?_)
    obtain ⟨q_14, p_14⟩ := p_14
    rw [p_14] at hW
    refine gq_top (rb (s_isC T (nI x.1 - 1))) (q_14) ?_
    refine lv_if_eq (tgt := 54) hx hb dX1_understood_17 (by decide) (fun c_17 => ?_) (fun c_17 => ?_)
    · have hx0z : x.1 = 0 := Decidable.byContradiction fun z => rb_n c_17 (by
        obtain ⟨y, hy⟩ : ∃ y, x.1 = y + 1 := ⟨x.1 - 1, by omega⟩
        rw [hy, nI_m1s]
        exact ⟨nI_pos (by omega), by rw [h1]; exact nI_lt (by omega) (by omega)⟩)
      refine lv_iconst (v := (-1)) hx hb dX1_understood_54 (by decide) ?_
      exact kr_iret hC hz hW (⟨by unfold s_und; rw [hup, hx0z, s_upf_0]; rfl, rfl⟩) (by decide) (by decide) dX1_understood_55
    · have hy0 : x.1 ≠ 0 := fun z => by
        have hw := (rb_t c_17).1
        rw [z] at hw
        exact hw (by decide)
      obtain ⟨y, hy⟩ : ∃ y, x.1 = y + 1 := ⟨x.1 - 1, by omega⟩
      obtain ⟨d, hd1, hd2⟩ := hp.2 y (by omega)
      have h3 : tn (T.1 2 y + 1) = d := by rw [hd2, nI_m1]; exact tn_nI (by omega)
      have hup1 : s_upf T g 9 x.1 = (if T.1 3 (6 * y + g) = -1 then s_upf T g 9 d else y + 1) := by
        rw [hy]
        show (if T.1 3 (6 * y + g) = -1 then s_upf T g 8 (tn (T.1 2 y + 1)) else y + 1) = _
        rw [h3, s_upf_fuel hp 8 9 d (by omega) (by omega) (by omega)]
      refine lv_aload_n hx hb dX1_understood_20 rfl (lv_at hl 2 rfl) ?_
      refine kg_hi_1 hC hW kf_RX1_17 dX1_understood_21 ?_
      refine lv_iload_n hx hb dX1_understood_24 rfl (lv_at hl 1 rfl) ?_
      refine gq_top (nI y) (by rw [hy]; exact nI_m1s y) ?_
      refine ka_out hC hW (by omega) dX1_understood_25 ?_
      refine lv_iload_n hx hb dX1_understood_26 rfl (lv_at hl 4 rfl) ?_
      refine ka_row hC hW (show y < 8 by omega) (by omega) dX1_understood_27 ?_
      refine lv_iconst (v := (-1)) hx hb dX1_understood_28 (by decide) ?_
      refine lv_icmp_eq (tgt := 41) hx hb dX1_understood_29 (by decide) (fun c_29 => ?_) (fun c_29 => ?_)
      · rw [if_pos c_29] at hup1
        refine lv_aload_n hx hb dX1_understood_41 rfl (lv_at hl 2 rfl) ?_
        refine kg_hi_0 hC hW kf_RX1_9 dX1_understood_42 ?_
        refine lv_iload_n hx hb dX1_understood_45 rfl (lv_at hl 1 rfl) ?_
        refine gq_top (nI y) (by rw [hy]; exact nI_m1s y) ?_
        refine ka_par hC hW (by omega) dX1_understood_46 ?_
        refine gq_top (nI d - 1) (hd2) ?_
        refine lv_istore_n (lv' := [(3, .int (nI d - 1)), (4, .int (nI x.2)), (0, .ref (ad 1 0 0)), (1, .int (nI x0 - 1)), (2, .int (nI g))]) hx hb dX1_understood_47 rfl hl (by decide) rfl (fun ls hl => ?_)
        refine lv_iinc (v := (nI (x.2 + 1))) (lv' := [(4, .int ((nI (x.2 + 1)))), (3, .int (nI d - 1)), (0, .ref (ad 1 0 0)), (1, .int (nI x0 - 1)), (2, .int (nI g))]) hx hb dX1_understood_48 hl (k := 1) rfl (nI_1 x.2) (by decide) rfl (fun ls hl => ?_)
        refine lv_goto (tgt := 5) hx hb dX1_understood_51 (by decide) ?_
        exact ih (d, x.2 + 1) (by show 8 - (x.2 + 1) < 8 - x.2; omega) _ _ _ ⟨⟨by show d ≤ nc; omega, by show d + (x.2 + 1) ≤ 8; omega, hup.trans hup1⟩, hW, lv_sub hl [0, 1, 2, 3, 4] rfl⟩
      · rw [if_neg c_29] at hup1
        refine lv_aload_n hx hb dX1_understood_32 rfl (lv_at hl 2 rfl) ?_
        refine kg_hi_1 hC hW kf_RX1_17 dX1_understood_33 ?_
        refine lv_iload_n hx hb dX1_understood_36 rfl (lv_at hl 1 rfl) ?_
        refine gq_top (nI y) (by rw [hy]; exact nI_m1s y) ?_
        refine ka_out hC hW (by omega) dX1_understood_37 ?_
        refine lv_iload_n hx hb dX1_understood_38 rfl (lv_at hl 4 rfl) ?_
        refine ka_row hC hW (show y < 8 by omega) (by omega) dX1_understood_39 ?_
        exact kr_iret hC hz hW (⟨by unfold s_und; rw [hup, hup1, if_neg (by omega)]; rfl, rfl⟩) (by decide) (by decide) dX1_understood_40
set_option maxHeartbeats 4000000 in
set_option maxRecDepth 100000 in
theorem c1_levels (l : Launch) (V : gV) (ad : gA) (T : rS) (x0 g nc : Nat) (hp : s_par T nc) (h1 : T.1 1 0 = nI nc) (hx0 : x0 ≤ nc) (hg : g < 6) (hsome : s_upf T g 9 x0 ≠ 0) : kMi l yX1_levels cX1_levels 6 (some .int) ({ frames := 1, cells := 0, slots := 0, locals := 21 } : Room) [.ref (ad 1 0 0), .int (nI x0 - 1), .int (nI g)] V ad T (fun r T' => r = nI (s_len T g 9 x0) ∧ T' = T) := by
  refine kMi.of (by decide) (Nat.le_of_ble_eq_true rfl) ?_
  intro p e s m_ below meth c ls E sz hC hz hW hl
  have hx := hC.1
  have hb := hC.2.1
  have hl : lv_has ls 6 [(0, .ref (ad 1 0 0)), (1, .int (nI x0 - 1)), (2, .int (nI g))] := hl
  have hnc := hp.1
  refine lv_iload_n hx hb dX1_levels_0 rfl (lv_at hl 1 rfl) ?_
  refine lv_istore_n (lv' := [(3, .int (nI x0 - 1)), (0, .ref (ad 1 0 0)), (1, .int (nI x0 - 1)), (2, .int (nI g))]) hx hb dX1_levels_1 rfl hl (by decide) rfl (fun ls hl => ?_)
  refine lv_iconst (v := (nI 0)) hx hb dX1_levels_2 (by decide) ?_
  refine lv_istore (lv' := [(4, .int ((nI 0))), (3, .int (nI x0 - 1)), (0, .ref (ad 1 0 0)), (1, .int (nI x0 - 1)), (2, .int (nI g))]) hx hb dX1_levels_3 hl (by decide) rfl (fun ls hl => ?_)
  refine lv_iconst (v := (nI 0)) hx hb dX1_levels_5 (by decide) ?_
  refine lv_istore (lv' := [(5, .int ((nI 0))), (4, .int ((nI 0))), (3, .int (nI x0 - 1)), (0, .ref (ad 1 0 0)), (1, .int (nI x0 - 1)), (2, .int (nI g))]) hx hb dX1_levels_6 hl (by decide) rfl (fun ls hl => ?_)
  refine g_loop (T := Nat × Nat) (fun x H locs ls => (x.1 ≤ nc ∧ x.1 + x.2 ≤ 8 ∧ s_upf T g 9 x0 = s_upf T g 9 x.1 ∧ s_len T g 9 x0 = s_len T g 9 x.1 + x.2) ∧ cmW V (gAd ad E sz) s.heap ad E T H locs ∧ lv_has ls 6 [(5, .int (nI x.2)), (4, .int (nI x.2)), (3, .int (nI x.1 - 1)), (0, .ref (ad 1 0 0)), (1, .int (nI x0 - 1)), (2, .int (nI g))]) (fun x => 8 - x.2) (fun x ih H locs ls hI => ?_) ((x0, 0)) ⟨⟨hx0, by show x0 + 0 ≤ 8; omega, rfl, rfl⟩, hW, lv_sub hl [0, 1, 2, 3, 4, 5] rfl⟩
  obtain ⟨⟨hxn, hxu, hup, hln⟩, hW, hl⟩ := hI
  refine lv_iload hx hb dX1_levels_8 (lv_at hl 0 rfl) ?_
  refine lv_bipush (v := (nI 8)) hx hb dX1_levels_10 (by decide) ?_
  refine gn_icmp_ge (tgt := 54) hx hb (by omega) (by omega) dX1_levels_12 (by decide) (fun c_12 => ?_) (fun c_12 => ?_)
  · have hx0z : x.1 = 0 := by omega
    rw [hx0z, s_upf_0] at hup
    exact absurd hup hsome
  · refine lv_aload_n hx hb dX1_levels_15 rfl (lv_at hl 3 rfl) ?_
    refine lv_iload_n hx hb dX1_levels_16 rfl (lv_at hl 2 rfl) ?_
    refine kc_Vi hC hW (kv_hi ) rfl (c1_hasClass l V ad _ (nI x.1 - 1)) km_RX1_37 kn_yX1_hasClass ks_yX1_hasClass kz_RX1 kd_yX1_hasClass dn_X1_hasClass rfl hl.1 ⟨by decide, by decide⟩ (Nat.le_of_ble_eq_true rfl) ⟨by decide, by decide⟩ dX1_levels_17 (fun r_17 T_17 H locs p_17 hW => ?_)
    obtain ⟨q_17, p_17⟩ := p_17
    rw [p_17] at hW
    refine gq_top (rb (s_isC T (nI x.1 - 1))) (q_17) ?_
    refine lv_if_eq (tgt := 54) hx hb dX1_levels_20 (by decide) (fun c_20 => ?_) (fun c_20 => ?_)
    · have hx0z : x.1 = 0 := Decidable.byContradiction fun z => rb_n c_20 (by
        obtain ⟨y, hy⟩ : ∃ y, x.1 = y + 1 := ⟨x.1 - 1, by omega⟩
        rw [hy, nI_m1s]
        exact ⟨nI_pos (by omega), by rw [h1]; exact nI_lt (by omega) (by omega)⟩)
      rw [hx0z, s_upf_0] at hup
      exact absurd hup hsome
    · have hy0 : x.1 ≠ 0 := fun z => by
        have hw := (rb_t c_20).1
        rw [z] at hw
        exact hw (by decide)
      obtain ⟨y, hy⟩ : ∃ y, x.1 = y + 1 := ⟨x.1 - 1, by omega⟩
      obtain ⟨d, hd1, hd2⟩ := hp.2 y (by omega)
      have h3 : tn (T.1 2 y + 1) = d := by rw [hd2, nI_m1]; exact tn_nI (by omega)
      have hup1 : s_upf T g 9 x.1 = (if T.1 3 (6 * y + g) = -1 then s_upf T g 9 d else y + 1) := by
        rw [hy]
        show (if T.1 3 (6 * y + g) = -1 then s_upf T g 8 (tn (T.1 2 y + 1)) else y + 1) = _
        rw [h3, s_upf_fuel hp 8 9 d (by omega) (by omega) (by omega)]
      have hln1 : s_len T g 9 x.1 = (if T.1 3 (6 * y + g) = -1 then s_len T g 9 d + 1 else 1) := by
        rw [hy]
        show (if T.1 3 (6 * y + g) = -1 then s_len T g 8 (tn (T.1 2 y + 1)) + 1 else 1) = _
        rw [h3, s_len_fuel hp 8 9 d (by omega) (by omega) (by omega)]
      refine lv_iinc (v := (nI (x.2 + 1))) (lv' := [(4, .int ((nI (x.2 + 1)))), (5, .int (nI x.2)), (3, .int (nI x.1 - 1)), (0, .ref (ad 1 0 0)), (1, .int (nI x0 - 1)), (2, .int (nI g))]) hx hb dX1_levels_23 hl (k := 1) rfl (nI_1 x.2) (by decide) rfl (fun ls hl => ?_)
      refine lv_aload_n hx hb dX1_levels_26 rfl (lv_at hl 3 rfl) ?_
      refine kg_hi_1 hC hW kf_RX1_17 dX1_levels_27 ?_
      refine lv_iload_n hx hb dX1_levels_30 rfl (lv_at hl 2 rfl) ?_
      refine gq_top (nI y) (by rw [hy]; exact nI_m1s y) ?_
      refine ka_out hC hW (by omega) dX1_levels_31 ?_
      refine lv_iload_n hx hb dX1_levels_32 rfl (lv_at hl 5 rfl) ?_
      refine ka_row hC hW (show y < 8 by omega) (by omega) dX1_levels_33 ?_
      refine lv_iconst (v := (-1)) hx hb dX1_levels_34 (by decide) ?_
      refine lv_icmp_eq (tgt := 41) hx hb dX1_levels_35 (by decide) (fun c_35 => ?_) (fun c_35 => ?_)
      · rw [if_pos c_35] at hup1 hln1
        refine lv_aload_n hx hb dX1_levels_41 rfl (lv_at hl 3 rfl) ?_
        refine kg_hi_0 hC hW kf_RX1_9 dX1_levels_42 ?_
        refine lv_iload_n hx hb dX1_levels_45 rfl (lv_at hl 2 rfl) ?_
        refine gq_top (nI y) (by rw [hy]; exact nI_m1s y) ?_
        refine ka_par hC hW (by omega) dX1_levels_46 ?_
        refine gq_top (nI d - 1) (hd2) ?_
        refine lv_istore_n (lv' := [(3, .int (nI d - 1)), (4, .int ((nI (x.2 + 1)))), (5, .int (nI x.2)), (0, .ref (ad 1 0 0)), (1, .int (nI x0 - 1)), (2, .int (nI g))]) hx hb dX1_levels_47 rfl hl (by decide) rfl (fun ls hl => ?_)
        refine lv_iinc (v := (nI (x.2 + 1))) (lv' := [(5, .int ((nI (x.2 + 1)))), (3, .int (nI d - 1)), (4, .int ((nI (x.2 + 1)))), (0, .ref (ad 1 0 0)), (1, .int (nI x0 - 1)), (2, .int (nI g))]) hx hb dX1_levels_48 hl (k := 2) rfl (nI_1 x.2) (by decide) rfl (fun ls hl => ?_)
        refine lv_goto (tgt := 8) hx hb dX1_levels_51 (by decide) ?_
        exact ih (d, x.2 + 1) (by show 8 - (x.2 + 1) < 8 - x.2; omega) _ _ _ ⟨⟨by show d ≤ nc; omega, by show d + (x.2 + 1) ≤ 8; omega, hup.trans hup1, by show _ = s_len T g 9 d + (x.2 + 1); omega⟩, hW, lv_sub hl [0, 2, 1, 3, 4, 5] rfl⟩
      · rw [if_neg c_35] at hln1
        refine lv_iload hx hb dX1_levels_38 (lv_at hl 0 rfl) ?_
        exact kr_iret hC hz hW (⟨by rw [hln, hln1, Nat.add_comm], rfl⟩) (by decide) (by decide) dX1_levels_40
def s_bef (T : rS) (g k : Nat) : rS := su T 30 (fun i => if i < k then s_und T (i + 1) g else T.1 30 i)
set_option maxHeartbeats 4000000 in
set_option maxRecDepth 100000 in
theorem c1_setImplementer (l : Launch) (V : gV) (ad : gA) (T : rS) (cx g nc : Nat) (hp : s_par T nc) (h1 : T.1 1 0 = nI nc) (hcx : cx < nc) (hg : g < 6) (w_ : Int32) : kMv l yX1_setImplementer cX1_setImplementer 5 none ({ frames := 2, cells := 0, slots := 0, locals := 45 } : Room) [.ref (ad 1 0 0), .int (nI cx), .int (nI g), .int w_] V ad T (fun T' => T' = su (s_bef T g nc) 3 (va_up (T.1 3) (6 * cx + g) w_)) := by
  refine kMv.of (by decide) (Nat.le_of_ble_eq_true rfl) ?_
  intro p e s m_ below meth c ls E sz hC hz hW hl
  have hx := hC.1
  have hb := hC.2.1
  have hl : lv_has ls 5 [(0, .ref (ad 1 0 0)), (1, .int (nI cx)), (2, .int (nI g)), (3, .int w_)] := hl
  have hnc := hp.1
  refine lv_iconst (v := (nI 0)) hx hb dX1_setImplementer_0 (by decide) ?_
  refine lv_istore (lv' := [(4, .int ((nI 0))), (0, .ref (ad 1 0 0)), (1, .int (nI cx)), (2, .int (nI g)), (3, .int w_)]) hx hb dX1_setImplementer_1 hl (by decide) rfl (fun ls hl => ?_)
  refine g_loop (T := Nat) (fun xx H locs ls => xx ≤ nc ∧ cmW V (gAd ad E sz) s.heap ad E (s_bef T g xx) H locs ∧ lv_has ls 5 [(4, .int (nI xx)), (0, .ref (ad 1 0 0)), (1, .int (nI cx)), (2, .int (nI g)), (3, .int w_)]) (fun xx => nc - xx) (fun xx ih H locs ls hI => ?_) (0) ⟨by omega, (by unfold s_bef; rw [show (fun i => if i < 0 then s_und T (i + 1) g else T.1 30 i) = T.1 30 from funext fun i => if_neg (by omega), su_id]; exact hW), lv_sub hl [0, 1, 2, 3, 4] rfl⟩
  obtain ⟨hxn, hW, hl⟩ := hI
  refine lv_iload hx hb dX1_setImplementer_3 (lv_at hl 0 rfl) ?_
  refine lv_aload_n hx hb dX1_setImplementer_5 rfl (lv_at hl 1 rfl) ?_
  refine kg_hi_3 hC hW kf_RX1_23 dX1_setImplementer_6 ?_
  refine gq_top (nI nc) (h1) ?_
  refine gn_icmp_ge (tgt := 32) hx hb (by omega) (by omega) dX1_setImplementer_9 (by decide) (fun c_9 => ?_) (fun c_9 => ?_)
  · rw [show xx = nc by omega] at hW
    refine lv_aload_n hx hb dX1_setImplementer_32 rfl (lv_at hl 1 rfl) ?_
    refine kg_hi_1 hC hW kf_RX1_17 dX1_setImplementer_33 ?_
    refine lv_iload_n hx hb dX1_setImplementer_36 rfl (lv_at hl 2 rfl) ?_
    refine ka_out hC hW (by omega) dX1_setImplementer_37 ?_
    refine lv_iload_n hx hb dX1_setImplementer_38 rfl (lv_at hl 3 rfl) ?_
    refine lv_iload_n hx hb dX1_setImplementer_39 rfl (lv_at hl 4 rfl) ?_
    refine ks_row hC hW (show cx < 8 by omega) (by omega) dX1_setImplementer_40 (fun H locs hW => ?_)
    exact kr_vret hC hz hW (rfl) (by decide) (by decide) dX1_setImplementer_41
  · refine lv_aload_n hx hb dX1_setImplementer_12 rfl (lv_at hl 1 rfl) ?_
    refine kg_hi_2 hC hW kf_RX1_20 dX1_setImplementer_13 ?_
    refine lv_iload hx hb dX1_setImplementer_16 (lv_at hl 0 rfl) ?_
    refine lv_aload_n hx hb dX1_setImplementer_18 rfl (lv_at hl 1 rfl) ?_
    refine lv_iload hx hb dX1_setImplementer_19 (lv_at hl 0 rfl) ?_
    refine gq_top (nI (xx + 1) - 1) ((nI_m1s xx).symm) ?_
    refine lv_iload_n hx hb dX1_setImplementer_21 rfl (lv_at hl 3 rfl) ?_
    refine kc_Vi hC hW (kv_hi ) rfl (c1_understood l V ad _ (xx + 1) g nc hp h1 (by omega) hg) km_RX1_33 kn_yX1_understood ks_yX1_understood kz_RX1 kd_yX1_understood dn_X1_understood rfl hl.1 ⟨by decide, by decide⟩ (Nat.le_of_ble_eq_true rfl) ⟨by decide, by decide⟩ dX1_setImplementer_22 (fun r_22 T_22 H locs p_22 hW => ?_)
    obtain ⟨q_22, p_22⟩ := p_22
    rw [p_22] at hW
    refine gq_top (s_und T (xx + 1) g) (q_22.trans (s_und_congr (S := T) (S2 := s_bef T g xx) rfl rfl (xx + 1) g)) ?_
    refine ks_bef hC hW (by omega) dX1_setImplementer_25 (fun H locs hW => ?_)
    refine lv_iinc (v := (nI (xx + 1))) (lv' := [(4, .int ((nI (xx + 1)))), (0, .ref (ad 1 0 0)), (1, .int (nI cx)), (2, .int (nI g)), (3, .int w_)]) hx hb dX1_setImplementer_26 hl (k := 0) rfl (nI_1 xx) (by decide) rfl (fun ls hl => ?_)
    refine lv_goto (tgt := 3) hx hb dX1_setImplementer_29 (by decide) ?_
    exact ih (xx + 1) (by omega) _ _ _ ⟨by omega, (by rw [show s_bef T g (xx + 1) = su (s_bef T g xx) 30 (va_up ((s_bef T g xx).1 30) xx (s_und T (xx + 1) g)) by unfold s_bef; rw [su_ss]; refine congrArg (su T 30) (funext fun i => ?_); show _ = va_up (fun i => if i < xx then s_und T (i + 1) g else T.1 30 i) xx (s_und T (xx + 1) g) i; simp only [va_up]; by_cases e : i = xx; (rw [if_pos (by omega), if_pos e, e]); (rw [if_neg e]; by_cases e2 : i < xx; (rw [if_pos (by omega), if_pos e2]); (rw [if_neg (by omega), if_neg e2]))]; exact hW), lv_sub hl [0, 1, 2, 3, 4] rfl⟩
set_option maxHeartbeats 4000000 in
set_option maxRecDepth 100000 in
theorem c1_hasChanged (l : Launch) (V : gV) (ad : gA) (T : rS) (d g nc : Nat) (hp : s_par T nc) (h1 : T.1 1 0 = nI nc) (hd : d < nc) (hg : g < 6) : kMi l yX1_hasChanged cX1_hasChanged 3 (some .boolean) ({ frames := 2, cells := 0, slots := 0, locals := 45 } : Room) [.ref (ad 1 0 0), .int (nI d), .int (nI g)] V ad T (fun r T' => r = rb (T.1 30 d ≠ s_und T (d + 1) g) ∧ T' = T) := by
  refine kMi.of (by decide) (Nat.le_of_ble_eq_true rfl) ?_
  intro p e s m_ below meth c ls E sz hC hz hW hl
  have hx := hC.1
  have hb := hC.2.1
  have hl : lv_has ls 3 [(0, .ref (ad 1 0 0)), (1, .int (nI d)), (2, .int (nI g))] := hl
  have hnc := hp.1
  refine lv_aload_n hx hb dX1_hasChanged_0 rfl (lv_at hl 0 rfl) ?_
  refine kg_hi_2 hC hW kf_RX1_20 dX1_hasChanged_1 ?_
  refine lv_iload_n hx hb dX1_hasChanged_4 rfl (lv_at hl 1 rfl) ?_
  refine ka_bef hC hW (by omega) dX1_hasChanged_5 ?_
  refine lv_aload_n hx hb dX1_hasChanged_6 rfl (lv_at hl 0 rfl) ?_
  refine lv_iload_n hx hb dX1_hasChanged_7 rfl (lv_at hl 1 rfl) ?_
  refine gq_top (nI (d + 1) - 1) ((nI_m1s d).symm) ?_
  refine lv_iload_n hx hb dX1_hasChanged_8 rfl (lv_at hl 2 rfl) ?_
  refine kc_Vi hC hW (kv_hi ) rfl (c1_understood l V ad _ (d + 1) g nc hp h1 (by omega) hg) km_RX1_33 kn_yX1_understood ks_yX1_understood kz_RX1 kd_yX1_understood dn_X1_understood rfl hl.1 ⟨by decide, by decide⟩ (Nat.le_of_ble_eq_true rfl) ⟨by decide, by decide⟩ dX1_hasChanged_9 (fun r_9 T_9 H locs p_9 hW => ?_)
  obtain ⟨q_9, p_9⟩ := p_9
  rw [p_9] at hW
  refine gq_top (s_und T (d + 1) g) (q_9) ?_
  refine lv_icmp_eq (tgt := 19) hx hb dX1_hasChanged_12 (by decide) (fun c_12 => ?_) (fun c_12 => ?_)
  · refine lv_iconst (v := 0) hx hb dX1_hasChanged_19 (by decide) ?_
    exact kr_zret hC hz hW (by decide) (⟨(rb_0 (fun w => w c_12)).symm, rfl⟩) (by decide) (by decide) dX1_hasChanged_20
  · refine lv_iconst (v := 1) hx hb dX1_hasChanged_15 (by decide) ?_
    refine lv_goto (tgt := 20) hx hb dX1_hasChanged_16 (by decide) ?_
    exact kr_zret hC hz hW (by decide) (⟨(rb_1 c_12).symm, rfl⟩) (by decide) (by decide) dX1_hasChanged_20
