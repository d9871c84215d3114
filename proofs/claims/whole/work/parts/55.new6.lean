set_option maxHeartbeats 4000000 in
set_option maxRecDepth 100000 in
theorem c5_addMethod (l : Launch) (V : gV) (ad : gA) (T : rS) (nc nm : Nat) (hI : rI T nc nm) (hn : nm < 12) (h10 : T.1 10 nm = 0) (h11 : T.1 11 nm = 0) (h12 : T.1 12 nm = 0) : kN l yX5_addMethod cX5_addMethod 1 (some .int) ({ frames := 7, cells := 3, slots := 29, locals := 181 } : Room) [.ref (ad 0 0 0)] V ad T (fun r T' => r = nI nm ∧ T' = su T 4 (fun _ => nI (nm + 1))) := by
  intro E hO sz
  refine g_ofN (by decide) (Nat.le_of_ble_eq_true rfl) ?_
  intro p e s m_ below meth c ls hname hC hz hG hl
  have hx := hC.1
  have hb := hC.2.1
  have hW : cmW V (gAd ad E sz) s.heap ad E T s.heap [] := ⟨E, hG, hO, cmX.rf⟩
  clear hG hO
  have hl : lv_has ls 1 [(0, .ref (ad 0 0 0))] := hl
  have ecn := rI_cnm hI
  have h5 : T.1 5 nm = 0 := by
    obtain ⟨z, h1, h2, h3, -⟩ := hI.2.2.2.2.2.1 nm hn
    rw [h2, h3 (Nat.le_refl _)]; rfl
  refine lv_aload_n hx hb dX5_addMethod_0 rfl (lv_at hl 0 rfl) ?_
  refine kg_tm_1 hC hW kf_RX5_19 dX5_addMethod_1 ?_
  refine kc_Vi hC hW (kv_ml ) rfl (kc_size_ml l V ad _) km_RX5_70 kn_yJx4a65c_size_8abf5 ks_yJx4a65c_size_8abf5 kz_RJx4a65c kd_yJx4a65c_size_8abf5 dn_Jx4a65c_size_8abf5 rfl hl.1 ⟨by decide, by decide⟩ (Nat.le_of_ble_eq_true rfl) ⟨by decide, by decide⟩ dX5_addMethod_4 (fun r_4 T_4 H locs p_4 hW => ?_)
  obtain ⟨q_4, p_4⟩ := p_4
  rw [p_4] at hW
  refine gq_top (nI nm) (q_4.trans (congrArg nI ecn)) ?_
  refine lv_bipush (v := (nI 12)) hx hb dX5_addMethod_7 (by decide) ?_
  refine gn_icmp_lt (tgt := 22) hx hb (by omega) (by omega) dX5_addMethod_9 (by decide) (fun c_9 => ?_) (fun c_9 => absurd c_9 (by omega))
  obtain ⟨E0, hG, hO, hX⟩ := hW
  have e_0_0_0 : E0 0 0 0 = some (.inr (6, [.ref (ad 1 0 0), .ref (ad 2 0 0), .int (T.1 7 0), .int (T.1 8 0), .int (T.1 9 0), .ref (ad 3 0 0), .int (T.1 17 0), .int (T.1 24 0), .int (T.1 23 0), .int (T.1 25 0), .long (T.2 26 0), .int (T.1 27 0), .int (T.1 28 0), .ref (ad 4 0 0)])) := hO.1
  have a_0_0_0 : ad 0 0 0 = ad 0 0 0 := rfl
  have a_2_0_0 : ad 2 0 0 = ad 2 0 0 := rfl
  have hL0 : lstOK V ad E0 2 0 9 nm (fun i => ad 13 i 0) := by rw [← ecn]; exact hO.2.2.2.2.2.2.2.2.2.2.2.1
  obtain ⟨mc, el, e_2_0_0, -⟩ := id hL0
  have ue_el : ∀ i, i < nm → ∃ vs, E0 13 i 0 = some (.inr (5, vs)) := fun i hi => ⟨_, hO.2.2.2.2.2.2.2.2.2.2.2.2.1 i (by omega)⟩
  have ua_el : ∀ i, i < nm → ad 13 i 0 = ad 13 i 0 := fun _ _ => rfl
  have frw : gFr (fun k i j => (k = 2 ∧ i = 0 ∧ j = 0) ∨ (k = 9 ∧ i = 0 ∧ j = 0) ∨ k = 21 ∨ ((k = 13 ∨ k = 14) ∧ i = nm ∧ j = 0)) ad E0 ad E0 := gFr.rf
  refine lv_aload_n hx hb dX5_addMethod_22 rfl (lv_at hl 0 rfl) ?_
  refine gk_get hC hG a_0_0_0 e_0_0_0 rfl inlX5 1 (by decide) kf_RX5_19 (fun _ h => h) rfl dX5_addMethod_23 ?_
  refine gk_new hC hG (ci := 5) (fs := [.null, .int 0, .int 0, .int 0]) rfl inlX4 tyX4 tyX4_ok kc_RX5_76 ki_RX4 kz_RX4 (fun j hj => by rcases (show j = 0 ∨ j = 1 ∨ j = 2 ∨ j = 3 by omega) with h | h | h | h <;> subst h <;> rfl) (Nat.le_of_ble_eq_true rfl) (Nat.le_of_ble_eq_true rfl) dX5_addMethod_26 13 nm 0 (fun a1 ad1 E1 H a_13_nm_0 e_13_nm_0 fr hG => ?_)
  have e_0_0_0 := (fr 0 0 0 (by omega)).1.trans e_0_0_0
  have a_0_0_0 := (fr 0 0 0 (by omega)).2.trans a_0_0_0
  have e_2_0_0 := (fr 2 0 0 (by omega)).1.trans e_2_0_0
  have a_2_0_0 := (fr 2 0 0 (by omega)).2.trans a_2_0_0
  have ue_el : ∀ i, i < nm → ∃ vs, E1 13 i 0 = some (.inr (5, vs)) := fun i hi => let ⟨vs, h⟩ := ue_el i hi; ⟨vs, (fr 13 i 0 (by omega)).1.trans h⟩
  have ua_el := fun i (hi : i < nm) => (fr 13 i 0 (by omega)).2.trans (ua_el i hi)
  have frw := gFr.tr frw fr (fun k i j z => by omega)
  have frn : gFr (fun k i j => (k = 13 ∨ k = 14) ∧ i = nm ∧ j = 0) ad E0 ad E0 := gFr.rf
  have frn := gFr.tr frn fr (fun k i j z => by omega)
  refine lv_dup hx hb dX5_addMethod_29 rfl ?_
  refine gc_Nv hC hG (n_met l V ad1 E1 nm e_13_nm_0) (host := "TieredMachine") (by decide +kernel) kn_yX4_init kz_RX4 kd_yX4_init rfl dn_X4_init.2 rfl (by rw [a_13_nm_0]; rfl) hl.1 ⟨by decide, by decide⟩ (Nat.le_of_ble_eq_true rfl) ⟨Nat.le_of_ble_eq_true rfl, Nat.le_of_ble_eq_true rfl⟩ dX5_addMethod_30 (fun ad2 E2 H locs p_30 hG hgr => ?_)
  obtain ⟨fr, h2, e_13_nm_0, e_14_nm_0⟩ := p_30
  have a_13_nm_0 := h2.trans a_13_nm_0
  have a_14_nm_0 : ad2 14 nm 0 = ad2 14 nm 0 := rfl
  have e_0_0_0 := (fr 0 0 0 (by omega)).1.trans e_0_0_0
  have a_0_0_0 := (fr 0 0 0 (by omega)).2.trans a_0_0_0
  have e_2_0_0 := (fr 2 0 0 (by omega)).1.trans e_2_0_0
  have a_2_0_0 := (fr 2 0 0 (by omega)).2.trans a_2_0_0
  have ue_el : ∀ i, i < nm → ∃ vs, E2 13 i 0 = some (.inr (5, vs)) := fun i hi => let ⟨vs, h⟩ := ue_el i hi; ⟨vs, (fr 13 i 0 (by omega)).1.trans h⟩
  have ua_el := fun i (hi : i < nm) => (fr 13 i 0 (by omega)).2.trans (ua_el i hi)
  have frw := gFr.tr frw fr (fun k i j z => by omega)
  have frn := gFr.tr frn fr (fun k i j z => by omega)
  have hL := lstOK.fr (f1 := fun i => ad2 13 i 0) hL0 frn (by omega) (by omega) (fun i hi => (frn 13 i 0 (by omega)).2)
  refine gc_Vi hC hG e_2_0_0 rfl (n_add_M l V ad2 E2 nm hn _ hL ue_el e_13_nm_0) km_RX5_79 kn_yJx4a65c_add_9ea2d ks_yJx4a65c_add_9ea2d kz_RJx4a65c kd_yJx4a65c_add_9ea2d dn_Jx4a65c_add_9ea2d (by rw [a_2_0_0]; rw [a_13_nm_0]; rfl) hl.1 ⟨by decide, by decide⟩ (Nat.le_of_ble_eq_true rfl) ⟨Nat.le_of_ble_eq_true rfl, Nat.le_of_ble_eq_true rfl⟩ dX5_addMethod_33 (fun r_33 ad3 E3 H locs p_33 hG hgr => ?_)
  obtain ⟨q_33, fr, h2, hL2⟩ := p_33
  have a_2_0_0 := h2.trans a_2_0_0
  have hL9 : lstOK V ad3 E3 2 0 9 (nm + 1) (fun i => ad3 13 i 0) := by rw [show (fun i => ad3 13 i 0) = (fun i => ad2 13 i 0) from funext fun i => (fr 13 i 0 (by omega)).2]; exact hL2
  have e_0_0_0 := (fr 0 0 0 (by omega)).1.trans e_0_0_0
  have a_0_0_0 := (fr 0 0 0 (by omega)).2.trans a_0_0_0
  have e_13_nm_0 := (fr 13 nm 0 (by omega)).1.trans e_13_nm_0
  have a_13_nm_0 := (fr 13 nm 0 (by omega)).2.trans a_13_nm_0
  have e_14_nm_0 := (fr 14 nm 0 (by omega)).1.trans e_14_nm_0
  have a_14_nm_0 := (fr 14 nm 0 (by omega)).2.trans a_14_nm_0
  have ue_el : ∀ i, i < nm → ∃ vs, E3 13 i 0 = some (.inr (5, vs)) := fun i hi => let ⟨vs, h⟩ := ue_el i hi; ⟨vs, (fr 13 i 0 (by omega)).1.trans h⟩
  have ua_el := fun i (hi : i < nm) => (fr 13 i 0 (by omega)).2.trans (ua_el i hi)
  have frw := gFr.tr frw fr (fun k i j z => by omega)
  refine lv_pop hx hb dX5_addMethod_36 rfl ?_
  have hO9 := cm_addM hO ecn hn h5 h10 h11 h12 frw a_2_0_0 hL9 (by rw [a_14_nm_0]; exact e_13_nm_0) e_14_nm_0
  have hW : cmW V (gAd ad E sz) s.heap ad3 E3 (su T 4 (fun _ => nI (nm + 1))) H locs := ⟨E3, hG, hO9, cmX.rf⟩
  have hl : lv_has ls 1 [(0, .ref (ad3 0 0 0))] := by rw [a_0_0_0]; exact hl
  refine lv_aload_n hx hb dX5_addMethod_37 rfl (lv_at hl 0 rfl) ?_
  refine kg_tm_1 hC hW kf_RX5_19 dX5_addMethod_38 ?_
  refine kc_Vi hC hW (kv_ml ) rfl (kc_size_ml l V ad3 _) km_RX5_70 kn_yJx4a65c_size_8abf5 ks_yJx4a65c_size_8abf5 kz_RJx4a65c kd_yJx4a65c_size_8abf5 dn_Jx4a65c_size_8abf5 rfl hl.1 ⟨by decide, by decide⟩ (Nat.le_of_ble_eq_true rfl) ⟨by decide, by decide⟩ dX5_addMethod_41 (fun r_41 T_41 H locs p_41 hW => ?_)
  obtain ⟨q_41, p_41⟩ := p_41
  rw [p_41] at hW
  refine gq_top (nI (nm + 1)) (q_41.trans (congrArg nI (show tn (nI (nm + 1)) = nm + 1 from tn_nI (by omega)))) ?_
  refine lv_iconst (v := 1) hx hb dX5_addMethod_44 (by decide) ?_
  refine lv_isub hx hb dX5_addMethod_45 ?_
  refine gq_top (nI nm) (nI_pred nm) ?_
  obtain ⟨E8, hG8, hO8, hX8⟩ := hW
  exact gq_iret hC hz hG8 ⟨fun k i j h => ⟨(hX8 k i j (by omega)).trans ((frw k i j (by omega)).1.trans (hX k i j (by omega))), (frw k i j (by omega)).2⟩, a_0_0_0, _, hO8, ⟨rfl, rfl⟩⟩ (Nat.le_of_ble_eq_true rfl) (Nat.le_of_ble_eq_true rfl) dX5_addMethod_46
set_option maxHeartbeats 4000000 in
set_option maxRecDepth 100000 in
theorem c5_append (l : Launch) (V : gV) (ad : gA) (T : rS) (nc nm m0 q0 : Nat) (hI : rI T nc nm) (hU : rU T) (hm : m0 < nm) (eq0 : csz T m0 = q0) (hq0 : q0 < 20) (k a b c_ d : Int32) (hfit : s_fit T k a b c_ d) : kN l yX5_append cX5_append 8 (some .int) ({ frames := 7, cells := 6, slots := 41, locals := 181 } : Room) [.ref (ad 0 0 0), .int (nI m0), .int k, .int a, .int b, .int c_, .int d] V ad T (fun r T' => r = nI q0 ∧ T' = sp_unlearn (su (s_in5 T (5 * (20 * m0 + q0)) k a b c_ d) 5 (va_up (T.1 5) m0 (nI (q0 + 1)))) m0) := by
  intro E hO sz
  refine g_ofN (by decide) (Nat.le_of_ble_eq_true rfl) ?_
  intro p e s m_ below meth c ls hname hC hz hG hl
  have hx := hC.1
  have hb := hC.2.1
  have hW : cmW V (gAd ad E sz) s.heap ad E T s.heap [] := ⟨E, hG, hO, cmX.rf⟩
  clear hG hO
  have hl : lv_has ls 8 [(0, .ref (ad 0 0 0)), (1, .int (nI m0)), (2, .int k), (3, .int a), (4, .int b), (5, .int c_), (6, .int d)] := hl
  have ecn := rI_cnm hI
  have hnm := hI.2.2.2.1
  have hm1 : m0 < cnm T := by omega
  refine lv_aload_n hx hb dX5_append_0 rfl (lv_at hl 0 rfl) ?_
  refine lv_iload_n hx hb dX5_append_1 rfl (lv_at hl 1 rfl) ?_
  refine kc_Vr hC hW (kv_tm ) rfl (c5_existingMethod l V ad _ m0 hm1 (by omega)) km_RX5_83 kn_yX5_existingMethod ks_yX5_existingMethod kz_RX5 kd_yX5_existingMethod dn_X5_existingMethod rfl hl.1 ⟨by decide, by decide⟩ (Nat.le_of_ble_eq_true rfl) ⟨by decide, by decide⟩ dX5_append_2 (fun r_2 T_2 H locs p_2 hW => ?_)
  obtain ⟨q_2, p_2⟩ := p_2
  rw [p_2] at hW
  rw [q_2]
  refine lv_astore (lv' := [(7, .ref (ad 13 m0 0)), (0, .ref (ad 0 0 0)), (1, .int (nI m0)), (2, .int k), (3, .int a), (4, .int b), (5, .int c_), (6, .int d)]) hx hb dX5_append_5 hl (by decide) rfl (fun ls hl => ?_)
  refine lv_aload_n hx hb dX5_append_7 rfl (lv_at hl 1 rfl) ?_
  refine lv_iload_n hx hb dX5_append_8 rfl (lv_at hl 3 rfl) ?_
  refine lv_iload_n hx hb dX5_append_9 rfl (lv_at hl 4 rfl) ?_
  refine lv_iload hx hb dX5_append_10 (lv_at hl 5 rfl) ?_
  refine lv_iload hx hb dX5_append_12 (lv_at hl 6 rfl) ?_
  refine lv_iload hx hb dX5_append_14 (lv_at hl 7 rfl) ?_
  refine kc_Vi hC hW (kv_tm ) rfl (c5_fits l V ad _ k a b c_ d) km_RX5_87 kn_yX5_fits ks_yX5_fits kz_RX5 kd_yX5_fits dn_X5_fits rfl hl.1 ⟨by decide, by decide⟩ (Nat.le_of_ble_eq_true rfl) ⟨by decide, by decide⟩ dX5_append_16 (fun r_16 T_16 H locs p_16 hW => ?_)
  obtain ⟨q_16, p_16⟩ := p_16
  rw [p_16] at hW
  refine gq_top (rb (s_fit T k a b c_ d)) (q_16) ?_
  refine lv_if_ne (tgt := 32) hx hb dX5_append_19 (by decide) (fun c_19 => ?_) (fun c_19 => absurd c_19 (fun z => rb_n z hfit))
  refine lv_aload hx hb dX5_append_32 (lv_at hl 0 rfl) ?_
  refine kc_Vi hC hW (kv_me hm1) rfl (c4_length l V ad _ m0 hm1) km_RX5_96 kn_yX4_length ks_yX4_length kz_RX4 kd_yX4_length dn_X4_length rfl hl.1 ⟨by decide, by decide⟩ (Nat.le_of_ble_eq_true rfl) ⟨by decide, by decide⟩ dX5_append_34 (fun r_34 T_34 H locs p_34 hW => ?_)
  obtain ⟨q_34, p_34⟩ := p_34
  rw [p_34] at hW
  refine gq_top (nI q0) (q_34.trans (congrArg nI eq0)) ?_
  refine lv_bipush (v := (nI 20)) hx hb dX5_append_37 (by decide) ?_
  refine gn_icmp_lt (tgt := 52) hx hb (by omega) (by omega) dX5_append_39 (by decide) (fun c_39 => ?_) (fun c_39 => absurd c_39 (by omega))
  obtain ⟨E0, hG, hO, hX⟩ := hW
  have e_0_0_0 : E0 0 0 0 = some (.inr (6, [.ref (ad 1 0 0), .ref (ad 2 0 0), .int (T.1 7 0), .int (T.1 8 0), .int (T.1 9 0), .ref (ad 3 0 0), .int (T.1 17 0), .int (T.1 24 0), .int (T.1 23 0), .int (T.1 25 0), .long (T.2 26 0), .int (T.1 27 0), .int (T.1 28 0), .ref (ad 4 0 0)])) := hO.1
  have a_0_0_0 : ad 0 0 0 = ad 0 0 0 := rfl
  have e_13_m0_0 : E0 13 m0 0 = some (.inr (5, [.ref (ad 14 m0 0), .int (T.1 10 m0), .int (T.1 11 m0), .int (T.1 12 m0)])) := hO.2.2.2.2.2.2.2.2.2.2.2.2.1 m0 hm1
  have a_13_m0_0 : ad 13 m0 0 = ad 13 m0 0 := rfl
  have hL0 : lstOK V ad E0 14 m0 15 q0 (fun i => ad 16 m0 i) := by rw [← eq0]; exact hO.2.2.2.2.2.2.2.2.2.2.2.2.2.1 m0 hm1
  obtain ⟨mc, el, e_14_m0_0, -⟩ := id hL0
  have a_14_m0_0 : ad 14 m0 0 = ad 14 m0 0 := rfl
  have ue_el : ∀ i, i < q0 → ∃ vs, E0 16 m0 i = some (.inr (3, vs)) := fun i hi => ⟨_, hO.2.2.2.2.2.2.2.2.2.2.2.2.2.2.1 m0 i hm1 (by omega)⟩
  have ua_el : ∀ i, i < q0 → ad 16 m0 i = ad 16 m0 i := fun _ _ => rfl
  have frw : gFr (fun k i j => (k = 14 ∧ i = m0 ∧ j = 0) ∨ (k = 15 ∧ i = m0 ∧ j = 0) ∨ k = 21 ∨ ((16 ≤ k ∧ k ≤ 20) ∧ i = m0 ∧ j = q0)) ad E0 ad E0 := gFr.rf
  refine lv_aload hx hb dX5_append_52 (lv_at hl 0 rfl) ?_
  refine gk_get hC hG a_13_m0_0 e_13_m0_0 rfl inlX4 0 (by decide) kf_RX5_101 (fun _ h => h) rfl dX5_append_54 ?_
  refine gk_new hC hG (ci := 3) (fs := [.int 0, .int 0, .int 0, .int 0, .int 0, .null, .null]) rfl inlX2 tyX2 tyX2_ok kc_RX5_104 ki_RX2 kz_RX2 (fun j hj => by rcases (show j = 0 ∨ j = 1 ∨ j = 2 ∨ j = 3 ∨ j = 4 ∨ j = 5 ∨ j = 6 by omega) with h | h | h | h | h | h | h <;> subst h <;> rfl) (Nat.le_of_ble_eq_true rfl) (Nat.le_of_ble_eq_true rfl) dX5_append_57 16 m0 q0 (fun a1 ad1 E1 H a_16_m0_q0 e_16_m0_q0 fr hG => ?_)
  have e_0_0_0 := (fr 0 0 0 (by omega)).1.trans e_0_0_0
  have a_0_0_0 := (fr 0 0 0 (by omega)).2.trans a_0_0_0
  have e_13_m0_0 := (fr 13 m0 0 (by omega)).1.trans e_13_m0_0
  have a_13_m0_0 := (fr 13 m0 0 (by omega)).2.trans a_13_m0_0
  have e_14_m0_0 := (fr 14 m0 0 (by omega)).1.trans e_14_m0_0
  have a_14_m0_0 := (fr 14 m0 0 (by omega)).2.trans a_14_m0_0
  have ue_el : ∀ i, i < q0 → ∃ vs, E1 16 m0 i = some (.inr (3, vs)) := fun i hi => let ⟨vs, h⟩ := ue_el i hi; ⟨vs, (fr 16 m0 i (by omega)).1.trans h⟩
  have ua_el := fun i (hi : i < q0) => (fr 16 m0 i (by omega)).2.trans (ua_el i hi)
  have frw := gFr.tr frw fr (fun k i j z => by omega)
  have frn : gFr (fun k i j => (16 ≤ k ∧ k ≤ 20) ∧ i = m0 ∧ j = q0) ad E0 ad E0 := gFr.rf
  have frn := gFr.tr frn fr (fun k i j z => by omega)
  refine lv_dup hx hb dX5_append_60 rfl ?_
  refine lv_iload_n hx hb dX5_append_61 rfl (lv_at hl 3 rfl) ?_
  refine lv_iload_n hx hb dX5_append_62 rfl (lv_at hl 4 rfl) ?_
  refine lv_iload hx hb dX5_append_63 (lv_at hl 5 rfl) ?_
  refine lv_iload hx hb dX5_append_65 (lv_at hl 6 rfl) ?_
  refine lv_iload hx hb dX5_append_67 (lv_at hl 7 rfl) ?_
  refine gc_Iv hC hG (n_ins l V ad1 E1 m0 q0 k a b c_ d e_16_m0_q0) km_RX5_106 kn_yX2_init kz_RX2 kd_yX2_init rfl dn_X2_init.2 rfl (by rw [a_16_m0_q0]; rfl) hl.1 ⟨by decide, by decide⟩ (Nat.le_of_ble_eq_true rfl) ⟨Nat.le_of_ble_eq_true rfl, Nat.le_of_ble_eq_true rfl⟩ dX5_append_69 (fun ad2 E2 H locs p_69 hG hgr => ?_)
  obtain ⟨fr, h2, e_16_m0_q0, e_17_m0_q0, e_18_m0_q0, e_19_m0_q0, e_20_m0_q0⟩ := p_69
  have a_16_m0_q0 := h2.trans a_16_m0_q0
  have a_17_m0_q0 : ad2 17 m0 q0 = ad2 17 m0 q0 := rfl
  have a_18_m0_q0 : ad2 18 m0 q0 = ad2 18 m0 q0 := rfl
  have a_19_m0_q0 : ad2 19 m0 q0 = ad2 19 m0 q0 := rfl
  have a_20_m0_q0 : ad2 20 m0 q0 = ad2 20 m0 q0 := rfl
  have e_0_0_0 := (fr 0 0 0 (by omega)).1.trans e_0_0_0
  have a_0_0_0 := (fr 0 0 0 (by omega)).2.trans a_0_0_0
  have e_13_m0_0 := (fr 13 m0 0 (by omega)).1.trans e_13_m0_0
  have a_13_m0_0 := (fr 13 m0 0 (by omega)).2.trans a_13_m0_0
  have e_14_m0_0 := (fr 14 m0 0 (by omega)).1.trans e_14_m0_0
  have a_14_m0_0 := (fr 14 m0 0 (by omega)).2.trans a_14_m0_0
  have ue_el : ∀ i, i < q0 → ∃ vs, E2 16 m0 i = some (.inr (3, vs)) := fun i hi => let ⟨vs, h⟩ := ue_el i hi; ⟨vs, (fr 16 m0 i (by omega)).1.trans h⟩
  have ua_el := fun i (hi : i < q0) => (fr 16 m0 i (by omega)).2.trans (ua_el i hi)
  have frw := gFr.tr frw fr (fun k i j z => by omega)
  have frn := gFr.tr frn fr (fun k i j z => by omega)
  have hL := lstOK.fr (f1 := fun i => ad2 16 m0 i) hL0 frn (by omega) (by omega) (fun i hi => (frn 16 m0 i (by omega)).2)
  refine gc_Vi hC hG e_14_m0_0 rfl (n_add_C l V ad2 E2 m0 q0 hq0 _ hL ue_el e_16_m0_q0) km_RX5_79 kn_yJx4a65c_add_9ea2d ks_yJx4a65c_add_9ea2d kz_RJx4a65c kd_yJx4a65c_add_9ea2d dn_Jx4a65c_add_9ea2d (by rw [a_14_m0_0]; rw [a_16_m0_q0]; rfl) hl.1 ⟨by decide, by decide⟩ (Nat.le_of_ble_eq_true rfl) ⟨Nat.le_of_ble_eq_true rfl, Nat.le_of_ble_eq_true rfl⟩ dX5_append_72 (fun r_72 ad3 E3 H locs p_72 hG hgr => ?_)
  obtain ⟨q_72, fr, h2, hL2⟩ := p_72
  have a_14_m0_0 := h2.trans a_14_m0_0
  have hL9 : lstOK V ad3 E3 14 m0 15 (q0 + 1) (fun i => ad3 16 m0 i) := by rw [show (fun i => ad3 16 m0 i) = (fun i => ad2 16 m0 i) from funext fun i => (fr 16 m0 i (by omega)).2]; exact hL2
  have e_0_0_0 := (fr 0 0 0 (by omega)).1.trans e_0_0_0
  have a_0_0_0 := (fr 0 0 0 (by omega)).2.trans a_0_0_0
  have e_13_m0_0 := (fr 13 m0 0 (by omega)).1.trans e_13_m0_0
  have a_13_m0_0 := (fr 13 m0 0 (by omega)).2.trans a_13_m0_0
  have e_16_m0_q0 := (fr 16 m0 q0 (by omega)).1.trans e_16_m0_q0
  have a_16_m0_q0 := (fr 16 m0 q0 (by omega)).2.trans a_16_m0_q0
  have e_17_m0_q0 := (fr 17 m0 q0 (by omega)).1.trans e_17_m0_q0
  have a_17_m0_q0 := (fr 17 m0 q0 (by omega)).2.trans a_17_m0_q0
  have e_18_m0_q0 := (fr 18 m0 q0 (by omega)).1.trans e_18_m0_q0
  have a_18_m0_q0 := (fr 18 m0 q0 (by omega)).2.trans a_18_m0_q0
  have e_19_m0_q0 := (fr 19 m0 q0 (by omega)).1.trans e_19_m0_q0
  have a_19_m0_q0 := (fr 19 m0 q0 (by omega)).2.trans a_19_m0_q0
  have e_20_m0_q0 := (fr 20 m0 q0 (by omega)).1.trans e_20_m0_q0
  have a_20_m0_q0 := (fr 20 m0 q0 (by omega)).2.trans a_20_m0_q0
  have ue_el : ∀ i, i < q0 → ∃ vs, E3 16 m0 i = some (.inr (3, vs)) := fun i hi => let ⟨vs, h⟩ := ue_el i hi; ⟨vs, (fr 16 m0 i (by omega)).1.trans h⟩
  have ua_el := fun i (hi : i < q0) => (fr 16 m0 i (by omega)).2.trans (ua_el i hi)
  have frw := gFr.tr frw fr (fun k i j z => by omega)
  refine lv_pop hx hb dX5_append_75 rfl ?_
  have hO9 := cm_app (x0 := k) (x1 := a) (x2 := b) (x3 := c_) (x4 := d) hO hm1 eq0 hq0 (fun h hh => hU m0 q0 h (by omega) (by show csz T m0 ≤ q0; omega) hq0 hh) frw a_14_m0_0 hL9 (by rw [a_17_m0_q0, a_19_m0_q0]; exact e_16_m0_q0) (by rw [a_18_m0_q0]; exact e_17_m0_q0) e_18_m0_q0 (by rw [a_20_m0_q0]; exact e_19_m0_q0) e_20_m0_q0
  have hW : cmW V (gAd ad E sz) s.heap ad3 E3 (su (s_in5 T (5 * (20 * m0 + q0)) k a b c_ d) 5 (va_up (T.1 5) m0 (nI (q0 + 1)))) H locs := ⟨E3, hG, hO9, cmX.rf⟩
  have z1 : csz (su (s_in5 T (5 * (20 * m0 + q0)) k a b c_ d) 5 (va_up (T.1 5) m0 (nI (q0 + 1)))) m0 = q0 + 1 := by
    show tn (va_up (T.1 5) m0 (nI (q0 + 1)) m0) = _
    rw [va_up_self]
    exact tn_nI (by omega)
  have z2 : csz (sp_unlearn (su (s_in5 T (5 * (20 * m0 + q0)) k a b c_ d) 5 (va_up (T.1 5) m0 (nI (q0 + 1)))) m0) m0 = q0 + 1 := by unfold csz; rw [sp_unlearn_f (by decide) (by decide) (by decide) (by decide) (by decide)]; exact z1
  have hm2 : m0 < cnm (sp_unlearn (su (s_in5 T (5 * (20 * m0 + q0)) k a b c_ d) 5 (va_up (T.1 5) m0 (nI (q0 + 1)))) m0) := by unfold cnm; rw [sp_unlearn_f (by decide) (by decide) (by decide) (by decide) (by decide)]; exact hm1
  have hl : lv_has ls 8 [(7, .ref (ad3 13 m0 0)), (0, .ref (ad3 0 0 0)), (1, .int (nI m0)), (2, .int k), (3, .int a), (4, .int b), (5, .int c_), (6, .int d)] := by rw [a_0_0_0]; rw [a_13_m0_0]; exact hl
  refine lv_aload hx hb dX5_append_76 (lv_at hl 0 rfl) ?_
  refine kc_Vv hC hW (kv_me (show m0 < cnm T from hm1)) rfl (c4_unlearn l V ad3 _ m0 hm1 (show csz (su (s_in5 T (5 * (20 * m0 + q0)) k a b c_ d) 5 (va_up (T.1 5) m0 (nI (q0 + 1)))) m0 ≤ 20 by omega)) km_RX5_109 kn_yX4_unlearn ks_yX4_unlearn kz_RX4 kd_yX4_unlearn dn_X4_unlearn rfl hl.1 ⟨by decide, by decide⟩ (Nat.le_of_ble_eq_true rfl) ⟨by decide, by decide⟩ dX5_append_78 (fun T_78 H locs p_78 hW => ?_)
  subst p_78
  refine lv_aload hx hb dX5_append_81 (lv_at hl 0 rfl) ?_
  refine kc_Vi hC hW (kv_me hm2) rfl (c4_length l V ad3 _ m0 hm2) km_RX5_96 kn_yX4_length ks_yX4_length kz_RX4 kd_yX4_length dn_X4_length rfl hl.1 ⟨by decide, by decide⟩ (Nat.le_of_ble_eq_true rfl) ⟨by decide, by decide⟩ dX5_append_83 (fun r_83 T_83 H locs p_83 hW => ?_)
  obtain ⟨q_83, p_83⟩ := p_83
  rw [p_83] at hW
  refine gq_top (nI (q0 + 1)) (q_83.trans (congrArg nI z2)) ?_
  refine lv_iconst (v := 1) hx hb dX5_append_86 (by decide) ?_
  refine lv_isub hx hb dX5_append_87 ?_
  refine gq_top (nI q0) (nI_pred q0) ?_
  obtain ⟨E8, hG8, hO8, hX8⟩ := hW
  exact gq_iret hC hz hG8 ⟨fun k i j h => ⟨(hX8 k i j (by omega)).trans ((frw k i j (by omega)).1.trans (hX k i j (by omega))), (frw k i j (by omega)).2⟩, a_0_0_0, _, hO8, ⟨rfl, rfl⟩⟩ (Nat.le_of_ble_eq_true rfl) (Nat.le_of_ble_eq_true rfl) dX5_append_88
