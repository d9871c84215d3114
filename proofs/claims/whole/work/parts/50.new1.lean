
set_option maxHeartbeats 4000000 in
set_option maxRecDepth 100000 in
theorem n_ac (l : Launch) (V : gV) (ad : gA) (E : gE) (kl il : Nat) (e_kl_il_0 : E kl il 0 = some (.inr (0, [.int 0, .null, .int 0]))) : gMv l yJxa1e45_init_da8c8 cJxa1e45_init_da8c8 1 none ({ frames := 1, cells := 0, slots := 0, locals := 20 } : Room) [.ref (ad kl il 0)] V ad E (fun ad' E' => ad' = ad ∧ E' = E) := by
  intro sz
  refine g_ofN (by decide) (Nat.le_of_ble_eq_true rfl) ?_
  intro p e s m_ below meth c ls hname hC hz hG hl
  have hx := hC.1
  have hb := hC.2.1
  have hl : lv_has ls 1 [(0, .ref (ad kl il 0))] := hl
  have a_kl_il_0 : ad kl il 0 = ad kl il 0 := rfl
  have frw : gFr (gL kl il 0) ad E ad E := gFr.rf
  refine lv_aload_n hx hb dJxa1e45_init_da8c8_0 rfl (lv_at hl 0 rfl) ?_
  refine W.objInit hx hb hC.2.2.2.1 (hC.2.2.2.2.1 _ km_RJxa1e45_1) (hC.2.2.2.2.1 _ kn_objectInit) (hC.2.2.2.2.1 _ kd_objectInit) rfl (hC.2.2.1.trans hl.1.symm).symm rfl dJxa1e45_init_da8c8_1 (Nat.le_of_ble_eq_true rfl) (Nat.le_of_ble_eq_true rfl) ?_
  exact gq_vret hC hz hG (⟨rfl, rfl⟩) (Nat.le_of_ble_eq_true rfl) (Nat.le_of_ble_eq_true rfl) dJxa1e45_init_da8c8_4
set_option maxHeartbeats 4000000 in
set_option maxRecDepth 100000 in
theorem n_absl (l : Launch) (V : gV) (ad : gA) (E : gE) (kl il : Nat) (e_kl_il_0 : E kl il 0 = some (.inr (0, [.int 0, .null, .int 0]))) : gMv l yJxc12de_init_da8c8 cJxc12de_init_da8c8 1 none ({ frames := 2, cells := 0, slots := 0, locals := 40 } : Room) [.ref (ad kl il 0)] V ad E (fun ad' E' => gFr (gL kl il 0) ad E ad' E' ∧ ad' kl il 0 = ad kl il 0 ∧ E' kl il 0 = some (.inr (0, [.int 0, .null, .int 0]))) := by
  intro sz
  refine g_ofN (by decide) (Nat.le_of_ble_eq_true rfl) ?_
  intro p e s m_ below meth c ls hname hC hz hG hl
  have hx := hC.1
  have hb := hC.2.1
  have hl : lv_has ls 1 [(0, .ref (ad kl il 0))] := hl
  have a_kl_il_0 : ad kl il 0 = ad kl il 0 := rfl
  have frw : gFr (gL kl il 0) ad E ad E := gFr.rf
  refine lv_aload_n hx hb dJxc12de_init_da8c8_0 rfl (lv_at hl 0 rfl) ?_
  refine gc_Iv hC hG (n_ac l V ad E kl il e_kl_il_0) km_RJxc12de_1 kn_yJxa1e45_init_da8c8 kz_RJxa1e45 kd_yJxa1e45_init_da8c8 rfl dn_Jxa1e45_init_da8c8.2 rfl (by rw [a_kl_il_0]; rfl) hl.1 ⟨by decide, by decide⟩ (Nat.le_of_ble_eq_true rfl) ⟨Nat.le_of_ble_eq_true rfl, Nat.le_of_ble_eq_true rfl⟩ dJxc12de_init_da8c8_1 (fun ad1 E1 H locs p_1 hG hgr => ?_)
  obtain ⟨h1, h2⟩ := p_1
  rw [h1, h2] at hG
  refine lv_aload_n hx hb dJxc12de_init_da8c8_4 rfl (lv_at hl 0 rfl) ?_
  refine lv_iconst (v := 0) hx hb dJxc12de_init_da8c8_5 (by decide) ?_
  refine gk_put hC hG a_kl_il_0 e_kl_il_0 rfl inlJx4a65c tyJx4a65c tyJx4a65c_ok nmJx4a65c 0 (by decide) kf_RJxc12de_7 (fun _ h => h) rfl rfl rfl (Nat.le_of_ble_eq_true rfl) dJxc12de_init_da8c8_6 (fun E2 H locs (e_kl_il_0 : E2 kl il 0 = some (.inr (0, [.int 0, .null, .int 0]))) fr hG => ?_)
  have frw := gFr.tr frw fr (fun k i j z => by omega)
  exact gq_vret hC hz hG (⟨frw, a_kl_il_0, e_kl_il_0⟩) (Nat.le_of_ble_eq_true rfl) (Nat.le_of_ble_eq_true rfl) dJxc12de_init_da8c8_9
set_option maxHeartbeats 4000000 in
set_option maxRecDepth 100000 in
theorem n_al (l : Launch) (V : gV) (ad : gA) (E : gE) (kl il : Nat) (e_kl_il_0 : E kl il 0 = some (.inr (0, [.int 0, .null, .int 0]))) : gMv l yJx4a65c_init_da8c8 cJx4a65c_init_da8c8 1 none ({ frames := 3, cells := 0, slots := 0, locals := 60 } : Room) [.ref (ad kl il 0)] V ad E (fun ad' E' => gFr (gL kl il 0) ad E ad' E' ∧ ad' kl il 0 = ad kl il 0 ∧ E' kl il 0 = some (.inr (0, [.int 0, .ref (V.2.2 1), .int 0]))) := by
  intro sz
  refine g_ofN (by decide) (Nat.le_of_ble_eq_true rfl) ?_
  intro p e s m_ below meth c ls hname hC hz hG hl
  have hx := hC.1
  have hb := hC.2.1
  have hl : lv_has ls 1 [(0, .ref (ad kl il 0))] := hl
  have a_kl_il_0 : ad kl il 0 = ad kl il 0 := rfl
  have frw : gFr (gL kl il 0) ad E ad E := gFr.rf
  refine lv_aload_n hx hb dJx4a65c_init_da8c8_0 rfl (lv_at hl 0 rfl) ?_
  refine gc_Iv hC hG (n_absl l V ad E kl il e_kl_il_0) km_RJx4a65c_1 kn_yJxc12de_init_da8c8 kz_RJxc12de kd_yJxc12de_init_da8c8 rfl dn_Jxc12de_init_da8c8.2 rfl (by rw [a_kl_il_0]; rfl) hl.1 ⟨by decide, by decide⟩ (Nat.le_of_ble_eq_true rfl) ⟨Nat.le_of_ble_eq_true rfl, Nat.le_of_ble_eq_true rfl⟩ dJx4a65c_init_da8c8_1 (fun ad1 E1 H locs p_1 hG hgr => ?_)
  obtain ⟨fr, h2, e_kl_il_0⟩ := p_1
  have a_kl_il_0 := h2.trans a_kl_il_0
  have frw := gFr.tr frw fr (fun k i j z => by omega)
  refine lv_aload_n hx hb dJx4a65c_init_da8c8_4 rfl (lv_at hl 0 rfl) ?_
  refine gq_empty hC hG kf_RJx4a65c_39 dJx4a65c_init_da8c8_5 ?_
  refine gk_put hC hG a_kl_il_0 e_kl_il_0 rfl inlJx4a65c tyJx4a65c tyJx4a65c_ok nmJx4a65c 1 (by decide) kf_RJx4a65c_9 (fun _ h => h) rfl rfl rfl (Nat.le_of_ble_eq_true rfl) dJx4a65c_init_da8c8_8 (fun E2 H locs (e_kl_il_0 : E2 kl il 0 = some (.inr (0, [.int 0, .ref (V.2.2 1), .int 0]))) fr hG => ?_)
  have frw := gFr.tr frw fr (fun k i j z => by omega)
  exact gq_vret hC hz hG (⟨frw, a_kl_il_0, e_kl_il_0⟩) (Nat.le_of_ble_eq_true rfl) (Nat.le_of_ble_eq_true rfl) dJx4a65c_init_da8c8_11
set_option maxHeartbeats 4000000 in
set_option maxRecDepth 100000 in
theorem n_rec17 (l : Launch) (V : gV) (ad : gA) (E : gE) (m q : Nat) (e_17_m_q : E 17 m q = some (.inr (4, [.null, .int 0, .int 0]))) : gMv l yX3_init cX3_init 1 none ({ frames := 1, cells := 1, slots := 3, locals := 20 } : Room) [.ref (ad 17 m q)] V ad E (fun ad' E' => ∃ a : Nat, gFr (fun k i j => (k = 17 ∨ k = 18) ∧ i = m ∧ j = q) ad E ad' E' ∧ ad' 17 m q = ad 17 m q ∧ E' 17 m q = some (.inr (4, [.ref a, .int 0, .int 0])) ∧ ad' 18 m q = a ∧ E' 18 m q = some (.inl (V.2.1 0, 3, .inl (fun _ => 0)))) := by
  intro sz
  refine g_ofN (by decide) (Nat.le_of_ble_eq_true rfl) ?_
  intro p e s m_ below meth c ls hname hC hz hG hl
  have hx := hC.1
  have hb := hC.2.1
  have hl : lv_has ls 1 [(0, .ref (ad 17 m q))] := hl
  have a_17_m_q : ad 17 m q = ad 17 m q := rfl
  have frw : gFr (fun k i j => (k = 17 ∨ k = 18) ∧ i = m ∧ j = q) ad E ad E := gFr.rf
  refine lv_aload_n hx hb dX3_init_0 rfl (lv_at hl 0 rfl) ?_
  refine W.objInit hx hb hC.2.2.2.1 (hC.2.2.2.2.1 _ km_RX3_3) (hC.2.2.2.2.1 _ kn_objectInit) (hC.2.2.2.2.1 _ kd_objectInit) rfl (hC.2.2.1.trans hl.1.symm).symm rfl dX3_init_1 (Nat.le_of_ble_eq_true rfl) (Nat.le_of_ble_eq_true rfl) ?_
  refine lv_aload_n hx hb dX3_init_4 rfl (lv_at hl 0 rfl) ?_
  refine lv_iconst (v := (nI 3)) hx hb dX3_init_5 (by decide) ?_
  refine gk_newa hC hG (atype := .int) (ty := .int) (t0 := 0) (a0 := (3, .inl (fun _ => 0))) ka__int rfl rfl (fun C h => by cases h) (by rw [vp_cell_i]; rfl) (nI_pos (by decide)) (nI_clamp (by decide)) (by decide) (Nat.le_of_ble_eq_true rfl) (Nat.le_of_ble_eq_true rfl) dX3_init_6 18 m q (fun a1 ad1 E1 H a_18_m_q e_18_m_q fr hG => ?_)
  have e_17_m_q := (fr 17 m q (by omega)).1.trans e_17_m_q
  have a_17_m_q := (fr 17 m q (by omega)).2.trans a_17_m_q
  have frw := gFr.tr frw fr (fun k i j z => by omega)
  refine gk_putF hC hG a_17_m_q e_17_m_q rfl inlX3 tyX3 tyX3_ok nmX3 0 (by decide) kf_RX3_9 (fun _ h => h) rfl hname rfl rfl rfl (Nat.le_of_ble_eq_true rfl) dX3_init_8 (fun E2 H locs (e_17_m_q : E2 17 m q = some (.inr (4, [.ref a1, .int 0, .int 0]))) fr hG => ?_)
  have e_18_m_q := (fr 18 m q (by omega)).1.trans e_18_m_q
  have frw := gFr.tr frw fr (fun k i j z => by omega)
  refine lv_aload_n hx hb dX3_init_11 rfl (lv_at hl 0 rfl) ?_
  refine lv_iconst (v := 0) hx hb dX3_init_12 (by decide) ?_
  refine gk_put hC hG a_17_m_q e_17_m_q rfl inlX3 tyX3 tyX3_ok nmX3 1 (by decide) kf_RX3_15 (fun _ h => h) rfl rfl rfl (Nat.le_of_ble_eq_true rfl) dX3_init_13 (fun E3 H locs (e_17_m_q : E3 17 m q = some (.inr (4, [.ref a1, .int 0, .int 0]))) fr hG => ?_)
  have e_18_m_q := (fr 18 m q (by omega)).1.trans e_18_m_q
  have frw := gFr.tr frw fr (fun k i j z => by omega)
  refine lv_aload_n hx hb dX3_init_16 rfl (lv_at hl 0 rfl) ?_
  refine lv_iconst (v := 0) hx hb dX3_init_17 (by decide) ?_
  refine gk_put hC hG a_17_m_q e_17_m_q rfl inlX3 tyX3 tyX3_ok nmX3 2 (by decide) kf_RX3_19 (fun _ h => h) rfl rfl rfl (Nat.le_of_ble_eq_true rfl) dX3_init_18 (fun E4 H locs (e_17_m_q : E4 17 m q = some (.inr (4, [.ref a1, .int 0, .int 0]))) fr hG => ?_)
  have e_18_m_q := (fr 18 m q (by omega)).1.trans e_18_m_q
  have frw := gFr.tr frw fr (fun k i j z => by omega)
  exact gq_vret hC hz hG (⟨_, frw, a_17_m_q, e_17_m_q, a_18_m_q, e_18_m_q⟩) (Nat.le_of_ble_eq_true rfl) (Nat.le_of_ble_eq_true rfl) dX3_init_21
set_option maxHeartbeats 4000000 in
set_option maxRecDepth 100000 in
theorem n_rec19 (l : Launch) (V : gV) (ad : gA) (E : gE) (m q : Nat) (e_19_m_q : E 19 m q = some (.inr (4, [.null, .int 0, .int 0]))) : gMv l yX3_init cX3_init 1 none ({ frames := 1, cells := 1, slots := 3, locals := 20 } : Room) [.ref (ad 19 m q)] V ad E (fun ad' E' => ∃ a : Nat, gFr (fun k i j => (k = 19 ∨ k = 20) ∧ i = m ∧ j = q) ad E ad' E' ∧ ad' 19 m q = ad 19 m q ∧ E' 19 m q = some (.inr (4, [.ref a, .int 0, .int 0])) ∧ ad' 20 m q = a ∧ E' 20 m q = some (.inl (V.2.1 0, 3, .inl (fun _ => 0)))) := by
  intro sz
  refine g_ofN (by decide) (Nat.le_of_ble_eq_true rfl) ?_
  intro p e s m_ below meth c ls hname hC hz hG hl
  have hx := hC.1
  have hb := hC.2.1
  have hl : lv_has ls 1 [(0, .ref (ad 19 m q))] := hl
  have a_19_m_q : ad 19 m q = ad 19 m q := rfl
  have frw : gFr (fun k i j => (k = 19 ∨ k = 20) ∧ i = m ∧ j = q) ad E ad E := gFr.rf
  refine lv_aload_n hx hb dX3_init_0 rfl (lv_at hl 0 rfl) ?_
  refine W.objInit hx hb hC.2.2.2.1 (hC.2.2.2.2.1 _ km_RX3_3) (hC.2.2.2.2.1 _ kn_objectInit) (hC.2.2.2.2.1 _ kd_objectInit) rfl (hC.2.2.1.trans hl.1.symm).symm rfl dX3_init_1 (Nat.le_of_ble_eq_true rfl) (Nat.le_of_ble_eq_true rfl) ?_
  refine lv_aload_n hx hb dX3_init_4 rfl (lv_at hl 0 rfl) ?_
  refine lv_iconst (v := (nI 3)) hx hb dX3_init_5 (by decide) ?_
  refine gk_newa hC hG (atype := .int) (ty := .int) (t0 := 0) (a0 := (3, .inl (fun _ => 0))) ka__int rfl rfl (fun C h => by cases h) (by rw [vp_cell_i]; rfl) (nI_pos (by decide)) (nI_clamp (by decide)) (by decide) (Nat.le_of_ble_eq_true rfl) (Nat.le_of_ble_eq_true rfl) dX3_init_6 20 m q (fun a1 ad1 E1 H a_20_m_q e_20_m_q fr hG => ?_)
  have e_19_m_q := (fr 19 m q (by omega)).1.trans e_19_m_q
  have a_19_m_q := (fr 19 m q (by omega)).2.trans a_19_m_q
  have frw := gFr.tr frw fr (fun k i j z => by omega)
  refine gk_putF hC hG a_19_m_q e_19_m_q rfl inlX3 tyX3 tyX3_ok nmX3 0 (by decide) kf_RX3_9 (fun _ h => h) rfl hname rfl rfl rfl (Nat.le_of_ble_eq_true rfl) dX3_init_8 (fun E2 H locs (e_19_m_q : E2 19 m q = some (.inr (4, [.ref a1, .int 0, .int 0]))) fr hG => ?_)
  have e_20_m_q := (fr 20 m q (by omega)).1.trans e_20_m_q
  have frw := gFr.tr frw fr (fun k i j z => by omega)
  refine lv_aload_n hx hb dX3_init_11 rfl (lv_at hl 0 rfl) ?_
  refine lv_iconst (v := 0) hx hb dX3_init_12 (by decide) ?_
  refine gk_put hC hG a_19_m_q e_19_m_q rfl inlX3 tyX3 tyX3_ok nmX3 1 (by decide) kf_RX3_15 (fun _ h => h) rfl rfl rfl (Nat.le_of_ble_eq_true rfl) dX3_init_13 (fun E3 H locs (e_19_m_q : E3 19 m q = some (.inr (4, [.ref a1, .int 0, .int 0]))) fr hG => ?_)
  have e_20_m_q := (fr 20 m q (by omega)).1.trans e_20_m_q
  have frw := gFr.tr frw fr (fun k i j z => by omega)
  refine lv_aload_n hx hb dX3_init_16 rfl (lv_at hl 0 rfl) ?_
  refine lv_iconst (v := 0) hx hb dX3_init_17 (by decide) ?_
  refine gk_put hC hG a_19_m_q e_19_m_q rfl inlX3 tyX3 tyX3_ok nmX3 2 (by decide) kf_RX3_19 (fun _ h => h) rfl rfl rfl (Nat.le_of_ble_eq_true rfl) dX3_init_18 (fun E4 H locs (e_19_m_q : E4 19 m q = some (.inr (4, [.ref a1, .int 0, .int 0]))) fr hG => ?_)
  have e_20_m_q := (fr 20 m q (by omega)).1.trans e_20_m_q
  have frw := gFr.tr frw fr (fun k i j z => by omega)
  exact gq_vret hC hz hG (⟨_, frw, a_19_m_q, e_19_m_q, a_20_m_q, e_20_m_q⟩) (Nat.le_of_ble_eq_true rfl) (Nat.le_of_ble_eq_true rfl) dX3_init_21
set_option maxHeartbeats 4000000 in
set_option maxRecDepth 100000 in
theorem n_ins (l : Launch) (V : gV) (ad : gA) (E : gE) (m q : Nat) (x0 x1 x2 x3 x4 : Int32) (e_16_m_q : E 16 m q = some (.inr (3, [.int 0, .int 0, .int 0, .int 0, .int 0, .null, .null]))) : gMv l yX2_init cX2_init 6 none ({ frames := 2, cells := 4, slots := 12, locals := 40 } : Room) [.ref (ad 16 m q), .int x0, .int x1, .int x2, .int x3, .int x4] V ad E (fun ad' E' => gFr (fun k i j => (16 ≤ k ∧ k ≤ 20) ∧ i = m ∧ j = q) ad E ad' E' ∧ ad' 16 m q = ad 16 m q ∧ E' 16 m q = some (.inr (3, [.int x0, .int x1, .int x2, .int x3, .int x4, .ref (ad' 17 m q), .ref (ad' 19 m q)])) ∧ E' 17 m q = some (.inr (4, [.ref (ad' 18 m q), .int 0, .int 0])) ∧ E' 18 m q = some (.inl (V.2.1 0, 3, .inl (fun _ => 0))) ∧ E' 19 m q = some (.inr (4, [.ref (ad' 20 m q), .int 0, .int 0])) ∧ E' 20 m q = some (.inl (V.2.1 0, 3, .inl (fun _ => 0)))) := by
  intro sz
  refine g_ofN (by decide) (Nat.le_of_ble_eq_true rfl) ?_
  intro p e s m_ below meth c ls hname hC hz hG hl
  have hx := hC.1
  have hb := hC.2.1
  have hl : lv_has ls 6 [(0, .ref (ad 16 m q)), (1, .int x0), (2, .int x1), (3, .int x2), (4, .int x3), (5, .int x4)] := hl
  have a_16_m_q : ad 16 m q = ad 16 m q := rfl
  have frw : gFr (fun k i j => (16 ≤ k ∧ k ≤ 20) ∧ i = m ∧ j = q) ad E ad E := gFr.rf
  refine lv_aload_n hx hb dX2_init_0 rfl (lv_at hl 0 rfl) ?_
  refine W.objInit hx hb hC.2.2.2.1 (hC.2.2.2.2.1 _ km_RX2_3) (hC.2.2.2.2.1 _ kn_objectInit) (hC.2.2.2.2.1 _ kd_objectInit) rfl (hC.2.2.1.trans hl.1.symm).symm rfl dX2_init_1 (Nat.le_of_ble_eq_true rfl) (Nat.le_of_ble_eq_true rfl) ?_
  refine lv_aload_n hx hb dX2_init_4 rfl (lv_at hl 0 rfl) ?_
  refine gk_new hC hG (ci := 4) (fs := [.null, .int 0, .int 0]) rfl inlX3 tyX3 tyX3_ok kc_RX2_9 ki_RX3 kz_RX3 (fun j hj => by rcases (show j = 0 ∨ j = 1 ∨ j = 2 by omega) with h | h | h <;> subst h <;> rfl) (Nat.le_of_ble_eq_true rfl) (Nat.le_of_ble_eq_true rfl) dX2_init_5 17 m q (fun a1 ad1 E1 H a_17_m_q e_17_m_q fr hG => ?_)
  have e_16_m_q := (fr 16 m q (by omega)).1.trans e_16_m_q
  have a_16_m_q := (fr 16 m q (by omega)).2.trans a_16_m_q
  have frw := gFr.tr frw fr (fun k i j z => by omega)
  refine lv_dup hx hb dX2_init_8 rfl ?_
  refine gc_Nv hC hG (n_rec17 l V ad1 E1 m q e_17_m_q) (host := "TieredMachine") (by decide +kernel) kn_yX3_init kz_RX3 kd_yX3_init rfl dn_X3_init.2 rfl (by rw [a_17_m_q]; rfl) hl.1 ⟨by decide, by decide⟩ (Nat.le_of_ble_eq_true rfl) ⟨Nat.le_of_ble_eq_true rfl, Nat.le_of_ble_eq_true rfl⟩ dX2_init_9 (fun ad2 E2 H locs p_9 hG hgr => ?_)
  obtain ⟨b17, fr, h2, e_17_m_q, a_18_m_q, e_18_m_q⟩ := p_9
  have a_17_m_q := h2.trans a_17_m_q
  have e_16_m_q := (fr 16 m q (by omega)).1.trans e_16_m_q
  have a_16_m_q := (fr 16 m q (by omega)).2.trans a_16_m_q
  have frw := gFr.tr frw fr (fun k i j z => by omega)
  refine gk_putF hC hG a_16_m_q e_16_m_q rfl inlX2 tyX2 tyX2_ok nmX2 5 (by decide) kf_RX2_12 (fun _ h => h) rfl hname rfl rfl rfl (Nat.le_of_ble_eq_true rfl) dX2_init_12 (fun E3 H locs (e_16_m_q : E3 16 m q = some (.inr (3, [.int 0, .int 0, .int 0, .int 0, .int 0, .ref a1, .null]))) fr hG => ?_)
  have e_17_m_q := (fr 17 m q (by omega)).1.trans e_17_m_q
  have e_18_m_q := (fr 18 m q (by omega)).1.trans e_18_m_q
  have frw := gFr.tr frw fr (fun k i j z => by omega)
  refine lv_aload_n hx hb dX2_init_15 rfl (lv_at hl 0 rfl) ?_
  refine gk_new hC hG (ci := 4) (fs := [.null, .int 0, .int 0]) rfl inlX3 tyX3 tyX3_ok kc_RX2_9 ki_RX3 kz_RX3 (fun j hj => by rcases (show j = 0 ∨ j = 1 ∨ j = 2 by omega) with h | h | h <;> subst h <;> rfl) (Nat.le_of_ble_eq_true rfl) (Nat.le_of_ble_eq_true rfl) dX2_init_16 19 m q (fun a4 ad4 E4 H a_19_m_q e_19_m_q fr hG => ?_)
  have e_16_m_q := (fr 16 m q (by omega)).1.trans e_16_m_q
  have a_16_m_q := (fr 16 m q (by omega)).2.trans a_16_m_q
  have e_17_m_q := (fr 17 m q (by omega)).1.trans e_17_m_q
  have a_17_m_q := (fr 17 m q (by omega)).2.trans a_17_m_q
  have e_18_m_q := (fr 18 m q (by omega)).1.trans e_18_m_q
  have a_18_m_q := (fr 18 m q (by omega)).2.trans a_18_m_q
  have frw := gFr.tr frw fr (fun k i j z => by omega)
  refine lv_dup hx hb dX2_init_19 rfl ?_
  refine gc_Nv hC hG (n_rec19 l V ad4 E4 m q e_19_m_q) (host := "TieredMachine") (by decide +kernel) kn_yX3_init kz_RX3 kd_yX3_init rfl dn_X3_init.2 rfl (by rw [a_19_m_q]; rfl) hl.1 ⟨by decide, by decide⟩ (Nat.le_of_ble_eq_true rfl) ⟨Nat.le_of_ble_eq_true rfl, Nat.le_of_ble_eq_true rfl⟩ dX2_init_20 (fun ad5 E5 H locs p_20 hG hgr => ?_)
  obtain ⟨b19, fr, h2, e_19_m_q, a_20_m_q, e_20_m_q⟩ := p_20
  have a_19_m_q := h2.trans a_19_m_q
  have e_16_m_q := (fr 16 m q (by omega)).1.trans e_16_m_q
  have a_16_m_q := (fr 16 m q (by omega)).2.trans a_16_m_q
  have e_17_m_q := (fr 17 m q (by omega)).1.trans e_17_m_q
  have a_17_m_q := (fr 17 m q (by omega)).2.trans a_17_m_q
  have e_18_m_q := (fr 18 m q (by omega)).1.trans e_18_m_q
  have a_18_m_q := (fr 18 m q (by omega)).2.trans a_18_m_q
  have frw := gFr.tr frw fr (fun k i j z => by omega)
  refine gk_putF hC hG a_16_m_q e_16_m_q rfl inlX2 tyX2 tyX2_ok nmX2 6 (by decide) kf_RX2_18 (fun _ h => h) rfl hname rfl rfl rfl (Nat.le_of_ble_eq_true rfl) dX2_init_23 (fun E6 H locs (e_16_m_q : E6 16 m q = some (.inr (3, [.int 0, .int 0, .int 0, .int 0, .int 0, .ref a1, .ref a4]))) fr hG => ?_)
  have e_17_m_q := (fr 17 m q (by omega)).1.trans e_17_m_q
  have e_18_m_q := (fr 18 m q (by omega)).1.trans e_18_m_q
  have e_19_m_q := (fr 19 m q (by omega)).1.trans e_19_m_q
  have e_20_m_q := (fr 20 m q (by omega)).1.trans e_20_m_q
  have frw := gFr.tr frw fr (fun k i j z => by omega)
  refine lv_aload_n hx hb dX2_init_26 rfl (lv_at hl 0 rfl) ?_
  refine lv_iload_n hx hb dX2_init_27 rfl (lv_at hl 1 rfl) ?_
  refine gk_putF hC hG a_16_m_q e_16_m_q rfl inlX2 tyX2 tyX2_ok nmX2 0 (by decide) kf_RX2_21 (fun _ h => h) rfl hname rfl rfl rfl (Nat.le_of_ble_eq_true rfl) dX2_init_28 (fun E7 H locs (e_16_m_q : E7 16 m q = some (.inr (3, [.int x0, .int 0, .int 0, .int 0, .int 0, .ref a1, .ref a4]))) fr hG => ?_)
  have e_17_m_q := (fr 17 m q (by omega)).1.trans e_17_m_q
  have e_18_m_q := (fr 18 m q (by omega)).1.trans e_18_m_q
  have e_19_m_q := (fr 19 m q (by omega)).1.trans e_19_m_q
  have e_20_m_q := (fr 20 m q (by omega)).1.trans e_20_m_q
  have frw := gFr.tr frw fr (fun k i j z => by omega)
  refine lv_aload_n hx hb dX2_init_31 rfl (lv_at hl 0 rfl) ?_
  refine lv_iload_n hx hb dX2_init_32 rfl (lv_at hl 2 rfl) ?_
  refine gk_putF hC hG a_16_m_q e_16_m_q rfl inlX2 tyX2 tyX2_ok nmX2 1 (by decide) kf_RX2_25 (fun _ h => h) rfl hname rfl rfl rfl (Nat.le_of_ble_eq_true rfl) dX2_init_33 (fun E8 H locs (e_16_m_q : E8 16 m q = some (.inr (3, [.int x0, .int x1, .int 0, .int 0, .int 0, .ref a1, .ref a4]))) fr hG => ?_)
  have e_17_m_q := (fr 17 m q (by omega)).1.trans e_17_m_q
  have e_18_m_q := (fr 18 m q (by omega)).1.trans e_18_m_q
  have e_19_m_q := (fr 19 m q (by omega)).1.trans e_19_m_q
  have e_20_m_q := (fr 20 m q (by omega)).1.trans e_20_m_q
  have frw := gFr.tr frw fr (fun k i j z => by omega)
  refine lv_aload_n hx hb dX2_init_36 rfl (lv_at hl 0 rfl) ?_
  refine lv_iload_n hx hb dX2_init_37 rfl (lv_at hl 3 rfl) ?_
  refine gk_putF hC hG a_16_m_q e_16_m_q rfl inlX2 tyX2 tyX2_ok nmX2 2 (by decide) kf_RX2_28 (fun _ h => h) rfl hname rfl rfl rfl (Nat.le_of_ble_eq_true rfl) dX2_init_38 (fun E9 H locs (e_16_m_q : E9 16 m q = some (.inr (3, [.int x0, .int x1, .int x2, .int 0, .int 0, .ref a1, .ref a4]))) fr hG => ?_)
  have e_17_m_q := (fr 17 m q (by omega)).1.trans e_17_m_q
  have e_18_m_q := (fr 18 m q (by omega)).1.trans e_18_m_q
  have e_19_m_q := (fr 19 m q (by omega)).1.trans e_19_m_q
  have e_20_m_q := (fr 20 m q (by omega)).1.trans e_20_m_q
  have frw := gFr.tr frw fr (fun k i j z => by omega)
  refine lv_aload_n hx hb dX2_init_41 rfl (lv_at hl 0 rfl) ?_
  refine lv_iload hx hb dX2_init_42 (lv_at hl 4 rfl) ?_
  refine gk_putF hC hG a_16_m_q e_16_m_q rfl inlX2 tyX2 tyX2_ok nmX2 3 (by decide) kf_RX2_31 (fun _ h => h) rfl hname rfl rfl rfl (Nat.le_of_ble_eq_true rfl) dX2_init_44 (fun E10 H locs (e_16_m_q : E10 16 m q = some (.inr (3, [.int x0, .int x1, .int x2, .int x3, .int 0, .ref a1, .ref a4]))) fr hG => ?_)
  have e_17_m_q := (fr 17 m q (by omega)).1.trans e_17_m_q
  have e_18_m_q := (fr 18 m q (by omega)).1.trans e_18_m_q
  have e_19_m_q := (fr 19 m q (by omega)).1.trans e_19_m_q
  have e_20_m_q := (fr 20 m q (by omega)).1.trans e_20_m_q
  have frw := gFr.tr frw fr (fun k i j z => by omega)
  refine lv_aload_n hx hb dX2_init_47 rfl (lv_at hl 0 rfl) ?_
  refine lv_iload hx hb dX2_init_48 (lv_at hl 5 rfl) ?_
  refine gk_putF hC hG a_16_m_q e_16_m_q rfl inlX2 tyX2 tyX2_ok nmX2 4 (by decide) kf_RX2_34 (fun _ h => h) rfl hname rfl rfl rfl (Nat.le_of_ble_eq_true rfl) dX2_init_50 (fun E11 H locs (e_16_m_q : E11 16 m q = some (.inr (3, [.int x0, .int x1, .int x2, .int x3, .int x4, .ref a1, .ref a4]))) fr hG => ?_)
  have e_17_m_q := (fr 17 m q (by omega)).1.trans e_17_m_q
  have e_18_m_q := (fr 18 m q (by omega)).1.trans e_18_m_q
  have e_19_m_q := (fr 19 m q (by omega)).1.trans e_19_m_q
  have e_20_m_q := (fr 20 m q (by omega)).1.trans e_20_m_q
  have frw := gFr.tr frw fr (fun k i j z => by omega)
  exact gq_vret hC hz hG (⟨frw, a_16_m_q, by rw [a_17_m_q, a_19_m_q]; exact e_16_m_q, by rw [a_18_m_q]; exact e_17_m_q, e_18_m_q, by rw [a_20_m_q]; exact e_19_m_q, e_20_m_q⟩) (Nat.le_of_ble_eq_true rfl) (Nat.le_of_ble_eq_true rfl) dX2_init_53
set_option maxHeartbeats 4000000 in
set_option maxRecDepth 100000 in
theorem n_met (l : Launch) (V : gV) (ad : gA) (E : gE) (m : Nat) (e_13_m_0 : E 13 m 0 = some (.inr (5, [.null, .int 0, .int 0, .int 0]))) : gMv l yX4_init cX4_init 1 none ({ frames := 4, cells := 1, slots := 3, locals := 80 } : Room) [.ref (ad 13 m 0)] V ad E (fun ad' E' => gFr (fun k i j => (k = 13 ∨ k = 14) ∧ i = m ∧ j = 0) ad E ad' E' ∧ ad' 13 m 0 = ad 13 m 0 ∧ E' 13 m 0 = some (.inr (5, [.ref (ad' 14 m 0), .int 0, .int 0, .int 0])) ∧ E' 14 m 0 = some (.inr (0, [.int 0, .ref (V.2.2 1), .int 0]))) := by
  intro sz
  refine g_ofN (by decide) (Nat.le_of_ble_eq_true rfl) ?_
  intro p e s m_ below meth c ls hname hC hz hG hl
  have hx := hC.1
  have hb := hC.2.1
  have hl : lv_has ls 1 [(0, .ref (ad 13 m 0))] := hl
  have a_13_m_0 : ad 13 m 0 = ad 13 m 0 := rfl
  have frw : gFr (fun k i j => (k = 13 ∨ k = 14) ∧ i = m ∧ j = 0) ad E ad E := gFr.rf
  refine lv_aload_n hx hb dX4_init_0 rfl (lv_at hl 0 rfl) ?_
  refine W.objInit hx hb hC.2.2.2.1 (hC.2.2.2.2.1 _ km_RX4_3) (hC.2.2.2.2.1 _ kn_objectInit) (hC.2.2.2.2.1 _ kd_objectInit) rfl (hC.2.2.1.trans hl.1.symm).symm rfl dX4_init_1 (Nat.le_of_ble_eq_true rfl) (Nat.le_of_ble_eq_true rfl) ?_
  refine lv_aload_n hx hb dX4_init_4 rfl (lv_at hl 0 rfl) ?_
  refine gk_new hC hG (ci := 0) (fs := [.int 0, .null, .int 0]) rfl inlJx4a65c tyJx4a65c tyJx4a65c_ok kc_RX4_9 ki_RJx4a65c kz_RJx4a65c (fun j hj => by rcases (show j = 0 ∨ j = 1 ∨ j = 2 by omega) with h | h | h <;> subst h <;> rfl) (Nat.le_of_ble_eq_true rfl) (Nat.le_of_ble_eq_true rfl) dX4_init_5 14 m 0 (fun a1 ad1 E1 H a_14_m_0 e_14_m_0 fr hG => ?_)
  have e_13_m_0 := (fr 13 m 0 (by omega)).1.trans e_13_m_0
  have a_13_m_0 := (fr 13 m 0 (by omega)).2.trans a_13_m_0
  have frw := gFr.tr frw fr (fun k i j z => by omega)
  refine lv_dup hx hb dX4_init_8 rfl ?_
  refine gc_Iv hC hG (n_al l V ad1 E1 14 m e_14_m_0) km_RX4_11 kn_yJx4a65c_init_da8c8 kz_RJx4a65c kd_yJx4a65c_init_da8c8 rfl dn_Jx4a65c_init_da8c8.2 rfl (by rw [a_14_m_0]; rfl) hl.1 ⟨by decide, by decide⟩ (Nat.le_of_ble_eq_true rfl) ⟨Nat.le_of_ble_eq_true rfl, Nat.le_of_ble_eq_true rfl⟩ dX4_init_9 (fun ad2 E2 H locs p_9 hG hgr => ?_)
  obtain ⟨fr, h2, e_14_m_0⟩ := p_9
  have a_14_m_0 := h2.trans a_14_m_0
  have e_13_m_0 := (fr 13 m 0 (by omega)).1.trans e_13_m_0
  have a_13_m_0 := (fr 13 m 0 (by omega)).2.trans a_13_m_0
  have frw := gFr.tr frw fr (fun k i j z => by omega)
  refine gk_putF hC hG a_13_m_0 e_13_m_0 rfl inlX4 tyX4 tyX4_ok nmX4 0 (by decide) kf_RX4_12 (fun _ h => h) rfl hname rfl rfl rfl (Nat.le_of_ble_eq_true rfl) dX4_init_12 (fun E3 H locs (e_13_m_0 : E3 13 m 0 = some (.inr (5, [.ref a1, .int 0, .int 0, .int 0]))) fr hG => ?_)
  have e_14_m_0 := (fr 14 m 0 (by omega)).1.trans e_14_m_0
  have frw := gFr.tr frw fr (fun k i j z => by omega)
  refine lv_aload_n hx hb dX4_init_15 rfl (lv_at hl 0 rfl) ?_
  refine lv_iconst (v := 0) hx hb dX4_init_16 (by decide) ?_
  refine gk_put hC hG a_13_m_0 e_13_m_0 rfl inlX4 tyX4 tyX4_ok nmX4 1 (by decide) kf_RX4_18 (fun _ h => h) rfl rfl rfl (Nat.le_of_ble_eq_true rfl) dX4_init_17 (fun E4 H locs (e_13_m_0 : E4 13 m 0 = some (.inr (5, [.ref a1, .int 0, .int 0, .int 0]))) fr hG => ?_)
  have e_14_m_0 := (fr 14 m 0 (by omega)).1.trans e_14_m_0
  have frw := gFr.tr frw fr (fun k i j z => by omega)
  refine lv_aload_n hx hb dX4_init_20 rfl (lv_at hl 0 rfl) ?_
  refine lv_iconst (v := 0) hx hb dX4_init_21 (by decide) ?_
  refine gk_put hC hG a_13_m_0 e_13_m_0 rfl inlX4 tyX4 tyX4_ok nmX4 2 (by decide) kf_RX4_22 (fun _ h => h) rfl rfl rfl (Nat.le_of_ble_eq_true rfl) dX4_init_22 (fun E5 H locs (e_13_m_0 : E5 13 m 0 = some (.inr (5, [.ref a1, .int 0, .int 0, .int 0]))) fr hG => ?_)
  have e_14_m_0 := (fr 14 m 0 (by omega)).1.trans e_14_m_0
  have frw := gFr.tr frw fr (fun k i j z => by omega)
  refine lv_aload_n hx hb dX4_init_25 rfl (lv_at hl 0 rfl) ?_
  refine lv_iconst (v := 0) hx hb dX4_init_26 (by decide) ?_
  refine gk_put hC hG a_13_m_0 e_13_m_0 rfl inlX4 tyX4 tyX4_ok nmX4 3 (by decide) kf_RX4_25 (fun _ h => h) rfl rfl rfl (Nat.le_of_ble_eq_true rfl) dX4_init_27 (fun E6 H locs (e_13_m_0 : E6 13 m 0 = some (.inr (5, [.ref a1, .int 0, .int 0, .int 0]))) fr hG => ?_)
  have e_14_m_0 := (fr 14 m 0 (by omega)).1.trans e_14_m_0
  have frw := gFr.tr frw fr (fun k i j z => by omega)
  exact gq_vret hC hz hG (⟨frw, a_13_m_0, by rw [a_14_m_0]; exact e_13_m_0, e_14_m_0⟩) (Nat.le_of_ble_eq_true rfl) (Nat.le_of_ble_eq_true rfl) dX4_init_30
set_option maxHeartbeats 4000000 in
set_option maxRecDepth 100000 in
theorem n_fra (l : Launch) (V : gV) (ad : gA) (E : gE) (n : Nat) (e_10_n_0 : E 10 n 0 = some (.inr (1, [.null, .null, .int 0, .int 0, .int 0, .int 0]))) : gMv l yX0_init cX0_init 1 none ({ frames := 1, cells := 2, slots := 8, locals := 20 } : Room) [.ref (ad 10 n 0)] V ad E (fun ad' E' => gFr (fun k i j => (10 ≤ k ∧ k ≤ 12) ∧ i = n ∧ j = 0) ad E ad' E' ∧ ad' 10 n 0 = ad 10 n 0 ∧ E' 10 n 0 = some (.inr (1, [.ref (ad' 11 n 0), .ref (ad' 12 n 0), .int 0, .int 0, .int 0, .int 0])) ∧ E' 11 n 0 = some (.inl (V.2.1 0, 4, .inl (fun _ => 0))) ∧ E' 12 n 0 = some (.inl (V.2.1 0, 4, .inl (fun _ => 0)))) := by
  intro sz
  refine g_ofN (by decide) (Nat.le_of_ble_eq_true rfl) ?_
  intro p e s m_ below meth c ls hname hC hz hG hl
  have hx := hC.1
  have hb := hC.2.1
  have hl : lv_has ls 1 [(0, .ref (ad 10 n 0))] := hl
  have a_10_n_0 : ad 10 n 0 = ad 10 n 0 := rfl
  have frw : gFr (fun k i j => (10 ≤ k ∧ k ≤ 12) ∧ i = n ∧ j = 0) ad E ad E := gFr.rf
  refine lv_aload_n hx hb dX0_init_0 rfl (lv_at hl 0 rfl) ?_
  refine W.objInit hx hb hC.2.2.2.1 (hC.2.2.2.2.1 _ km_RX0_3) (hC.2.2.2.2.1 _ kn_objectInit) (hC.2.2.2.2.1 _ kd_objectInit) rfl (hC.2.2.1.trans hl.1.symm).symm rfl dX0_init_1 (Nat.le_of_ble_eq_true rfl) (Nat.le_of_ble_eq_true rfl) ?_
  refine lv_aload_n hx hb dX0_init_4 rfl (lv_at hl 0 rfl) ?_
  refine lv_iconst (v := (nI 4)) hx hb dX0_init_5 (by decide) ?_
  refine gk_newa hC hG (atype := .int) (ty := .int) (t0 := 0) (a0 := (4, .inl (fun _ => 0))) ka__int rfl rfl (fun C h => by cases h) (by rw [vp_cell_i]; rfl) (nI_pos (by decide)) (nI_clamp (by decide)) (by decide) (Nat.le_of_ble_eq_true rfl) (Nat.le_of_ble_eq_true rfl) dX0_init_6 11 n 0 (fun a1 ad1 E1 H a_11_n_0 e_11_n_0 fr hG => ?_)
  have e_10_n_0 := (fr 10 n 0 (by omega)).1.trans e_10_n_0
  have a_10_n_0 := (fr 10 n 0 (by omega)).2.trans a_10_n_0
  have frw := gFr.tr frw fr (fun k i j z => by omega)
  refine gk_putF hC hG a_10_n_0 e_10_n_0 rfl inlX0 tyX0 tyX0_ok nmX0 0 (by decide) kf_RX0_9 (fun _ h => h) rfl hname rfl rfl rfl (Nat.le_of_ble_eq_true rfl) dX0_init_8 (fun E2 H locs (e_10_n_0 : E2 10 n 0 = some (.inr (1, [.ref a1, .null, .int 0, .int 0, .int 0, .int 0]))) fr hG => ?_)
  have e_11_n_0 := (fr 11 n 0 (by omega)).1.trans e_11_n_0
  have frw := gFr.tr frw fr (fun k i j z => by omega)
  refine lv_aload_n hx hb dX0_init_11 rfl (lv_at hl 0 rfl) ?_
  refine lv_iconst (v := (nI 4)) hx hb dX0_init_12 (by decide) ?_
  refine gk_newa hC hG (atype := .int) (ty := .int) (t0 := 0) (a0 := (4, .inl (fun _ => 0))) ka__int rfl rfl (fun C h => by cases h) (by rw [vp_cell_i]; rfl) (nI_pos (by decide)) (nI_clamp (by decide)) (by decide) (Nat.le_of_ble_eq_true rfl) (Nat.le_of_ble_eq_true rfl) dX0_init_13 12 n 0 (fun a3 ad3 E3 H a_12_n_0 e_12_n_0 fr hG => ?_)
  have e_10_n_0 := (fr 10 n 0 (by omega)).1.trans e_10_n_0
  have a_10_n_0 := (fr 10 n 0 (by omega)).2.trans a_10_n_0
  have e_11_n_0 := (fr 11 n 0 (by omega)).1.trans e_11_n_0
  have a_11_n_0 := (fr 11 n 0 (by omega)).2.trans a_11_n_0
  have frw := gFr.tr frw fr (fun k i j z => by omega)
  refine gk_putF hC hG a_10_n_0 e_10_n_0 rfl inlX0 tyX0 tyX0_ok nmX0 1 (by decide) kf_RX0_15 (fun _ h => h) rfl hname rfl rfl rfl (Nat.le_of_ble_eq_true rfl) dX0_init_15 (fun E4 H locs (e_10_n_0 : E4 10 n 0 = some (.inr (1, [.ref a1, .ref a3, .int 0, .int 0, .int 0, .int 0]))) fr hG => ?_)
  have e_11_n_0 := (fr 11 n 0 (by omega)).1.trans e_11_n_0
  have e_12_n_0 := (fr 12 n 0 (by omega)).1.trans e_12_n_0
  have frw := gFr.tr frw fr (fun k i j z => by omega)
  refine lv_aload_n hx hb dX0_init_18 rfl (lv_at hl 0 rfl) ?_
  refine lv_iconst (v := 0) hx hb dX0_init_19 (by decide) ?_
  refine gk_put hC hG a_10_n_0 e_10_n_0 rfl inlX0 tyX0 tyX0_ok nmX0 2 (by decide) kf_RX0_18 (fun _ h => h) rfl rfl rfl (Nat.le_of_ble_eq_true rfl) dX0_init_20 (fun E5 H locs (e_10_n_0 : E5 10 n 0 = some (.inr (1, [.ref a1, .ref a3, .int 0, .int 0, .int 0, .int 0]))) fr hG => ?_)
  have e_11_n_0 := (fr 11 n 0 (by omega)).1.trans e_11_n_0
  have e_12_n_0 := (fr 12 n 0 (by omega)).1.trans e_12_n_0
  have frw := gFr.tr frw fr (fun k i j z => by omega)
  refine lv_aload_n hx hb dX0_init_23 rfl (lv_at hl 0 rfl) ?_
  refine lv_iconst (v := 0) hx hb dX0_init_24 (by decide) ?_
  refine gk_put hC hG a_10_n_0 e_10_n_0 rfl inlX0 tyX0 tyX0_ok nmX0 3 (by decide) kf_RX0_22 (fun _ h => h) rfl rfl rfl (Nat.le_of_ble_eq_true rfl) dX0_init_25 (fun E6 H locs (e_10_n_0 : E6 10 n 0 = some (.inr (1, [.ref a1, .ref a3, .int 0, .int 0, .int 0, .int 0]))) fr hG => ?_)
  have e_11_n_0 := (fr 11 n 0 (by omega)).1.trans e_11_n_0
  have e_12_n_0 := (fr 12 n 0 (by omega)).1.trans e_12_n_0
  have frw := gFr.tr frw fr (fun k i j z => by omega)
  refine lv_aload_n hx hb dX0_init_28 rfl (lv_at hl 0 rfl) ?_
  refine lv_iconst (v := 0) hx hb dX0_init_29 (by decide) ?_
  refine gk_put hC hG a_10_n_0 e_10_n_0 rfl inlX0 tyX0 tyX0_ok nmX0 4 (by decide) kf_RX0_25 (fun _ h => h) rfl rfl rfl (Nat.le_of_ble_eq_true rfl) dX0_init_30 (fun E7 H locs (e_10_n_0 : E7 10 n 0 = some (.inr (1, [.ref a1, .ref a3, .int 0, .int 0, .int 0, .int 0]))) fr hG => ?_)
  have e_11_n_0 := (fr 11 n 0 (by omega)).1.trans e_11_n_0
  have e_12_n_0 := (fr 12 n 0 (by omega)).1.trans e_12_n_0
  have frw := gFr.tr frw fr (fun k i j z => by omega)
  refine lv_aload_n hx hb dX0_init_33 rfl (lv_at hl 0 rfl) ?_
  refine lv_iconst (v := 0) hx hb dX0_init_34 (by decide) ?_
  refine gk_put hC hG a_10_n_0 e_10_n_0 rfl inlX0 tyX0 tyX0_ok nmX0 5 (by decide) kf_RX0_28 (fun _ h => h) rfl rfl rfl (Nat.le_of_ble_eq_true rfl) dX0_init_35 (fun E8 H locs (e_10_n_0 : E8 10 n 0 = some (.inr (1, [.ref a1, .ref a3, .int 0, .int 0, .int 0, .int 0]))) fr hG => ?_)
  have e_11_n_0 := (fr 11 n 0 (by omega)).1.trans e_11_n_0
  have e_12_n_0 := (fr 12 n 0 (by omega)).1.trans e_12_n_0
  have frw := gFr.tr frw fr (fun k i j z => by omega)
  exact gq_vret hC hz hG (⟨frw, a_10_n_0, by rw [a_11_n_0, a_12_n_0]; exact e_10_n_0, e_11_n_0, e_12_n_0⟩) (Nat.le_of_ble_eq_true rfl) (Nat.le_of_ble_eq_true rfl) dX0_init_38
