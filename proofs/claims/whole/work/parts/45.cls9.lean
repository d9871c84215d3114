theorem nI_dec {n : Nat} (h : 0 < n) : nI n + Int32.ofInt (-1) = nI (n - 1) := by
  rw [← nI_sub (b := 1) h, Int32.sub_eq_add_neg]
  rfl
/-- the class's state T beside the reference's S, in an execution that began with S0 -/
def cJ (mo : Nat) (S0 : rS) (nc nm : Nat) (S T : rS) (f : Nat) : Prop := (∃ n, sp_loop mo n S0 = S) ∧ rI S nc nm ∧ rF S nc nm f ∧ rQ S ∧ er T = er S ∧ gF S T f
theorem rI_er {S T : rS} {nc nm : Nat} (he : er T = er S) (h : rI S nc nm) : rI T nc nm := rI_congr (er_f he (by decide) (by decide) (by decide) (by decide)) (er_f he (by decide) (by decide) (by decide) (by decide)) (er_f he (by decide) (by decide) (by decide) (by decide)) (er_f he (by decide) (by decide) (by decide) (by decide)) (er_f he (by decide) (by decide) (by decide) (by decide)) (er_f he (by decide) (by decide) (by decide) (by decide)) (er_f he (by decide) (by decide) (by decide) (by decide)) (er_f he (by decide) (by decide) (by decide) (by decide)) (er_f he (by decide) (by decide) (by decide) (by decide)) h
theorem rI_cnm {T : rS} {nc nm : Nat} (h : rI T nc nm) : cnm T = nm := by
  have := h.2.2.2.1
  unfold cnm
  rw [h.2.2.1]
  exact tn_nI (by omega)
theorem cJ_not {mo : Nat} {S : rS} {f : Nat} (hr : S.1 17 0 = nI (f + 1)) (hf : f < 20) (h25 : S.1 25 0 = 0) (h27 : S.1 27 0 ≠ nI mo) : ¬ s_stop mo S := by
  rintro (h | h | h)
  · rw [hr] at h
    have := (nI_eq (a := f + 1) (b := 0) (by omega) (by decide)).mp h
    omega
  · exact h h25
  · exact h27 h
theorem cJ_fin {mo nc nm f m q : Nat} {S0 S T : rS} (hJ : cJ mo S0 nc nm S T (f + 1)) (h25 : S.1 25 0 = 0) (h27 : S.1 27 0 ≠ nI mo) (h18 : S.1 18 f = nI m) (hm : m < 12) (h19 : S.1 19 f = nI q) (hq20 : q ≤ 20) (hq : ¬ q < tn (S.1 5 m)) : cJ mo S0 nc nm (sp_finish S f (-1) 0) (c_end T f (-1) 0) f ∧ (sp_finish S f (-1) 0).1 25 = S.1 25 ∧ (sp_finish S f (-1) 0).1 27 = S.1 27 := by
  obtain ⟨h1, h2, h3, h4, h5, h6⟩ := hJ
  have hf : f < 20 := by have := h3.2.1; omega
  have hone : sp_one S = sp_finish S f (-1) 0 := by
    unfold sp_one
    rw [h3.1, tn_nI (by omega), Nat.add_sub_cancel, h19, tn_nI (by omega), h18, tn_nI (by omega), if_neg hq]
  have hl := sp_loop_more h1 (cJ_not h3.1 hf h25 h27)
  rw [hone] at hl
  have hr := rel_fin (k := -1) (v := 0) h5 h6
  have hF : rF (sp_finish S f (-1) 0) nc nm f := rF_finish (x := 0) h2 h3 (Nat.zero_le _) (fun z => absurd rfl z)
  exact ⟨⟨hl, rI_finish h2, hF, rQ_finish h4, hr.1, hr.2⟩, sp_finish_f (by decide) (by decide) (by decide) (by decide) (by decide) (by decide), sp_finish_f (by decide) (by decide) (by decide) (by decide) (by decide) (by decide)⟩
theorem cJ_step {mo nc nm f m q : Nat} {S0 S T : rS} (hJ : cJ mo S0 nc nm S T (f + 1)) (h25 : S.1 25 0 = 0) (h27 : S.1 27 0 ≠ nI mo) (h18 : S.1 18 f = nI m) (hm : m < nm) (h19 : S.1 19 f = nI q) (hq : q < tn (S.1 5 m)) : ∃ f', cJ mo S0 nc nm (sp_step S f) (c_step T f) f' ∧ (sp_step S f).1 27 0 = S.1 27 0 + 1 := by
  obtain ⟨h1, h2, h3, h4, h5, h6⟩ := hJ
  have hf : f < 20 := by have := h3.2.1; omega
  have hnm := h2.2.2.2.1
  obtain ⟨z, hz, ez, -, hins⟩ := h2.2.2.2.2.2.1 m (by omega)
  have etz : tn (S.1 5 m) = z := by rw [ez]; exact tn_nI (by omega)
  have e18 : tn (S.1 18 f) = m := by rw [h18]; exact tn_nI (by omega)
  have e19 : tn (S.1 19 f) = q := by rw [h19]; exact tn_nI (by omega)
  have hone : sp_one S = sp_step S f := by
    unfold sp_one
    rw [h3.1, tn_nI (by omega), Nat.add_sub_cancel, e18, e19, if_pos hq]
  have hl := sp_loop_more h1 (cJ_not h3.1 hf h25 h27)
  rw [hone] at hl
  obtain ⟨f1, g1, g2⟩ := rJ_step h2 h3 hm h18 h19 ez hz (by omega)
  obtain ⟨r1, f2, r2, r3, r4⟩ := rel_step e18 e19 h3.1 hf h5 h6
  have hff : f1 = f2 := (nI_eq (by have := g2.2.1; omega) (by omega)).mp (g2.1.symm.trans r2)
  subst hff
  exact ⟨f1, ⟨hl, g1, g2, rQ_step h2 h3 (by omega) e18 e19 hq h4, r1, r4⟩, s27_step⟩
theorem cJ_aw {mo nc nm f : Nat} {S0 S T : rS} (hJ : cJ mo S0 nc nm S T (f + 1)) : f ≠ 0 → ∃ a : Nat, a < 4 ∧ T.1 29 (f - 1) = nI a := by
  intro hf0
  obtain ⟨h1, hI, hF, h4, h5, h6⟩ := hJ
  obtain ⟨m1, q1, g1, g2, g3, g4, g5⟩ := hF.2.2.1 (f - 1) (by omega)
  obtain ⟨g6, g7⟩ := g5 (by omega)
  have hnm := hI.2.2.2.1
  obtain ⟨z1, k1, k2, -, k4⟩ := hI.2.2.2.2.2.1 m1 (by omega)
  rw [k2, tn_nI (by omega)] at g6
  obtain ⟨kk, j1, j2, ⟨a1, j3, j4, j5⟩, -⟩ := k4 q1 g6
  have j6 : kk = 5 := (nI_eq (by omega) (by decide)).mp (j2.symm.trans g7)
  refine ⟨a1, j5 (by omega), ?_⟩
  rw [((h6 (f - 1) (by omega)).1 (by omega)).2, g3, g4, tn_nI (by omega), tn_nI (by omega)]
  exact j3
theorem nI_ltn {a b : Nat} (ha : a < 2 ^ 31) (hb : b < 2 ^ 31) (h : nI a < nI b) : a < b := by
  rw [Int32.lt_iff_toInt_lt, nI_toInt ha, nI_toInt hb] at h
  omega
set_option maxHeartbeats 4000000 in
set_option maxRecDepth 100000 in
theorem c5_existingMethod (l : Launch) (V : gV) (ad : gA) (T : rS) (m : Nat) (hm : m < cnm T) (hm12 : cnm T ≤ 12) : kMr l yX5_existingMethod cX5_existingMethod 2 (some (.object "TieredMachine$Method")) ({ frames := 3, cells := 0, slots := 0, locals := 64 } : Room) [.ref (ad 0 0 0), .int (nI m)] V ad T (fun r T' => r = ad 13 m 0 ∧ T' = T) := by
  refine kMr.of (by decide) (Nat.le_of_ble_eq_true rfl) ?_
  intro p e s m_ below meth c ls E sz hC hz hW hl
  have hx := hC.1
  have hb := hC.2.1
  have hl : lv_has ls 2 [(0, .ref (ad 0 0 0)), (1, .int (nI m))] := hl
  refine lv_iload_n hx hb dX5_existingMethod_0 rfl (lv_at hl 1 rfl) ?_
  refine lv_if_lt (tgt := 15) hx hb dX5_existingMethod_1 (by decide) (fun c_1 => absurd c_1 (nI_pos (by omega))) (fun c_1 => ?_)
  refine lv_iload_n hx hb dX5_existingMethod_4 rfl (lv_at hl 1 rfl) ?_
  refine lv_aload_n hx hb dX5_existingMethod_5 rfl (lv_at hl 0 rfl) ?_
  refine kg_tm_1 hC hW kf_RX5_19 dX5_existingMethod_6 ?_
  refine kc_Vi hC hW (kv_ml ) rfl (kc_size_ml l V ad _) km_RX5_70 kn_yJx4a65c_size_8abf5 ks_yJx4a65c_size_8abf5 kz_RJx4a65c kd_yJx4a65c_size_8abf5 dn_Jx4a65c_size_8abf5 rfl hl.1 ⟨by decide, by decide⟩ (Nat.le_of_ble_eq_true rfl) ⟨by decide, by decide⟩ dX5_existingMethod_9 (fun r_9 T_9 H locs p_9 hW => ?_)
  obtain ⟨q_9, p_9⟩ := p_9
  rw [p_9] at hW
  refine gq_top (nI (cnm T)) (q_9) ?_
  refine gn_icmp_lt (tgt := 25) hx hb (by omega) (by omega) dX5_existingMethod_12 (by decide) (fun c_12 => ?_) (fun c_12 => absurd c_12 (by omega))
  refine lv_aload_n hx hb dX5_existingMethod_25 rfl (lv_at hl 0 rfl) ?_
  refine kg_tm_1 hC hW kf_RX5_19 dX5_existingMethod_26 ?_
  refine lv_iload_n hx hb dX5_existingMethod_29 rfl (lv_at hl 1 rfl) ?_
  refine kc_Vr hC hW (kv_ml ) rfl (kc_get_ml l V ad _ hm) km_RX5_120 kn_yJx4a65c_get_915e3 ks_yJx4a65c_get_915e3 kz_RJx4a65c kd_yJx4a65c_get_915e3 dn_Jx4a65c_get_915e3 rfl hl.1 ⟨by decide, by decide⟩ (Nat.le_of_ble_eq_true rfl) ⟨by decide, by decide⟩ dX5_existingMethod_30 (fun r_30 T_30 H locs p_30 hW => ?_)
  obtain ⟨q_30, p_30⟩ := p_30
  rw [p_30] at hW
  rw [q_30]
  refine kx_cast hC hW (kv_me hm) rfl kc_RX5_76 dX5_existingMethod_33 ?_
  exact kr_aret hC (Or.inl ⟨_, rfl⟩) hz hW (⟨rfl, rfl⟩) (by decide) (by decide) dX5_existingMethod_36
set_option maxHeartbeats 4000000 in
set_option maxRecDepth 100000 in
theorem c5_endFinishedMethods (l : Launch) (V : gV) (ad : gA) (T : rS) (mo : Nat) (S0 S : rS) (nc nm f : Nat) (cn : Int32) (hJ : cJ mo S0 nc nm S T f) (h25 : S.1 25 0 = 0) (h27 : S.1 27 0 = cn) (hcn : cn ≠ nI mo) : kMv l yX5_endFinishedMethods cX5_endFinishedMethods 3 none ({ frames := 3, cells := 0, slots := 0, locals := 64 } : Room) [.ref (ad 0 0 0)] V ad T (fun T' => ∃ (S' : rS) (f' : Nat), cJ mo S0 nc nm S' T' f' ∧ S'.1 25 0 = 0 ∧ S'.1 27 0 = cn ∧ (f' = 0 ∨ ∃ m q : Nat, m < nm ∧ S'.1 18 (f' - 1) = nI m ∧ S'.1 19 (f' - 1) = nI q ∧ q < tn (S'.1 5 m) ∧ f' ≠ 0)) := by
  refine kMv.of (by decide) (Nat.le_of_ble_eq_true rfl) ?_
  intro p e s m_ below meth c ls E sz hC hz hW hl
  have hx := hC.1
  have hb := hC.2.1
  have hl : lv_has ls 3 [(0, .ref (ad 0 0 0))] := hl
  refine lv_aload_n hx hb dX5_endFinishedMethods_0 rfl (lv_at hl 0 rfl) ?_
  refine kg_tm_6 hC hW kf_RX5_158 dX5_endFinishedMethods_1 ?_
  refine gq_top (nI f) ((congrFun (er_f (k := 17) hJ.2.2.2.2.1 (by decide) (by decide) (by decide) (by decide)) 0).trans hJ.2.2.1.1) ?_
  refine lv_istore_n (lv' := [(1, .int (nI f)), (0, .ref (ad 0 0 0))]) hx hb dX5_endFinishedMethods_4 rfl hl (by decide) rfl (fun ls hl => ?_)
  refine g_loop (T := Nat) (fun xx H locs ls => (∃ S T : rS, cJ mo S0 nc nm S T xx ∧ S.1 25 0 = 0 ∧ S.1 27 0 = cn ∧ cmW V (gAd ad E sz) s.heap ad E T H locs) ∧ lv_has ls 3 [(1, .int (nI xx)), (0, .ref (ad 0 0 0))]) (fun xx => xx) (fun xx ih H locs ls hI => ?_) (f) ⟨⟨S, T, hJ, h25, h27, hW⟩, lv_sub hl [0, 1] rfl⟩
  obtain ⟨⟨S, T, hJ, h25, h27, hW⟩, hl⟩ := hI
  have hx20 := hJ.2.2.1.2.1
  refine lv_iload_n hx hb dX5_endFinishedMethods_5 rfl (lv_at hl 0 rfl) ?_
  refine gn_if_le (tgt := 55) hx hb (by omega) dX5_endFinishedMethods_6 (by decide) (fun c_6 => ?_) (fun c_6 => ?_)
  · exact kr_vret hC hz hW (⟨S, xx, hJ, h25, h27, Or.inl (by omega)⟩) (by decide) (by decide) dX5_endFinishedMethods_55
  · have hx20 : xx - 1 < 20 := by omega
    have hx1 : xx - 1 + 1 = xx := by omega
    have hJ1 : cJ mo S0 nc nm S T (xx - 1 + 1) := by rw [hx1]; exact hJ
    have he := hJ.2.2.2.2.1
    have hnm := hJ.2.1.2.2.2.1
    obtain ⟨m, q, hmn, hq20, f18, f19, -⟩ := hJ.2.2.1.2.2.1 (xx - 1) (by omega)
    have ecn := rI_cnm (rI_er he hJ.2.1)
    have hm : m < cnm T := by omega
    have e18 : T.1 18 (xx - 1) = nI m := by rw [er_f (k := 18) he (by decide) (by decide) (by decide) (by decide)]; exact f18
    have e19 : T.1 19 (xx - 1) = nI q := ((hJ.2.2.2.2.2 (xx - 1) (by omega)).2 (by omega)).trans f19
    have hr : T.1 17 0 = nI (xx - 1 + 1) := by rw [er_f (k := 17) he (by decide) (by decide) (by decide) (by decide), hx1]; exact hJ.2.2.1.1
    have e5 : csz T m = tn (S.1 5 m) := by unfold csz; rw [er_f (k := 5) he (by decide) (by decide) (by decide) (by decide)]
    obtain ⟨z, hz20, ez, -, -⟩ := hJ.2.1.2.2.2.2.2.1 m (by omega)
    have etz : tn (S.1 5 m) = z := by rw [ez]; exact tn_nI (by omega)
    refine lv_aload_n hx hb dX5_endFinishedMethods_9 rfl (lv_at hl 1 rfl) ?_
    refine kg_tm_5 hC hW kf_RX5_35 dX5_endFinishedMethods_10 ?_
    refine lv_iload_n hx hb dX5_endFinishedMethods_13 rfl (lv_at hl 0 rfl) ?_
    refine lv_iconst (v := 1) hx hb dX5_endFinishedMethods_14 (by decide) ?_
    refine lv_isub hx hb dX5_endFinishedMethods_15 ?_
    refine gq_top (nI (xx - 1)) (nI_sub (b := 1) (by omega)) ?_
    refine ka_fra hC hW (by omega) dX5_endFinishedMethods_16 ?_
    refine lv_astore_n (lv' := [(2, .ref (ad 10 (xx - 1) 0)), (1, .int (nI xx)), (0, .ref (ad 0 0 0))]) hx hb dX5_endFinishedMethods_17 rfl hl (by decide) rfl (fun ls hl => ?_)
    refine lv_aload_n hx hb dX5_endFinishedMethods_18 rfl (lv_at hl 2 rfl) ?_
    refine kg_tm_1 hC hW kf_RX5_19 dX5_endFinishedMethods_19 ?_
    refine lv_aload_n hx hb dX5_endFinishedMethods_22 rfl (lv_at hl 0 rfl) ?_
    refine kg_fr_2 hC hW hx20 kf_RX5_253 dX5_endFinishedMethods_23 ?_
    refine gq_top (nI m) (e18) ?_
    refine kc_Vr hC hW (kv_ml ) rfl (kc_get_ml l V ad _ hm) km_RX5_120 kn_yJx4a65c_get_915e3 ks_yJx4a65c_get_915e3 kz_RJx4a65c kd_yJx4a65c_get_915e3 dn_Jx4a65c_get_915e3 rfl hl.1 ⟨by decide, by decide⟩ (Nat.le_of_ble_eq_true rfl) ⟨by decide, by decide⟩ dX5_endFinishedMethods_26 (fun r_26 T_26 H locs p_26 hW => ?_)
    obtain ⟨q_26, p_26⟩ := p_26
    rw [p_26] at hW
    rw [q_26]
    refine kx_cast hC hW (kv_me hm) rfl kc_RX5_76 dX5_endFinishedMethods_29 ?_
    refine lv_aload_n hx hb dX5_endFinishedMethods_32 rfl (lv_at hl 0 rfl) ?_
    refine kg_fr_4 hC hW hx20 kf_RX5_256 dX5_endFinishedMethods_33 ?_
    refine gq_top (nI q) (e19) ?_
    refine kc_Vi hC hW (kv_me hm) rfl (c4_hasPlace l V ad _ m hm (nI q)) km_RX5_215 kn_yX4_hasPlace ks_yX4_hasPlace kz_RX4 kd_yX4_hasPlace dn_X4_hasPlace rfl hl.1 ⟨by decide, by decide⟩ (Nat.le_of_ble_eq_true rfl) ⟨by decide, by decide⟩ dX5_endFinishedMethods_36 (fun r_36 T_36 H locs p_36 hW => ?_)
    obtain ⟨q_36, p_36⟩ := p_36
    rw [p_36] at hW
    refine gq_top (rb (¬ nI q < 0 ∧ nI q < nI (csz T m))) (q_36) ?_
    refine lv_if_eq (tgt := 43) hx hb dX5_endFinishedMethods_39 (by decide) (fun c_39 => ?_) (fun c_39 => ?_)
    · have hq : ¬ q < tn (S.1 5 m) := fun z => rb_n c_39 ⟨nI_pos (by omega), nI_lt (by omega) (by omega)⟩
      refine lv_aload_n hx hb dX5_endFinishedMethods_43 rfl (lv_at hl 2 rfl) ?_
      refine lv_iconst (v := 0) hx hb dX5_endFinishedMethods_44 (by decide) ?_
      refine lv_iconst (v := (-1)) hx hb dX5_endFinishedMethods_45 (by decide) ?_
      refine kc_Vv hC hW (kv_tm ) rfl (c5_end l V ad _ (xx - 1) (by omega) hr (cJ_aw hJ1) 0 (-1)) km_RX5_259 kn_yX5_end ks_yX5_end kz_RX5 kd_yX5_end dn_X5_end rfl hl.1 ⟨by decide, by decide⟩ (Nat.le_of_ble_eq_true rfl) ⟨by decide, by decide⟩ dX5_endFinishedMethods_46 (fun T_46 H locs p_46 hW => ?_)
      subst p_46
      refine lv_iinc (v := nI (xx - 1)) (lv' := [(1, .int (nI (xx - 1))), (2, .ref (ad 10 (xx - 1) 0)), (0, .ref (ad 0 0 0))]) hx hb dX5_endFinishedMethods_49 hl (k := 1) rfl (nI_dec (by omega)) (by decide) rfl (fun ls hl => ?_)
      refine lv_goto (tgt := 5) hx hb dX5_endFinishedMethods_52 (by decide) ?_
      obtain ⟨k1, k2, k3⟩ := cJ_fin hJ1 h25 (by rw [h27]; exact hcn) f18 (by omega) f19 hq20 hq
      exact ih (xx - 1) (by omega) _ _ _ ⟨⟨_, _, k1, by rw [k2]; exact h25, by rw [k3]; exact h27, hW⟩, lv_sub hl [0, 2] rfl⟩
    · exact kr_vret hC hz hW (⟨S, xx, hJ, h25, h27, Or.inr ⟨m, q, hmn, f18, f19, by rw [← e5]; exact nI_ltn (by omega) (by omega) (rb_t c_39).2, by omega⟩⟩) (by decide) (by decide) dX5_endFinishedMethods_42
