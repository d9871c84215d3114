set_option maxHeartbeats 4000000 in
set_option maxRecDepth 100000 in
theorem c5_disappoint (l : Launch) (V : gV) (ad : gA) (T : rS) (f m : Nat) (hf : f < 20) (hr : T.1 17 0 = nI (f + 1)) (hm : m < cnm T) : kMv l yX5_disappoint cX5_disappoint 4 none ({ frames := 3, cells := 0, slots := 0, locals := 64 } : Room) [.ref (ad 0 0 0), .int (nI m)] V ad T (fun T' => T' = sp_dis T f m) := by
  refine kMv.of (by decide) (Nat.le_of_ble_eq_true rfl) ?_
  intro p e s m_ below meth c ls E sz hC hz hW hl
  have hx := hC.1
  have hb := hC.2.1
  have hl : lv_has ls 4 [(0, .ref (ad 0 0 0)), (1, .int (nI m))] := hl
  refine lv_aload_n hx hb dX5_disappoint_0 rfl (lv_at hl 0 rfl) ?_
  refine kg_tm_1 hC hW kf_RX5_19 dX5_disappoint_1 ?_
  refine lv_iload_n hx hb dX5_disappoint_4 rfl (lv_at hl 1 rfl) ?_
  refine kc_Vr hC hW (kv_ml ) rfl (kc_get_ml l V ad _ hm) km_RX5_120 kn_yJx4a65c_get_915e3 ks_yJx4a65c_get_915e3 kz_RJx4a65c kd_yJx4a65c_get_915e3 dn_Jx4a65c_get_915e3 rfl hl.1 ⟨by decide, by decide⟩ (Nat.le_of_ble_eq_true rfl) ⟨by decide, by decide⟩ dX5_disappoint_5 (fun r_5 T_5 H locs p_5 hW => ?_)
  obtain ⟨q_5, p_5⟩ := p_5
  rw [p_5] at hW
  rw [q_5]
  refine kx_cast hC hW (kv_me hm) rfl kc_RX5_76 dX5_disappoint_8 ?_
  refine lv_astore_n (lv' := [(2, .ref (ad 13 m 0)), (0, .ref (ad 0 0 0)), (1, .int (nI m))]) hx hb dX5_disappoint_11 rfl hl (by decide) rfl (fun ls hl => ?_)
  refine lv_aload_n hx hb dX5_disappoint_12 rfl (lv_at hl 0 rfl) ?_
  refine lv_dup hx hb dX5_disappoint_13 rfl ?_
  refine kg_me_3 hC hW hm kf_RX5_186 dX5_disappoint_14 ?_
  refine lv_iconst (v := 1) hx hb dX5_disappoint_17 (by decide) ?_
  refine lv_iadd hx hb dX5_disappoint_18 ?_
  refine kp_me_3 hC hW hm kf_RX5_186 dX5_disappoint_19 (fun H locs hW => ?_)
  refine lv_aload_n hx hb dX5_disappoint_22 rfl (lv_at hl 0 rfl) ?_
  refine kc_Vv hC hW (kv_me hm) rfl (c4_cool l V ad _ m hm) km_RX5_131 kn_yX4_cool ks_yX4_cool kz_RX4 kd_yX4_cool dn_X4_cool rfl hl.1 ⟨by decide, by decide⟩ (Nat.le_of_ble_eq_true rfl) ⟨by decide, by decide⟩ dX5_disappoint_23 (fun T_23 H locs p_23 hW => ?_)
  subst p_23
  refine lv_aload_n hx hb dX5_disappoint_26 rfl (lv_at hl 1 rfl) ?_
  refine kg_tm_13 hC hW kf_RX5_43 dX5_disappoint_27 ?_
  refine lv_iconst (v := (nI 2)) hx hb dX5_disappoint_30 (by decide) ?_
  refine lv_dup2_11 hx hb dX5_disappoint_31 rfl rfl ?_
  refine ka_tot hC hW (by omega) dX5_disappoint_32 ?_
  refine lv_lconst (v := 1) hx hb dX5_disappoint_33 (by decide) ?_
  refine lv_ladd hx hb dX5_disappoint_34 ?_
  refine ks_tot hC hW (by omega) dX5_disappoint_35 (fun H locs hW => ?_)
  refine lv_iconst (v := (nI 0)) hx hb dX5_disappoint_36 (by decide) ?_
  refine lv_istore_n (lv' := [(3, .int ((nI 0))), (2, .ref (ad 13 m 0)), (0, .ref (ad 0 0 0)), (1, .int (nI m))]) hx hb dX5_disappoint_37 rfl hl (by decide) rfl (fun ls hl => ?_)
  refine g_loop (T := Nat) (fun xx H locs ls => xx ≤ f + 1 ∧ cmW V (gAd ad E sz) s.heap ad E (s_ft (sl (s_di0 T m) 16 (va_up (T.2 16) 2 (T.2 16 2 + 1))) m xx) H locs ∧ lv_has ls 4 [(3, .int (nI xx)), (2, .ref (ad 13 m 0)), (0, .ref (ad 0 0 0)), (1, .int (nI m))]) (fun xx => f + 1 - xx) (fun xx ih H locs ls hI => ?_) (0) ⟨by omega, (by rw [s_ft_0]; exact hW), lv_sub hl [0, 1, 2, 3] rfl⟩
  obtain ⟨hxf, hW, hl⟩ := hI
  refine lv_iload_n hx hb dX5_disappoint_38 rfl (lv_at hl 0 rfl) ?_
  refine lv_aload_n hx hb dX5_disappoint_39 rfl (lv_at hl 2 rfl) ?_
  refine kg_tm_6 hC hW kf_RX5_158 dX5_disappoint_40 ?_
  refine gq_top (nI (f + 1)) (hr) ?_
  refine gn_icmp_ge (tgt := 75) hx hb (by omega) (by omega) dX5_disappoint_43 (by decide) (fun c_43 => ?_) (fun c_43 => ?_)
  · rw [show xx = f + 1 by omega] at hW
    exact kr_vret hC hz hW (rfl) (by decide) (by decide) dX5_disappoint_75
  · refine lv_aload_n hx hb dX5_disappoint_46 rfl (lv_at hl 2 rfl) ?_
    refine kg_tm_5 hC hW kf_RX5_35 dX5_disappoint_47 ?_
    refine lv_iload_n hx hb dX5_disappoint_50 rfl (lv_at hl 0 rfl) ?_
    refine ka_fra hC hW (by omega) dX5_disappoint_51 ?_
    refine kg_fr_2 hC hW (show xx < 20 by omega) kf_RX5_253 dX5_disappoint_52 ?_
    refine lv_iload_n hx hb dX5_disappoint_55 rfl (lv_at hl 3 rfl) ?_
    refine lv_icmp_ne (tgt := 69) hx hb dX5_disappoint_56 (by decide) (fun c_56 => ?_) (fun c_56 => ?_)
    · refine lv_iinc (v := (nI (xx + 1))) (lv' := [(3, .int ((nI (xx + 1)))), (2, .ref (ad 13 m 0)), (0, .ref (ad 0 0 0)), (1, .int (nI m))]) hx hb dX5_disappoint_69 hl (k := 0) rfl (nI_1 xx) (by decide) rfl (fun ls hl => ?_)
      refine lv_goto (tgt := 38) hx hb dX5_disappoint_72 (by decide) ?_
      refine ih (xx + 1) (by omega) _ _ _ ⟨by omega, ?_, lv_sub hl [0, 1, 2, 3] rfl⟩
      rw [← s_ft_n (show ¬ (sl (s_di0 T m) 16 (va_up (T.2 16) 2 (T.2 16 2 + 1))).1 18 xx = nI m from c_56)]
      exact hW
    · refine lv_aload_n hx hb dX5_disappoint_59 rfl (lv_at hl 2 rfl) ?_
      refine kg_tm_5 hC hW kf_RX5_35 dX5_disappoint_60 ?_
      refine lv_iload_n hx hb dX5_disappoint_63 rfl (lv_at hl 0 rfl) ?_
      refine ka_fra hC hW (by omega) dX5_disappoint_64 ?_
      refine lv_iconst (v := 0) hx hb dX5_disappoint_65 (by decide) ?_
      refine kp_fr_3 hC hW (show xx < 20 by omega) kf_RX5_268 dX5_disappoint_66 (fun H locs hW => ?_)
      refine lv_iinc (v := (nI (xx + 1))) (lv' := [(3, .int ((nI (xx + 1)))), (2, .ref (ad 13 m 0)), (0, .ref (ad 0 0 0)), (1, .int (nI m))]) hx hb dX5_disappoint_69 hl (k := 0) rfl (nI_1 xx) (by decide) rfl (fun ls hl => ?_)
      refine lv_goto (tgt := 38) hx hb dX5_disappoint_72 (by decide) ?_
      refine ih (xx + 1) (by omega) _ _ _ ⟨by omega, ?_, lv_sub hl [0, 1, 2, 3] rfl⟩
      rw [← s_ft_y (show (sl (s_di0 T m) 16 (va_up (T.2 16) 2 (T.2 16 2 + 1))).1 18 xx = nI m from c_56)]
      exact hW
/-- what findingCost leaves and answers -/
def c_fs (T : rS) (f m q x : Nat) : rS := if T.1 20 f < 2 then sp_note T (20 * m + q) (nI x - 1) else if T.1 15 (240 + (20 * m + q)) ≠ 0 then T else if s_mix T m q x ≠ -1 then T else sp_dis (sp_note T (20 * m + q) (nI x - 1)) f m
def c_fr (T : rS) (f m q x g : Nat) : Int32 := if T.1 20 f < 2 then nI (s_len T g 9 x) else if T.1 15 (240 + (20 * m + q)) ≠ 0 then nI (s_len T g 9 x) else if s_mix T m q x ≠ -1 then s_mix T m q x else nI (s_len T g 9 x)
theorem c_meet (T : rS) (f m q x g : Nat) : sl (c_fs T f m q x) 26 (fun _ => T.2 26 0 + (c_fr T f m q x g).toInt64) = sp_meet T f m q x g := by
  unfold c_fs c_fr sp_meet s_cost
  split
  · rw [sp_note_2]
  · split
    · rfl
    · split
      · rfl
      · show _ = sl (sp_dis _ f m) 26 (fun _ => (sp_note T (20 * m + q) (nI x - 1)).2 26 0 + _)
        rw [sp_note_2]
theorem c_fs_f {T : rS} {f m q x k : Nat} (h1 : k ≠ 10) (h2 : k ≠ 11) (h3 : k ≠ 12) (h4 : k ≠ 13) (h5 : k ≠ 14) (h6 : k ≠ 15) (h7 : k ≠ 20) : (c_fs T f m q x).1 k = T.1 k := by
  rw [← sp_meet_f (S := T) (f := f) (m := m) (q := q) (x := x) (g := 0) h1 h2 h3 h4 h5 h6 h7, ← c_meet T f m q x 0]
  rfl
set_option maxHeartbeats 4000000 in
set_option maxRecDepth 100000 in
theorem c5_findingCost (l : Launch) (V : gV) (ad : gA) (T : rS) (f m q x g nc : Nat) (hf : f < 20) (hr : T.1 17 0 = nI (f + 1)) (hm : m < cnm T) (hq : q < csz T m) (hm12 : m < 12) (hq20 : q < 20) (hg : g < 6) (h1 : T.1 1 0 = nI nc) (hp : s_par T nc) (hxn : x ≤ nc) (hsome : s_upf T g 9 x ≠ 0) (hcn : ∀ q, q < 480 → ∃ n : Nat, n ≤ 3 ∧ T.1 13 q = nI n) (e2 : s_op T m q 2 = nI g) (h18 : T.1 18 f = nI m) (htr : T.1 20 f < 2 ∨ T.1 20 f = 2) : kMi l yX5_findingCost cX5_findingCost 6 (some .int) ({ frames := 4, cells := 0, slots := 0, locals := 87 } : Room) [.ref (ad 0 0 0), .ref (ad 10 f 0), .ref (ad 16 m q), .int (nI x - 1)] V ad T (fun r T' => r = c_fr T f m q x g ∧ T' = c_fs T f m q x) := by
  refine kMi.of (by decide) (Nat.le_of_ble_eq_true rfl) ?_
  intro p e s m_ below meth c ls E sz hC hz hW hl
  have hx := hC.1
  have hb := hC.2.1
  have hl : lv_has ls 6 [(0, .ref (ad 0 0 0)), (1, .ref (ad 10 f 0)), (2, .ref (ad 16 m q)), (3, .int (nI x - 1))] := hl
  obtain ⟨n1, hn13, hn1⟩ := hcn (20 * m + q) (by omega)
  obtain ⟨n2, hn23, hn2⟩ := hcn (240 + (20 * m + q)) (by omega)
  have et : tn (T.1 13 (240 + (20 * m + q))) = n2 := by rw [hn2]; exact tn_nI (by omega)
  have f17 : (sp_note T (20 * m + q) (nI x - 1)).1 17 = T.1 17 := sp_note_f (by decide) (by decide) (by decide)
  have f18 : (sp_note T (20 * m + q) (nI x - 1)).1 18 = T.1 18 := sp_note_f (by decide) (by decide) (by decide)
  have f4 : (sp_note T (20 * m + q) (nI x - 1)).1 4 = T.1 4 := sp_note_f (by decide) (by decide) (by decide)
  refine lv_aload_n hx hb dX5_findingCost_0 rfl (lv_at hl 0 rfl) ?_
  refine kg_tm_0 hC hW kf_RX5_10 dX5_findingCost_1 ?_
  refine lv_iload_n hx hb dX5_findingCost_4 rfl (lv_at hl 3 rfl) ?_
  refine lv_aload_n hx hb dX5_findingCost_5 rfl (lv_at hl 2 rfl) ?_
  refine kg_ins_2 hC hW hm hq kf_RX5_275 dX5_findingCost_6 ?_
  refine gq_top (nI g) (e2) ?_
  refine kc_Vi hC hW (kv_hi ) rfl (c1_levels l V ad _ x g nc hp h1 hxn hg hsome) km_RX5_309 kn_yX1_levels ks_yX1_levels kz_RX1 kd_yX1_levels dn_X1_levels rfl hl.1 ⟨by decide, by decide⟩ (Nat.le_of_ble_eq_true rfl) ⟨by decide, by decide⟩ dX5_findingCost_9 (fun r_9 T_9 H locs p_9 hW => ?_)
  obtain ⟨q_9, p_9⟩ := p_9
  rw [p_9] at hW
  refine gq_top (nI (s_len T g 9 x)) (q_9) ?_
  refine lv_istore (lv' := [(4, .int (nI (s_len T g 9 x))), (0, .ref (ad 0 0 0)), (1, .ref (ad 10 f 0)), (2, .ref (ad 16 m q)), (3, .int (nI x - 1))]) hx hb dX5_findingCost_12 hl (by decide) rfl (fun ls hl => ?_)
  refine lv_aload_n hx hb dX5_findingCost_14 rfl (lv_at hl 2 rfl) ?_
  refine kg_fr_3 hC hW hf kf_RX5_268 dX5_findingCost_15 ?_
  refine lv_iconst (v := 2) hx hb dX5_findingCost_18 (by decide) ?_
  refine lv_icmp_eq (tgt := 33) hx hb dX5_findingCost_19 (by decide) (fun c_19 => ?_) (fun c_19 => ?_)
  · have hlt : ¬ T.1 20 f < 2 := by rw [c_19]; decide
    refine lv_aload_n hx hb dX5_findingCost_33 rfl (lv_at hl 3 rfl) ?_
    refine kg_ins_6 hC hW hm hq kf_RX5_316 dX5_findingCost_34 ?_
    refine kg_rt_2 hC hW hm hq kf_RX5_319 dX5_findingCost_37 ?_
    refine lv_if_eq (tgt := 46) hx hb dX5_findingCost_40 (by decide) (fun c_40 => ?_) (fun c_40 => ?_)
    · have hcr : ¬ T.1 15 (240 + (20 * m + q)) ≠ 0 := fun z => z c_40
      refine lv_aload_n hx hb dX5_findingCost_46 rfl (lv_at hl 3 rfl) ?_
      refine kg_ins_6 hC hW hm hq kf_RX5_316 dX5_findingCost_47 ?_
      refine lv_iload_n hx hb dX5_findingCost_50 rfl (lv_at hl 4 rfl) ?_
      refine kc_Vi hC hW (kv_rt hm hq) rfl (c3_find_rt l V ad _ m q hm hq n2 hn2 hn23 (nI x - 1)) km_RX5_323 kn_yX3_find ks_yX3_find kz_RX3 kd_yX3_find dn_X3_find rfl hl.1 ⟨by decide, by decide⟩ (Nat.le_of_ble_eq_true rfl) ⟨by decide, by decide⟩ dX5_findingCost_51 (fun r_51 T_51 H locs p_51 hW => ?_)
      obtain ⟨q_51, p_51⟩ := p_51
      rw [p_51] at hW
      refine gq_top (s_mix T m q x) (by unfold s_mix; rw [et]; exact q_51) ?_
      refine lv_istore (lv' := [(5, .int (s_mix T m q x)), (4, .int (nI (s_len T g 9 x))), (0, .ref (ad 0 0 0)), (1, .ref (ad 10 f 0)), (2, .ref (ad 16 m q)), (3, .int (nI x - 1))]) hx hb dX5_findingCost_54 hl (by decide) rfl (fun ls hl => ?_)
      refine lv_iload hx hb dX5_findingCost_56 (lv_at hl 0 rfl) ?_
      refine lv_iconst (v := (-1)) hx hb dX5_findingCost_58 (by decide) ?_
      refine lv_icmp_eq (tgt := 65) hx hb dX5_findingCost_59 (by decide) (fun c_59 => ?_) (fun c_59 => ?_)
      · have hmx : ¬ s_mix T m q x ≠ -1 := fun z => z c_59
        refine lv_aload_n hx hb dX5_findingCost_65 rfl (lv_at hl 4 rfl) ?_
        refine kg_ins_5 hC hW hm hq kf_RX5_223 dX5_findingCost_66 ?_
        refine lv_iload_n hx hb dX5_findingCost_69 rfl (lv_at hl 5 rfl) ?_
        refine kc_Vv hC hW (kv_rm hm hq) rfl (c3_note l V ad _ m q hm hq n1 hn1 hn13 (nI x - 1)) km_RX5_312 kn_yX3_note ks_yX3_note kz_RX3 kd_yX3_note dn_X3_note rfl hl.1 ⟨by decide, by decide⟩ (Nat.le_of_ble_eq_true rfl) ⟨by decide, by decide⟩ dX5_findingCost_70 (fun T_70 H locs p_70 hW => ?_)
        subst p_70
        refine lv_aload_n hx hb dX5_findingCost_73 rfl (lv_at hl 2 rfl) ?_
        refine lv_aload_n hx hb dX5_findingCost_74 rfl (lv_at hl 3 rfl) ?_
        refine kg_fr_2 hC hW hf kf_RX5_253 dX5_findingCost_75 ?_
        refine gq_top (nI m) (by rw [f18]; exact h18) ?_
        refine kc_Vv hC hW (kv_tm ) rfl (c5_disappoint l V ad _ f m hf (by rw [f17]; exact hr) (by unfold cnm; rw [f4]; exact hm)) km_RX5_326 kn_yX5_disappoint ks_yX5_disappoint kz_RX5 kd_yX5_disappoint dn_X5_disappoint rfl hl.1 ⟨by decide, by decide⟩ (Nat.le_of_ble_eq_true rfl) ⟨by decide, by decide⟩ dX5_findingCost_78 (fun T_78 H locs p_78 hW => ?_)
        subst p_78
        refine lv_iload hx hb dX5_findingCost_81 (lv_at hl 1 rfl) ?_
        exact kr_iret hC hz hW (by unfold c_fs c_fr; rw [if_neg hlt, if_neg hlt, if_neg hcr, if_neg hcr, if_neg hmx, if_neg hmx]; exact ⟨rfl, rfl⟩) (by decide) (by decide) dX5_findingCost_83
      · refine lv_iload hx hb dX5_findingCost_62 (lv_at hl 0 rfl) ?_
        exact kr_iret hC hz hW (by unfold c_fs c_fr; rw [if_neg hlt, if_neg hlt, if_neg hcr, if_neg hcr, if_pos c_59, if_pos c_59]; exact ⟨rfl, rfl⟩) (by decide) (by decide) dX5_findingCost_64
    · refine lv_iload hx hb dX5_findingCost_43 (lv_at hl 0 rfl) ?_
      exact kr_iret hC hz hW (by unfold c_fs c_fr; rw [if_neg hlt, if_neg hlt, if_pos c_40, if_pos c_40]; exact ⟨rfl, rfl⟩) (by decide) (by decide) dX5_findingCost_45
  · have hlt := htr.resolve_right c_19
    refine lv_aload_n hx hb dX5_findingCost_22 rfl (lv_at hl 3 rfl) ?_
    refine kg_ins_5 hC hW hm hq kf_RX5_223 dX5_findingCost_23 ?_
    refine lv_iload_n hx hb dX5_findingCost_26 rfl (lv_at hl 4 rfl) ?_
    refine kc_Vv hC hW (kv_rm hm hq) rfl (c3_note l V ad _ m q hm hq n1 hn1 hn13 (nI x - 1)) km_RX5_312 kn_yX3_note ks_yX3_note kz_RX3 kd_yX3_note dn_X3_note rfl hl.1 ⟨by decide, by decide⟩ (Nat.le_of_ble_eq_true rfl) ⟨by decide, by decide⟩ dX5_findingCost_27 (fun T_27 H locs p_27 hW => ?_)
    subst p_27
    refine lv_iload hx hb dX5_findingCost_30 (lv_at hl 0 rfl) ?_
    exact kr_iret hC hz hW (by unfold c_fs c_fr; rw [if_pos hlt, if_pos hlt]; exact ⟨rfl, rfl⟩) (by decide) (by decide) dX5_findingCost_32
def c_cv (T : rS) (f ob oc k : Nat) : Int32 := if k = 1 then T.1 22 (4 * f + ob) + T.1 22 (4 * f + oc) else if k = 2 then T.1 22 (4 * f + ob) - T.1 22 (4 * f + oc) else T.1 22 (4 * f + ob) * T.1 22 (4 * f + oc)
set_option maxHeartbeats 4000000 in
set_option maxRecDepth 100000 in
theorem c5_calculate (l : Launch) (V : gV) (ad : gA) (T : rS) (f m q ob oc oa k : Nat) (hf : f < 20) (hm : m < cnm T) (hq : q < csz T m) (hoa : oa < 4) (hob : ob < 4) (hoc : oc < 4) (e0 : s_op T m q 0 = nI k) (e1 : s_op T m q 1 = nI oa) (e2 : s_op T m q 2 = nI ob) (e3 : s_op T m q 3 = nI oc) (hk : k = 1 ∨ k = 2 ∨ k = 3) : kMv l yX5_calculate cX5_calculate 5 none ({ frames := 2, cells := 0, slots := 0, locals := 45 } : Room) [.ref (ad 0 0 0), .ref (ad 10 f 0), .ref (ad 16 m q)] V ad T (fun T' => T' = sp_calc T f m q (c_cv T f ob oc k)) := by
  refine kMv.of (by decide) (Nat.le_of_ble_eq_true rfl) ?_
  intro p e s m_ below meth c ls E sz hC hz hW hl
  have hx := hC.1
  have hb := hC.2.1
  have hl : lv_has ls 5 [(0, .ref (ad 0 0 0)), (1, .ref (ad 10 f 0)), (2, .ref (ad 16 m q))] := hl
  have t1 : tn (s_op T m q 1) = oa := by rw [e1]; exact tn_nI (by omega)
  have t2 : tn (s_op T m q 2) = ob := by rw [e2]; exact tn_nI (by omega)
  have t3 : tn (s_op T m q 3) = oc := by rw [e3]; exact tn_nI (by omega)
  refine lv_aload_n hx hb dX5_calculate_0 rfl (lv_at hl 1 rfl) ?_
  refine lv_aload_n hx hb dX5_calculate_1 rfl (lv_at hl 2 rfl) ?_
  refine kg_ins_2 hC hW hm hq kf_RX5_275 dX5_calculate_2 ?_
  refine gq_top (nI ob) (e2) ?_
  refine kc_Vi hC hW (kv_fr hf) rfl (c0_isInt l V ad _ f hf ob hob) km_RX5_296 kn_yX0_isInt ks_yX0_isInt kz_RX0 kd_yX0_isInt dn_X0_isInt rfl hl.1 ⟨by decide, by decide⟩ (Nat.le_of_ble_eq_true rfl) ⟨by decide, by decide⟩ dX5_calculate_5 (fun r_5 T_5 H locs p_5 hW => ?_)
  obtain ⟨q_5, p_5⟩ := p_5
  rw [p_5] at hW
  refine gq_top (rb (T.1 21 (4 * f + ob) = -1)) (q_5) ?_
  refine lv_if_eq (tgt := 22) hx hb dX5_calculate_8 (by decide) (fun c_8 => ?_) (fun c_8 => ?_)
  · refine lv_aload_n hx hb dX5_calculate_22 rfl (lv_at hl 0 rfl) ?_
    refine lv_iconst (v := 1) hx hb dX5_calculate_23 (by decide) ?_
    refine kp_tm_9 hC hW kf_RX5_165 dX5_calculate_24 (fun H locs hW => ?_)
    exact kr_vret hC hz hW (by unfold sp_calc; rw [t2, t3, if_neg (fun z => rb_n c_8 z.1)]; rfl) (by decide) (by decide) dX5_calculate_27
  · refine lv_aload_n hx hb dX5_calculate_11 rfl (lv_at hl 1 rfl) ?_
    refine lv_aload_n hx hb dX5_calculate_12 rfl (lv_at hl 2 rfl) ?_
    refine kg_ins_3 hC hW hm hq kf_RX5_299 dX5_calculate_13 ?_
    refine gq_top (nI oc) (e3) ?_
    refine kc_Vi hC hW (kv_fr hf) rfl (c0_isInt l V ad _ f hf oc hoc) km_RX5_296 kn_yX0_isInt ks_yX0_isInt kz_RX0 kd_yX0_isInt dn_X0_isInt rfl hl.1 ⟨by decide, by decide⟩ (Nat.le_of_ble_eq_true rfl) ⟨by decide, by decide⟩ dX5_calculate_16 (fun r_16 T_16 H locs p_16 hW => ?_)
    obtain ⟨q_16, p_16⟩ := p_16
    rw [p_16] at hW
    refine gq_top (rb (T.1 21 (4 * f + oc) = -1)) (q_16) ?_
    refine lv_if_ne (tgt := 28) hx hb dX5_calculate_19 (by decide) (fun c_19 => ?_) (fun c_19 => ?_)
    · refine lv_aload_n hx hb dX5_calculate_28 rfl (lv_at hl 1 rfl) ?_
      refine kg_fr_0 hC hW hf kf_RX5_289 dX5_calculate_29 ?_
      refine lv_aload_n hx hb dX5_calculate_32 rfl (lv_at hl 2 rfl) ?_
      refine kg_ins_2 hC hW hm hq kf_RX5_275 dX5_calculate_33 ?_
      refine gq_top (nI ob) (e2) ?_
      refine ka_val hC hW hf (by omega) dX5_calculate_36 ?_
      refine lv_topi (fun x_37 ex_37 => ?_)
      refine lv_istore_n (lv' := [(3, .int x_37), (0, .ref (ad 0 0 0)), (1, .ref (ad 10 f 0)), (2, .ref (ad 16 m q))]) hx hb dX5_calculate_37 rfl hl (by decide) rfl (fun ls hl => ?_)
      refine lv_aload_n hx hb dX5_calculate_38 rfl (lv_at hl 2 rfl) ?_
      refine kg_fr_0 hC hW hf kf_RX5_289 dX5_calculate_39 ?_
      refine lv_aload_n hx hb dX5_calculate_42 rfl (lv_at hl 3 rfl) ?_
      refine kg_ins_3 hC hW hm hq kf_RX5_299 dX5_calculate_43 ?_
      refine gq_top (nI oc) (e3) ?_
      refine ka_val hC hW hf (by omega) dX5_calculate_46 ?_
      refine lv_topi (fun x_47 ex_47 => ?_)
      refine lv_istore (lv' := [(4, .int x_47), (3, .int x_37), (0, .ref (ad 0 0 0)), (1, .ref (ad 10 f 0)), (2, .ref (ad 16 m q))]) hx hb dX5_calculate_47 hl (by decide) rfl (fun ls hl => ?_)
      refine lv_aload_n hx hb dX5_calculate_49 rfl (lv_at hl 4 rfl) ?_
      refine kg_ins_0 hC hW hm hq kf_RX5_218 dX5_calculate_50 ?_
      refine gq_top (nI k) (e0) ?_
      refine lv_iconst (v := (nI 1)) hx hb dX5_calculate_53 (by decide) ?_
      refine gn_icmp_ne (tgt := 72) hx hb (by omega) (by omega) dX5_calculate_54 (by decide) (fun c_54 => ?_) (fun c_54 => ?_)
      · refine lv_aload_n hx hb dX5_calculate_72 rfl (lv_at hl 4 rfl) ?_
        refine kg_ins_0 hC hW hm hq kf_RX5_218 dX5_calculate_73 ?_
        refine gq_top (nI k) (e0) ?_
        refine lv_iconst (v := (nI 2)) hx hb dX5_calculate_76 (by decide) ?_
        refine gn_icmp_ne (tgt := 95) hx hb (by omega) (by omega) dX5_calculate_77 (by decide) (fun c_77 => ?_) (fun c_77 => ?_)
        · refine lv_aload_n hx hb dX5_calculate_95 rfl (lv_at hl 3 rfl) ?_
          refine lv_aload_n hx hb dX5_calculate_96 rfl (lv_at hl 4 rfl) ?_
          refine kg_ins_1 hC hW hm hq kf_RX5_272 dX5_calculate_97 ?_
          refine gq_top (nI oa) (e1) ?_
          refine lv_iload_n hx hb dX5_calculate_100 rfl (lv_at hl 1 rfl) ?_
          refine lv_iload hx hb dX5_calculate_101 (lv_at hl 0 rfl) ?_
          refine lv_imul hx hb dX5_calculate_103 ?_
          refine kc_Vv hC hW (kv_fr hf) rfl (c0_setInt l V ad _ f hf oa hoa _) km_RX5_152 kn_yX0_setInt ks_yX0_setInt kz_RX0 kd_yX0_setInt dn_X0_setInt rfl hl.1 ⟨by decide, by decide⟩ (Nat.le_of_ble_eq_true rfl) ⟨by decide, by decide⟩ dX5_calculate_104 (fun T_104 H locs p_104 hW => ?_)
          subst p_104
          refine lv_aload_n hx hb dX5_calculate_107 rfl (lv_at hl 3 rfl) ?_
          refine lv_dup hx hb dX5_calculate_108 rfl ?_
          refine kg_fr_4 hC hW hf kf_RX5_256 dX5_calculate_109 ?_
          refine lv_iconst (v := 1) hx hb dX5_calculate_112 (by decide) ?_
          refine lv_iadd hx hb dX5_calculate_113 ?_
          refine kp_fr_4 hC hW hf kf_RX5_256 dX5_calculate_114 (fun H locs hW => ?_)
          exact kr_vret hC hz hW (by unfold sp_calc c_cv; rw [t1, t2, t3, if_pos ⟨rb_t c_8, rb_t c_19⟩, if_neg c_54, if_neg c_77, ← ex_37, ← ex_47]; rfl) (by decide) (by decide) dX5_calculate_117
        · refine lv_aload_n hx hb dX5_calculate_80 rfl (lv_at hl 3 rfl) ?_
          refine lv_aload_n hx hb dX5_calculate_81 rfl (lv_at hl 4 rfl) ?_
          refine kg_ins_1 hC hW hm hq kf_RX5_272 dX5_calculate_82 ?_
          refine gq_top (nI oa) (e1) ?_
          refine lv_iload_n hx hb dX5_calculate_85 rfl (lv_at hl 1 rfl) ?_
          refine lv_iload hx hb dX5_calculate_86 (lv_at hl 0 rfl) ?_
          refine lv_isub hx hb dX5_calculate_88 ?_
          refine kc_Vv hC hW (kv_fr hf) rfl (c0_setInt l V ad _ f hf oa hoa _) km_RX5_152 kn_yX0_setInt ks_yX0_setInt kz_RX0 kd_yX0_setInt dn_X0_setInt rfl hl.1 ⟨by decide, by decide⟩ (Nat.le_of_ble_eq_true rfl) ⟨by decide, by decide⟩ dX5_calculate_89 (fun T_89 H locs p_89 hW => ?_)
          subst p_89
          refine lv_goto (tgt := 107) hx hb dX5_calculate_92 (by decide) ?_
          refine lv_aload_n hx hb dX5_calculate_107 rfl (lv_at hl 3 rfl) ?_
          refine lv_dup hx hb dX5_calculate_108 rfl ?_
          refine kg_fr_4 hC hW hf kf_RX5_256 dX5_calculate_109 ?_
          refine lv_iconst (v := 1) hx hb dX5_calculate_112 (by decide) ?_
          refine lv_iadd hx hb dX5_calculate_113 ?_
          refine kp_fr_4 hC hW hf kf_RX5_256 dX5_calculate_114 (fun H locs hW => ?_)
          exact kr_vret hC hz hW (by unfold sp_calc c_cv; rw [t1, t2, t3, if_pos ⟨rb_t c_8, rb_t c_19⟩, if_neg c_54, if_pos c_77, ← ex_37, ← ex_47]; rfl) (by decide) (by decide) dX5_calculate_117
      · refine lv_aload_n hx hb dX5_calculate_57 rfl (lv_at hl 3 rfl) ?_
        refine lv_aload_n hx hb dX5_calculate_58 rfl (lv_at hl 4 rfl) ?_
        refine kg_ins_1 hC hW hm hq kf_RX5_272 dX5_calculate_59 ?_
        refine gq_top (nI oa) (e1) ?_
        refine lv_iload_n hx hb dX5_calculate_62 rfl (lv_at hl 1 rfl) ?_
        refine lv_iload hx hb dX5_calculate_63 (lv_at hl 0 rfl) ?_
        refine lv_iadd hx hb dX5_calculate_65 ?_
        refine kc_Vv hC hW (kv_fr hf) rfl (c0_setInt l V ad _ f hf oa hoa _) km_RX5_152 kn_yX0_setInt ks_yX0_setInt kz_RX0 kd_yX0_setInt dn_X0_setInt rfl hl.1 ⟨by decide, by decide⟩ (Nat.le_of_ble_eq_true rfl) ⟨by decide, by decide⟩ dX5_calculate_66 (fun T_66 H locs p_66 hW => ?_)
        subst p_66
        refine lv_goto (tgt := 107) hx hb dX5_calculate_69 (by decide) ?_
        refine lv_aload_n hx hb dX5_calculate_107 rfl (lv_at hl 3 rfl) ?_
        refine lv_dup hx hb dX5_calculate_108 rfl ?_
        refine kg_fr_4 hC hW hf kf_RX5_256 dX5_calculate_109 ?_
        refine lv_iconst (v := 1) hx hb dX5_calculate_112 (by decide) ?_
        refine lv_iadd hx hb dX5_calculate_113 ?_
        refine kp_fr_4 hC hW hf kf_RX5_256 dX5_calculate_114 (fun H locs hW => ?_)
        exact kr_vret hC hz hW (by unfold sp_calc c_cv; rw [t1, t2, t3, if_pos ⟨rb_t c_8, rb_t c_19⟩, if_pos c_54, ← ex_37, ← ex_47]; rfl) (by decide) (by decide) dX5_calculate_117
    · refine lv_aload_n hx hb dX5_calculate_22 rfl (lv_at hl 0 rfl) ?_
      refine lv_iconst (v := 1) hx hb dX5_calculate_23 (by decide) ?_
      refine kp_tm_9 hC hW kf_RX5_165 dX5_calculate_24 (fun H locs hW => ?_)
      exact kr_vret hC hz hW (by unfold sp_calc; rw [t2, t3, if_neg (fun z => rb_n c_19 z.2)]; rfl) (by decide) (by decide) dX5_calculate_27
set_option maxHeartbeats 4000000 in
set_option maxRecDepth 100000 in
theorem c5_jumpIfLess (l : Launch) (V : gV) (ad : gA) (T : rS) (f m q oa ob : Nat) (hf : f < 20) (hm : m < cnm T) (hq : q < csz T m) (hm12 : m < 12) (hz20 : csz T m ≤ 20) (h5 : T.1 5 m = nI (csz T m)) (h18 : T.1 18 f = nI m) (hcr : ∀ r : Nat, r < 480 → T.1 15 r = 0 ∨ T.1 15 r = 1) (hoa : oa < 4) (hob : ob < 4) (e1 : s_op T m q 1 = nI oa) (e2 : s_op T m q 2 = nI ob) : kMv l yX5_jumpIfLess cX5_jumpIfLess 3 none ({ frames := 6, cells := 0, slots := 0, locals := 130 } : Room) [.ref (ad 0 0 0), .ref (ad 10 f 0), .ref (ad 16 m q)] V ad T (fun T' => T' = sp_less T f m q) := by
  refine kMv.of (by decide) (Nat.le_of_ble_eq_true rfl) ?_
  intro p e s m_ below meth c ls E sz hC hz hW hl
  have hx := hC.1
  have hb := hC.2.1
  have hl : lv_has ls 3 [(0, .ref (ad 0 0 0)), (1, .ref (ad 10 f 0)), (2, .ref (ad 16 m q))] := hl
  have t1 : tn (s_op T m q 1) = oa := by rw [e1]; exact tn_nI (by omega)
  have t2 : tn (s_op T m q 2) = ob := by rw [e2]; exact tn_nI (by omega)
  refine lv_aload_n hx hb dX5_jumpIfLess_0 rfl (lv_at hl 1 rfl) ?_
  refine lv_aload_n hx hb dX5_jumpIfLess_1 rfl (lv_at hl 2 rfl) ?_
  refine kg_ins_1 hC hW hm hq kf_RX5_272 dX5_jumpIfLess_2 ?_
  refine gq_top (nI oa) (e1) ?_
  refine kc_Vi hC hW (kv_fr hf) rfl (c0_isInt l V ad _ f hf oa hoa) km_RX5_296 kn_yX0_isInt ks_yX0_isInt kz_RX0 kd_yX0_isInt dn_X0_isInt rfl hl.1 ⟨by decide, by decide⟩ (Nat.le_of_ble_eq_true rfl) ⟨by decide, by decide⟩ dX5_jumpIfLess_5 (fun r_5 T_5 H locs p_5 hW => ?_)
  obtain ⟨q_5, p_5⟩ := p_5
  rw [p_5] at hW
  refine gq_top (rb (T.1 21 (4 * f + oa) = -1)) (q_5) ?_
  refine lv_if_eq (tgt := 22) hx hb dX5_jumpIfLess_8 (by decide) (fun c_8 => ?_) (fun c_8 => ?_)
  · refine lv_aload_n hx hb dX5_jumpIfLess_22 rfl (lv_at hl 0 rfl) ?_
    refine lv_iconst (v := 1) hx hb dX5_jumpIfLess_23 (by decide) ?_
    refine kp_tm_9 hC hW kf_RX5_165 dX5_jumpIfLess_24 (fun H locs hW => ?_)
    exact kr_vret hC hz hW (by unfold sp_less; rw [t1, t2, if_neg (fun z => rb_n c_8 z.1)]; rfl) (by decide) (by decide) dX5_jumpIfLess_27
  · refine lv_aload_n hx hb dX5_jumpIfLess_11 rfl (lv_at hl 1 rfl) ?_
    refine lv_aload_n hx hb dX5_jumpIfLess_12 rfl (lv_at hl 2 rfl) ?_
    refine kg_ins_2 hC hW hm hq kf_RX5_275 dX5_jumpIfLess_13 ?_
    refine gq_top (nI ob) (e2) ?_
    refine kc_Vi hC hW (kv_fr hf) rfl (c0_isInt l V ad _ f hf ob hob) km_RX5_296 kn_yX0_isInt ks_yX0_isInt kz_RX0 kd_yX0_isInt dn_X0_isInt rfl hl.1 ⟨by decide, by decide⟩ (Nat.le_of_ble_eq_true rfl) ⟨by decide, by decide⟩ dX5_jumpIfLess_16 (fun r_16 T_16 H locs p_16 hW => ?_)
    obtain ⟨q_16, p_16⟩ := p_16
    rw [p_16] at hW
    refine gq_top (rb (T.1 21 (4 * f + ob) = -1)) (q_16) ?_
    refine lv_if_ne (tgt := 28) hx hb dX5_jumpIfLess_19 (by decide) (fun c_19 => ?_) (fun c_19 => ?_)
    · refine lv_aload_n hx hb dX5_jumpIfLess_28 rfl (lv_at hl 1 rfl) ?_
      refine kg_fr_0 hC hW hf kf_RX5_289 dX5_jumpIfLess_29 ?_
      refine lv_aload_n hx hb dX5_jumpIfLess_32 rfl (lv_at hl 2 rfl) ?_
      refine kg_ins_1 hC hW hm hq kf_RX5_272 dX5_jumpIfLess_33 ?_
      refine gq_top (nI oa) (e1) ?_
      refine ka_val hC hW hf (by omega) dX5_jumpIfLess_36 ?_
      refine lv_aload_n hx hb dX5_jumpIfLess_37 rfl (lv_at hl 1 rfl) ?_
      refine kg_fr_0 hC hW hf kf_RX5_289 dX5_jumpIfLess_38 ?_
      refine lv_aload_n hx hb dX5_jumpIfLess_41 rfl (lv_at hl 2 rfl) ?_
      refine kg_ins_2 hC hW hm hq kf_RX5_275 dX5_jumpIfLess_42 ?_
      refine gq_top (nI ob) (e2) ?_
      refine ka_val hC hW hf (by omega) dX5_jumpIfLess_45 ?_
      refine lv_icmp_ge (tgt := 61) hx hb dX5_jumpIfLess_46 (by decide) (fun c_46 => ?_) (fun c_46 => ?_)
      · refine lv_aload_n hx hb dX5_jumpIfLess_61 rfl (lv_at hl 1 rfl) ?_
        refine lv_dup hx hb dX5_jumpIfLess_62 rfl ?_
        refine kg_fr_4 hC hW hf kf_RX5_256 dX5_jumpIfLess_63 ?_
        refine lv_iconst (v := 1) hx hb dX5_jumpIfLess_66 (by decide) ?_
        refine lv_iadd hx hb dX5_jumpIfLess_67 ?_
        refine kp_fr_4 hC hW hf kf_RX5_256 dX5_jumpIfLess_68 (fun H locs hW => ?_)
        exact kr_vret hC hz hW (by unfold sp_less; rw [t1, t2, if_pos ⟨rb_t c_8, rb_t c_19⟩, if_neg (Int32.not_lt.mpr c_46)]; rfl) (by decide) (by decide) dX5_jumpIfLess_71
      · refine lv_aload_n hx hb dX5_jumpIfLess_49 rfl (lv_at hl 0 rfl) ?_
        refine lv_aload_n hx hb dX5_jumpIfLess_50 rfl (lv_at hl 1 rfl) ?_
        refine lv_aload_n hx hb dX5_jumpIfLess_51 rfl (lv_at hl 2 rfl) ?_
        refine kg_ins_3 hC hW hm hq kf_RX5_299 dX5_jumpIfLess_52 ?_
        refine kc_Vv hC hW (kv_tm ) rfl (c5_jump l V ad _ f m hf h18 hm hm12 hz20 h5 hcr (s_op T m q 3)) km_RX5_285 kn_yX5_jump ks_yX5_jump kz_RX5 kd_yX5_jump dn_X5_jump rfl hl.1 ⟨by decide, by decide⟩ (Nat.le_of_ble_eq_true rfl) ⟨by decide, by decide⟩ dX5_jumpIfLess_55 (fun T_55 H locs p_55 hW => ?_)
        subst p_55
        refine lv_goto (tgt := 71) hx hb dX5_jumpIfLess_58 (by decide) ?_
        exact kr_vret hC hz hW (by unfold sp_less; rw [t1, t2, if_pos ⟨rb_t c_8, rb_t c_19⟩, if_pos (Int32.not_le.mp c_46)]) (by decide) (by decide) dX5_jumpIfLess_71
    · refine lv_aload_n hx hb dX5_jumpIfLess_22 rfl (lv_at hl 0 rfl) ?_
      refine lv_iconst (v := 1) hx hb dX5_jumpIfLess_23 (by decide) ?_
      refine kp_tm_9 hC hW kf_RX5_165 dX5_jumpIfLess_24 (fun H locs hW => ?_)
      exact kr_vret hC hz hW (by unfold sp_less; rw [t1, t2, if_neg (fun z => rb_n c_19 z.2)]; rfl) (by decide) (by decide) dX5_jumpIfLess_27
