def c_i1 (T : rS) (c g nc : Nat) (w : Int32) : rS := su (s_bef T g nc) 3 (va_up (T.1 3) (6 * c + g) w)
theorem c_sm_congr {T T2 : rS} (h30 : T2.1 30 = T.1 30) (h2 : T2.1 2 = T.1 2) (h3 : T2.1 3 = T.1 3) (g : Nat) : c_sm T2 g = c_sm T g := by
  funext c
  unfold c_sm
  rw [h30]
  simp only [s_und_congr h2 h3]
set_option maxHeartbeats 4000000 in
set_option maxRecDepth 100000 in
theorem c5_implement (l : Launch) (V : gV) (ad : gA) (T : rS) (c_ g nc nm : Nat) (hI : rI T nc nm) (hc : c_ < nc) (hg : g < 6) (w_ : Int32) (hw : w_ = -1 ∨ s_isM T w_) : kMi l yX5_implement cX5_implement 7 (some .int) ({ frames := 5, cells := 0, slots := 0, locals := 113 } : Room) [.ref (ad 0 0 0), .int (nI c_), .int (nI g), .int w_] V ad T (fun r T' => r = nI (s_il (c_i1 T c_ g nc w_) (c_sm (c_i1 T c_ g nc w_) g) g nm).2 ∧ T' = (s_il (c_i1 T c_ g nc w_) (c_sm (c_i1 T c_ g nc w_) g) g nm).1) := by
  refine kMi.of (by decide) (Nat.le_of_ble_eq_true rfl) ?_
  intro p e s m_ below meth c ls E sz hC hz hW hl
  have hx := hC.1
  have hb := hC.2.1
  have hl : lv_has ls 7 [(0, .ref (ad 0 0 0)), (1, .int (nI c_)), (2, .int (nI g)), (3, .int w_)] := hl
  have hI0 := hI
  have hnm := hI.2.2.2.1
  have ecn := rI_cnm hI
  have hnc := hI.2.1.1
  refine lv_aload_n hx hb dX5_implement_0 rfl (lv_at hl 0 rfl) ?_
  refine lv_iload_n hx hb dX5_implement_1 rfl (lv_at hl 1 rfl) ?_
  refine lv_iload_n hx hb dX5_implement_2 rfl (lv_at hl 2 rfl) ?_
  refine kc_Vv hC hW (kv_tm ) rfl (c5_checkClassAndSelector l V ad _ c_ g nc nm hI hc hg) km_RX5_112 kn_yX5_checkClassAndSelector ks_yX5_checkClassAndSelector kz_RX5 kd_yX5_checkClassAndSelector dn_X5_checkClassAndSelector rfl hl.1 ⟨by decide, by decide⟩ (Nat.le_of_ble_eq_true rfl) ⟨by decide, by decide⟩ dX5_implement_3 (fun T_3 H locs p_3 hW => ?_)
  rw [p_3] at hW
  refine g_cut (pc2 := 17) (fun H locs ls => cmW V (gAd ad E sz) s.heap ad E T H locs ∧ lv_has ls 7 [(0, .ref (ad 0 0 0)), (1, .int (nI c_)), (2, .int (nI g)), (3, .int w_)]) (fun H locs ls hI => ?_) (fun k17 => ?_)
  · obtain ⟨hW, hl⟩ := hI
    refine lv_aload_n hx hb dX5_implement_17 rfl (lv_at hl 0 rfl) ?_
    refine kg_tm_0 hC hW kf_RX5_10 dX5_implement_18 ?_
    refine lv_iload_n hx hb dX5_implement_21 rfl (lv_at hl 1 rfl) ?_
    refine lv_iload_n hx hb dX5_implement_22 rfl (lv_at hl 2 rfl) ?_
    refine lv_iload_n hx hb dX5_implement_23 rfl (lv_at hl 3 rfl) ?_
    refine kc_Vv hC hW (kv_hi ) rfl (c1_setImplementer l V ad _ c_ g nc hI0.2.1 hI0.1 hc hg w_) km_RX5_116 kn_yX1_setImplementer ks_yX1_setImplementer kz_RX1 kd_yX1_setImplementer dn_X1_setImplementer rfl hl.1 ⟨by decide, by decide⟩ (Nat.le_of_ble_eq_true rfl) ⟨by decide, by decide⟩ dX5_implement_24 (fun T_24 H locs p_24 hW => ?_)
    subst p_24
    obtain ⟨T1, hT1⟩ : ∃ T1, T1 = c_i1 T c_ g nc w_ := ⟨_, rfl⟩
    have hW : cmW V (gAd ad E sz) s.heap ad E T1 H locs := by rw [hT1]; exact hW
    obtain ⟨sm, hsm⟩ : ∃ sm, sm = c_sm T1 g := ⟨_, rfl⟩
    rw [← hT1, ← hsm]
    have p1 : s_par T1 nc := by rw [hT1]; exact s_par_congr (S := T) rfl hI0.2.1
    have q1 : T1.1 1 0 = nI nc := by rw [hT1]; exact hI0.1
    have q4 : cnm T1 = nm := by rw [hT1]; exact ecn
    have hrec1 : ∀ r : Nat, r < 480 → ∃ n : Nat, n ≤ 3 ∧ T1.1 13 r = nI n ∧ ∀ k : Nat, k < n → ∃ d : Nat, d < nc ∧ T1.1 14 (3 * r + k) = nI d := by rw [hT1]; exact hI0.2.2.2.2.2.2.1
    have hsz1 : ∀ m, m < 12 → csz T1 m ≤ 20 := fun m hm => by
      obtain ⟨z, hz, ez, -, -⟩ := hI0.2.2.2.2.2.1 m hm
      have e1 : T1.1 5 m = nI z := by rw [hT1]; exact ez
      unfold csz
      rw [e1, tn_nI (by omega)]
      exact hz
    refine lv_iconst (v := (nI 0)) hx hb dX5_implement_27 (by decide) ?_
    refine lv_istore (lv' := [(4, .int ((nI 0))), (0, .ref (ad 0 0 0)), (1, .int (nI c_)), (2, .int (nI g)), (3, .int w_)]) hx hb dX5_implement_28 hl (by decide) rfl (fun ls hl => ?_)
    refine lv_iconst (v := (nI 0)) hx hb dX5_implement_30 (by decide) ?_
    refine lv_istore (lv' := [(5, .int ((nI 0))), (4, .int ((nI 0))), (0, .ref (ad 0 0 0)), (1, .int (nI c_)), (2, .int (nI g)), (3, .int w_)]) hx hb dX5_implement_31 hl (by decide) rfl (fun ls hl => ?_)
    refine g_loop (T := Nat) (fun xx H locs ls => xx ≤ nm ∧ cmW V (gAd ad E sz) s.heap ad E (s_il T1 sm g xx).1 H locs ∧ lv_has ls 7 [(5, .int (nI xx)), (4, .int (nI (s_il T1 sm g xx).2)), (0, .ref (ad 0 0 0)), (1, .int (nI c_)), (2, .int (nI g)), (3, .int w_)]) (fun xx => nm - xx) (fun xx ih H locs ls hI => ?_) (0) ⟨by omega, hW, lv_sub hl [0, 1, 2, 3, 4, 5] rfl⟩
    obtain ⟨hxn, hW, hl⟩ := hI
    have ecx : cnm (s_il T1 sm g xx).1 = nm := by unfold cnm; rw [s_il_f (by decide) (by decide)]; exact q4
    refine lv_iload hx hb dX5_implement_33 (lv_at hl 0 rfl) ?_
    refine lv_aload_n hx hb dX5_implement_35 rfl (lv_at hl 2 rfl) ?_
    refine kg_tm_1 hC hW kf_RX5_19 dX5_implement_36 ?_
    refine kc_Vi hC hW (kv_ml ) rfl (kc_size_ml l V ad _) km_RX5_70 kn_yJx4a65c_size_8abf5 ks_yJx4a65c_size_8abf5 kz_RJx4a65c kd_yJx4a65c_size_8abf5 dn_Jx4a65c_size_8abf5 rfl hl.1 ⟨by decide, by decide⟩ (Nat.le_of_ble_eq_true rfl) ⟨by decide, by decide⟩ dX5_implement_39 (fun r_39 T_39 H locs p_39 hW => ?_)
    obtain ⟨q_39, p_39⟩ := p_39
    rw [p_39] at hW
    refine gq_top (nI nm) (q_39.trans (congrArg nI ecx)) ?_
    refine gn_icmp_ge (tgt := 95) hx hb (by omega) (by omega) dX5_implement_42 (by decide) (fun c_42 => ?_) (fun c_42 => ?_)
    · refine lv_iload hx hb dX5_implement_95 (lv_at hl 1 rfl) ?_
      exact kr_iret hC hz hW (⟨by rw [show nm = xx by omega], by rw [show nm = xx by omega]⟩) (by decide) (by decide) dX5_implement_97
    · have hmx : xx < cnm (s_il T1 sm g xx).1 := by omega
      have hx12 : xx < 12 := by omega
      have hzx : csz (s_il T1 sm g xx).1 xx ≤ 20 := by unfold csz; rw [s_il_f (by decide) (by decide)]; exact hsz1 xx hx12
      refine lv_aload_n hx hb dX5_implement_45 rfl (lv_at hl 2 rfl) ?_
      refine kg_tm_1 hC hW kf_RX5_19 dX5_implement_46 ?_
      refine lv_iload hx hb dX5_implement_49 (lv_at hl 0 rfl) ?_
      refine kc_Vr hC hW (kv_ml ) rfl (kc_get_ml l V ad _ hmx) km_RX5_120 kn_yJx4a65c_get_915e3 ks_yJx4a65c_get_915e3 kz_RJx4a65c kd_yJx4a65c_get_915e3 dn_Jx4a65c_get_915e3 rfl hl.1 ⟨by decide, by decide⟩ (Nat.le_of_ble_eq_true rfl) ⟨by decide, by decide⟩ dX5_implement_51 (fun r_51 T_51 H locs p_51 hW => ?_)
      obtain ⟨q_51, p_51⟩ := p_51
      rw [p_51] at hW
      rw [q_51]
      refine kx_cast hC hW (kv_me hmx) rfl kc_RX5_76 dX5_implement_54 ?_
      refine lv_astore (lv' := [(6, .ref (ad 13 xx 0)), (5, .int (nI xx)), (4, .int (nI (s_il T1 sm g xx).2)), (0, .ref (ad 0 0 0)), (1, .int (nI c_)), (2, .int (nI g)), (3, .int w_)]) hx hb dX5_implement_57 hl (by decide) rfl (fun ls hl => ?_)
      refine lv_aload hx hb dX5_implement_59 (lv_at hl 0 rfl) ?_
      refine kg_me_1 hC hW hmx kf_RX5_124 dX5_implement_61 ?_
      refine gq_top (T1.1 10 xx) (s_il_10 xx xx (Nat.le_refl _)) ?_
      refine lv_iconst (v := 2) hx hb dX5_implement_64 (by decide) ?_
      refine lv_icmp_ne (tgt := 89) hx hb dX5_implement_65 (by decide) (fun c_65 => ?_) (fun c_65 => ?_)
      · refine lv_iinc (v := (nI (xx + 1))) (lv' := [(5, .int ((nI (xx + 1)))), (6, .ref (ad 13 xx 0)), (4, .int (nI (s_il T1 sm g xx).2)), (0, .ref (ad 0 0 0)), (1, .int (nI c_)), (2, .int (nI g)), (3, .int w_)]) hx hb dX5_implement_89 hl (k := 1) rfl (nI_1 xx) (by decide) rfl (fun ls hl => ?_)
        refine lv_goto (tgt := 33) hx hb dX5_implement_92 (by decide) ?_
        have hil : s_il T1 sm g (xx + 1) = s_il T1 sm g xx := if_neg (fun w => c_65 w.1)
        refine ih (xx + 1) (by omega) _ _ _ ⟨by omega, by rw [hil]; exact hW, by rw [hil]; exact lv_sub hl [0, 2, 3, 4, 5, 6] rfl⟩
      · refine lv_aload hx hb dX5_implement_68 (lv_at hl 0 rfl) ?_
        refine lv_iload_n hx hb dX5_implement_70 rfl (lv_at hl 5 rfl) ?_
        refine lv_aload_n hx hb dX5_implement_71 rfl (lv_at hl 3 rfl) ?_
        refine kg_tm_0 hC hW kf_RX5_10 dX5_implement_72 ?_
        refine kc_Vi hC hW (kv_me hmx) rfl (c4_hasTrustingSend l V ad _ xx hmx hx12 hzx g nc (s_par_congr (s_il_f (by decide) (by decide) xx) p1) (by rw [s_il_f (by decide) (by decide)]; exact q1) hg (by rw [s_il_f (by decide) (by decide), s_il_f (by decide) (by decide)]; exact hrec1)) km_RX5_127 kn_yX4_hasTrustingSend ks_yX4_hasTrustingSend kz_RX4 kd_yX4_hasTrustingSend dn_X4_hasTrustingSend rfl hl.1 ⟨by decide, by decide⟩ (Nat.le_of_ble_eq_true rfl) ⟨by decide, by decide⟩ dX5_implement_75 (fun r_75 T_75 H locs p_75 hW => ?_)
        obtain ⟨q_75, p_75⟩ := p_75
        rw [p_75] at hW
        refine gq_top (bi (s_tp T1 sm xx g (csz T1 xx))) (q_75.trans (by rw [c_sm_congr (T := T1) (s_il_f (by decide) (by decide) xx) (s_il_f (by decide) (by decide) xx) (s_il_f (by decide) (by decide) xx), ← hsm, s_tp_congr (S := T1) (s_il_f (by decide) (by decide) xx) (s_il_f (by decide) (by decide) xx) (s_il_f (by decide) (by decide) xx) (s_il_f (by decide) (by decide) xx)]; unfold csz; rw [s_il_f (by decide) (by decide)])) ?_
        refine lv_if_eq (tgt := 89) hx hb dX5_implement_78 (by decide) (fun c_78 => ?_) (fun c_78 => ?_)
        · refine lv_iinc (v := (nI (xx + 1))) (lv' := [(5, .int ((nI (xx + 1)))), (6, .ref (ad 13 xx 0)), (4, .int (nI (s_il T1 sm g xx).2)), (0, .ref (ad 0 0 0)), (1, .int (nI c_)), (2, .int (nI g)), (3, .int w_)]) hx hb dX5_implement_89 hl (k := 1) rfl (nI_1 xx) (by decide) rfl (fun ls hl => ?_)
          refine lv_goto (tgt := 33) hx hb dX5_implement_92 (by decide) ?_
          have hil : s_il T1 sm g (xx + 1) = s_il T1 sm g xx := if_neg (fun w => by rw [bi_f c_78] at w; exact absurd w.2 (by decide))
          refine ih (xx + 1) (by omega) _ _ _ ⟨by omega, by rw [hil]; exact hW, by rw [hil]; exact lv_sub hl [0, 2, 3, 4, 5, 6] rfl⟩
        · refine lv_aload hx hb dX5_implement_81 (lv_at hl 0 rfl) ?_
          refine kc_Vv hC hW (kv_me hmx) rfl (c4_cool l V ad _ xx hmx) km_RX5_131 kn_yX4_cool ks_yX4_cool kz_RX4 kd_yX4_cool dn_X4_cool rfl hl.1 ⟨by decide, by decide⟩ (Nat.le_of_ble_eq_true rfl) ⟨by decide, by decide⟩ dX5_implement_83 (fun T_83 H locs p_83 hW => ?_)
          subst p_83
          refine lv_iinc (v := nI ((s_il T1 sm g xx).2 + 1)) (lv' := [(4, .int (nI ((s_il T1 sm g xx).2 + 1))), (6, .ref (ad 13 xx 0)), (5, .int (nI xx)), (0, .ref (ad 0 0 0)), (1, .int (nI c_)), (2, .int (nI g)), (3, .int w_)]) hx hb dX5_implement_86 hl (k := 2) rfl (nI_1 _) (by decide) rfl (fun ls hl => ?_)
          refine lv_iinc (v := (nI (xx + 1))) (lv' := [(5, .int ((nI (xx + 1)))), (4, .int (nI ((s_il T1 sm g xx).2 + 1))), (6, .ref (ad 13 xx 0)), (0, .ref (ad 0 0 0)), (1, .int (nI c_)), (2, .int (nI g)), (3, .int w_)]) hx hb dX5_implement_89 hl (k := 2) rfl (nI_1 xx) (by decide) rfl (fun ls hl => ?_)
          refine lv_goto (tgt := 33) hx hb dX5_implement_92 (by decide) ?_
          have hil : s_il T1 sm g (xx + 1) = (su (su (s_il T1 sm g xx).1 10 (va_up ((s_il T1 sm g xx).1.1 10) xx 0)) 11 (va_up ((s_il T1 sm g xx).1.1 11) xx 0), (s_il T1 sm g xx).2 + 1) := if_pos ⟨c_65, bi_t c_78⟩
          refine ih (xx + 1) (by omega) _ _ _ ⟨by omega, by rw [hil]; exact hW, by rw [hil]; exact lv_sub hl [0, 1, 3, 4, 5, 6] rfl⟩
  · refine lv_iload_n hx hb dX5_implement_6 rfl (lv_at hl 3 rfl) ?_
    refine lv_iconst (v := (-1)) hx hb dX5_implement_7 (by decide) ?_
    refine lv_icmp_eq (tgt := 17) hx hb dX5_implement_8 (by decide) (fun c_8 => ?_) (fun c_8 => ?_)
    · exact k17 _ _ _ ⟨hW, lv_sub hl [0, 1, 2, 3] rfl⟩
    · obtain ⟨mw, hmw, emw⟩ : ∃ mw, mw < nm ∧ w_ = nI mw := by
        have h := hw.resolve_left c_8
        obtain ⟨mw, h1, h2⟩ := nI_of h.1
        refine ⟨mw, ?_, h2⟩
        have h3 := h.2
        rw [h2, hI.2.2.1] at h3
        exact nI_ltn h1 (by omega) h3
      rw [emw] at hl
      refine lv_aload_n hx hb dX5_implement_11 rfl (lv_at hl 0 rfl) ?_
      refine lv_iload_n hx hb dX5_implement_12 rfl (lv_at hl 3 rfl) ?_
      refine kc_Vr hC hW (kv_tm ) rfl (c5_existingMethod l V ad _ mw (by omega) (by omega)) km_RX5_83 kn_yX5_existingMethod ks_yX5_existingMethod kz_RX5 kd_yX5_existingMethod dn_X5_existingMethod rfl hl.1 ⟨by decide, by decide⟩ (Nat.le_of_ble_eq_true rfl) ⟨by decide, by decide⟩ dX5_implement_13 (fun r_13 T_13 H locs p_13 hW => ?_)
      obtain ⟨q_13, p_13⟩ := p_13
      rw [p_13] at hW
      rw [q_13]
      rw [← emw] at hl
      refine lv_pop hx hb dX5_implement_16 rfl ?_
      exact k17 _ _ _ ⟨hW, lv_sub hl [0, 1, 2, 3] rfl⟩
