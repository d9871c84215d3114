theorem er_clear {S T : rS} (he : er T = er S) : er (c_clear T) = er (s_res S) := by
  unfold c_clear s_res
  rw [er_su (by decide) (by decide) (by decide) (by decide), er_su (by decide) (by decide) (by decide) (by decide), er_sl, er_su (by decide) (by decide) (by decide) (by decide), er_su (by decide) (by decide) (by decide) (by decide), er_su (by decide) (by decide) (by decide) (by decide), er_su (by decide) (by decide) (by decide) (by decide), er_su (by decide) (by decide) (by decide) (by decide), er_su (by decide) (by decide) (by decide) (by decide), er_su (by decide) (by decide) (by decide) (by decide), er_sl, er_su (by decide) (by decide) (by decide) (by decide), er_su (by decide) (by decide) (by decide) (by decide), er_su (by decide) (by decide) (by decide) (by decide), er_0, he]
  refine Prod.ext (funext fun j => ?_) rfl
  by_cases h17 : j = 17
  · subst h17; rfl
  by_cases h23 : j = 23
  · subst h23; rfl
  by_cases h24 : j = 24
  · subst h24; rfl
  by_cases h25 : j = 25
  · subst h25; rfl
  by_cases h27 : j = 27
  · subst h27; rfl
  by_cases h28 : j = 28
  · subst h28; rfl
  simp only [su, sl, if_neg h17, if_neg h23, if_neg h24, if_neg h25, if_neg h27, if_neg h28]
theorem cJ_start {S T : rS} {nc nm m mo : Nat} {v : Int32} (hI : rI S nc nm) (hQ : rQ S) (he : er T = er S) (hm : m < nm) : cJ mo (s_run0 S m v) nc nm (s_run0 S m v) (sp_begin (c_clear T) 0 m (-1) v) 1 ∧ (s_run0 S m v).1 25 0 = 0 ∧ (s_run0 S m v).1 27 0 = 0 := by
  have hnm := hI.2.2.2.1
  have hI1 : rI (s_res S) nc nm := rI_congr rfl rfl rfl rfl rfl rfl rfl rfl rfl hI
  have hF1 : rF (s_res S) nc nm 0 := ⟨rfl, by omega, fun i hi => by omega, fun i g hi => by omega⟩
  have hQ1 : rQ (s_res S) := rQ_congr (S := S) rfl rfl rfl rfl rfl rfl hQ
  refine ⟨⟨⟨0, rfl⟩, rI_begin hI1 (by omega), rF_begin (x := 0) hF1 (by omega) hm (Nat.zero_le _) (fun z => absurd rfl z) (fun z => absurd rfl z), rQ_begin (by omega) hQ1, er_begin (er_clear he), fun i hi => ?_⟩, ?_, ?_⟩
  · refine ⟨fun z => by omega, fun _ => ?_⟩
    unfold s_run0
    rw [begin_19, begin_19, show i = 0 by omega, va_up_self, va_up_self]
  · unfold s_run0
    rw [sp_begin_f (by decide) (by decide) (by decide) (by decide) (by decide) (by decide) (by decide) (by decide) (by decide) (by decide) (by decide) (by decide)]
    rfl
  · unfold s_run0
    rw [sp_begin_f (by decide) (by decide) (by decide) (by decide) (by decide) (by decide) (by decide) (by decide) (by decide) (by decide) (by decide) (by decide)]
    rfl
abbrev s_e0 (S : rS) : Prop := S.1 25 0 = 0 ∨ 0 < S.1 25 0
theorem s25_send {S : rS} {f m q : Nat} (h : s_e0 S) : s_e0 (sp_send S f m q) := by
  unfold sp_send
  split
  · exact Or.inr (by show (0 : Int32) < 1; decide)
  · split
    · exact Or.inr (by show (0 : Int32) < 2; decide)
    · unfold sp_sen2
      split
      · exact Or.inr (by show (0 : Int32) < 3; decide)
      · show (sp_begin _ _ _ _ _).1 25 0 = 0 ∨ 0 < (sp_begin _ _ _ _ _).1 25 0
        rw [sp_begin_f (by decide) (by decide) (by decide) (by decide) (by decide) (by decide) (by decide) (by decide) (by decide) (by decide) (by decide) (by decide), sp_meet_f (by decide) (by decide) (by decide) (by decide) (by decide) (by decide) (by decide)]
        exact h
theorem s25_ex {S : rS} {f m q k : Nat} (h : s_e0 S) : s_e0 (sp_ex S f m q k) := by
  have hc : ∀ v, s_e0 (sp_calc S f m q v) := fun v => by
    unfold sp_calc
    split
    · exact h
    · exact Or.inr (by show (0 : Int32) < 1; decide)
  have hg : ∀ p, s_e0 (sp_goTo S f p) := fun p => by
    unfold s_e0
    rw [sp_goTo_f (by decide) (by decide) (by decide) (by decide) (by decide) (by decide) (by decide)]
    exact h
  match k with
  | 0 => exact h
  | 1 => exact hc _
  | 2 => exact hc _
  | 3 => exact hc _
  | 4 => exact h
  | 5 => exact s25_send h
  | 6 =>
    show s_e0 (sp_less S f m q)
    unfold sp_less
    split
    · split
      · exact hg _
      · exact h
    · exact Or.inr (by show (0 : Int32) < 1; decide)
  | 7 => exact hg _
  | n + 8 =>
    show s_e0 (sp_finish S f _ _)
    unfold s_e0
    rw [sp_finish_f (by decide) (by decide) (by decide) (by decide) (by decide) (by decide)]
    exact h
theorem s25_step {S : rS} {f : Nat} (h : S.1 25 0 = 0) : s_e0 (sp_step S f) := s25_ex (S := sp_pay S f) (Or.inl h)
set_option maxHeartbeats 4000000 in
set_option maxRecDepth 100000 in
theorem c5_run (l : Launch) (V : gV) (ad : gA) (T : rS) (S : rS) (nc nm m0 mo : Nat) (hI : rI S nc nm) (hQ : rQ S) (he : er T = er S) (hm0 : m0 < nm) (hmo : mo ≤ 2000) (v : Int32) : kMi l yX5_run cX5_run 5 (some .int) ({ frames := 8, cells := 0, slots := 0, locals := 176 } : Room) [.ref (ad 0 0 0), .int (nI m0), .int v, .int (nI mo)] V ad T (fun r T' => ∃ S' : rS, runR mo (s_run0 S m0 v) S' ∧ r = s_rr S' ∧ rI S' nc nm ∧ rQ S' ∧ er T' = er S') := by
  refine kMi.of (by decide) (Nat.le_of_ble_eq_true rfl) ?_
  intro p e s m_ below meth c ls E sz hC hz hW hl
  have hx := hC.1
  have hb := hC.2.1
  have hl : lv_has ls 5 [(0, .ref (ad 0 0 0)), (1, .int (nI m0)), (2, .int v), (3, .int (nI mo))] := hl
  obtain ⟨S0, hS0⟩ : ∃ S0, S0 = s_run0 S m0 v := ⟨_, rfl⟩
  have hst := cJ_start (mo := mo) (v := v) hI hQ he hm0
  rw [← hS0] at hst ⊢
  have hIT := rI_er he hI
  have ecn := rI_cnm hIT
  have hnm := hI.2.2.2.1
  have hIC : rI (c_clear T) nc nm := rI_congr rfl rfl rfl rfl rfl rfl rfl rfl rfl hIT
  obtain ⟨z0, hz0, ez0, -, -⟩ := hIC.2.2.2.2.2.1 m0 (by omega)
  have ecz : csz (c_clear T) m0 = z0 := by unfold csz; rw [ez0]; exact tn_nI (by omega)
  refine lv_aload_n hx hb dX5_run_0 rfl (lv_at hl 0 rfl) ?_
  refine lv_iload_n hx hb dX5_run_1 rfl (lv_at hl 1 rfl) ?_
  refine kc_Vr hC hW (kv_tm ) rfl (c5_existingMethod l V ad _ m0 (by omega) (by omega)) km_RX5_83 kn_yX5_existingMethod ks_yX5_existingMethod kz_RX5 kd_yX5_existingMethod dn_X5_existingMethod rfl hl.1 ⟨by decide, by decide⟩ (Nat.le_of_ble_eq_true rfl) ⟨by decide, by decide⟩ dX5_run_2 (fun r_2 T_2 H locs p_2 hW => ?_)
  obtain ⟨q_2, p_2⟩ := p_2
  rw [p_2] at hW
  rw [q_2]
  refine lv_pop hx hb dX5_run_5 rfl ?_
  refine lv_iload_n hx hb dX5_run_6 rfl (lv_at hl 3 rfl) ?_
  refine lv_if_lt (tgt := 17) hx hb dX5_run_7 (by decide) (fun c_7 => absurd c_7 (nI_pos (by omega))) (fun c_7 => ?_)
  refine lv_iload_n hx hb dX5_run_10 rfl (lv_at hl 3 rfl) ?_
  refine lv_sipush (v := (nI 2000)) hx hb dX5_run_11 (by decide) ?_
  refine gn_icmp_le (tgt := 27) hx hb (by omega) (by omega) dX5_run_14 (by decide) (fun c_14 => ?_) (fun c_14 => absurd c_14 (by omega))
  refine lv_aload_n hx hb dX5_run_27 rfl (lv_at hl 0 rfl) ?_
  refine kc_Vv hC hW (kv_tm ) rfl (c5_clearOutcome l V ad _) km_RX5_145 kn_yX5_clearOutcome ks_yX5_clearOutcome kz_RX5 kd_yX5_clearOutcome dn_X5_clearOutcome rfl hl.1 ⟨by decide, by decide⟩ (Nat.le_of_ble_eq_true rfl) ⟨by decide, by decide⟩ dX5_run_28 (fun T_28 H locs p_28 hW => ?_)
  subst p_28
  refine lv_aload_n hx hb dX5_run_31 rfl (lv_at hl 0 rfl) ?_
  refine lv_iload_n hx hb dX5_run_32 rfl (lv_at hl 1 rfl) ?_
  refine kc_Vr hC hW (kv_tm ) rfl (c5_begin l V ad _ 0 m0 (by decide) rfl (show m0 < cnm T by omega) (by omega) (by omega) (by rw [ecz, ez0]) hIC.2.2.2.2.2.2.2) km_RX5_148 kn_yX5_begin ks_yX5_begin kz_RX5 kd_yX5_begin dn_X5_begin rfl hl.1 ⟨by decide, by decide⟩ (Nat.le_of_ble_eq_true rfl) ⟨by decide, by decide⟩ dX5_run_33 (fun r_33 T_33 H locs p_33 hW => ?_)
  obtain ⟨q_33, p_33⟩ := p_33
  subst p_33
  rw [q_33]
  refine lv_iconst (v := (nI 0)) hx hb dX5_run_36 (by decide) ?_
  refine lv_iload_n hx hb dX5_run_37 rfl (lv_at hl 2 rfl) ?_
  refine kc_Vv hC hW (kv_fr (by decide)) rfl (c0_setInt l V ad _ 0 (by decide) 0 (by decide) v) km_RX5_152 kn_yX0_setInt ks_yX0_setInt kz_RX0 kd_yX0_setInt dn_X0_setInt rfl hl.1 ⟨by decide, by decide⟩ (Nat.le_of_ble_eq_true rfl) ⟨by decide, by decide⟩ dX5_run_38 (fun T_38 H locs p_38 hW => ?_)
  subst p_38
  rw [begin_c] at hW
  refine lv_iconst (v := (nI 0)) hx hb dX5_run_41 (by decide) ?_
  refine lv_istore (lv' := [(4, .int ((nI 0))), (0, .ref (ad 0 0 0)), (1, .int (nI m0)), (2, .int v), (3, .int (nI mo))]) hx hb dX5_run_42 hl (by decide) rfl (fun ls hl => ?_)
  refine g_loop (T := Nat) (fun xx H locs ls => (∃ (S T : rS) (f : Nat), cJ mo S0 nc nm S T f ∧ f ≠ 0 ∧ S.1 25 0 = 0 ∧ S.1 27 0 = nI xx ∧ xx ≤ mo ∧ cmW V (gAd ad E sz) s.heap ad E T H locs) ∧ lv_has ls 5 [(4, .int (nI xx)), (0, .ref (ad 0 0 0)), (1, .int (nI m0)), (2, .int v), (3, .int (nI mo))]) (fun xx => mo - xx) (fun xx ih H locs ls hI => ?_) (0) ⟨⟨_, _, 1, hst.1, by decide, hst.2.1, hst.2.2, by omega, hW⟩, lv_sub hl [0, 1, 2, 3, 4] rfl⟩
  obtain ⟨⟨S, T, f, hJ, hf0, h25, h27, hxm, hW⟩, hl⟩ := hI
  refine lv_iload hx hb dX5_run_44 (lv_at hl 0 rfl) ?_
  refine lv_iload_n hx hb dX5_run_46 rfl (lv_at hl 4 rfl) ?_
  refine gn_icmp_ge (tgt := 102) hx hb (by omega) (by omega) dX5_run_47 (by decide) (fun c_47 => ?_) (fun c_47 => ?_)
  · refine lv_iconst (v := 1) hx hb dX5_run_102 (by decide) ?_
    exact kr_iret hC hz hW (⟨S, ⟨hJ.1, Or.inr (Or.inr (by rw [h27, show xx = mo by omega]))⟩, by unfold s_rr; rw [if_neg (fun z => z.elim (fun w => hf0 ((nI_eq (by have := hJ.2.2.1.2.1; omega) (by decide)).mp (hJ.2.2.1.1.symm.trans w))) (fun w => w h25))], hJ.2.1, hJ.2.2.2.1, hJ.2.2.2.2.1⟩) (by decide) (by decide) dX5_run_103
  · refine lv_aload_n hx hb dX5_run_50 rfl (lv_at hl 1 rfl) ?_
    refine kc_Vv hC hW (kv_tm ) rfl (c5_endFinishedMethods l V ad _ mo S0 S nc nm f (nI xx) hJ h25 h27 (fun z => by have := (nI_eq (by omega) (by omega)).mp z; omega)) km_RX5_155 kn_yX5_endFinishedMethods ks_yX5_endFinishedMethods kz_RX5 kd_yX5_endFinishedMethods dn_X5_endFinishedMethods rfl hl.1 ⟨by decide, by decide⟩ (Nat.le_of_ble_eq_true rfl) ⟨by decide, by decide⟩ dX5_run_51 (fun T_51 H locs p_51 hW => ?_)
    obtain ⟨S1, f1, hJ1, g25, g27, hcase⟩ := p_51
    have hfl := hJ1.2.2.1.2.1
    refine lv_aload_n hx hb dX5_run_54 rfl (lv_at hl 1 rfl) ?_
    refine kg_tm_6 hC hW kf_RX5_158 dX5_run_55 ?_
    refine gq_top (nI f1) ((congrFun (er_f (k := 17) hJ1.2.2.2.2.1 (by decide) (by decide) (by decide) (by decide)) 0).trans hJ1.2.2.1.1) ?_
    refine gn_if_ne (tgt := 63) hx hb (by omega) dX5_run_58 (by decide) (fun c_58 => ?_) (fun c_58 => ?_)
    · obtain ⟨m, q, hmn, f18, f19, hqz, hf0⟩ := hcase.resolve_left (by omega)
      have hf1 : f1 - 1 < 20 := by omega
      have hx1 : f1 - 1 + 1 = f1 := by omega
      have hJ3 : cJ mo S0 nc nm S1 T_51 (f1 - 1 + 1) := by rw [hx1]; exact hJ1
      have he1 := hJ1.2.2.2.2.1
      have hI1 := rI_er he1 hJ1.2.1
      have ecn1 := rI_cnm hI1
      have hm : m < cnm T_51 := by omega
      have hr : T_51.1 17 0 = nI (f1 - 1 + 1) := by rw [hx1]; exact (congrFun (er_f (k := 17) hJ1.2.2.2.2.1 (by decide) (by decide) (by decide) (by decide)) 0).trans hJ1.2.2.1.1
      have h18 : T_51.1 18 (f1 - 1) = nI m := by rw [er_f (k := 18) he1 (by decide) (by decide) (by decide) (by decide)]; exact f18
      have h19 : T_51.1 19 (f1 - 1) = nI q := ((hJ1.2.2.2.2.2 (f1 - 1) (by omega)).2 (by omega)).trans f19
      have hq : q < csz T_51 m := by unfold csz; rw [er_f (k := 5) he1 (by decide) (by decide) (by decide) (by decide)]; exact hqz
      have htr : T_51.1 20 (f1 - 1) < 2 ∨ T_51.1 20 (f1 - 1) = 2 := by rw [er_f (k := 20) he1 (by decide) (by decide) (by decide) (by decide)]; exact hJ1.2.2.2.1.1.2 _
      have hreg : ∀ g, g < 4 → ∃ x, x ≤ nc ∧ T_51.1 21 (4 * (f1 - 1) + g) = nI x - 1 := fun g hg => by
        obtain ⟨x, a1, a2, -⟩ := hJ1.2.2.1.2.2.2 (f1 - 1) g (by omega) hg
        exact ⟨x, a1, by rw [er_f (k := 21) he1 (by decide) (by decide) (by decide) (by decide)]; exact a2⟩
      have haw := cJ_aw hJ3
      refine lv_aload_n hx hb dX5_run_63 rfl (lv_at hl 1 rfl) ?_
      refine lv_aload_n hx hb dX5_run_64 rfl (lv_at hl 1 rfl) ?_
      refine kg_tm_5 hC hW kf_RX5_35 dX5_run_65 ?_
      refine lv_aload_n hx hb dX5_run_68 rfl (lv_at hl 1 rfl) ?_
      refine kg_tm_6 hC hW kf_RX5_158 dX5_run_69 ?_
      refine gq_top (nI f1) ((congrFun (er_f (k := 17) hJ1.2.2.2.2.1 (by decide) (by decide) (by decide) (by decide)) 0).trans hJ1.2.2.1.1) ?_
      refine lv_iconst (v := 1) hx hb dX5_run_72 (by decide) ?_
      refine lv_isub hx hb dX5_run_73 ?_
      refine gq_top (nI (f1 - 1)) (nI_sub (b := 1) (by omega)) ?_
      refine ka_fra hC hW (by omega) dX5_run_74 ?_
      refine kc_Vv hC hW (kv_tm ) rfl (c5_doInstruction l V ad _ (f1 - 1) m q nc nm hf1 hr hm hq hI1 h18 h19 htr hreg haw) km_RX5_161 kn_yX5_doInstruction ks_yX5_doInstruction kz_RX5 kd_yX5_doInstruction dn_X5_doInstruction rfl hl.1 ⟨by decide, by decide⟩ (Nat.le_of_ble_eq_true rfl) ⟨by decide, by decide⟩ dX5_run_75 (fun T_75 H locs p_75 hW => ?_)
      subst p_75
      obtain ⟨f2, hJ2, k27⟩ := cJ_step hJ3 g25 (by rw [g27]; exact fun z => by have := (nI_eq (by omega) (by omega)).mp z; omega) f18 hmn f19 hqz
      have hfl2 := hJ2.2.2.1.2.1
      refine lv_aload_n hx hb dX5_run_78 rfl (lv_at hl 1 rfl) ?_
      refine kg_tm_9 hC hW kf_RX5_165 dX5_run_79 ?_
      refine gq_top ((sp_step S1 (f1 - 1)).1 25 0) (congrFun (er_f (k := 25) hJ2.2.2.2.2.1 (by decide) (by decide) (by decide) (by decide)) 0) ?_
      refine lv_if_eq (tgt := 87) hx hb dX5_run_82 (by decide) (fun c_82 => ?_) (fun c_82 => ?_)
      · refine lv_aload_n hx hb dX5_run_87 rfl (lv_at hl 1 rfl) ?_
        refine kg_tm_6 hC hW kf_RX5_158 dX5_run_88 ?_
        refine gq_top (nI f2) ((congrFun (er_f (k := 17) hJ2.2.2.2.2.1 (by decide) (by decide) (by decide) (by decide)) 0).trans hJ2.2.2.1.1) ?_
        refine gn_if_ne (tgt := 96) hx hb (by omega) dX5_run_91 (by decide) (fun c_91 => ?_) (fun c_91 => ?_)
        · refine lv_iinc (v := (nI (xx + 1))) (lv' := [(4, .int ((nI (xx + 1)))), (0, .ref (ad 0 0 0)), (1, .int (nI m0)), (2, .int v), (3, .int (nI mo))]) hx hb dX5_run_96 hl (k := 0) rfl (nI_1 xx) (by decide) rfl (fun ls hl => ?_)
          refine lv_goto (tgt := 44) hx hb dX5_run_99 (by decide) ?_
          exact ih (xx + 1) (by omega) _ _ _ ⟨⟨_, _, f2, hJ2, by omega, c_82, by rw [k27, g27]; exact nI_1 xx, by omega, hW⟩, lv_sub hl [0, 1, 2, 3, 4] rfl⟩
        · refine lv_iconst (v := 0) hx hb dX5_run_94 (by decide) ?_
          exact kr_iret hC hz hW (⟨_, ⟨hJ2.1, Or.inl (by rw [hJ2.2.2.1.1, show f2 = 0 by omega]; rfl)⟩, by unfold s_rr; rw [if_pos (Or.inl (by rw [hJ2.2.2.1.1, show f2 = 0 by omega]; rfl)), c_82]; rfl, hJ2.2.1, hJ2.2.2.2.1, hJ2.2.2.2.2.1⟩) (by decide) (by decide) dX5_run_95
      · refine lv_iconst (v := 2) hx hb dX5_run_85 (by decide) ?_
        exact kr_iret hC hz hW (⟨_, ⟨hJ2.1, Or.inr (Or.inl c_82)⟩, by unfold s_rr; rw [if_pos (Or.inr c_82), if_pos ((s25_step g25).resolve_left c_82)], hJ2.2.1, hJ2.2.2.2.1, hJ2.2.2.2.2.1⟩) (by decide) (by decide) dX5_run_86
    · refine lv_iconst (v := 0) hx hb dX5_run_61 (by decide) ?_
      exact kr_iret hC hz hW (⟨S1, ⟨hJ1.1, Or.inl (by rw [hJ1.2.2.1.1, show f1 = 0 by omega]; rfl)⟩, by unfold s_rr; rw [if_pos (Or.inl (by rw [hJ1.2.2.1.1, show f1 = 0 by omega]; rfl)), g25]; rfl, hJ1.2.1, hJ1.2.2.2.1, hJ1.2.2.2.2.1⟩) (by decide) (by decide) dX5_run_62
