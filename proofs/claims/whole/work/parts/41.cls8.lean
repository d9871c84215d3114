/-- the class's SEND -/
def c_snd (T : rS) (f m q x g mt : Nat) (a k v : Int32) : rS := if f + 1 = 20 then s_err (sp_meet T f m q x g) 3 else sp_put (sp_put (c_begin (su (s_nxt (sp_meet T f m q x g) f) 29 (va_up ((s_nxt (sp_meet T f m q x g) f).1 29) f a)) (f + 1) mt) (f + 1) 0 k v) (f + 1) 1 (nI x - 1) 0
def c_send (T : rS) (f m q : Nat) : rS :=
  if T.1 21 (4 * f + tn (s_op T m q 3)) = -1 then s_err T 1
  else if s_und T (tn (T.1 21 (4 * f + tn (s_op T m q 3)) + 1)) (tn (s_op T m q 2)) = -1 then s_err T 2
  else c_snd T f m q (tn (T.1 21 (4 * f + tn (s_op T m q 3)) + 1)) (tn (s_op T m q 2)) (tn (s_und T (tn (T.1 21 (4 * f + tn (s_op T m q 3)) + 1)) (tn (s_op T m q 2)))) (s_op T m q 1) (T.1 21 (4 * f + tn (s_op T m q 4))) (T.1 22 (4 * f + tn (s_op T m q 4)))
theorem c_begin_f {T : rS} {f m k : Nat} (h1 : k ≠ 10) (h2 : k ≠ 11) (h3 : k ≠ 13) (h4 : k ≠ 14) (h5 : k ≠ 15) (h6 : k ≠ 20) (h7 : k ≠ 17) (h8 : k ≠ 18) (h9 : k ≠ 19) (h10 : k ≠ 21) (h11 : k ≠ 22) (h12 : k ≠ 28) : (c_begin T f m).1 k = T.1 k := by
  unfold c_begin c_start s_fill
  simp only [su, if_neg h6, if_neg h7, if_neg h8, if_neg h9, if_neg h10, if_neg h11, if_neg h12]
  exact sp_warm_f h1 h2 h3 h4 h5
theorem c_begin_21 {T : rS} {f m i : Nat} (h : ¬ (4 * f ≤ i ∧ i < 4 * f + 4)) : (c_begin T f m).1 21 i = T.1 21 i := by
  show (if 4 * f ≤ i ∧ i < 4 * f + 4 then -1 else (sp_warm T m).1 21 i) = _
  rw [if_neg h, sp_warm_f (by decide) (by decide) (by decide) (by decide) (by decide)]
theorem c_begin_22 {T : rS} {f m i : Nat} (h : ¬ (4 * f ≤ i ∧ i < 4 * f + 4)) : (c_begin T f m).1 22 i = T.1 22 i := by
  show (if 4 * f ≤ i ∧ i < 4 * f + 4 then 0 else (sp_warm T m).1 22 i) = _
  rw [if_neg h, sp_warm_f (by decide) (by decide) (by decide) (by decide) (by decide)]
set_option maxHeartbeats 4000000 in
set_option maxRecDepth 100000 in
theorem c5_send (l : Launch) (V : gV) (ad : gA) (T : rS) (f m q nc nm oa g oc od x : Nat) (hf : f < 20) (hr : T.1 17 0 = nI (f + 1)) (hm : m < cnm T) (hq : q < csz T m) (hI : rI T nc nm) (hoa : oa < 4) (hg : g < 6) (hoc : oc < 4) (hod : od < 4) (e1 : s_op T m q 1 = nI oa) (e2 : s_op T m q 2 = nI g) (e3 : s_op T m q 3 = nI oc) (e4 : s_op T m q 4 = nI od) (hxn : x ≤ nc) (ex : T.1 21 (4 * f + oc) = nI x - 1) (h18 : T.1 18 f = nI m) (htr : T.1 20 f < 2 ∨ T.1 20 f = 2) : kMv l yX5_send cX5_send 6 none ({ frames := 6, cells := 0, slots := 0, locals := 129 } : Room) [.ref (ad 0 0 0), .ref (ad 10 f 0), .ref (ad 16 m q)] V ad T (fun T' => T' = c_send T f m q) := by
  refine kMv.of (by decide) (Nat.le_of_ble_eq_true rfl) ?_
  intro p e s m_ below meth c ls E sz hC hz hW hl
  have hx := hC.1
  have hb := hC.2.1
  have hl : lv_has ls 6 [(0, .ref (ad 0 0 0)), (1, .ref (ad 10 f 0)), (2, .ref (ad 16 m q))] := hl
  have hp := hI.2.1
  have hnc := hp.1
  have hnm := hI.2.2.2.1
  have ecn : cnm T = nm := by unfold cnm; rw [hI.2.2.1]; exact tn_nI (by omega)
  have hm12 : m < 12 := by omega
  obtain ⟨z, hz20, h5, -, -⟩ := hI.2.2.2.2.2.1 m hm12
  have ez : csz T m = z := by unfold csz; rw [h5]; exact tn_nI (by omega)
  have hq20 : q < 20 := by omega
  have t2 : tn (s_op T m q 2) = g := by rw [e2]; exact tn_nI (by omega)
  have t3 : tn (s_op T m q 3) = oc := by rw [e3]; exact tn_nI (by omega)
  have t4 : tn (s_op T m q 4) = od := by rw [e4]; exact tn_nI (by omega)
  have tx : tn (T.1 21 (4 * f + oc) + 1) = x := by rw [ex, nI_m1]; exact tn_nI (by omega)
  have hcn : ∀ q, q < 480 → ∃ n : Nat, n ≤ 3 ∧ T.1 13 q = nI n := fun q hq => by
    obtain ⟨n, a1, a2, -⟩ := hI.2.2.2.2.2.2.1 q hq
    exact ⟨n, a1, a2⟩
  refine lv_aload_n hx hb dX5_send_0 rfl (lv_at hl 1 rfl) ?_
  refine lv_aload_n hx hb dX5_send_1 rfl (lv_at hl 2 rfl) ?_
  refine kg_ins_3 hC hW hm hq kf_RX5_299 dX5_send_2 ?_
  refine gq_top (nI oc) (e3) ?_
  refine kc_Vi hC hW (kv_fr hf) rfl (c0_isInt l V ad _ f hf oc hoc) km_RX5_296 kn_yX0_isInt ks_yX0_isInt kz_RX0 kd_yX0_isInt dn_X0_isInt rfl hl.1 ⟨by decide, by decide⟩ (Nat.le_of_ble_eq_true rfl) ⟨by decide, by decide⟩ dX5_send_5 (fun r_5 T_5 H locs p_5 hW => ?_)
  obtain ⟨q_5, p_5⟩ := p_5
  rw [p_5] at hW
  refine gq_top (rb (T.1 21 (4 * f + oc) = -1)) (q_5) ?_
  refine lv_if_eq (tgt := 17) hx hb dX5_send_8 (by decide) (fun c_8 => ?_) (fun c_8 => ?_)
  · refine lv_aload_n hx hb dX5_send_17 rfl (lv_at hl 1 rfl) ?_
    refine kg_fr_1 hC hW hf kf_RX5_292 dX5_send_18 ?_
    refine lv_aload_n hx hb dX5_send_21 rfl (lv_at hl 2 rfl) ?_
    refine kg_ins_3 hC hW hm hq kf_RX5_299 dX5_send_22 ?_
    refine gq_top (nI oc) (e3) ?_
    refine ka_typ hC hW hf (by omega) dX5_send_25 ?_
    refine gq_top (nI x - 1) (ex) ?_
    refine lv_istore_n (lv' := [(3, .int (nI x - 1)), (0, .ref (ad 0 0 0)), (1, .ref (ad 10 f 0)), (2, .ref (ad 16 m q))]) hx hb dX5_send_26 rfl hl (by decide) rfl (fun ls hl => ?_)
    refine lv_aload_n hx hb dX5_send_27 rfl (lv_at hl 1 rfl) ?_
    refine kg_tm_0 hC hW kf_RX5_10 dX5_send_28 ?_
    refine lv_iload_n hx hb dX5_send_31 rfl (lv_at hl 0 rfl) ?_
    refine lv_aload_n hx hb dX5_send_32 rfl (lv_at hl 3 rfl) ?_
    refine kg_ins_2 hC hW hm hq kf_RX5_275 dX5_send_33 ?_
    refine gq_top (nI g) (e2) ?_
    refine kc_Vi hC hW (kv_hi ) rfl (c1_understood l V ad _ x g nc hp hI.1 hxn hg) km_RX5_134 kn_yX1_understood ks_yX1_understood kz_RX1 kd_yX1_understood dn_X1_understood rfl hl.1 ⟨by decide, by decide⟩ (Nat.le_of_ble_eq_true rfl) ⟨by decide, by decide⟩ dX5_send_36 (fun r_36 T_36 H locs p_36 hW => ?_)
    obtain ⟨q_36, p_36⟩ := p_36
    rw [p_36] at hW
    refine gq_top (s_und T x g) (q_36) ?_
    refine lv_istore (lv' := [(4, .int (s_und T x g)), (3, .int (nI x - 1)), (0, .ref (ad 0 0 0)), (1, .ref (ad 10 f 0)), (2, .ref (ad 16 m q))]) hx hb dX5_send_39 hl (by decide) rfl (fun ls hl => ?_)
    refine lv_iload hx hb dX5_send_41 (lv_at hl 0 rfl) ?_
    refine lv_iconst (v := (-1)) hx hb dX5_send_43 (by decide) ?_
    refine lv_icmp_ne (tgt := 53) hx hb dX5_send_44 (by decide) (fun c_44 => ?_) (fun c_44 => ?_)
    · obtain ⟨mt1, hmt1, emt1⟩ := s_und_m (g := g) hp hI.2.2.2.2.1 hxn hg
      have hmt0 : mt1 ≠ 0 := fun w => c_44 (by rw [emt1, w]; rfl)
      obtain ⟨mt, hmt⟩ : ∃ mt, mt1 = mt + 1 := ⟨mt1 - 1, by omega⟩
      have emt : s_und T x g = nI mt := by rw [emt1, hmt, nI_m1s]
      rw [emt] at hl
      have tmt : tn (s_und T x g) = mt := by rw [emt]; exact tn_nI (by omega)
      refine lv_aload_n hx hb dX5_send_53 rfl (lv_at hl 2 rfl) ?_
      refine lv_dup hx hb dX5_send_54 rfl ?_
      refine kg_tm_10 hC hW kf_RX5_171 dX5_send_55 ?_
      refine lv_aload_n hx hb dX5_send_58 rfl (lv_at hl 2 rfl) ?_
      refine lv_aload_n hx hb dX5_send_59 rfl (lv_at hl 3 rfl) ?_
      refine lv_aload_n hx hb dX5_send_60 rfl (lv_at hl 4 rfl) ?_
      refine lv_iload_n hx hb dX5_send_61 rfl (lv_at hl 1 rfl) ?_
      refine kc_Vi hC hW (kv_tm ) rfl (c5_findingCost l V ad _ f m q x g nc hf hr hm hq hm12 hq20 hg hI.1 hp hxn (s_und_up c_44) hcn e2 h18 htr) km_RX5_302 kn_yX5_findingCost ks_yX5_findingCost kz_RX5 kd_yX5_findingCost dn_X5_findingCost rfl hl.1 ⟨by decide, by decide⟩ (Nat.le_of_ble_eq_true rfl) ⟨by decide, by decide⟩ dX5_send_62 (fun r_62 T_62 H locs p_62 hW => ?_)
      obtain ⟨q_62, p_62⟩ := p_62
      subst p_62
      refine gq_top (c_fr T f m q x g) q_62 ?_
      refine lv_i2l hx hb dX5_send_65 rfl ?_
      refine lv_ladd hx hb dX5_send_66 ?_
      refine kp_tm_10 hC hW kf_RX5_171 dX5_send_67 (fun H locs hW => ?_)
      rw [show _ = _ from c_meet T f m q x g] at hW
      obtain ⟨T1, hT1⟩ : ∃ T1, T1 = sp_meet T f m q x g := ⟨_, rfl⟩
      rw [← hT1] at hW
      have g4 : T1.1 4 = T.1 4 := by rw [hT1]; exact sp_meet_f (by decide) (by decide) (by decide) (by decide) (by decide) (by decide) (by decide)
      have g5 : T1.1 5 = T.1 5 := by rw [hT1]; exact sp_meet_f (by decide) (by decide) (by decide) (by decide) (by decide) (by decide) (by decide)
      have g6 : T1.1 6 = T.1 6 := by rw [hT1]; exact sp_meet_f (by decide) (by decide) (by decide) (by decide) (by decide) (by decide) (by decide)
      have g17 : T1.1 17 = T.1 17 := by rw [hT1]; exact sp_meet_f (by decide) (by decide) (by decide) (by decide) (by decide) (by decide) (by decide)
      have g21 : T1.1 21 = T.1 21 := by rw [hT1]; exact sp_meet_f (by decide) (by decide) (by decide) (by decide) (by decide) (by decide) (by decide)
      have g22 : T1.1 22 = T.1 22 := by rw [hT1]; exact sp_meet_f (by decide) (by decide) (by decide) (by decide) (by decide) (by decide) (by decide)
      have hcr1 : ∀ r : Nat, r < 480 → T1.1 15 r = 0 ∨ T1.1 15 r = 1 := by rw [hT1]; exact sp_meet_15 hI.2.2.2.2.2.2.2
      have hm1 : m < cnm T1 := by unfold cnm; rw [g4]; exact hm
      have hq1 : q < csz T1 m := by unfold csz; rw [g5]; exact hq
      obtain ⟨z2, hz2, h52, -, -⟩ := hI.2.2.2.2.2.1 mt (by omega)
      have ez2 : csz T1 mt = z2 := by unfold csz; rw [g5, h52]; exact tn_nI (by omega)
      refine lv_aload_n hx hb dX5_send_70 rfl (lv_at hl 2 rfl) ?_
      refine kg_tm_6 hC hW kf_RX5_158 dX5_send_71 ?_
      refine gq_top (nI (f + 1)) (by show T1.1 17 0 = _; rw [g17]; exact hr) ?_
      refine lv_bipush (v := (nI 20)) hx hb dX5_send_74 (by decide) ?_
      refine gn_icmp_lt (tgt := 85) hx hb (by omega) (by omega) dX5_send_76 (by decide) (fun c_76 => ?_) (fun c_76 => ?_)
      · have hf1 : f + 1 < 20 := c_76
        refine lv_aload_n hx hb dX5_send_85 rfl (lv_at hl 3 rfl) ?_
        refine lv_dup hx hb dX5_send_86 rfl ?_
        refine kg_fr_4 hC hW hf kf_RX5_256 dX5_send_87 ?_
        refine lv_iconst (v := 1) hx hb dX5_send_90 (by decide) ?_
        refine lv_iadd hx hb dX5_send_91 ?_
        refine kp_fr_4 hC hW hf kf_RX5_256 dX5_send_92 (fun H locs hW => ?_)
        refine lv_aload_n hx hb dX5_send_95 rfl (lv_at hl 3 rfl) ?_
        refine lv_aload_n hx hb dX5_send_96 rfl (lv_at hl 4 rfl) ?_
        refine kg_ins_1 hC hW hm1 hq1 kf_RX5_272 dX5_send_97 ?_
        refine gq_top (nI oa) (by show T1.1 6 _ = _; rw [g6]; exact e1) ?_
        refine kp_fr_5 hC hW hf kf_RX5_262 dX5_send_100 (fun H locs hW => ?_)
        refine lv_aload_n hx hb dX5_send_103 rfl (lv_at hl 2 rfl) ?_
        refine lv_iload hx hb dX5_send_104 (lv_at hl 0 rfl) ?_
        refine kc_Vr hC hW (kv_tm ) rfl (c5_begin l V ad _ (f + 1) mt (by omega) (by show T1.1 17 0 = _; rw [g17]; exact hr) (show mt < cnm T1 by unfold cnm; rw [g4]; show mt < cnm T; omega) (by omega) (show csz T1 mt ≤ 20 by omega) (show T1.1 5 mt = nI (csz T1 mt) by rw [ez2, g5, h52]) hcr1) km_RX5_148 kn_yX5_begin ks_yX5_begin kz_RX5 kd_yX5_begin dn_X5_begin rfl hl.1 ⟨by decide, by decide⟩ (Nat.le_of_ble_eq_true rfl) ⟨by decide, by decide⟩ dX5_send_106 (fun r_106 T_106 H locs p_106 hW => ?_)
        obtain ⟨q_106, p_106⟩ := p_106
        subst p_106
        rw [q_106]
        refine lv_astore (lv' := [(5, .ref (ad 10 (f + 1) 0)), (4, .int (nI mt)), (3, .int (nI x - 1)), (0, .ref (ad 0 0 0)), (1, .ref (ad 10 f 0)), (2, .ref (ad 16 m q))]) hx hb dX5_send_109 hl (by decide) rfl (fun ls hl => ?_)
        have hm3 : m < cnm (c_begin (su (s_nxt T1 f) 29 (va_up ((s_nxt T1 f).1 29) f (nI oa))) (f + 1) mt) := by unfold cnm; rw [c_begin_f (by decide) (by decide) (by decide) (by decide) (by decide) (by decide) (by decide) (by decide) (by decide) (by decide) (by decide) (by decide)]; exact hm1
        have hq3 : q < csz (c_begin (su (s_nxt T1 f) 29 (va_up ((s_nxt T1 f).1 29) f (nI oa))) (f + 1) mt) m := by unfold csz; rw [c_begin_f (by decide) (by decide) (by decide) (by decide) (by decide) (by decide) (by decide) (by decide) (by decide) (by decide) (by decide) (by decide)]; exact hq1
        refine lv_aload hx hb dX5_send_111 (lv_at hl 0 rfl) ?_
        refine lv_iconst (v := (nI 0)) hx hb dX5_send_113 (by decide) ?_
        refine lv_aload_n hx hb dX5_send_114 rfl (lv_at hl 4 rfl) ?_
        refine kg_fr_0 hC hW hf kf_RX5_289 dX5_send_115 ?_
        refine lv_aload_n hx hb dX5_send_118 rfl (lv_at hl 5 rfl) ?_
        refine kg_ins_4 hC hW hm3 hq3 kf_RX5_306 dX5_send_119 ?_
        refine gq_top (nI od) (by rw [c_begin_f (by decide) (by decide) (by decide) (by decide) (by decide) (by decide) (by decide) (by decide) (by decide) (by decide) (by decide) (by decide)]; show T1.1 6 _ = _; rw [g6]; exact e4) ?_
        refine ka_val hC hW hf (by omega) dX5_send_122 ?_
        refine gq_top (T.1 22 (4 * f + od)) (by rw [c_begin_22 (by omega)]; show T1.1 22 _ = _; rw [g22]) ?_
        refine lv_aload_n hx hb dX5_send_123 rfl (lv_at hl 4 rfl) ?_
        refine kg_fr_1 hC hW hf kf_RX5_292 dX5_send_124 ?_
        refine lv_aload_n hx hb dX5_send_127 rfl (lv_at hl 5 rfl) ?_
        refine kg_ins_4 hC hW hm3 hq3 kf_RX5_306 dX5_send_128 ?_
        refine gq_top (nI od) (by rw [c_begin_f (by decide) (by decide) (by decide) (by decide) (by decide) (by decide) (by decide) (by decide) (by decide) (by decide) (by decide) (by decide)]; show T1.1 6 _ = _; rw [g6]; exact e4) ?_
        refine ka_typ hC hW hf (by omega) dX5_send_131 ?_
        refine gq_top (T.1 21 (4 * f + od)) (by rw [c_begin_21 (by omega)]; show T1.1 21 _ = _; rw [g21]) ?_
        refine kc_Vv hC hW (kv_fr hf1) rfl (c0_put l V ad _ (f + 1) hf1 0 (by decide) (T.1 22 (4 * f + od)) (T.1 21 (4 * f + od))) km_RX5_265 kn_yX0_put ks_yX0_put kz_RX0 kd_yX0_put dn_X0_put rfl hl.1 ⟨by decide, by decide⟩ (Nat.le_of_ble_eq_true rfl) ⟨by decide, by decide⟩ dX5_send_132 (fun T_132 H locs p_132 hW => ?_)
        subst p_132
        refine lv_aload hx hb dX5_send_135 (lv_at hl 0 rfl) ?_
        refine lv_iconst (v := (nI 1)) hx hb dX5_send_137 (by decide) ?_
        refine lv_iconst (v := 0) hx hb dX5_send_138 (by decide) ?_
        refine lv_iload_n hx hb dX5_send_139 rfl (lv_at hl 2 rfl) ?_
        refine kc_Vv hC hW (kv_fr hf1) rfl (c0_put l V ad _ (f + 1) hf1 1 (by decide) 0 (nI x - 1)) km_RX5_265 kn_yX0_put ks_yX0_put kz_RX0 kd_yX0_put dn_X0_put rfl hl.1 ⟨by decide, by decide⟩ (Nat.le_of_ble_eq_true rfl) ⟨by decide, by decide⟩ dX5_send_140 (fun T_140 H locs p_140 hW => ?_)
        subst p_140
        exact kr_vret hC hz hW (by unfold c_send; rw [t2, t3, t4, tx, if_neg (rb_n c_8), if_neg c_44, tmt, e1]; unfold c_snd; rw [if_neg (by omega), ← hT1]; rfl) (by decide) (by decide) dX5_send_143
      · refine lv_aload_n hx hb dX5_send_79 rfl (lv_at hl 2 rfl) ?_
        refine lv_iconst (v := 3) hx hb dX5_send_80 (by decide) ?_
        refine kp_tm_9 hC hW kf_RX5_165 dX5_send_81 (fun H locs hW => ?_)
        exact kr_vret hC hz hW (by unfold c_send; rw [t2, t3, tx, if_neg (rb_n c_8), if_neg c_44]; unfold c_snd; rw [if_pos (by omega), ← hT1]; rfl) (by decide) (by decide) dX5_send_84
    · refine lv_aload_n hx hb dX5_send_47 rfl (lv_at hl 2 rfl) ?_
      refine lv_iconst (v := 2) hx hb dX5_send_48 (by decide) ?_
      refine kp_tm_9 hC hW kf_RX5_165 dX5_send_49 (fun H locs hW => ?_)
      exact kr_vret hC hz hW (by unfold c_send; rw [t2, t3, tx, if_neg (rb_n c_8), if_pos c_44]; rfl) (by decide) (by decide) dX5_send_52
  · refine lv_aload_n hx hb dX5_send_11 rfl (lv_at hl 0 rfl) ?_
    refine lv_iconst (v := 1) hx hb dX5_send_12 (by decide) ?_
    refine kp_tm_9 hC hW kf_RX5_165 dX5_send_13 (fun H locs hW => ?_)
    exact kr_vret hC hz hW (by unfold c_send; rw [t3, if_pos (rb_t c_8)]; rfl) (by decide) (by decide) dX5_send_16
/-- the class's instruction -/
def c_ex (T : rS) (f m q : Nat) : Nat → rS
  | 0 => s_nxt (sp_put T f (tn (s_op T m q 1)) (-1) (s_op T m q 2)) f
  | 1 => sp_calc T f m q (T.1 22 (4 * f + tn (s_op T m q 2)) + T.1 22 (4 * f + tn (s_op T m q 3)))
  | 2 => sp_calc T f m q (T.1 22 (4 * f + tn (s_op T m q 2)) - T.1 22 (4 * f + tn (s_op T m q 3)))
  | 3 => sp_calc T f m q (T.1 22 (4 * f + tn (s_op T m q 2)) * T.1 22 (4 * f + tn (s_op T m q 3)))
  | 4 => s_nxt (sp_put T f (tn (s_op T m q 1)) (s_op T m q 2) 0) f
  | 5 => c_send T f m q
  | 6 => sp_less T f m q
  | 7 => sp_goTo T f (s_op T m q 1)
  | _ => c_end T f (T.1 21 (4 * f + tn (s_op T m q 1))) (T.1 22 (4 * f + tn (s_op T m q 1)))
def c_step (T : rS) (f : Nat) : rS := c_ex (sp_pay T f) f (tn (T.1 18 f)) (tn (T.1 19 f)) (tn (s_op T (tn (T.1 18 f)) (tn (T.1 19 f)) 0))
theorem s_payc {t : Int32} : (if t = 0 then (10 : Int32) else if t = 1 then 4 else 1).toInt64 = (if t = 0 then 10 else if t = 1 then 4 else 1) := by
  split
  · rfl
  · split <;> rfl
set_option maxHeartbeats 4000000 in
set_option maxRecDepth 100000 in
theorem c5_doInstruction (l : Launch) (V : gV) (ad : gA) (T : rS) (f m q nc nm : Nat) (hf : f < 20) (hr : T.1 17 0 = nI (f + 1)) (hm : m < cnm T) (hq : q < csz T m) (hI : rI T nc nm) (h18 : T.1 18 f = nI m) (h19 : T.1 19 f = nI q) (htr : T.1 20 f < 2 ∨ T.1 20 f = 2) (hreg0 : ∀ g, g < 4 → ∃ x, x ≤ nc ∧ T.1 21 (4 * f + g) = nI x - 1) (haw0 : f ≠ 0 → ∃ a : Nat, a < 4 ∧ T.1 29 (f - 1) = nI a) : kMv l yX5_doInstruction cX5_doInstruction 3 none ({ frames := 7, cells := 0, slots := 0, locals := 154 } : Room) [.ref (ad 0 0 0), .ref (ad 10 f 0)] V ad T (fun T' => T' = c_step T f) := by
  refine kMv.of (by decide) (Nat.le_of_ble_eq_true rfl) ?_
  intro p e s m_ below meth c ls E sz hC hz hW hl
  have hx := hC.1
  have hb := hC.2.1
  have hl : lv_has ls 3 [(0, .ref (ad 0 0 0)), (1, .ref (ad 10 f 0))] := hl
  have hI0 := hI
  have hr0 := hr
  have hm0 := hm
  have hq0 := hq
  have h180 := h18
  have htr0 := htr
  have hnm := hI.2.2.2.1
  have ecn : cnm T = nm := by unfold cnm; rw [hI.2.2.1]; exact tn_nI (by omega)
  have hm12 : m < 12 := by omega
  have e18 : tn (T.1 18 f) = m := by rw [h18]; exact tn_nI (by omega)
  obtain ⟨z, hz20, h5, -, hins⟩ := hI.2.2.2.2.2.1 m hm12
  have ez : csz T m = z := by unfold csz; rw [h5]; exact tn_nI (by omega)
  have e19 : tn (T.1 19 f) = q := by rw [h19]; exact tn_nI (by omega)
  obtain ⟨k, hk8, e0, ⟨a, ea, ha20, ha4⟩, hb_, hb4_, hb5, hc_, hc6, hd_⟩ : s_ins T nc (20 * m + q) := hins q (by omega)
  refine lv_aload_n hx hb dX5_doInstruction_0 rfl (lv_at hl 0 rfl) ?_
  refine kg_tm_1 hC hW kf_RX5_19 dX5_doInstruction_1 ?_
  refine lv_aload_n hx hb dX5_doInstruction_4 rfl (lv_at hl 1 rfl) ?_
  refine kg_fr_2 hC hW hf kf_RX5_253 dX5_doInstruction_5 ?_
  refine gq_top (nI m) (h18) ?_
  refine kc_Vr hC hW (kv_ml ) rfl (kc_get_ml l V ad _ hm) km_RX5_120 kn_yJx4a65c_get_915e3 ks_yJx4a65c_get_915e3 kz_RJx4a65c kd_yJx4a65c_get_915e3 dn_Jx4a65c_get_915e3 rfl hl.1 ⟨by decide, by decide⟩ (Nat.le_of_ble_eq_true rfl) ⟨by decide, by decide⟩ dX5_doInstruction_8 (fun r_8 T_8 H locs p_8 hW => ?_)
  obtain ⟨q_8, p_8⟩ := p_8
  rw [p_8] at hW
  rw [q_8]
  refine kx_cast hC hW (kv_me hm) rfl kc_RX5_76 dX5_doInstruction_11 ?_
  refine kg_me_0 hC hW hm kf_RX5_101 dX5_doInstruction_14 ?_
  refine lv_aload_n hx hb dX5_doInstruction_17 rfl (lv_at hl 1 rfl) ?_
  refine kg_fr_4 hC hW hf kf_RX5_256 dX5_doInstruction_18 ?_
  refine gq_top (nI q) (h19) ?_
  refine kc_Vr hC hW (kv_cl hm) rfl (kc_get_cl l V ad _ hm hq) km_RX5_120 kn_yJx4a65c_get_915e3 ks_yJx4a65c_get_915e3 kz_RJx4a65c kd_yJx4a65c_get_915e3 dn_Jx4a65c_get_915e3 rfl hl.1 ⟨by decide, by decide⟩ (Nat.le_of_ble_eq_true rfl) ⟨by decide, by decide⟩ dX5_doInstruction_21 (fun r_21 T_21 H locs p_21 hW => ?_)
  obtain ⟨q_21, p_21⟩ := p_21
  rw [p_21] at hW
  rw [q_21]
  refine kx_cast hC hW (kv_ins hm hq) rfl kc_RX5_104 dX5_doInstruction_24 ?_
  refine lv_astore_n (lv' := [(2, .ref (ad 16 m q)), (0, .ref (ad 0 0 0)), (1, .ref (ad 10 f 0))]) hx hb dX5_doInstruction_27 rfl hl (by decide) rfl (fun ls hl => ?_)
  refine lv_aload_n hx hb dX5_doInstruction_28 rfl (lv_at hl 1 rfl) ?_
  refine lv_dup hx hb dX5_doInstruction_29 rfl ?_
  refine kg_tm_11 hC hW kf_RX5_175 dX5_doInstruction_30 ?_
  refine lv_iconst (v := 1) hx hb dX5_doInstruction_33 (by decide) ?_
  refine lv_iadd hx hb dX5_doInstruction_34 ?_
  refine kp_tm_11 hC hW kf_RX5_175 dX5_doInstruction_35 (fun H locs hW => ?_)
  refine lv_aload_n hx hb dX5_doInstruction_38 rfl (lv_at hl 1 rfl) ?_
  refine lv_dup hx hb dX5_doInstruction_39 rfl ?_
  refine kg_tm_10 hC hW kf_RX5_171 dX5_doInstruction_40 ?_
  refine lv_aload_n hx hb dX5_doInstruction_43 rfl (lv_at hl 2 rfl) ?_
  refine kg_fr_3 hC hW hf kf_RX5_268 dX5_doInstruction_44 ?_
  refine kc_Si hC hW (c5_instructionCost l V ad _ (T.1 20 f)) km_RX5_269 kst_yX5_instructionCost kz_RX5 kd_yX5_instructionCost dn_X5_instructionCost.2 rfl hl.1 ⟨by decide, by decide⟩ (Nat.le_of_ble_eq_true rfl) ⟨by decide, by decide⟩ dX5_doInstruction_47 (fun r_47 T_47 H locs p_47 hW => ?_)
  obtain ⟨q_47, p_47⟩ := p_47
  rw [p_47] at hW
  refine gq_top (if T.1 20 f = 0 then 10 else if T.1 20 f = 1 then 4 else 1) q_47 ?_
  refine lv_i2l hx hb dX5_doInstruction_50 rfl ?_
  refine gq_topl ((if T.1 20 f = 0 then 10 else if T.1 20 f = 1 then 4 else 1)) (s_payc) ?_
  refine lv_ladd hx hb dX5_doInstruction_51 ?_
  refine kp_tm_10 hC hW kf_RX5_171 dX5_doInstruction_52 (fun H locs hW => ?_)
  obtain ⟨T1, hT1⟩ : ∃ T1, T1 = sp_pay T f := ⟨_, rfl⟩
  have hW : cmW V (gAd ad E sz) s.heap ad E T1 H locs := by rw [hT1]; exact hW
  have hI : rI T1 nc nm := by rw [hT1]; exact rI_congr rfl rfl rfl rfl rfl rfl rfl rfl rfl hI0
  have hr : T1.1 17 0 = nI (f + 1) := by rw [hT1]; exact hr0
  have hm : m < cnm T1 := by rw [hT1]; exact hm0
  have hq : q < csz T1 m := by rw [hT1]; exact hq0
  have h18 : T1.1 18 f = nI m := by rw [hT1]; exact h180
  have htr : T1.1 20 f < 2 ∨ T1.1 20 f = 2 := by rw [hT1]; exact htr0
  have hreg : ∀ g, g < 4 → ∃ x, x ≤ nc ∧ T1.1 21 (4 * f + g) = nI x - 1 := by rw [hT1]; exact hreg0
  have haw : f ≠ 0 → ∃ a : Nat, a < 4 ∧ T1.1 29 (f - 1) = nI a := by rw [hT1]; exact haw0
  have eop : ∀ j, s_op T1 m q j = s_op T m q j := fun j => by rw [hT1]; rfl
  have ta : tn (s_op T1 m q 1) = a := by rw [eop, show s_op T m q 1 = nI a from ea]; exact tn_nI (by omega)
  have ez1 : csz T1 m = z := by rw [hT1]; exact ez
  have h51 : T1.1 5 m = nI (csz T1 m) := by rw [ez1, hT1]; exact h5
  have hcr : ∀ r : Nat, r < 480 → T1.1 15 r = 0 ∨ T1.1 15 r = 1 := hI.2.2.2.2.2.2.2
  have hkk : k = 0 ∨ k = 1 ∨ k = 2 ∨ k = 3 ∨ k = 4 ∨ k = 5 ∨ k = 6 ∨ k = 7 ∨ k = 8 := by omega
  rcases hkk with hkk | hkk | hkk | hkk | hkk | hkk | hkk | hkk | hkk <;> subst hkk
  · have hk : tn (s_op T m q 0) = 0 := by rw [show s_op T m q 0 = nI 0 from e0]; rfl
    have hfin : ∀ T2, T2 = c_ex T1 f m q 0 → T2 = c_step T f := fun T2 z => by unfold c_step; rw [e18, e19, hk]; rw [hT1] at z; exact z
    have ha : a < 4 := ha4 (by decide)
    refine lv_aload_n hx hb dX5_doInstruction_55 rfl (lv_at hl 0 rfl) ?_
    refine kg_ins_0 hC hW hm hq kf_RX5_218 dX5_doInstruction_56 ?_
    refine gq_top (nI 0) (by rw [hT1]; exact e0) ?_
    refine lv_tableIn (tgt := 108) hx hb dX5_doInstruction_59 (by decide) (by decide) rfl (by decide) ?_
    refine lv_aload_n hx hb dX5_doInstruction_108 rfl (lv_at hl 2 rfl) ?_
    refine lv_aload_n hx hb dX5_doInstruction_109 rfl (lv_at hl 0 rfl) ?_
    refine kg_ins_1 hC hW hm hq kf_RX5_272 dX5_doInstruction_110 ?_
    refine gq_top (nI a) (by rw [hT1]; exact ea) ?_
    refine lv_aload_n hx hb dX5_doInstruction_113 rfl (lv_at hl 0 rfl) ?_
    refine kg_ins_2 hC hW hm hq kf_RX5_275 dX5_doInstruction_114 ?_
    refine gq_top (s_op T m q 2) (by rw [hT1]; rfl) ?_
    refine kc_Vv hC hW (kv_fr hf) rfl (c0_setInt l V ad _ f hf a ha (s_op T m q 2)) km_RX5_152 kn_yX0_setInt ks_yX0_setInt kz_RX0 kd_yX0_setInt dn_X0_setInt rfl hl.1 ⟨by decide, by decide⟩ (Nat.le_of_ble_eq_true rfl) ⟨by decide, by decide⟩ dX5_doInstruction_117 (fun T_117 H locs p_117 hW => ?_)
    subst p_117
    refine lv_aload_n hx hb dX5_doInstruction_120 rfl (lv_at hl 2 rfl) ?_
    refine lv_dup hx hb dX5_doInstruction_121 rfl ?_
    refine kg_fr_4 hC hW hf kf_RX5_256 dX5_doInstruction_122 ?_
    refine lv_iconst (v := 1) hx hb dX5_doInstruction_125 (by decide) ?_
    refine lv_iadd hx hb dX5_doInstruction_126 ?_
    refine kp_fr_4 hC hW hf kf_RX5_256 dX5_doInstruction_127 (fun H locs hW => ?_)
    refine lv_goto (tgt := 220) hx hb dX5_doInstruction_130 (by decide) ?_
    exact kr_vret hC hz hW (hfin _ (by show _ = s_nxt (sp_put T1 f (tn (s_op T1 m q 1)) (-1) (s_op T1 m q 2)) f; rw [ta, eop]; rfl)) (by decide) (by decide) dX5_doInstruction_220
  · have hk : tn (s_op T m q 0) = 1 := by rw [show s_op T m q 0 = nI 1 from e0]; rfl
    have hfin : ∀ T2, T2 = c_ex T1 f m q 1 → T2 = c_step T f := fun T2 z => by unfold c_step; rw [e18, e19, hk]; rw [hT1] at z; exact z
    have ha : a < 4 := ha4 (by decide)
    obtain ⟨b, hb4, eb⟩ := hb_ (by decide)
    have tb : tn (s_op T1 m q 2) = b := by rw [eop, show s_op T m q 2 = nI b from eb]; exact tn_nI (by omega)
    obtain ⟨c_, hc4, ec⟩ := hc_ (by decide)
    have tc : tn (s_op T1 m q 3) = c_ := by rw [eop, show s_op T m q 3 = nI c_ from ec]; exact tn_nI (by omega)
    refine lv_aload_n hx hb dX5_doInstruction_55 rfl (lv_at hl 0 rfl) ?_
    refine kg_ins_0 hC hW hm hq kf_RX5_218 dX5_doInstruction_56 ?_
    refine gq_top (nI 1) (by rw [hT1]; exact e0) ?_
    refine lv_tableIn (tgt := 214) hx hb dX5_doInstruction_59 (by decide) (by decide) rfl (by decide) ?_
    refine lv_aload_n hx hb dX5_doInstruction_214 rfl (lv_at hl 1 rfl) ?_
    refine lv_aload_n hx hb dX5_doInstruction_215 rfl (lv_at hl 2 rfl) ?_
    refine lv_aload_n hx hb dX5_doInstruction_216 rfl (lv_at hl 0 rfl) ?_
    refine kc_Vv hC hW (kv_tm ) rfl (c5_calculate l V ad _ f m q b c_ a 1 hf hm hq ha hb4 hc4 ((eop 0).trans e0) ((eop 1).trans ea) ((eop 2).trans eb) ((eop 3).trans ec) (by decide)) km_RX5_293 kn_yX5_calculate ks_yX5_calculate kz_RX5 kd_yX5_calculate dn_X5_calculate rfl hl.1 ⟨by decide, by decide⟩ (Nat.le_of_ble_eq_true rfl) ⟨by decide, by decide⟩ dX5_doInstruction_217 (fun T_217 H locs p_217 hW => ?_)
    subst p_217
    exact kr_vret hC hz hW (hfin _ (by show _ = sp_calc T1 f m q _; rw [tb, tc]; rfl)) (by decide) (by decide) dX5_doInstruction_220
  · have hk : tn (s_op T m q 0) = 2 := by rw [show s_op T m q 0 = nI 2 from e0]; rfl
    have hfin : ∀ T2, T2 = c_ex T1 f m q 2 → T2 = c_step T f := fun T2 z => by unfold c_step; rw [e18, e19, hk]; rw [hT1] at z; exact z
    have ha : a < 4 := ha4 (by decide)
    obtain ⟨b, hb4, eb⟩ := hb_ (by decide)
    have tb : tn (s_op T1 m q 2) = b := by rw [eop, show s_op T m q 2 = nI b from eb]; exact tn_nI (by omega)
    obtain ⟨c_, hc4, ec⟩ := hc_ (by decide)
    have tc : tn (s_op T1 m q 3) = c_ := by rw [eop, show s_op T m q 3 = nI c_ from ec]; exact tn_nI (by omega)
    refine lv_aload_n hx hb dX5_doInstruction_55 rfl (lv_at hl 0 rfl) ?_
    refine kg_ins_0 hC hW hm hq kf_RX5_218 dX5_doInstruction_56 ?_
    refine gq_top (nI 2) (by rw [hT1]; exact e0) ?_
    refine lv_tableIn (tgt := 214) hx hb dX5_doInstruction_59 (by decide) (by decide) rfl (by decide) ?_
    refine lv_aload_n hx hb dX5_doInstruction_214 rfl (lv_at hl 1 rfl) ?_
    refine lv_aload_n hx hb dX5_doInstruction_215 rfl (lv_at hl 2 rfl) ?_
    refine lv_aload_n hx hb dX5_doInstruction_216 rfl (lv_at hl 0 rfl) ?_
    refine kc_Vv hC hW (kv_tm ) rfl (c5_calculate l V ad _ f m q b c_ a 2 hf hm hq ha hb4 hc4 ((eop 0).trans e0) ((eop 1).trans ea) ((eop 2).trans eb) ((eop 3).trans ec) (by decide)) km_RX5_293 kn_yX5_calculate ks_yX5_calculate kz_RX5 kd_yX5_calculate dn_X5_calculate rfl hl.1 ⟨by decide, by decide⟩ (Nat.le_of_ble_eq_true rfl) ⟨by decide, by decide⟩ dX5_doInstruction_217 (fun T_217 H locs p_217 hW => ?_)
    subst p_217
    exact kr_vret hC hz hW (hfin _ (by show _ = sp_calc T1 f m q _; rw [tb, tc]; rfl)) (by decide) (by decide) dX5_doInstruction_220
  · have hk : tn (s_op T m q 0) = 3 := by rw [show s_op T m q 0 = nI 3 from e0]; rfl
    have hfin : ∀ T2, T2 = c_ex T1 f m q 3 → T2 = c_step T f := fun T2 z => by unfold c_step; rw [e18, e19, hk]; rw [hT1] at z; exact z
    have ha : a < 4 := ha4 (by decide)
    obtain ⟨b, hb4, eb⟩ := hb_ (by decide)
    have tb : tn (s_op T1 m q 2) = b := by rw [eop, show s_op T m q 2 = nI b from eb]; exact tn_nI (by omega)
    obtain ⟨c_, hc4, ec⟩ := hc_ (by decide)
    have tc : tn (s_op T1 m q 3) = c_ := by rw [eop, show s_op T m q 3 = nI c_ from ec]; exact tn_nI (by omega)
    refine lv_aload_n hx hb dX5_doInstruction_55 rfl (lv_at hl 0 rfl) ?_
    refine kg_ins_0 hC hW hm hq kf_RX5_218 dX5_doInstruction_56 ?_
    refine gq_top (nI 3) (by rw [hT1]; exact e0) ?_
    refine lv_tableIn (tgt := 214) hx hb dX5_doInstruction_59 (by decide) (by decide) rfl (by decide) ?_
    refine lv_aload_n hx hb dX5_doInstruction_214 rfl (lv_at hl 1 rfl) ?_
    refine lv_aload_n hx hb dX5_doInstruction_215 rfl (lv_at hl 2 rfl) ?_
    refine lv_aload_n hx hb dX5_doInstruction_216 rfl (lv_at hl 0 rfl) ?_
    refine kc_Vv hC hW (kv_tm ) rfl (c5_calculate l V ad _ f m q b c_ a 3 hf hm hq ha hb4 hc4 ((eop 0).trans e0) ((eop 1).trans ea) ((eop 2).trans eb) ((eop 3).trans ec) (by decide)) km_RX5_293 kn_yX5_calculate ks_yX5_calculate kz_RX5 kd_yX5_calculate dn_X5_calculate rfl hl.1 ⟨by decide, by decide⟩ (Nat.le_of_ble_eq_true rfl) ⟨by decide, by decide⟩ dX5_doInstruction_217 (fun T_217 H locs p_217 hW => ?_)
    subst p_217
    exact kr_vret hC hz hW (hfin _ (by show _ = sp_calc T1 f m q _; rw [tb, tc]; rfl)) (by decide) (by decide) dX5_doInstruction_220
  · have hk : tn (s_op T m q 0) = 4 := by rw [show s_op T m q 0 = nI 4 from e0]; rfl
    have hfin : ∀ T2, T2 = c_ex T1 f m q 4 → T2 = c_step T f := fun T2 z => by unfold c_step; rw [e18, e19, hk]; rw [hT1] at z; exact z
    have ha : a < 4 := ha4 (by decide)
    refine lv_aload_n hx hb dX5_doInstruction_55 rfl (lv_at hl 0 rfl) ?_
    refine kg_ins_0 hC hW hm hq kf_RX5_218 dX5_doInstruction_56 ?_
    refine gq_top (nI 4) (by rw [hT1]; exact e0) ?_
    refine lv_tableIn (tgt := 133) hx hb dX5_doInstruction_59 (by decide) (by decide) rfl (by decide) ?_
    refine lv_aload_n hx hb dX5_doInstruction_133 rfl (lv_at hl 2 rfl) ?_
    refine lv_aload_n hx hb dX5_doInstruction_134 rfl (lv_at hl 0 rfl) ?_
    refine kg_ins_1 hC hW hm hq kf_RX5_272 dX5_doInstruction_135 ?_
    refine gq_top (nI a) (by rw [hT1]; exact ea) ?_
    refine lv_iconst (v := 0) hx hb dX5_doInstruction_138 (by decide) ?_
    refine lv_aload_n hx hb dX5_doInstruction_139 rfl (lv_at hl 0 rfl) ?_
    refine kg_ins_2 hC hW hm hq kf_RX5_275 dX5_doInstruction_140 ?_
    refine gq_top (s_op T m q 2) (by rw [hT1]; rfl) ?_
    refine kc_Vv hC hW (kv_fr hf) rfl (c0_put l V ad _ f hf a ha 0 (s_op T m q 2)) km_RX5_265 kn_yX0_put ks_yX0_put kz_RX0 kd_yX0_put dn_X0_put rfl hl.1 ⟨by decide, by decide⟩ (Nat.le_of_ble_eq_true rfl) ⟨by decide, by decide⟩ dX5_doInstruction_143 (fun T_143 H locs p_143 hW => ?_)
    subst p_143
    refine lv_aload_n hx hb dX5_doInstruction_146 rfl (lv_at hl 2 rfl) ?_
    refine lv_dup hx hb dX5_doInstruction_147 rfl ?_
    refine kg_fr_4 hC hW hf kf_RX5_256 dX5_doInstruction_148 ?_
    refine lv_iconst (v := 1) hx hb dX5_doInstruction_151 (by decide) ?_
    refine lv_iadd hx hb dX5_doInstruction_152 ?_
    refine kp_fr_4 hC hW hf kf_RX5_256 dX5_doInstruction_153 (fun H locs hW => ?_)
    refine lv_goto (tgt := 220) hx hb dX5_doInstruction_156 (by decide) ?_
    exact kr_vret hC hz hW (hfin _ (by show _ = s_nxt (sp_put T1 f (tn (s_op T1 m q 1)) (s_op T1 m q 2) 0) f; rw [ta, eop]; rfl)) (by decide) (by decide) dX5_doInstruction_220
  · have hk : tn (s_op T m q 0) = 5 := by rw [show s_op T m q 0 = nI 5 from e0]; rfl
    have hfin : ∀ T2, T2 = c_ex T1 f m q 5 → T2 = c_step T f := fun T2 z => by unfold c_step; rw [e18, e19, hk]; rw [hT1] at z; exact z
    have ha : a < 4 := ha4 (by decide)
    obtain ⟨g, hg, e2⟩ := hb5 rfl
    obtain ⟨oc, hoc, e3⟩ := hc_ (by decide)
    obtain ⟨od, hod, e4⟩ := hd_ rfl
    obtain ⟨x, hxn, ex⟩ := hreg oc hoc
    refine lv_aload_n hx hb dX5_doInstruction_55 rfl (lv_at hl 0 rfl) ?_
    refine kg_ins_0 hC hW hm hq kf_RX5_218 dX5_doInstruction_56 ?_
    refine gq_top (nI 5) (by rw [hT1]; exact e0) ?_
    refine lv_tableIn (tgt := 159) hx hb dX5_doInstruction_59 (by decide) (by decide) rfl (by decide) ?_
    refine lv_aload_n hx hb dX5_doInstruction_159 rfl (lv_at hl 1 rfl) ?_
    refine lv_aload_n hx hb dX5_doInstruction_160 rfl (lv_at hl 2 rfl) ?_
    refine lv_aload_n hx hb dX5_doInstruction_161 rfl (lv_at hl 0 rfl) ?_
    refine kc_Vv hC hW (kv_tm ) rfl (c5_send l V ad _ f m q nc nm a g oc od x hf hr hm hq hI ha hg hoc hod ((eop 1).trans ea) ((eop 2).trans e2) ((eop 3).trans e3) ((eop 4).trans e4) hxn ex h18 htr) km_RX5_278 kn_yX5_send ks_yX5_send kz_RX5 kd_yX5_send dn_X5_send rfl hl.1 ⟨by decide, by decide⟩ (Nat.le_of_ble_eq_true rfl) ⟨by decide, by decide⟩ dX5_doInstruction_162 (fun T_162 H locs p_162 hW => ?_)
    subst p_162
    refine lv_goto (tgt := 220) hx hb dX5_doInstruction_165 (by decide) ?_
    exact kr_vret hC hz hW (hfin _ rfl) (by decide) (by decide) dX5_doInstruction_220
  · have hk : tn (s_op T m q 0) = 6 := by rw [show s_op T m q 0 = nI 6 from e0]; rfl
    have hfin : ∀ T2, T2 = c_ex T1 f m q 6 → T2 = c_step T f := fun T2 z => by unfold c_step; rw [e18, e19, hk]; rw [hT1] at z; exact z
    have ha : a < 4 := ha4 (by decide)
    obtain ⟨b, hb4, eb⟩ := hb_ (by decide)
    have tb : tn (s_op T1 m q 2) = b := by rw [eop, show s_op T m q 2 = nI b from eb]; exact tn_nI (by omega)
    refine lv_aload_n hx hb dX5_doInstruction_55 rfl (lv_at hl 0 rfl) ?_
    refine kg_ins_0 hC hW hm hq kf_RX5_218 dX5_doInstruction_56 ?_
    refine gq_top (nI 6) (by rw [hT1]; exact e0) ?_
    refine lv_tableIn (tgt := 168) hx hb dX5_doInstruction_59 (by decide) (by decide) rfl (by decide) ?_
    refine lv_aload_n hx hb dX5_doInstruction_168 rfl (lv_at hl 1 rfl) ?_
    refine lv_aload_n hx hb dX5_doInstruction_169 rfl (lv_at hl 2 rfl) ?_
    refine lv_aload_n hx hb dX5_doInstruction_170 rfl (lv_at hl 0 rfl) ?_
    refine kc_Vv hC hW (kv_tm ) rfl (c5_jumpIfLess l V ad _ f m q a b hf hm hq hm12 (by omega) h51 h18 hcr ha hb4 ((eop 1).trans ea) ((eop 2).trans eb)) km_RX5_282 kn_yX5_jumpIfLess ks_yX5_jumpIfLess kz_RX5 kd_yX5_jumpIfLess dn_X5_jumpIfLess rfl hl.1 ⟨by decide, by decide⟩ (Nat.le_of_ble_eq_true rfl) ⟨by decide, by decide⟩ dX5_doInstruction_171 (fun T_171 H locs p_171 hW => ?_)
    subst p_171
    refine lv_goto (tgt := 220) hx hb dX5_doInstruction_174 (by decide) ?_
    exact kr_vret hC hz hW (hfin _ rfl) (by decide) (by decide) dX5_doInstruction_220
  · have hk : tn (s_op T m q 0) = 7 := by rw [show s_op T m q 0 = nI 7 from e0]; rfl
    have hfin : ∀ T2, T2 = c_ex T1 f m q 7 → T2 = c_step T f := fun T2 z => by unfold c_step; rw [e18, e19, hk]; rw [hT1] at z; exact z
    refine lv_aload_n hx hb dX5_doInstruction_55 rfl (lv_at hl 0 rfl) ?_
    refine kg_ins_0 hC hW hm hq kf_RX5_218 dX5_doInstruction_56 ?_
    refine gq_top (nI 7) (by rw [hT1]; exact e0) ?_
    refine lv_tableIn (tgt := 177) hx hb dX5_doInstruction_59 (by decide) (by decide) rfl (by decide) ?_
    refine lv_aload_n hx hb dX5_doInstruction_177 rfl (lv_at hl 1 rfl) ?_
    refine lv_aload_n hx hb dX5_doInstruction_178 rfl (lv_at hl 2 rfl) ?_
    refine lv_aload_n hx hb dX5_doInstruction_179 rfl (lv_at hl 0 rfl) ?_
    refine kg_ins_1 hC hW hm hq kf_RX5_272 dX5_doInstruction_180 ?_
    refine gq_top (s_op T1 m q 1) (rfl) ?_
    refine kc_Vv hC hW (kv_tm ) rfl (c5_jump l V ad _ f m hf h18 hm hm12 (by omega) h51 hcr (s_op T1 m q 1)) km_RX5_285 kn_yX5_jump ks_yX5_jump kz_RX5 kd_yX5_jump dn_X5_jump rfl hl.1 ⟨by decide, by decide⟩ (Nat.le_of_ble_eq_true rfl) ⟨by decide, by decide⟩ dX5_doInstruction_183 (fun T_183 H locs p_183 hW => ?_)
    subst p_183
    refine lv_goto (tgt := 220) hx hb dX5_doInstruction_186 (by decide) ?_
    exact kr_vret hC hz hW (hfin _ rfl) (by decide) (by decide) dX5_doInstruction_220
  · have hk : tn (s_op T m q 0) = 8 := by rw [show s_op T m q 0 = nI 8 from e0]; rfl
    have hfin : ∀ T2, T2 = c_ex T1 f m q 8 → T2 = c_step T f := fun T2 z => by unfold c_step; rw [e18, e19, hk]; rw [hT1] at z; exact z
    have ha : a < 4 := ha4 (by decide)
    refine lv_aload_n hx hb dX5_doInstruction_55 rfl (lv_at hl 0 rfl) ?_
    refine kg_ins_0 hC hW hm hq kf_RX5_218 dX5_doInstruction_56 ?_
    refine gq_top (nI 8) (by rw [hT1]; exact e0) ?_
    refine lv_tableIn (tgt := 189) hx hb dX5_doInstruction_59 (by decide) (by decide) rfl (by decide) ?_
    refine lv_aload_n hx hb dX5_doInstruction_189 rfl (lv_at hl 1 rfl) ?_
    refine lv_aload_n hx hb dX5_doInstruction_190 rfl (lv_at hl 2 rfl) ?_
    refine kg_fr_0 hC hW hf kf_RX5_289 dX5_doInstruction_191 ?_
    refine lv_aload_n hx hb dX5_doInstruction_194 rfl (lv_at hl 0 rfl) ?_
    refine kg_ins_1 hC hW hm hq kf_RX5_272 dX5_doInstruction_195 ?_
    refine gq_top (nI a) (by rw [hT1]; exact ea) ?_
    refine ka_val hC hW hf (by omega) dX5_doInstruction_198 ?_
    refine lv_aload_n hx hb dX5_doInstruction_199 rfl (lv_at hl 2 rfl) ?_
    refine kg_fr_1 hC hW hf kf_RX5_292 dX5_doInstruction_200 ?_
    refine lv_aload_n hx hb dX5_doInstruction_203 rfl (lv_at hl 0 rfl) ?_
    refine kg_ins_1 hC hW hm hq kf_RX5_272 dX5_doInstruction_204 ?_
    refine gq_top (nI a) (by rw [hT1]; exact ea) ?_
    refine ka_typ hC hW hf (by omega) dX5_doInstruction_207 ?_
    refine kc_Vv hC hW (kv_tm ) rfl (c5_end l V ad _ f hf hr haw (T1.1 22 (4 * f + a)) (T1.1 21 (4 * f + a))) km_RX5_259 kn_yX5_end ks_yX5_end kz_RX5 kd_yX5_end dn_X5_end rfl hl.1 ⟨by decide, by decide⟩ (Nat.le_of_ble_eq_true rfl) ⟨by decide, by decide⟩ dX5_doInstruction_208 (fun T_208 H locs p_208 hW => ?_)
    subst p_208
    refine lv_goto (tgt := 220) hx hb dX5_doInstruction_211 (by decide) ?_
    exact kr_vret hC hz hW (hfin _ (by show _ = c_end T1 f (T1.1 21 (4 * f + tn (s_op T1 m q 1))) (T1.1 22 (4 * f + tn (s_op T1 m q 1))); rw [ta])) (by decide) (by decide) dX5_doInstruction_220
