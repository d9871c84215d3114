def c_clear (T : rS) : rS := su (su (sl (su (su (su (su T 17 (fun _ => 0)) 24 (fun _ => 0)) 23 (fun _ => -1)) 25 (fun _ => 0)) 26 (fun _ => 0)) 27 (fun _ => 0)) 28 (fun _ => 0)
set_option maxHeartbeats 4000000 in
set_option maxRecDepth 100000 in
theorem c5_clearOutcome (l : Launch) (V : gV) (ad : gA) (T : rS)  : kMv l yX5_clearOutcome cX5_clearOutcome 1 none ({ frames := 0, cells := 0, slots := 0, locals := 0 } : Room) [.ref (ad 0 0 0)] V ad T (fun T' => T' = c_clear T) := by
  refine kMv.of (by decide) (Nat.le_of_ble_eq_true rfl) ?_
  intro p e s m_ below meth c ls E sz hC hz hW hl
  have hx := hC.1
  have hb := hC.2.1
  have hl : lv_has ls 1 [(0, .ref (ad 0 0 0))] := hl
  refine lv_aload_n hx hb dX5_clearOutcome_0 rfl (lv_at hl 0 rfl) ?_
  refine lv_iconst (v := 0) hx hb dX5_clearOutcome_1 (by decide) ?_
  refine kp_tm_6 hC hW kf_RX5_158 dX5_clearOutcome_2 (fun H locs hW => ?_)
  refine lv_aload_n hx hb dX5_clearOutcome_5 rfl (lv_at hl 0 rfl) ?_
  refine lv_iconst (v := 0) hx hb dX5_clearOutcome_6 (by decide) ?_
  refine kp_tm_7 hC hW kf_RX5_168 dX5_clearOutcome_7 (fun H locs hW => ?_)
  refine lv_aload_n hx hb dX5_clearOutcome_10 rfl (lv_at hl 0 rfl) ?_
  refine lv_iconst (v := (-1)) hx hb dX5_clearOutcome_11 (by decide) ?_
  refine kp_tm_8 hC hW kf_RX5_40 dX5_clearOutcome_12 (fun H locs hW => ?_)
  refine lv_aload_n hx hb dX5_clearOutcome_15 rfl (lv_at hl 0 rfl) ?_
  refine lv_iconst (v := 0) hx hb dX5_clearOutcome_16 (by decide) ?_
  refine kp_tm_9 hC hW kf_RX5_165 dX5_clearOutcome_17 (fun H locs hW => ?_)
  refine lv_aload_n hx hb dX5_clearOutcome_20 rfl (lv_at hl 0 rfl) ?_
  refine lv_lconst (v := 0) hx hb dX5_clearOutcome_21 (by decide) ?_
  refine kp_tm_10 hC hW kf_RX5_171 dX5_clearOutcome_22 (fun H locs hW => ?_)
  refine lv_aload_n hx hb dX5_clearOutcome_25 rfl (lv_at hl 0 rfl) ?_
  refine lv_iconst (v := 0) hx hb dX5_clearOutcome_26 (by decide) ?_
  refine kp_tm_11 hC hW kf_RX5_175 dX5_clearOutcome_27 (fun H locs hW => ?_)
  refine lv_aload_n hx hb dX5_clearOutcome_30 rfl (lv_at hl 0 rfl) ?_
  refine lv_iconst (v := 0) hx hb dX5_clearOutcome_31 (by decide) ?_
  refine kp_tm_12 hC hW kf_RX5_178 dX5_clearOutcome_32 (fun H locs hW => ?_)
  exact kr_vret hC hz hW (rfl) (by decide) (by decide) dX5_clearOutcome_35
set_option maxHeartbeats 4000000 in
set_option maxRecDepth 100000 in
theorem c5_instructionCost (l : Launch) (V : gV) (ad : gA) (T : rS) (t : Int32) : kMi l yX5_instructionCost cX5_instructionCost 1 (some .int) ({ frames := 0, cells := 0, slots := 0, locals := 0 } : Room) [.int t] V ad T (fun r T' => r = (if t = 0 then 10 else if t = 1 then 4 else 1) ∧ T' = T) := by
  refine kMi.of (by decide) (Nat.le_of_ble_eq_true rfl) ?_
  intro p e s m_ below meth c ls E sz hC hz hW hl
  have hx := hC.1
  have hb := hC.2.1
  have hl : lv_has ls 1 [(0, .int t)] := hl
  refine lv_iload_n hx hb dX5_instructionCost_0 rfl (lv_at hl 0 rfl) ?_
  refine lv_if_ne (tgt := 7) hx hb dX5_instructionCost_1 (by decide) (fun c_1 => ?_) (fun c_1 => ?_)
  · refine lv_iload_n hx hb dX5_instructionCost_7 rfl (lv_at hl 0 rfl) ?_
    refine lv_iconst (v := 1) hx hb dX5_instructionCost_8 (by decide) ?_
    refine lv_icmp_ne (tgt := 16) hx hb dX5_instructionCost_9 (by decide) (fun c_9 => ?_) (fun c_9 => ?_)
    · refine lv_iconst (v := 1) hx hb dX5_instructionCost_16 (by decide) ?_
      exact kr_iret hC hz hW (⟨((if_neg c_1).trans (if_neg c_9)).symm, rfl⟩) (by decide) (by decide) dX5_instructionCost_17
    · refine lv_iconst (v := 4) hx hb dX5_instructionCost_12 (by decide) ?_
      refine lv_goto (tgt := 17) hx hb dX5_instructionCost_13 (by decide) ?_
      exact kr_iret hC hz hW (⟨((if_neg c_1).trans (if_pos c_9)).symm, rfl⟩) (by decide) (by decide) dX5_instructionCost_17
  · refine lv_bipush (v := 10) hx hb dX5_instructionCost_4 (by decide) ?_
    exact kr_iret hC hz hW (⟨(if_pos c_1).symm, rfl⟩) (by decide) (by decide) dX5_instructionCost_6
theorem s_mlen {z k : Nat} (hz : z ≤ 20) (hk : k ≤ 50) : (nI k * nI z).toInt64 = lN k * (nI z).toInt64 := by
  rw [nI_mul, nI_l (by have := Nat.mul_le_mul hk hz; omega), nI_l (by omega), lN_mul]
theorem s_ta_sl (S : rS) (m k f : Nat) (g : Nat → Int64) : s_ta (sl S f g) m k = sl (s_ta S m k) f g := rfl
set_option maxHeartbeats 4000000 in
set_option maxRecDepth 100000 in
theorem c5_warm (l : Launch) (V : gV) (ad : gA) (T : rS) (m : Nat) (hm : m < cnm T) (hm12 : m < 12) (hz20 : csz T m ≤ 20) (h5 : T.1 5 m = nI (csz T m)) (hcr : ∀ r : Nat, r < 480 → T.1 15 r = 0 ∨ T.1 15 r = 1) : kMv l yX5_warm cX5_warm 2 none ({ frames := 4, cells := 0, slots := 0, locals := 85 } : Room) [.ref (ad 0 0 0), .ref (ad 13 m 0)] V ad T (fun T' => T' = sp_warm T m) := by
  refine kMv.of (by decide) (Nat.le_of_ble_eq_true rfl) ?_
  intro p e s m_ below meth c ls E sz hC hz hW hl
  have hx := hC.1
  have hb := hC.2.1
  have hl : lv_has ls 2 [(0, .ref (ad 0 0 0)), (1, .ref (ad 13 m 0))] := hl
  refine lv_aload_n hx hb dX5_warm_0 rfl (lv_at hl 1 rfl) ?_
  refine lv_dup hx hb dX5_warm_1 rfl ?_
  refine kg_me_2 hC hW hm kf_RX5_183 dX5_warm_2 ?_
  refine lv_iconst (v := 1) hx hb dX5_warm_5 (by decide) ?_
  refine lv_iadd hx hb dX5_warm_6 ?_
  refine kp_me_2 hC hW hm kf_RX5_183 dX5_warm_7 (fun H locs hW => ?_)
  refine g_cut (pc2 := 60) (fun H locs ls => cmW V (gAd ad E sz) s.heap ad E (sp_w1 T m) H locs ∧ lv_has ls 2 [(0, .ref (ad 0 0 0)), (1, .ref (ad 13 m 0))]) (fun H locs ls hI => ?_) (fun k60 => ?_)
  · obtain ⟨hW, hl⟩ := hI
    have hcr1 : ∀ q, q < 480 → (sp_w1 T m).1 15 q = 0 ∨ (sp_w1 T m).1 15 q = 1 := by rw [sp_w1_f (by decide) (by decide)]; exact hcr
    have hw : sp_warm T m = sp_w2 (sp_w1 T m) m := rfl
    have f4 : cnm (sp_w1 T m) = cnm T := by unfold cnm; rw [sp_w1_f (by decide) (by decide)]
    have f5 : csz (sp_w1 T m) m = csz T m := by unfold csz; rw [sp_w1_f (by decide) (by decide)]
    have f55 : (sp_w1 T m).1 5 m = nI (csz T m) := by rw [sp_w1_f (by decide) (by decide)]; exact h5
    generalize sp_w1 T m = T1 at hW hcr1 hw f4 f5 f55
    have hm : m < cnm T1 := by rw [f4]; exact hm
    refine lv_aload_n hx hb dX5_warm_60 rfl (lv_at hl 1 rfl) ?_
    refine kg_me_1 hC hW hm kf_RX5_124 dX5_warm_61 ?_
    refine lv_iconst (v := 1) hx hb dX5_warm_64 (by decide) ?_
    refine lv_icmp_ne (tgt := 126) hx hb dX5_warm_65 (by decide) (fun c_65 => ?_) (fun c_65 => ?_)
    · exact kr_vret hC hz hW ((hw.trans (if_neg (fun z => c_65 z.1))).symm) (by decide) (by decide) dX5_warm_126
    · refine lv_aload_n hx hb dX5_warm_68 rfl (lv_at hl 1 rfl) ?_
      refine kg_me_2 hC hW hm kf_RX5_183 dX5_warm_69 ?_
      refine lv_aload_n hx hb dX5_warm_72 rfl (lv_at hl 0 rfl) ?_
      refine kg_tm_3 hC hW kf_RX5_27 dX5_warm_73 ?_
      refine lv_icmp_lt (tgt := 126) hx hb dX5_warm_76 (by decide) (fun c_76 => ?_) (fun c_76 => ?_)
      · exact kr_vret hC hz hW ((hw.trans (if_neg (fun z => Int32.not_lt.mpr z.2.1 c_76))).symm) (by decide) (by decide) dX5_warm_126
      · refine lv_aload_n hx hb dX5_warm_79 rfl (lv_at hl 1 rfl) ?_
        refine kg_me_3 hC hW hm kf_RX5_186 dX5_warm_80 ?_
        refine lv_aload_n hx hb dX5_warm_83 rfl (lv_at hl 0 rfl) ?_
        refine kg_tm_4 hC hW kf_RX5_30 dX5_warm_84 ?_
        refine lv_icmp_ge (tgt := 126) hx hb dX5_warm_87 (by decide) (fun c_87 => ?_) (fun c_87 => ?_)
        · exact kr_vret hC hz hW ((hw.trans (if_neg (fun z => Int32.not_lt.mpr c_87 z.2.2))).symm) (by decide) (by decide) dX5_warm_126
        · refine lv_aload_n hx hb dX5_warm_90 rfl (lv_at hl 1 rfl) ?_
          refine lv_iconst (v := 2) hx hb dX5_warm_91 (by decide) ?_
          refine kp_me_1 hC hW hm kf_RX5_124 dX5_warm_92 (fun H locs hW => ?_)
          refine lv_aload_n hx hb dX5_warm_95 rfl (lv_at hl 1 rfl) ?_
          refine kc_Vv hC hW (kv_me hm) rfl (c4_trustRecords l V ad _ m hm hm12 (show csz T1 m ≤ 20 by omega) hcr1) km_RX5_250 kn_yX4_trustRecords ks_yX4_trustRecords kz_RX4 kd_yX4_trustRecords dn_X4_trustRecords rfl hl.1 ⟨by decide, by decide⟩ (Nat.le_of_ble_eq_true rfl) ⟨by decide, by decide⟩ dX5_warm_96 (fun T_96 H locs p_96 hW => ?_)
          subst p_96
          refine lv_aload_n hx hb dX5_warm_99 rfl (lv_at hl 0 rfl) ?_
          refine lv_dup hx hb dX5_warm_100 rfl ?_
          refine kg_tm_10 hC hW kf_RX5_171 dX5_warm_101 ?_
          refine lv_bipush (v := (nI 50)) hx hb dX5_warm_104 (by decide) ?_
          refine lv_aload_n hx hb dX5_warm_106 rfl (lv_at hl 1 rfl) ?_
          refine kc_Vi hC hW (kv_me hm) rfl (c4_length l V ad _ m hm) km_RX5_96 kn_yX4_length ks_yX4_length kz_RX4 kd_yX4_length dn_X4_length rfl hl.1 ⟨by decide, by decide⟩ (Nat.le_of_ble_eq_true rfl) ⟨by decide, by decide⟩ dX5_warm_107 (fun r_107 T_107 H locs p_107 hW => ?_)
          obtain ⟨q_107, p_107⟩ := p_107
          rw [p_107] at hW
          refine gq_top (nI (csz T m)) (q_107.trans (by rw [← f5]; rfl)) ?_
          refine lv_imul hx hb dX5_warm_110 ?_
          refine lv_i2l hx hb dX5_warm_111 rfl ?_
          refine gq_topl (lN 50 * (nI (csz T m)).toInt64) (s_mlen hz20 (by decide)) ?_
          refine lv_ladd hx hb dX5_warm_112 ?_
          refine kp_tm_10 hC hW kf_RX5_171 dX5_warm_113 (fun H locs hW => ?_)
          refine lv_aload_n hx hb dX5_warm_116 rfl (lv_at hl 0 rfl) ?_
          refine kg_tm_13 hC hW kf_RX5_43 dX5_warm_117 ?_
          refine lv_iconst (v := (nI 1)) hx hb dX5_warm_120 (by decide) ?_
          refine lv_dup2_11 hx hb dX5_warm_121 rfl rfl ?_
          refine ka_tot hC hW (by omega) dX5_warm_122 ?_
          refine lv_lconst (v := 1) hx hb dX5_warm_123 (by decide) ?_
          refine lv_ladd hx hb dX5_warm_124 ?_
          refine ks_tot hC hW (by omega) dX5_warm_125 (fun H locs hW => ?_)
          exact kr_vret hC hz hW (by rw [hw, show sp_w2 T1 m = _ from if_pos ⟨c_65, Int32.not_lt.mp c_76, Int32.not_le.mp c_87⟩, f55]; rfl) (by decide) (by decide) dX5_warm_126
  · refine lv_aload_n hx hb dX5_warm_10 rfl (lv_at hl 1 rfl) ?_
    refine kg_me_1 hC hW hm kf_RX5_124 dX5_warm_11 ?_
    refine lv_if_ne (tgt := 60) hx hb dX5_warm_14 (by decide) (fun c_14 => ?_) (fun c_14 => ?_)
    · refine k60 _ _ _ ⟨?_, lv_sub hl [0, 1] rfl⟩
      rw [show sp_w1 T m = _ from if_neg (fun z => c_14 z.1)]
      exact hW
    · refine lv_aload_n hx hb dX5_warm_17 rfl (lv_at hl 1 rfl) ?_
      refine kg_me_2 hC hW hm kf_RX5_183 dX5_warm_18 ?_
      refine gq_top (T.1 11 m + 1) (by simp [su, va_up]) ?_
      refine lv_aload_n hx hb dX5_warm_21 rfl (lv_at hl 0 rfl) ?_
      refine kg_tm_2 hC hW kf_RX5_23 dX5_warm_22 ?_
      refine lv_icmp_lt (tgt := 60) hx hb dX5_warm_25 (by decide) (fun c_25 => ?_) (fun c_25 => ?_)
      · refine k60 _ _ _ ⟨?_, lv_sub hl [0, 1] rfl⟩
        rw [show sp_w1 T m = _ from if_neg (fun z => Int32.not_lt.mpr z.2 c_25)]
        exact hW
      · refine lv_aload_n hx hb dX5_warm_28 rfl (lv_at hl 1 rfl) ?_
        refine lv_iconst (v := 1) hx hb dX5_warm_29 (by decide) ?_
        refine kp_me_1 hC hW hm kf_RX5_124 dX5_warm_30 (fun H locs hW => ?_)
        refine lv_aload_n hx hb dX5_warm_33 rfl (lv_at hl 0 rfl) ?_
        refine lv_dup hx hb dX5_warm_34 rfl ?_
        refine kg_tm_10 hC hW kf_RX5_171 dX5_warm_35 ?_
        refine lv_bipush (v := (nI 20)) hx hb dX5_warm_38 (by decide) ?_
        refine lv_aload_n hx hb dX5_warm_40 rfl (lv_at hl 1 rfl) ?_
        refine kc_Vi hC hW (kv_me hm) rfl (c4_length l V ad _ m hm) km_RX5_96 kn_yX4_length ks_yX4_length kz_RX4 kd_yX4_length dn_X4_length rfl hl.1 ⟨by decide, by decide⟩ (Nat.le_of_ble_eq_true rfl) ⟨by decide, by decide⟩ dX5_warm_41 (fun r_41 T_41 H locs p_41 hW => ?_)
        obtain ⟨q_41, p_41⟩ := p_41
        rw [p_41] at hW
        refine gq_top (nI (csz T m)) (q_41) ?_
        refine lv_imul hx hb dX5_warm_44 ?_
        refine lv_i2l hx hb dX5_warm_45 rfl ?_
        refine gq_topl (lN 20 * (nI (csz T m)).toInt64) (s_mlen hz20 (by decide)) ?_
        refine lv_ladd hx hb dX5_warm_46 ?_
        refine kp_tm_10 hC hW kf_RX5_171 dX5_warm_47 (fun H locs hW => ?_)
        refine lv_aload_n hx hb dX5_warm_50 rfl (lv_at hl 0 rfl) ?_
        refine kg_tm_13 hC hW kf_RX5_43 dX5_warm_51 ?_
        refine lv_iconst (v := (nI 0)) hx hb dX5_warm_54 (by decide) ?_
        refine lv_dup2_11 hx hb dX5_warm_55 rfl rfl ?_
        refine ka_tot hC hW (by omega) dX5_warm_56 ?_
        refine lv_lconst (v := 1) hx hb dX5_warm_57 (by decide) ?_
        refine lv_ladd hx hb dX5_warm_58 ?_
        refine ks_tot hC hW (by omega) dX5_warm_59 (fun H locs hW => ?_)
        refine k60 _ _ _ ⟨?_, lv_sub hl [0, 1] rfl⟩
        rw [show sp_w1 T m = _ from if_pos ⟨c_14, Int32.not_lt.mp c_25⟩]
        rw [h5]
        exact hW
/-- the class's begin: method m as number f, its registers the int 0 -/
def c_start (T : rS) (i : Nat) (a b : Int32) : rS := s_fill (s_fill (su (su (su T 18 (va_up (T.1 18) i a)) 20 (va_up (T.1 20) i b)) 19 (va_up (T.1 19) i 0)) 22 i 0) 21 i (-1)
def c_begin (T : rS) (f m : Nat) : rS := su (su (c_start (sp_warm T m) f (nI m) ((sp_warm T m).1 10 m)) 17 (fun _ => nI (f + 1))) 28 (fun _ => if T.1 28 0 < nI (f + 1) then nI (f + 1) else T.1 28 0)
set_option maxHeartbeats 4000000 in
set_option maxRecDepth 100000 in
theorem c5_begin (l : Launch) (V : gV) (ad : gA) (T : rS) (f m : Nat) (hf : f < 20) (hr : T.1 17 0 = nI f) (hm : m < cnm T) (hm12 : m < 12) (hz20 : csz T m ≤ 20) (h5 : T.1 5 m = nI (csz T m)) (hcr : ∀ r : Nat, r < 480 → T.1 15 r = 0 ∨ T.1 15 r = 1) : kMr l yX5_begin cX5_begin 4 (some (.object "TieredMachine$Frame")) ({ frames := 5, cells := 0, slots := 0, locals := 106 } : Room) [.ref (ad 0 0 0), .int (nI m)] V ad T (fun r T' => r = ad 10 f 0 ∧ T' = c_begin T f m) := by
  refine kMr.of (by decide) (Nat.le_of_ble_eq_true rfl) ?_
  intro p e s m_ below meth c ls E sz hC hz hW hl
  have hx := hC.1
  have hb := hC.2.1
  have hl : lv_has ls 4 [(0, .ref (ad 0 0 0)), (1, .int (nI m))] := hl
  have w17 : (sp_warm T m).1 17 = T.1 17 := sp_warm_f (by decide) (by decide) (by decide) (by decide) (by decide)
  have w28 : (sp_warm T m).1 28 = T.1 28 := sp_warm_f (by decide) (by decide) (by decide) (by decide) (by decide)
  have hm1 : m < cnm (sp_warm T m) := by unfold cnm; rw [sp_warm_f (by decide) (by decide) (by decide) (by decide) (by decide)]; exact hm
  refine lv_aload_n hx hb dX5_begin_0 rfl (lv_at hl 0 rfl) ?_
  refine kg_tm_1 hC hW kf_RX5_19 dX5_begin_1 ?_
  refine lv_iload_n hx hb dX5_begin_4 rfl (lv_at hl 1 rfl) ?_
  refine kc_Vr hC hW (kv_ml ) rfl (kc_get_ml l V ad _ hm) km_RX5_120 kn_yJx4a65c_get_915e3 ks_yJx4a65c_get_915e3 kz_RJx4a65c kd_yJx4a65c_get_915e3 dn_Jx4a65c_get_915e3 rfl hl.1 ⟨by decide, by decide⟩ (Nat.le_of_ble_eq_true rfl) ⟨by decide, by decide⟩ dX5_begin_5 (fun r_5 T_5 H locs p_5 hW => ?_)
  obtain ⟨q_5, p_5⟩ := p_5
  rw [p_5] at hW
  rw [q_5]
  refine kx_cast hC hW (kv_me hm) rfl kc_RX5_76 dX5_begin_8 ?_
  refine lv_astore_n (lv' := [(2, .ref (ad 13 m 0)), (0, .ref (ad 0 0 0)), (1, .int (nI m))]) hx hb dX5_begin_11 rfl hl (by decide) rfl (fun ls hl => ?_)
  refine lv_aload_n hx hb dX5_begin_12 rfl (lv_at hl 1 rfl) ?_
  refine lv_aload_n hx hb dX5_begin_13 rfl (lv_at hl 0 rfl) ?_
  refine kc_Vv hC hW (kv_tm ) rfl (c5_warm l V ad _ m hm hm12 hz20 h5 hcr) km_RX5_238 kn_yX5_warm ks_yX5_warm kz_RX5 kd_yX5_warm dn_X5_warm rfl hl.1 ⟨by decide, by decide⟩ (Nat.le_of_ble_eq_true rfl) ⟨by decide, by decide⟩ dX5_begin_14 (fun T_14 H locs p_14 hW => ?_)
  subst p_14
  refine lv_aload_n hx hb dX5_begin_17 rfl (lv_at hl 1 rfl) ?_
  refine kg_tm_5 hC hW kf_RX5_35 dX5_begin_18 ?_
  refine lv_aload_n hx hb dX5_begin_21 rfl (lv_at hl 1 rfl) ?_
  refine kg_tm_6 hC hW kf_RX5_158 dX5_begin_22 ?_
  refine gq_top (nI f) (by rw [w17]; exact hr) ?_
  refine ka_fra hC hW (by omega) dX5_begin_25 ?_
  refine lv_astore_n (lv' := [(3, .ref (ad 10 f 0)), (2, .ref (ad 13 m 0)), (0, .ref (ad 0 0 0)), (1, .int (nI m))]) hx hb dX5_begin_26 rfl hl (by decide) rfl (fun ls hl => ?_)
  refine lv_aload_n hx hb dX5_begin_27 rfl (lv_at hl 0 rfl) ?_
  refine lv_iload_n hx hb dX5_begin_28 rfl (lv_at hl 3 rfl) ?_
  refine lv_aload_n hx hb dX5_begin_29 rfl (lv_at hl 1 rfl) ?_
  refine kg_me_1 hC hW hm1 kf_RX5_124 dX5_begin_30 ?_
  refine kc_Vv hC hW (kv_fr hf) rfl (c0_start l V ad _ f hf (nI m) ((sp_warm T m).1 10 m)) km_RX5_242 kn_yX0_start ks_yX0_start kz_RX0 kd_yX0_start dn_X0_start rfl hl.1 ⟨by decide, by decide⟩ (Nat.le_of_ble_eq_true rfl) ⟨by decide, by decide⟩ dX5_begin_33 (fun T_33 H locs p_33 hW => ?_)
  subst p_33
  refine lv_aload_n hx hb dX5_begin_36 rfl (lv_at hl 2 rfl) ?_
  refine lv_dup hx hb dX5_begin_37 rfl ?_
  refine kg_tm_6 hC hW kf_RX5_158 dX5_begin_38 ?_
  refine gq_top (nI f) (by show (sp_warm T m).1 17 0 = _; rw [w17]; exact hr) ?_
  refine lv_iconst (v := 1) hx hb dX5_begin_41 (by decide) ?_
  refine lv_iadd hx hb dX5_begin_42 ?_
  refine gq_top (nI (f + 1)) (nI_1 f) ?_
  refine kp_tm_6 hC hW kf_RX5_158 dX5_begin_43 (fun H locs hW => ?_)
  refine lv_aload_n hx hb dX5_begin_46 rfl (lv_at hl 2 rfl) ?_
  refine lv_aload_n hx hb dX5_begin_47 rfl (lv_at hl 2 rfl) ?_
  refine kg_tm_12 hC hW kf_RX5_178 dX5_begin_48 ?_
  refine gq_top (T.1 28 0) (by show (sp_warm T m).1 28 0 = _; rw [w28]) ?_
  refine lv_aload_n hx hb dX5_begin_51 rfl (lv_at hl 2 rfl) ?_
  refine kg_tm_6 hC hW kf_RX5_158 dX5_begin_52 ?_
  refine gq_top (nI (f + 1)) (rfl) ?_
  refine gq_mmax hC km_RX5_245 kst_Lib_Math_max_name kz_java_lang_Math kd_Lib_Math_max_name hl.1 (by decide) (Nat.le_of_ble_eq_true rfl) (by decide) (by decide) dX5_begin_55 ?_
  refine kp_tm_12 hC hW kf_RX5_178 dX5_begin_58 (fun H locs hW => ?_)
  refine lv_aload_n hx hb dX5_begin_61 rfl (lv_at hl 0 rfl) ?_
  exact kr_aret hC (Or.inl ⟨_, rfl⟩) hz hW (⟨rfl, rfl⟩) (by decide) (by decide) dX5_begin_62
def c_end (T : rS) (f : Nat) (k v : Int32) : rS := if f = 0 then su (su (su T 17 (fun _ => nI f)) 24 (fun _ => v)) 23 (fun _ => k) else sp_put (su T 17 (fun _ => nI f)) (f - 1) (tn (T.1 29 (f - 1))) k v
set_option maxHeartbeats 4000000 in
set_option maxRecDepth 100000 in
theorem c5_end (l : Launch) (V : gV) (ad : gA) (T : rS) (f : Nat) (hf : f < 20) (hr : T.1 17 0 = nI (f + 1)) (haw : f ≠ 0 → ∃ a : Nat, a < 4 ∧ T.1 29 (f - 1) = nI a) (v k : Int32) : kMv l yX5_end cX5_end 4 none ({ frames := 1, cells := 0, slots := 0, locals := 23 } : Room) [.ref (ad 0 0 0), .int v, .int k] V ad T (fun T' => T' = c_end T f k v) := by
  refine kMv.of (by decide) (Nat.le_of_ble_eq_true rfl) ?_
  intro p e s m_ below meth c ls E sz hC hz hW hl
  have hx := hC.1
  have hb := hC.2.1
  have hl : lv_has ls 4 [(0, .ref (ad 0 0 0)), (1, .int v), (2, .int k)] := hl
  refine lv_aload_n hx hb dX5_end_0 rfl (lv_at hl 0 rfl) ?_
  refine lv_dup hx hb dX5_end_1 rfl ?_
  refine kg_tm_6 hC hW kf_RX5_158 dX5_end_2 ?_
  refine gq_top (nI (f + 1)) (hr) ?_
  refine lv_iconst (v := 1) hx hb dX5_end_5 (by decide) ?_
  refine lv_isub hx hb dX5_end_6 ?_
  refine gq_top (nI f) (nI_pred f) ?_
  refine kp_tm_6 hC hW kf_RX5_158 dX5_end_7 (fun H locs hW => ?_)
  refine lv_aload_n hx hb dX5_end_10 rfl (lv_at hl 0 rfl) ?_
  refine kg_tm_6 hC hW kf_RX5_158 dX5_end_11 ?_
  refine gq_top (nI f) (rfl) ?_
  refine gn_if_le (tgt := 42) hx hb (by omega) dX5_end_14 (by decide) (fun c_14 => ?_) (fun c_14 => ?_)
  · refine lv_aload_n hx hb dX5_end_42 rfl (lv_at hl 0 rfl) ?_
    refine lv_iload_n hx hb dX5_end_43 rfl (lv_at hl 1 rfl) ?_
    refine kp_tm_7 hC hW kf_RX5_168 dX5_end_44 (fun H locs hW => ?_)
    refine lv_aload_n hx hb dX5_end_47 rfl (lv_at hl 0 rfl) ?_
    refine lv_iload_n hx hb dX5_end_48 rfl (lv_at hl 2 rfl) ?_
    refine kp_tm_8 hC hW kf_RX5_40 dX5_end_49 (fun H locs hW => ?_)
    exact kr_vret hC hz hW (by unfold c_end; rw [if_pos c_14]) (by decide) (by decide) dX5_end_52
  · obtain ⟨a, ha, hea⟩ := haw (by omega)
    have hta : tn (T.1 29 (f - 1)) = a := by rw [hea]; exact tn_nI (by omega)
    refine lv_aload_n hx hb dX5_end_17 rfl (lv_at hl 0 rfl) ?_
    refine kg_tm_5 hC hW kf_RX5_35 dX5_end_18 ?_
    refine lv_aload_n hx hb dX5_end_21 rfl (lv_at hl 0 rfl) ?_
    refine kg_tm_6 hC hW kf_RX5_158 dX5_end_22 ?_
    refine gq_top (nI f) (rfl) ?_
    refine lv_iconst (v := 1) hx hb dX5_end_25 (by decide) ?_
    refine lv_isub hx hb dX5_end_26 ?_
    refine gq_top (nI (f - 1)) (nI_sub (b := 1) (by omega)) ?_
    refine ka_fra hC hW (by omega) dX5_end_27 ?_
    refine lv_astore_n (lv' := [(3, .ref (ad 10 (f - 1) 0)), (0, .ref (ad 0 0 0)), (1, .int v), (2, .int k)]) hx hb dX5_end_28 rfl hl (by decide) rfl (fun ls hl => ?_)
    refine lv_aload_n hx hb dX5_end_29 rfl (lv_at hl 0 rfl) ?_
    refine lv_aload_n hx hb dX5_end_30 rfl (lv_at hl 0 rfl) ?_
    refine kg_fr_5 hC hW (show f - 1 < 20 by omega) kf_RX5_262 dX5_end_31 ?_
    refine gq_top (nI a) (hea) ?_
    refine lv_iload_n hx hb dX5_end_34 rfl (lv_at hl 2 rfl) ?_
    refine lv_iload_n hx hb dX5_end_35 rfl (lv_at hl 3 rfl) ?_
    refine kc_Vv hC hW (kv_fr (show f - 1 < 20 by omega)) rfl (c0_put l V ad _ (f - 1) (by omega) a ha v k) km_RX5_265 kn_yX0_put ks_yX0_put kz_RX0 kd_yX0_put dn_X0_put rfl hl.1 ⟨by decide, by decide⟩ (Nat.le_of_ble_eq_true rfl) ⟨by decide, by decide⟩ dX5_end_36 (fun T_36 H locs p_36 hW => ?_)
    subst p_36
    refine lv_goto (tgt := 52) hx hb dX5_end_39 (by decide) ?_
    exact kr_vret hC hz hW (by unfold c_end; rw [if_neg (by omega), hta]) (by decide) (by decide) dX5_end_52
set_option maxHeartbeats 4000000 in
set_option maxRecDepth 100000 in
theorem c5_jump (l : Launch) (V : gV) (ad : gA) (T : rS) (f m : Nat) (hf : f < 20) (h18 : T.1 18 f = nI m) (hm : m < cnm T) (hm12 : m < 12) (hz20 : csz T m ≤ 20) (h5 : T.1 5 m = nI (csz T m)) (hcr : ∀ r : Nat, r < 480 → T.1 15 r = 0 ∨ T.1 15 r = 1) (t : Int32) : kMv l yX5_jump cX5_jump 5 none ({ frames := 5, cells := 0, slots := 0, locals := 106 } : Room) [.ref (ad 0 0 0), .ref (ad 10 f 0), .int t] V ad T (fun T' => T' = sp_goTo T f t) := by
  refine kMv.of (by decide) (Nat.le_of_ble_eq_true rfl) ?_
  intro p e s m_ below meth c ls E sz hC hz hW hl
  have hx := hC.1
  have hb := hC.2.1
  have hl : lv_has ls 5 [(0, .ref (ad 0 0 0)), (1, .ref (ad 10 f 0)), (2, .int t)] := hl
  have e18 : tn (T.1 18 f) = m := by rw [h18]; exact tn_nI (by omega)
  have hm1 : m < cnm (sp_warm (su T 19 (va_up (T.1 19) f t)) m) := by unfold cnm; rw [sp_warm_f (by decide) (by decide) (by decide) (by decide) (by decide)]; exact hm
  refine lv_iload_n hx hb dX5_jump_0 rfl (lv_at hl 2 rfl) ?_
  refine lv_aload_n hx hb dX5_jump_1 rfl (lv_at hl 1 rfl) ?_
  refine kg_fr_4 hC hW hf kf_RX5_256 dX5_jump_2 ?_
  refine lv_icmp_gt (tgt := 12) hx hb dX5_jump_5 (by decide) (fun c_5 => ?_) (fun c_5 => ?_)
  · refine lv_iconst (v := 0) hx hb dX5_jump_12 (by decide) ?_
    refine lv_istore_n (lv' := [(3, .int 0), (0, .ref (ad 0 0 0)), (1, .ref (ad 10 f 0)), (2, .int t)]) hx hb dX5_jump_13 rfl hl (by decide) rfl (fun ls hl => ?_)
    refine lv_aload_n hx hb dX5_jump_14 rfl (lv_at hl 2 rfl) ?_
    refine lv_iload_n hx hb dX5_jump_15 rfl (lv_at hl 3 rfl) ?_
    refine kp_fr_4 hC hW hf kf_RX5_256 dX5_jump_16 (fun H locs hW => ?_)
    refine lv_iload_n hx hb dX5_jump_19 rfl (lv_at hl 0 rfl) ?_
    refine lv_if_ne (tgt := 24) hx hb dX5_jump_20 (by decide) (fun c_20 => absurd (by decide) c_20) (fun c_20 => ?_)
    exact kr_vret hC hz hW (by unfold sp_goTo; rw [if_pos c_5]) (by decide) (by decide) dX5_jump_23
  · refine lv_iconst (v := 1) hx hb dX5_jump_8 (by decide) ?_
    refine lv_goto (tgt := 13) hx hb dX5_jump_9 (by decide) ?_
    refine lv_istore_n (lv' := [(3, .int 1), (0, .ref (ad 0 0 0)), (1, .ref (ad 10 f 0)), (2, .int t)]) hx hb dX5_jump_13 rfl hl (by decide) rfl (fun ls hl => ?_)
    refine lv_aload_n hx hb dX5_jump_14 rfl (lv_at hl 2 rfl) ?_
    refine lv_iload_n hx hb dX5_jump_15 rfl (lv_at hl 3 rfl) ?_
    refine kp_fr_4 hC hW hf kf_RX5_256 dX5_jump_16 (fun H locs hW => ?_)
    refine lv_iload_n hx hb dX5_jump_19 rfl (lv_at hl 0 rfl) ?_
    refine lv_if_ne (tgt := 24) hx hb dX5_jump_20 (by decide) (fun c_20 => ?_) (fun c_20 => absurd c_20 (by decide))
    refine lv_aload_n hx hb dX5_jump_24 rfl (lv_at hl 1 rfl) ?_
    refine kg_tm_1 hC hW kf_RX5_19 dX5_jump_25 ?_
    refine lv_aload_n hx hb dX5_jump_28 rfl (lv_at hl 2 rfl) ?_
    refine kg_fr_2 hC hW hf kf_RX5_253 dX5_jump_29 ?_
    refine gq_top (nI m) (h18) ?_
    refine kc_Vr hC hW (kv_ml ) rfl (kc_get_ml l V ad _ hm) km_RX5_120 kn_yJx4a65c_get_915e3 ks_yJx4a65c_get_915e3 kz_RJx4a65c kd_yJx4a65c_get_915e3 dn_Jx4a65c_get_915e3 rfl hl.1 ⟨by decide, by decide⟩ (Nat.le_of_ble_eq_true rfl) ⟨by decide, by decide⟩ dX5_jump_32 (fun r_32 T_32 H locs p_32 hW => ?_)
    obtain ⟨q_32, p_32⟩ := p_32
    rw [p_32] at hW
    rw [q_32]
    refine kx_cast hC hW (kv_me hm) rfl kc_RX5_76 dX5_jump_35 ?_
    refine lv_astore (lv' := [(4, .ref (ad 13 m 0)), (3, .int 1), (0, .ref (ad 0 0 0)), (1, .ref (ad 10 f 0)), (2, .int t)]) hx hb dX5_jump_38 hl (by decide) rfl (fun ls hl => ?_)
    refine lv_aload_n hx hb dX5_jump_40 rfl (lv_at hl 2 rfl) ?_
    refine lv_aload hx hb dX5_jump_41 (lv_at hl 0 rfl) ?_
    refine kc_Vv hC hW (kv_tm ) rfl (c5_warm l V ad _ m hm hm12 hz20 h5 hcr) km_RX5_238 kn_yX5_warm ks_yX5_warm kz_RX5 kd_yX5_warm dn_X5_warm rfl hl.1 ⟨by decide, by decide⟩ (Nat.le_of_ble_eq_true rfl) ⟨by decide, by decide⟩ dX5_jump_43 (fun T_43 H locs p_43 hW => ?_)
    subst p_43
    have hm := hm1
    refine lv_aload hx hb dX5_jump_46 (lv_at hl 0 rfl) ?_
    refine kg_me_1 hC hW hm kf_RX5_124 dX5_jump_48 ?_
    refine lv_aload_n hx hb dX5_jump_51 rfl (lv_at hl 3 rfl) ?_
    refine kg_fr_3 hC hW hf kf_RX5_268 dX5_jump_52 ?_
    refine lv_icmp_le (tgt := 77) hx hb dX5_jump_55 (by decide) (fun c_55 => ?_) (fun c_55 => ?_)
    · exact kr_vret hC hz hW (by unfold sp_goTo; rw [if_neg c_5, e18]; exact (if_neg (Int32.not_lt.mpr c_55)).symm) (by decide) (by decide) dX5_jump_77
    · refine lv_aload_n hx hb dX5_jump_58 rfl (lv_at hl 3 rfl) ?_
      refine lv_aload hx hb dX5_jump_59 (lv_at hl 0 rfl) ?_
      refine kg_me_1 hC hW hm kf_RX5_124 dX5_jump_61 ?_
      refine kp_fr_3 hC hW hf kf_RX5_268 dX5_jump_64 (fun H locs hW => ?_)
      refine lv_aload_n hx hb dX5_jump_67 rfl (lv_at hl 2 rfl) ?_
      refine kg_tm_13 hC hW kf_RX5_43 dX5_jump_68 ?_
      refine lv_iconst (v := (nI 3)) hx hb dX5_jump_71 (by decide) ?_
      refine lv_dup2_11 hx hb dX5_jump_72 rfl rfl ?_
      refine ka_tot hC hW (by omega) dX5_jump_73 ?_
      refine lv_lconst (v := 1) hx hb dX5_jump_74 (by decide) ?_
      refine lv_ladd hx hb dX5_jump_75 ?_
      refine ks_tot hC hW (by omega) dX5_jump_76 (fun H locs hW => ?_)
      exact kr_vret hC hz hW (by unfold sp_goTo; rw [if_neg c_5, e18]; exact (if_pos (Int32.not_le.mp c_55)).symm) (by decide) (by decide) dX5_jump_77
