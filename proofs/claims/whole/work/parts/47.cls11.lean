set_option maxHeartbeats 4000000 in
set_option maxRecDepth 100000 in
theorem c5_isRegister (l : Launch) (V : gV) (ad : gA) (T : rS) (x : Int32) : kMi l yX5_isRegister cX5_isRegister 1 (some .boolean) ({ frames := 0, cells := 0, slots := 0, locals := 0 } : Room) [.int x] V ad T (fun r T' => r = rb (s_rg x) ∧ T' = T) := by
  refine kMi.of (by decide) (Nat.le_of_ble_eq_true rfl) ?_
  intro p e s m_ below meth c ls E sz hC hz hW hl
  have hx := hC.1
  have hb := hC.2.1
  have hl : lv_has ls 1 [(0, .int x)] := hl
  refine lv_iload_n hx hb dX5_isRegister_0 rfl (lv_at hl 0 rfl) ?_
  refine lv_if_lt (tgt := 13) hx hb dX5_isRegister_1 (by decide) (fun c_1 => ?_) (fun c_1 => ?_)
  · refine lv_iconst (v := 0) hx hb dX5_isRegister_13 (by decide) ?_
    exact kr_zret hC hz hW (by decide) (⟨(rb_0 (fun w => w.1 c_1)).symm, rfl⟩) (by decide) (by decide) dX5_isRegister_14
  · refine lv_iload_n hx hb dX5_isRegister_4 rfl (lv_at hl 0 rfl) ?_
    refine lv_iconst (v := 4) hx hb dX5_isRegister_5 (by decide) ?_
    refine lv_icmp_ge (tgt := 13) hx hb dX5_isRegister_6 (by decide) (fun c_6 => ?_) (fun c_6 => ?_)
    · refine lv_iconst (v := 0) hx hb dX5_isRegister_13 (by decide) ?_
      exact kr_zret hC hz hW (by decide) (⟨(rb_0 (fun w => Int32.not_le.mpr w.2 c_6)).symm, rfl⟩) (by decide) (by decide) dX5_isRegister_14
    · refine lv_iconst (v := 1) hx hb dX5_isRegister_9 (by decide) ?_
      refine lv_goto (tgt := 14) hx hb dX5_isRegister_10 (by decide) ?_
      exact kr_zret hC hz hW (by decide) (⟨(rb_1 ⟨c_1, Int32.not_le.mp c_6⟩).symm, rfl⟩) (by decide) (by decide) dX5_isRegister_14
set_option maxHeartbeats 4000000 in
set_option maxRecDepth 100000 in
theorem c5_isSelector (l : Launch) (V : gV) (ad : gA) (T : rS) (x : Int32) : kMi l yX5_isSelector cX5_isSelector 1 (some .boolean) ({ frames := 0, cells := 0, slots := 0, locals := 0 } : Room) [.int x] V ad T (fun r T' => r = rb (s_sl x) ∧ T' = T) := by
  refine kMi.of (by decide) (Nat.le_of_ble_eq_true rfl) ?_
  intro p e s m_ below meth c ls E sz hC hz hW hl
  have hx := hC.1
  have hb := hC.2.1
  have hl : lv_has ls 1 [(0, .int x)] := hl
  refine lv_iload_n hx hb dX5_isSelector_0 rfl (lv_at hl 0 rfl) ?_
  refine lv_if_lt (tgt := 14) hx hb dX5_isSelector_1 (by decide) (fun c_1 => ?_) (fun c_1 => ?_)
  · refine lv_iconst (v := 0) hx hb dX5_isSelector_14 (by decide) ?_
    exact kr_zret hC hz hW (by decide) (⟨(rb_0 (fun w => w.1 c_1)).symm, rfl⟩) (by decide) (by decide) dX5_isSelector_15
  · refine lv_iload_n hx hb dX5_isSelector_4 rfl (lv_at hl 0 rfl) ?_
    refine lv_bipush (v := 6) hx hb dX5_isSelector_5 (by decide) ?_
    refine lv_icmp_ge (tgt := 14) hx hb dX5_isSelector_7 (by decide) (fun c_7 => ?_) (fun c_7 => ?_)
    · refine lv_iconst (v := 0) hx hb dX5_isSelector_14 (by decide) ?_
      exact kr_zret hC hz hW (by decide) (⟨(rb_0 (fun w => Int32.not_le.mpr w.2 c_7)).symm, rfl⟩) (by decide) (by decide) dX5_isSelector_15
    · refine lv_iconst (v := 1) hx hb dX5_isSelector_10 (by decide) ?_
      refine lv_goto (tgt := 15) hx hb dX5_isSelector_11 (by decide) ?_
      exact kr_zret hC hz hW (by decide) (⟨(rb_1 ⟨c_1, Int32.not_le.mp c_7⟩).symm, rfl⟩) (by decide) (by decide) dX5_isSelector_15
set_option maxHeartbeats 4000000 in
set_option maxRecDepth 100000 in
theorem c5_isPlace (l : Launch) (V : gV) (ad : gA) (T : rS) (x : Int32) : kMi l yX5_isPlace cX5_isPlace 1 (some .boolean) ({ frames := 0, cells := 0, slots := 0, locals := 0 } : Room) [.int x] V ad T (fun r T' => r = rb (s_pl x) ∧ T' = T) := by
  refine kMi.of (by decide) (Nat.le_of_ble_eq_true rfl) ?_
  intro p e s m_ below meth c ls E sz hC hz hW hl
  have hx := hC.1
  have hb := hC.2.1
  have hl : lv_has ls 1 [(0, .int x)] := hl
  refine lv_iload_n hx hb dX5_isPlace_0 rfl (lv_at hl 0 rfl) ?_
  refine lv_if_lt (tgt := 14) hx hb dX5_isPlace_1 (by decide) (fun c_1 => ?_) (fun c_1 => ?_)
  · refine lv_iconst (v := 0) hx hb dX5_isPlace_14 (by decide) ?_
    exact kr_zret hC hz hW (by decide) (⟨(rb_0 (fun w => w.1 c_1)).symm, rfl⟩) (by decide) (by decide) dX5_isPlace_15
  · refine lv_iload_n hx hb dX5_isPlace_4 rfl (lv_at hl 0 rfl) ?_
    refine lv_bipush (v := 20) hx hb dX5_isPlace_5 (by decide) ?_
    refine lv_icmp_gt (tgt := 14) hx hb dX5_isPlace_7 (by decide) (fun c_7 => ?_) (fun c_7 => ?_)
    · refine lv_iconst (v := 0) hx hb dX5_isPlace_14 (by decide) ?_
      exact kr_zret hC hz hW (by decide) (⟨(rb_0 (fun w => Int32.not_lt.mpr w.2 c_7)).symm, rfl⟩) (by decide) (by decide) dX5_isPlace_15
    · refine lv_iconst (v := 1) hx hb dX5_isPlace_10 (by decide) ?_
      refine lv_goto (tgt := 15) hx hb dX5_isPlace_11 (by decide) ?_
      exact kr_zret hC hz hW (by decide) (⟨(rb_1 ⟨c_1, Int32.not_lt.mp c_7⟩).symm, rfl⟩) (by decide) (by decide) dX5_isPlace_15
set_option maxHeartbeats 4000000 in
set_option maxRecDepth 100000 in
theorem c5_isThreshold (l : Launch) (V : gV) (ad : gA) (T : rS) (x : Int32) : kMi l yX5_isThreshold cX5_isThreshold 1 (some .boolean) ({ frames := 0, cells := 0, slots := 0, locals := 0 } : Room) [.int x] V ad T (fun r T' => r = rb (¬ x < 1 ∧ x ≤ 1000) ∧ T' = T) := by
  refine kMi.of (by decide) (Nat.le_of_ble_eq_true rfl) ?_
  intro p e s m_ below meth c ls E sz hC hz hW hl
  have hx := hC.1
  have hb := hC.2.1
  have hl : lv_has ls 1 [(0, .int x)] := hl
  refine lv_iload_n hx hb dX5_isThreshold_0 rfl (lv_at hl 0 rfl) ?_
  refine lv_iconst (v := 1) hx hb dX5_isThreshold_1 (by decide) ?_
  refine lv_icmp_lt (tgt := 16) hx hb dX5_isThreshold_2 (by decide) (fun c_2 => ?_) (fun c_2 => ?_)
  · refine lv_iconst (v := 0) hx hb dX5_isThreshold_16 (by decide) ?_
    exact kr_zret hC hz hW (by decide) (⟨(rb_0 (fun w => w.1 c_2)).symm, rfl⟩) (by decide) (by decide) dX5_isThreshold_17
  · refine lv_iload_n hx hb dX5_isThreshold_5 rfl (lv_at hl 0 rfl) ?_
    refine lv_sipush (v := 1000) hx hb dX5_isThreshold_6 (by decide) ?_
    refine lv_icmp_gt (tgt := 16) hx hb dX5_isThreshold_9 (by decide) (fun c_9 => ?_) (fun c_9 => ?_)
    · refine lv_iconst (v := 0) hx hb dX5_isThreshold_16 (by decide) ?_
      exact kr_zret hC hz hW (by decide) (⟨(rb_0 (fun w => Int32.not_lt.mpr w.2 c_9)).symm, rfl⟩) (by decide) (by decide) dX5_isThreshold_17
    · refine lv_iconst (v := 1) hx hb dX5_isThreshold_12 (by decide) ?_
      refine lv_goto (tgt := 17) hx hb dX5_isThreshold_13 (by decide) ?_
      exact kr_zret hC hz hW (by decide) (⟨(rb_1 ⟨c_2, Int32.not_lt.mp c_9⟩).symm, rfl⟩) (by decide) (by decide) dX5_isThreshold_17
set_option maxHeartbeats 4000000 in
set_option maxRecDepth 100000 in
theorem c5_fits (l : Launch) (V : gV) (ad : gA) (T : rS) (k a b c_ d : Int32) : kMi l yX5_fits cX5_fits 6 (some .boolean) ({ frames := 1, cells := 0, slots := 0, locals := 21 } : Room) [.ref (ad 0 0 0), .int k, .int a, .int b, .int c_, .int d] V ad T (fun r T' => r = rb (s_fit T k a b c_ d) ∧ T' = T) := by
  refine kMi.of (by decide) (Nat.le_of_ble_eq_true rfl) ?_
  intro p e s m_ below meth c ls E sz hC hz hW hl
  have hx := hC.1
  have hb := hC.2.1
  have hl : lv_has ls 6 [(0, .ref (ad 0 0 0)), (1, .int k), (2, .int a), (3, .int b), (4, .int c_), (5, .int d)] := hl
  have hkk : k = 0 ∨ k = 1 ∨ k = 2 ∨ k = 3 ∨ k = 4 ∨ k = 5 ∨ k = 6 ∨ k = 7 ∨ k = 8 ∨ (k ≠ 0 ∧ k ≠ 1 ∧ k ≠ 2 ∧ k ≠ 3 ∧ k ≠ 4 ∧ k ≠ 5 ∧ k ≠ 6 ∧ k ≠ 7 ∧ k ≠ 8) := by
    by_cases h0 : k = 0
    · exact Or.inl h0
    by_cases h1 : k = 1
    · exact Or.inr (Or.inl h1)
    by_cases h2 : k = 2
    · exact Or.inr (Or.inr (Or.inl h2))
    by_cases h3 : k = 3
    · exact Or.inr (Or.inr (Or.inr (Or.inl h3)))
    by_cases h4 : k = 4
    · exact Or.inr (Or.inr (Or.inr (Or.inr (Or.inl h4))))
    by_cases h5 : k = 5
    · exact Or.inr (Or.inr (Or.inr (Or.inr (Or.inr (Or.inl h5)))))
    by_cases h6 : k = 6
    · exact Or.inr (Or.inr (Or.inr (Or.inr (Or.inr (Or.inr (Or.inl h6))))))
    by_cases h7 : k = 7
    · exact Or.inr (Or.inr (Or.inr (Or.inr (Or.inr (Or.inr (Or.inr (Or.inl h7)))))))
    by_cases h8 : k = 8
    · exact Or.inr (Or.inr (Or.inr (Or.inr (Or.inr (Or.inr (Or.inr (Or.inr (Or.inl h8))))))))
    exact Or.inr (Or.inr (Or.inr (Or.inr (Or.inr (Or.inr (Or.inr (Or.inr (Or.inr ⟨h0, h1, h2, h3, h4, h5, h6, h7, h8⟩))))))))
  rcases hkk with hk | hk | hk | hk | hk | hk | hk | hk | hk | hk <;> first | subst hk | skip
  · have hf : (s_rg a) ↔ s_fit T 0 a b c_ d := by
      unfold s_fit
      simp
    refine lv_iload_n hx hb dX5_fits_0 rfl (lv_at hl 1 rfl) ?_
    refine lv_tableIn (tgt := 52) hx hb dX5_fits_1 (by decide) (by decide) rfl (by decide) ?_
    refine lv_iload_n hx hb dX5_fits_52 rfl (lv_at hl 2 rfl) ?_
    refine kc_Si hC hW (c5_isRegister l V ad _ a) km_RX5_232 kst_yX5_isRegister kz_RX5 kd_yX5_isRegister dn_X5_isRegister.2 rfl hl.1 ⟨by decide, by decide⟩ (Nat.le_of_ble_eq_true rfl) ⟨by decide, by decide⟩ dX5_fits_53 (fun r_53 T_53 H locs p_53 hW => ?_)
    obtain ⟨q_53, p_53⟩ := p_53
    rw [p_53] at hW
    refine gq_top (rb (s_rg a)) (q_53) ?_
    exact kr_zret hC hz hW (rb_or _) (⟨rb_iff hf, rfl⟩) (by decide) (by decide) dX5_fits_56
  · have hf : (s_rg a ∧ s_rg b ∧ s_rg c_) ↔ s_fit T 1 a b c_ d := by
      unfold s_fit
      simp
    refine lv_iload_n hx hb dX5_fits_0 rfl (lv_at hl 1 rfl) ?_
    refine lv_tableIn (tgt := 57) hx hb dX5_fits_1 (by decide) (by decide) rfl (by decide) ?_
    refine lv_iload_n hx hb dX5_fits_57 rfl (lv_at hl 2 rfl) ?_
    refine kc_Si hC hW (c5_isRegister l V ad _ a) km_RX5_232 kst_yX5_isRegister kz_RX5 kd_yX5_isRegister dn_X5_isRegister.2 rfl hl.1 ⟨by decide, by decide⟩ (Nat.le_of_ble_eq_true rfl) ⟨by decide, by decide⟩ dX5_fits_58 (fun r_58 T_58 H locs p_58 hW => ?_)
    obtain ⟨q_58, p_58⟩ := p_58
    rw [p_58] at hW
    refine gq_top (rb (s_rg a)) (q_58) ?_
    refine lv_if_eq (tgt := 83) hx hb dX5_fits_61 (by decide) (fun c_61 => ?_) (fun c_61 => ?_)
    · refine lv_iconst (v := 0) hx hb dX5_fits_83 (by decide) ?_
      exact kr_zret hC hz hW (by decide) (⟨((rb_iff hf).symm.trans (rb_0 (fun w => rb_n c_61 w.1))).symm, rfl⟩) (by decide) (by decide) dX5_fits_84
    · refine lv_iload_n hx hb dX5_fits_64 rfl (lv_at hl 3 rfl) ?_
      refine kc_Si hC hW (c5_isRegister l V ad _ b) km_RX5_232 kst_yX5_isRegister kz_RX5 kd_yX5_isRegister dn_X5_isRegister.2 rfl hl.1 ⟨by decide, by decide⟩ (Nat.le_of_ble_eq_true rfl) ⟨by decide, by decide⟩ dX5_fits_65 (fun r_65 T_65 H locs p_65 hW => ?_)
      obtain ⟨q_65, p_65⟩ := p_65
      rw [p_65] at hW
      refine gq_top (rb (s_rg b)) (q_65) ?_
      refine lv_if_eq (tgt := 83) hx hb dX5_fits_68 (by decide) (fun c_68 => ?_) (fun c_68 => ?_)
      · refine lv_iconst (v := 0) hx hb dX5_fits_83 (by decide) ?_
        exact kr_zret hC hz hW (by decide) (⟨((rb_iff hf).symm.trans (rb_0 (fun w => rb_n c_68 w.2.1))).symm, rfl⟩) (by decide) (by decide) dX5_fits_84
      · refine lv_iload hx hb dX5_fits_71 (lv_at hl 4 rfl) ?_
        refine kc_Si hC hW (c5_isRegister l V ad _ c_) km_RX5_232 kst_yX5_isRegister kz_RX5 kd_yX5_isRegister dn_X5_isRegister.2 rfl hl.1 ⟨by decide, by decide⟩ (Nat.le_of_ble_eq_true rfl) ⟨by decide, by decide⟩ dX5_fits_73 (fun r_73 T_73 H locs p_73 hW => ?_)
        obtain ⟨q_73, p_73⟩ := p_73
        rw [p_73] at hW
        refine gq_top (rb (s_rg c_)) (q_73) ?_
        refine lv_if_eq (tgt := 83) hx hb dX5_fits_76 (by decide) (fun c_76 => ?_) (fun c_76 => ?_)
        · refine lv_iconst (v := 0) hx hb dX5_fits_83 (by decide) ?_
          exact kr_zret hC hz hW (by decide) (⟨((rb_iff hf).symm.trans (rb_0 (fun w => rb_n c_76 w.2.2))).symm, rfl⟩) (by decide) (by decide) dX5_fits_84
        · refine lv_iconst (v := 1) hx hb dX5_fits_79 (by decide) ?_
          refine lv_goto (tgt := 84) hx hb dX5_fits_80 (by decide) ?_
          exact kr_zret hC hz hW (by decide) (⟨((rb_iff hf).symm.trans (rb_1 ⟨rb_t c_61, rb_t c_68, rb_t c_76⟩)).symm, rfl⟩) (by decide) (by decide) dX5_fits_84
  · have hf : (s_rg a ∧ s_rg b ∧ s_rg c_) ↔ s_fit T 2 a b c_ d := by
      unfold s_fit
      simp
    refine lv_iload_n hx hb dX5_fits_0 rfl (lv_at hl 1 rfl) ?_
    refine lv_tableIn (tgt := 57) hx hb dX5_fits_1 (by decide) (by decide) rfl (by decide) ?_
    refine lv_iload_n hx hb dX5_fits_57 rfl (lv_at hl 2 rfl) ?_
    refine kc_Si hC hW (c5_isRegister l V ad _ a) km_RX5_232 kst_yX5_isRegister kz_RX5 kd_yX5_isRegister dn_X5_isRegister.2 rfl hl.1 ⟨by decide, by decide⟩ (Nat.le_of_ble_eq_true rfl) ⟨by decide, by decide⟩ dX5_fits_58 (fun r_58 T_58 H locs p_58 hW => ?_)
    obtain ⟨q_58, p_58⟩ := p_58
    rw [p_58] at hW
    refine gq_top (rb (s_rg a)) (q_58) ?_
    refine lv_if_eq (tgt := 83) hx hb dX5_fits_61 (by decide) (fun c_61 => ?_) (fun c_61 => ?_)
    · refine lv_iconst (v := 0) hx hb dX5_fits_83 (by decide) ?_
      exact kr_zret hC hz hW (by decide) (⟨((rb_iff hf).symm.trans (rb_0 (fun w => rb_n c_61 w.1))).symm, rfl⟩) (by decide) (by decide) dX5_fits_84
    · refine lv_iload_n hx hb dX5_fits_64 rfl (lv_at hl 3 rfl) ?_
      refine kc_Si hC hW (c5_isRegister l V ad _ b) km_RX5_232 kst_yX5_isRegister kz_RX5 kd_yX5_isRegister dn_X5_isRegister.2 rfl hl.1 ⟨by decide, by decide⟩ (Nat.le_of_ble_eq_true rfl) ⟨by decide, by decide⟩ dX5_fits_65 (fun r_65 T_65 H locs p_65 hW => ?_)
      obtain ⟨q_65, p_65⟩ := p_65
      rw [p_65] at hW
      refine gq_top (rb (s_rg b)) (q_65) ?_
      refine lv_if_eq (tgt := 83) hx hb dX5_fits_68 (by decide) (fun c_68 => ?_) (fun c_68 => ?_)
      · refine lv_iconst (v := 0) hx hb dX5_fits_83 (by decide) ?_
        exact kr_zret hC hz hW (by decide) (⟨((rb_iff hf).symm.trans (rb_0 (fun w => rb_n c_68 w.2.1))).symm, rfl⟩) (by decide) (by decide) dX5_fits_84
      · refine lv_iload hx hb dX5_fits_71 (lv_at hl 4 rfl) ?_
        refine kc_Si hC hW (c5_isRegister l V ad _ c_) km_RX5_232 kst_yX5_isRegister kz_RX5 kd_yX5_isRegister dn_X5_isRegister.2 rfl hl.1 ⟨by decide, by decide⟩ (Nat.le_of_ble_eq_true rfl) ⟨by decide, by decide⟩ dX5_fits_73 (fun r_73 T_73 H locs p_73 hW => ?_)
        obtain ⟨q_73, p_73⟩ := p_73
        rw [p_73] at hW
        refine gq_top (rb (s_rg c_)) (q_73) ?_
        refine lv_if_eq (tgt := 83) hx hb dX5_fits_76 (by decide) (fun c_76 => ?_) (fun c_76 => ?_)
        · refine lv_iconst (v := 0) hx hb dX5_fits_83 (by decide) ?_
          exact kr_zret hC hz hW (by decide) (⟨((rb_iff hf).symm.trans (rb_0 (fun w => rb_n c_76 w.2.2))).symm, rfl⟩) (by decide) (by decide) dX5_fits_84
        · refine lv_iconst (v := 1) hx hb dX5_fits_79 (by decide) ?_
          refine lv_goto (tgt := 84) hx hb dX5_fits_80 (by decide) ?_
          exact kr_zret hC hz hW (by decide) (⟨((rb_iff hf).symm.trans (rb_1 ⟨rb_t c_61, rb_t c_68, rb_t c_76⟩)).symm, rfl⟩) (by decide) (by decide) dX5_fits_84
  · have hf : (s_rg a ∧ s_rg b ∧ s_rg c_) ↔ s_fit T 3 a b c_ d := by
      unfold s_fit
      simp
    refine lv_iload_n hx hb dX5_fits_0 rfl (lv_at hl 1 rfl) ?_
    refine lv_tableIn (tgt := 57) hx hb dX5_fits_1 (by decide) (by decide) rfl (by decide) ?_
    refine lv_iload_n hx hb dX5_fits_57 rfl (lv_at hl 2 rfl) ?_
    refine kc_Si hC hW (c5_isRegister l V ad _ a) km_RX5_232 kst_yX5_isRegister kz_RX5 kd_yX5_isRegister dn_X5_isRegister.2 rfl hl.1 ⟨by decide, by decide⟩ (Nat.le_of_ble_eq_true rfl) ⟨by decide, by decide⟩ dX5_fits_58 (fun r_58 T_58 H locs p_58 hW => ?_)
    obtain ⟨q_58, p_58⟩ := p_58
    rw [p_58] at hW
    refine gq_top (rb (s_rg a)) (q_58) ?_
    refine lv_if_eq (tgt := 83) hx hb dX5_fits_61 (by decide) (fun c_61 => ?_) (fun c_61 => ?_)
    · refine lv_iconst (v := 0) hx hb dX5_fits_83 (by decide) ?_
      exact kr_zret hC hz hW (by decide) (⟨((rb_iff hf).symm.trans (rb_0 (fun w => rb_n c_61 w.1))).symm, rfl⟩) (by decide) (by decide) dX5_fits_84
    · refine lv_iload_n hx hb dX5_fits_64 rfl (lv_at hl 3 rfl) ?_
      refine kc_Si hC hW (c5_isRegister l V ad _ b) km_RX5_232 kst_yX5_isRegister kz_RX5 kd_yX5_isRegister dn_X5_isRegister.2 rfl hl.1 ⟨by decide, by decide⟩ (Nat.le_of_ble_eq_true rfl) ⟨by decide, by decide⟩ dX5_fits_65 (fun r_65 T_65 H locs p_65 hW => ?_)
      obtain ⟨q_65, p_65⟩ := p_65
      rw [p_65] at hW
      refine gq_top (rb (s_rg b)) (q_65) ?_
      refine lv_if_eq (tgt := 83) hx hb dX5_fits_68 (by decide) (fun c_68 => ?_) (fun c_68 => ?_)
      · refine lv_iconst (v := 0) hx hb dX5_fits_83 (by decide) ?_
        exact kr_zret hC hz hW (by decide) (⟨((rb_iff hf).symm.trans (rb_0 (fun w => rb_n c_68 w.2.1))).symm, rfl⟩) (by decide) (by decide) dX5_fits_84
      · refine lv_iload hx hb dX5_fits_71 (lv_at hl 4 rfl) ?_
        refine kc_Si hC hW (c5_isRegister l V ad _ c_) km_RX5_232 kst_yX5_isRegister kz_RX5 kd_yX5_isRegister dn_X5_isRegister.2 rfl hl.1 ⟨by decide, by decide⟩ (Nat.le_of_ble_eq_true rfl) ⟨by decide, by decide⟩ dX5_fits_73 (fun r_73 T_73 H locs p_73 hW => ?_)
        obtain ⟨q_73, p_73⟩ := p_73
        rw [p_73] at hW
        refine gq_top (rb (s_rg c_)) (q_73) ?_
        refine lv_if_eq (tgt := 83) hx hb dX5_fits_76 (by decide) (fun c_76 => ?_) (fun c_76 => ?_)
        · refine lv_iconst (v := 0) hx hb dX5_fits_83 (by decide) ?_
          exact kr_zret hC hz hW (by decide) (⟨((rb_iff hf).symm.trans (rb_0 (fun w => rb_n c_76 w.2.2))).symm, rfl⟩) (by decide) (by decide) dX5_fits_84
        · refine lv_iconst (v := 1) hx hb dX5_fits_79 (by decide) ?_
          refine lv_goto (tgt := 84) hx hb dX5_fits_80 (by decide) ?_
          exact kr_zret hC hz hW (by decide) (⟨((rb_iff hf).symm.trans (rb_1 ⟨rb_t c_61, rb_t c_68, rb_t c_76⟩)).symm, rfl⟩) (by decide) (by decide) dX5_fits_84
  · have hf : (s_rg a ∧ s_isC T b) ↔ s_fit T 4 a b c_ d := by
      unfold s_fit
      simp
    refine lv_iload_n hx hb dX5_fits_0 rfl (lv_at hl 1 rfl) ?_
    refine lv_tableIn (tgt := 85) hx hb dX5_fits_1 (by decide) (by decide) rfl (by decide) ?_
    refine lv_iload_n hx hb dX5_fits_85 rfl (lv_at hl 2 rfl) ?_
    refine kc_Si hC hW (c5_isRegister l V ad _ a) km_RX5_232 kst_yX5_isRegister kz_RX5 kd_yX5_isRegister dn_X5_isRegister.2 rfl hl.1 ⟨by decide, by decide⟩ (Nat.le_of_ble_eq_true rfl) ⟨by decide, by decide⟩ dX5_fits_86 (fun r_86 T_86 H locs p_86 hW => ?_)
    obtain ⟨q_86, p_86⟩ := p_86
    rw [p_86] at hW
    refine gq_top (rb (s_rg a)) (q_86) ?_
    refine lv_if_eq (tgt := 107) hx hb dX5_fits_89 (by decide) (fun c_89 => ?_) (fun c_89 => ?_)
    · refine lv_iconst (v := 0) hx hb dX5_fits_107 (by decide) ?_
      exact kr_zret hC hz hW (by decide) (⟨((rb_iff hf).symm.trans (rb_0 (fun w => rb_n c_89 w.1))).symm, rfl⟩) (by decide) (by decide) dX5_fits_108
    · refine lv_aload_n hx hb dX5_fits_92 rfl (lv_at hl 0 rfl) ?_
      refine kg_tm_0 hC hW kf_RX5_10 dX5_fits_93 ?_
      refine lv_iload_n hx hb dX5_fits_96 rfl (lv_at hl 3 rfl) ?_
      refine kc_Vi hC hW (kv_hi ) rfl (c1_hasClass l V ad _ b) km_RX5_47 kn_yX1_hasClass ks_yX1_hasClass kz_RX1 kd_yX1_hasClass dn_X1_hasClass rfl hl.1 ⟨by decide, by decide⟩ (Nat.le_of_ble_eq_true rfl) ⟨by decide, by decide⟩ dX5_fits_97 (fun r_97 T_97 H locs p_97 hW => ?_)
      obtain ⟨q_97, p_97⟩ := p_97
      rw [p_97] at hW
      refine gq_top (rb (s_isC T b)) (q_97) ?_
      refine lv_if_eq (tgt := 107) hx hb dX5_fits_100 (by decide) (fun c_100 => ?_) (fun c_100 => ?_)
      · refine lv_iconst (v := 0) hx hb dX5_fits_107 (by decide) ?_
        exact kr_zret hC hz hW (by decide) (⟨((rb_iff hf).symm.trans (rb_0 (fun w => rb_n c_100 w.2))).symm, rfl⟩) (by decide) (by decide) dX5_fits_108
      · refine lv_iconst (v := 1) hx hb dX5_fits_103 (by decide) ?_
        refine lv_goto (tgt := 108) hx hb dX5_fits_104 (by decide) ?_
        exact kr_zret hC hz hW (by decide) (⟨((rb_iff hf).symm.trans (rb_1 ⟨rb_t c_89, rb_t c_100⟩)).symm, rfl⟩) (by decide) (by decide) dX5_fits_108
  · have hf : (s_rg a ∧ s_sl b ∧ s_rg c_ ∧ s_rg d) ↔ s_fit T 5 a b c_ d := by
      unfold s_fit
      simp
    refine lv_iload_n hx hb dX5_fits_0 rfl (lv_at hl 1 rfl) ?_
    refine lv_tableIn (tgt := 109) hx hb dX5_fits_1 (by decide) (by decide) rfl (by decide) ?_
    refine lv_iload_n hx hb dX5_fits_109 rfl (lv_at hl 2 rfl) ?_
    refine kc_Si hC hW (c5_isRegister l V ad _ a) km_RX5_232 kst_yX5_isRegister kz_RX5 kd_yX5_isRegister dn_X5_isRegister.2 rfl hl.1 ⟨by decide, by decide⟩ (Nat.le_of_ble_eq_true rfl) ⟨by decide, by decide⟩ dX5_fits_110 (fun r_110 T_110 H locs p_110 hW => ?_)
    obtain ⟨q_110, p_110⟩ := p_110
    rw [p_110] at hW
    refine gq_top (rb (s_rg a)) (q_110) ?_
    refine lv_if_eq (tgt := 143) hx hb dX5_fits_113 (by decide) (fun c_113 => ?_) (fun c_113 => ?_)
    · refine lv_iconst (v := 0) hx hb dX5_fits_143 (by decide) ?_
      exact kr_zret hC hz hW (by decide) (⟨((rb_iff hf).symm.trans (rb_0 (fun w => rb_n c_113 w.1))).symm, rfl⟩) (by decide) (by decide) dX5_fits_144
    · refine lv_iload_n hx hb dX5_fits_116 rfl (lv_at hl 3 rfl) ?_
      refine kc_Si hC hW (c5_isSelector l V ad _ b) km_RX5_227 kst_yX5_isSelector kz_RX5 kd_yX5_isSelector dn_X5_isSelector.2 rfl hl.1 ⟨by decide, by decide⟩ (Nat.le_of_ble_eq_true rfl) ⟨by decide, by decide⟩ dX5_fits_117 (fun r_117 T_117 H locs p_117 hW => ?_)
      obtain ⟨q_117, p_117⟩ := p_117
      rw [p_117] at hW
      refine gq_top (rb (s_sl b)) (q_117) ?_
      refine lv_if_eq (tgt := 143) hx hb dX5_fits_120 (by decide) (fun c_120 => ?_) (fun c_120 => ?_)
      · refine lv_iconst (v := 0) hx hb dX5_fits_143 (by decide) ?_
        exact kr_zret hC hz hW (by decide) (⟨((rb_iff hf).symm.trans (rb_0 (fun w => rb_n c_120 w.2.1))).symm, rfl⟩) (by decide) (by decide) dX5_fits_144
      · refine lv_iload hx hb dX5_fits_123 (lv_at hl 4 rfl) ?_
        refine kc_Si hC hW (c5_isRegister l V ad _ c_) km_RX5_232 kst_yX5_isRegister kz_RX5 kd_yX5_isRegister dn_X5_isRegister.2 rfl hl.1 ⟨by decide, by decide⟩ (Nat.le_of_ble_eq_true rfl) ⟨by decide, by decide⟩ dX5_fits_125 (fun r_125 T_125 H locs p_125 hW => ?_)
        obtain ⟨q_125, p_125⟩ := p_125
        rw [p_125] at hW
        refine gq_top (rb (s_rg c_)) (q_125) ?_
        refine lv_if_eq (tgt := 143) hx hb dX5_fits_128 (by decide) (fun c_128 => ?_) (fun c_128 => ?_)
        · refine lv_iconst (v := 0) hx hb dX5_fits_143 (by decide) ?_
          exact kr_zret hC hz hW (by decide) (⟨((rb_iff hf).symm.trans (rb_0 (fun w => rb_n c_128 w.2.2.1))).symm, rfl⟩) (by decide) (by decide) dX5_fits_144
        · refine lv_iload hx hb dX5_fits_131 (lv_at hl 5 rfl) ?_
          refine kc_Si hC hW (c5_isRegister l V ad _ d) km_RX5_232 kst_yX5_isRegister kz_RX5 kd_yX5_isRegister dn_X5_isRegister.2 rfl hl.1 ⟨by decide, by decide⟩ (Nat.le_of_ble_eq_true rfl) ⟨by decide, by decide⟩ dX5_fits_133 (fun r_133 T_133 H locs p_133 hW => ?_)
          obtain ⟨q_133, p_133⟩ := p_133
          rw [p_133] at hW
          refine gq_top (rb (s_rg d)) (q_133) ?_
          refine lv_if_eq (tgt := 143) hx hb dX5_fits_136 (by decide) (fun c_136 => ?_) (fun c_136 => ?_)
          · refine lv_iconst (v := 0) hx hb dX5_fits_143 (by decide) ?_
            exact kr_zret hC hz hW (by decide) (⟨((rb_iff hf).symm.trans (rb_0 (fun w => rb_n c_136 w.2.2.2))).symm, rfl⟩) (by decide) (by decide) dX5_fits_144
          · refine lv_iconst (v := 1) hx hb dX5_fits_139 (by decide) ?_
            refine lv_goto (tgt := 144) hx hb dX5_fits_140 (by decide) ?_
            exact kr_zret hC hz hW (by decide) (⟨((rb_iff hf).symm.trans (rb_1 ⟨rb_t c_113, rb_t c_120, rb_t c_128, rb_t c_136⟩)).symm, rfl⟩) (by decide) (by decide) dX5_fits_144
  · have hf : (s_rg a ∧ s_rg b ∧ s_pl c_) ↔ s_fit T 6 a b c_ d := by
      unfold s_fit
      simp
    refine lv_iload_n hx hb dX5_fits_0 rfl (lv_at hl 1 rfl) ?_
    refine lv_tableIn (tgt := 145) hx hb dX5_fits_1 (by decide) (by decide) rfl (by decide) ?_
    refine lv_iload_n hx hb dX5_fits_145 rfl (lv_at hl 2 rfl) ?_
    refine kc_Si hC hW (c5_isRegister l V ad _ a) km_RX5_232 kst_yX5_isRegister kz_RX5 kd_yX5_isRegister dn_X5_isRegister.2 rfl hl.1 ⟨by decide, by decide⟩ (Nat.le_of_ble_eq_true rfl) ⟨by decide, by decide⟩ dX5_fits_146 (fun r_146 T_146 H locs p_146 hW => ?_)
    obtain ⟨q_146, p_146⟩ := p_146
    rw [p_146] at hW
    refine gq_top (rb (s_rg a)) (q_146) ?_
    refine lv_if_eq (tgt := 171) hx hb dX5_fits_149 (by decide) (fun c_149 => ?_) (fun c_149 => ?_)
    · refine lv_iconst (v := 0) hx hb dX5_fits_171 (by decide) ?_
      exact kr_zret hC hz hW (by decide) (⟨((rb_iff hf).symm.trans (rb_0 (fun w => rb_n c_149 w.1))).symm, rfl⟩) (by decide) (by decide) dX5_fits_172
    · refine lv_iload_n hx hb dX5_fits_152 rfl (lv_at hl 3 rfl) ?_
      refine kc_Si hC hW (c5_isRegister l V ad _ b) km_RX5_232 kst_yX5_isRegister kz_RX5 kd_yX5_isRegister dn_X5_isRegister.2 rfl hl.1 ⟨by decide, by decide⟩ (Nat.le_of_ble_eq_true rfl) ⟨by decide, by decide⟩ dX5_fits_153 (fun r_153 T_153 H locs p_153 hW => ?_)
      obtain ⟨q_153, p_153⟩ := p_153
      rw [p_153] at hW
      refine gq_top (rb (s_rg b)) (q_153) ?_
      refine lv_if_eq (tgt := 171) hx hb dX5_fits_156 (by decide) (fun c_156 => ?_) (fun c_156 => ?_)
      · refine lv_iconst (v := 0) hx hb dX5_fits_171 (by decide) ?_
        exact kr_zret hC hz hW (by decide) (⟨((rb_iff hf).symm.trans (rb_0 (fun w => rb_n c_156 w.2.1))).symm, rfl⟩) (by decide) (by decide) dX5_fits_172
      · refine lv_iload hx hb dX5_fits_159 (lv_at hl 4 rfl) ?_
        refine kc_Si hC hW (c5_isPlace l V ad _ c_) km_RX5_235 kst_yX5_isPlace kz_RX5 kd_yX5_isPlace dn_X5_isPlace.2 rfl hl.1 ⟨by decide, by decide⟩ (Nat.le_of_ble_eq_true rfl) ⟨by decide, by decide⟩ dX5_fits_161 (fun r_161 T_161 H locs p_161 hW => ?_)
        obtain ⟨q_161, p_161⟩ := p_161
        rw [p_161] at hW
        refine gq_top (rb (s_pl c_)) (q_161) ?_
        refine lv_if_eq (tgt := 171) hx hb dX5_fits_164 (by decide) (fun c_164 => ?_) (fun c_164 => ?_)
        · refine lv_iconst (v := 0) hx hb dX5_fits_171 (by decide) ?_
          exact kr_zret hC hz hW (by decide) (⟨((rb_iff hf).symm.trans (rb_0 (fun w => rb_n c_164 w.2.2))).symm, rfl⟩) (by decide) (by decide) dX5_fits_172
        · refine lv_iconst (v := 1) hx hb dX5_fits_167 (by decide) ?_
          refine lv_goto (tgt := 172) hx hb dX5_fits_168 (by decide) ?_
          exact kr_zret hC hz hW (by decide) (⟨((rb_iff hf).symm.trans (rb_1 ⟨rb_t c_149, rb_t c_156, rb_t c_164⟩)).symm, rfl⟩) (by decide) (by decide) dX5_fits_172
  · have hf : (s_pl a) ↔ s_fit T 7 a b c_ d := by
      unfold s_fit
      simp
    refine lv_iload_n hx hb dX5_fits_0 rfl (lv_at hl 1 rfl) ?_
    refine lv_tableIn (tgt := 173) hx hb dX5_fits_1 (by decide) (by decide) rfl (by decide) ?_
    refine lv_iload_n hx hb dX5_fits_173 rfl (lv_at hl 2 rfl) ?_
    refine kc_Si hC hW (c5_isPlace l V ad _ a) km_RX5_235 kst_yX5_isPlace kz_RX5 kd_yX5_isPlace dn_X5_isPlace.2 rfl hl.1 ⟨by decide, by decide⟩ (Nat.le_of_ble_eq_true rfl) ⟨by decide, by decide⟩ dX5_fits_174 (fun r_174 T_174 H locs p_174 hW => ?_)
    obtain ⟨q_174, p_174⟩ := p_174
    rw [p_174] at hW
    refine gq_top (rb (s_pl a)) (q_174) ?_
    exact kr_zret hC hz hW (rb_or _) (⟨rb_iff hf, rfl⟩) (by decide) (by decide) dX5_fits_177
  · have hf : (s_rg a) ↔ s_fit T 8 a b c_ d := by
      unfold s_fit
      simp
    refine lv_iload_n hx hb dX5_fits_0 rfl (lv_at hl 1 rfl) ?_
    refine lv_tableIn (tgt := 52) hx hb dX5_fits_1 (by decide) (by decide) rfl (by decide) ?_
    refine lv_iload_n hx hb dX5_fits_52 rfl (lv_at hl 2 rfl) ?_
    refine kc_Si hC hW (c5_isRegister l V ad _ a) km_RX5_232 kst_yX5_isRegister kz_RX5 kd_yX5_isRegister dn_X5_isRegister.2 rfl hl.1 ⟨by decide, by decide⟩ (Nat.le_of_ble_eq_true rfl) ⟨by decide, by decide⟩ dX5_fits_53 (fun r_53 T_53 H locs p_53 hW => ?_)
    obtain ⟨q_53, p_53⟩ := p_53
    rw [p_53] at hW
    refine gq_top (rb (s_rg a)) (q_53) ?_
    exact kr_zret hC hz hW (rb_or _) (⟨rb_iff hf, rfl⟩) (by decide) (by decide) dX5_fits_56
  · have hn : ¬ s_fit T k a b c_ d := by
      rintro (h | h | h | h | h | h | h)
      · exact hk.1 h.1
      · rcases h.1 with h | h | h
        · exact hk.2.1 h
        · exact hk.2.2.1 h
        · exact hk.2.2.2.1 h
      · exact hk.2.2.2.2.1 h.1
      · exact hk.2.2.2.2.2.1 h.1
      · exact hk.2.2.2.2.2.2.1 h.1
      · exact hk.2.2.2.2.2.2.2.1 h.1
      · exact hk.2.2.2.2.2.2.2.2 h.1
    have hout : k.toInt < 0 ∨ 8 < k.toInt := by
      refine Decidable.byContradiction fun w => ?_
      have h0 : ∀ n : Int32, k ≠ n → k.toInt ≠ n.toInt := fun n h z => h (Int32.toInt_inj.mp z)
      have g0 := h0 0 hk.1
      have g1 := h0 1 hk.2.1
      have g2 := h0 2 hk.2.2.1
      have g3 := h0 3 hk.2.2.2.1
      have g4 := h0 4 hk.2.2.2.2.1
      have g5 := h0 5 hk.2.2.2.2.2.1
      have g6 := h0 6 hk.2.2.2.2.2.2.1
      have g7 := h0 7 hk.2.2.2.2.2.2.2.1
      have g8 := h0 8 hk.2.2.2.2.2.2.2.2
      simp only [show (0 : Int32).toInt = 0 from rfl, show (1 : Int32).toInt = 1 from rfl, show (2 : Int32).toInt = 2 from rfl, show (3 : Int32).toInt = 3 from rfl, show (4 : Int32).toInt = 4 from rfl, show (5 : Int32).toInt = 5 from rfl, show (6 : Int32).toInt = 6 from rfl, show (7 : Int32).toInt = 7 from rfl, show (8 : Int32).toInt = 8 from rfl] at g0 g1 g2 g3 g4 g5 g6 g7 g8
      omega
    refine lv_iload_n hx hb dX5_fits_0 rfl (lv_at hl 1 rfl) ?_
    refine lv_tableOut (tgt := 178) hx hb dX5_fits_1 (hout) (by decide) ?_
    refine lv_iconst (v := 0) hx hb dX5_fits_178 (by decide) ?_
    exact kr_zret hC hz hW (by decide) (⟨(rb_0 hn).symm, rfl⟩) (by decide) (by decide) dX5_fits_179
set_option maxHeartbeats 4000000 in
set_option maxRecDepth 100000 in
theorem c5_checkClassAndSelector (l : Launch) (V : gV) (ad : gA) (T : rS) (c_ g nc nm : Nat) (hI : rI T nc nm) (hc : c_ < nc) (hg : g < 6) : kMv l yX5_checkClassAndSelector cX5_checkClassAndSelector 3 none ({ frames := 1, cells := 0, slots := 0, locals := 21 } : Room) [.ref (ad 0 0 0), .int (nI c_), .int (nI g)] V ad T (fun T' => T' = T) := by
  refine kMv.of (by decide) (Nat.le_of_ble_eq_true rfl) ?_
  intro p e s m_ below meth c ls E sz hC hz hW hl
  have hx := hC.1
  have hb := hC.2.1
  have hl : lv_has ls 3 [(0, .ref (ad 0 0 0)), (1, .int (nI c_)), (2, .int (nI g))] := hl
  have hnc := hI.2.1.1
  refine lv_aload_n hx hb dX5_checkClassAndSelector_0 rfl (lv_at hl 0 rfl) ?_
  refine kg_tm_0 hC hW kf_RX5_10 dX5_checkClassAndSelector_1 ?_
  refine lv_iload_n hx hb dX5_checkClassAndSelector_4 rfl (lv_at hl 1 rfl) ?_
  refine kc_Vi hC hW (kv_hi ) rfl (c1_hasClass l V ad _ (nI c_)) km_RX5_47 kn_yX1_hasClass ks_yX1_hasClass kz_RX1 kd_yX1_hasClass dn_X1_hasClass rfl hl.1 ⟨by decide, by decide⟩ (Nat.le_of_ble_eq_true rfl) ⟨by decide, by decide⟩ dX5_checkClassAndSelector_5 (fun r_5 T_5 H locs p_5 hW => ?_)
  obtain ⟨q_5, p_5⟩ := p_5
  rw [p_5] at hW
  refine gq_top (rb (s_isC T (nI c_))) (q_5) ?_
  refine lv_if_eq (tgt := 18) hx hb dX5_checkClassAndSelector_8 (by decide) (fun c_8 => absurd c_8 (fun z => rb_n z ⟨nI_pos (by omega), by rw [hI.1]; exact nI_lt hc (by omega)⟩)) (fun c_8 => ?_)
  refine lv_iload_n hx hb dX5_checkClassAndSelector_11 rfl (lv_at hl 2 rfl) ?_
  refine kc_Si hC hW (c5_isSelector l V ad _ (nI g)) km_RX5_227 kst_yX5_isSelector kz_RX5 kd_yX5_isSelector dn_X5_isSelector.2 rfl hl.1 ⟨by decide, by decide⟩ (Nat.le_of_ble_eq_true rfl) ⟨by decide, by decide⟩ dX5_checkClassAndSelector_12 (fun r_12 T_12 H locs p_12 hW => ?_)
  obtain ⟨q_12, p_12⟩ := p_12
  rw [p_12] at hW
  refine gq_top (rb (s_sl (nI g))) (q_12) ?_
  refine lv_if_ne (tgt := 28) hx hb dX5_checkClassAndSelector_15 (by decide) (fun c_15 => ?_) (fun c_15 => absurd c_15 (fun z => rb_n z ⟨nI_pos (by omega), nI_lt hg (by decide)⟩))
  exact kr_vret hC hz hW (rfl) (by decide) (by decide) dX5_checkClassAndSelector_28
set_option maxHeartbeats 4000000 in
set_option maxRecDepth 100000 in
theorem c5_understands (l : Launch) (V : gV) (ad : gA) (T : rS) (c_ g nc nm : Nat) (hI : rI T nc nm) (hc : c_ < nc) (hg : g < 6) : kMi l yX5_understands cX5_understands 3 (some .int) ({ frames := 2, cells := 0, slots := 0, locals := 45 } : Room) [.ref (ad 0 0 0), .int (nI c_), .int (nI g)] V ad T (fun r T' => r = s_und T (c_ + 1) g ∧ T' = T) := by
  refine kMi.of (by decide) (Nat.le_of_ble_eq_true rfl) ?_
  intro p e s m_ below meth c ls E sz hC hz hW hl
  have hx := hC.1
  have hb := hC.2.1
  have hl : lv_has ls 3 [(0, .ref (ad 0 0 0)), (1, .int (nI c_)), (2, .int (nI g))] := hl
  have hnc := hI.2.1.1
  refine lv_aload_n hx hb dX5_understands_0 rfl (lv_at hl 0 rfl) ?_
  refine lv_iload_n hx hb dX5_understands_1 rfl (lv_at hl 1 rfl) ?_
  refine lv_iload_n hx hb dX5_understands_2 rfl (lv_at hl 2 rfl) ?_
  refine kc_Vv hC hW (kv_tm ) rfl (c5_checkClassAndSelector l V ad _ c_ g nc nm hI hc hg) km_RX5_112 kn_yX5_checkClassAndSelector ks_yX5_checkClassAndSelector kz_RX5 kd_yX5_checkClassAndSelector dn_X5_checkClassAndSelector rfl hl.1 ⟨by decide, by decide⟩ (Nat.le_of_ble_eq_true rfl) ⟨by decide, by decide⟩ dX5_understands_3 (fun T_3 H locs p_3 hW => ?_)
  rw [p_3] at hW
  refine lv_aload_n hx hb dX5_understands_6 rfl (lv_at hl 0 rfl) ?_
  refine kg_tm_0 hC hW kf_RX5_10 dX5_understands_7 ?_
  refine lv_iload_n hx hb dX5_understands_10 rfl (lv_at hl 1 rfl) ?_
  refine gq_top (nI (c_ + 1) - 1) ((nI_m1s c_).symm) ?_
  refine lv_iload_n hx hb dX5_understands_11 rfl (lv_at hl 2 rfl) ?_
  refine kc_Vi hC hW (kv_hi ) rfl (c1_understood l V ad _ (c_ + 1) g nc hI.2.1 hI.1 (by omega) hg) km_RX5_134 kn_yX1_understood ks_yX1_understood kz_RX1 kd_yX1_understood dn_X1_understood rfl hl.1 ⟨by decide, by decide⟩ (Nat.le_of_ble_eq_true rfl) ⟨by decide, by decide⟩ dX5_understands_12 (fun r_12 T_12 H locs p_12 hW => ?_)
  obtain ⟨q_12, p_12⟩ := p_12
  rw [p_12] at hW
  refine gq_top (s_und T (c_ + 1) g) (q_12) ?_
  exact kr_iret hC hz hW (⟨rfl, rfl⟩) (by decide) (by decide) dX5_understands_15
set_option maxHeartbeats 4000000 in
set_option maxRecDepth 100000 in
theorem c5_addClass (l : Launch) (V : gV) (ad : gA) (T : rS) (nc nm : Nat) (hI : rI T nc nm) (hn8 : nc < 8) (x : Int32) (hx_ : x = -1 ∨ s_isC T x) : kMi l yX5_addClass cX5_addClass 2 (some .int) ({ frames := 2, cells := 0, slots := 0, locals := 44 } : Room) [.ref (ad 0 0 0), .int x] V ad T (fun r T' => r = nI nc ∧ T' = su (s_imr (su T 2 (va_up (T.1 2) nc x)) nc 6) 1 (fun _ => nI (nc + 1))) := by
  refine kMi.of (by decide) (Nat.le_of_ble_eq_true rfl) ?_
  intro p e s m_ below meth c ls E sz hC hz hW hl
  have hx := hC.1
  have hb := hC.2.1
  have hl : lv_has ls 2 [(0, .ref (ad 0 0 0)), (1, .int x)] := hl
  refine lv_iload_n hx hb dX5_addClass_0 rfl (lv_at hl 1 rfl) ?_
  refine lv_iconst (v := (-1)) hx hb dX5_addClass_1 (by decide) ?_
  refine lv_icmp_eq (tgt := 26) hx hb dX5_addClass_2 (by decide) (fun c_2 => ?_) (fun c_2 => ?_)
  · refine lv_aload_n hx hb dX5_addClass_26 rfl (lv_at hl 0 rfl) ?_
    refine kg_tm_0 hC hW kf_RX5_10 dX5_addClass_27 ?_
    refine kg_hi_3 hC hW kf_RX5_58 dX5_addClass_30 ?_
    refine gq_top (nI nc) (hI.1) ?_
    refine lv_bipush (v := (nI 8)) hx hb dX5_addClass_33 (by decide) ?_
    refine gn_icmp_lt (tgt := 48) hx hb (by omega) (by omega) dX5_addClass_35 (by decide) (fun c_35 => ?_) (fun c_35 => absurd c_35 (by omega))
    refine lv_aload_n hx hb dX5_addClass_48 rfl (lv_at hl 0 rfl) ?_
    refine kg_tm_0 hC hW kf_RX5_10 dX5_addClass_49 ?_
    refine lv_iload_n hx hb dX5_addClass_52 rfl (lv_at hl 1 rfl) ?_
    refine kc_Vi hC hW (kv_hi ) rfl (c1_addChild l V ad _ nc hI.1 hn8 x) km_RX5_66 kn_yX1_addChild ks_yX1_addChild kz_RX1 kd_yX1_addChild dn_X1_addChild rfl hl.1 ⟨by decide, by decide⟩ (Nat.le_of_ble_eq_true rfl) ⟨by decide, by decide⟩ dX5_addClass_53 (fun r_53 T_53 H locs p_53 hW => ?_)
    obtain ⟨q_53, p_53⟩ := p_53
    subst p_53
    refine gq_top (nI nc) q_53 ?_
    exact kr_iret hC hz hW (⟨rfl, rfl⟩) (by decide) (by decide) dX5_addClass_56
  · refine lv_aload_n hx hb dX5_addClass_5 rfl (lv_at hl 0 rfl) ?_
    refine kg_tm_0 hC hW kf_RX5_10 dX5_addClass_6 ?_
    refine lv_iload_n hx hb dX5_addClass_9 rfl (lv_at hl 1 rfl) ?_
    refine kc_Vi hC hW (kv_hi ) rfl (c1_hasClass l V ad _ x) km_RX5_47 kn_yX1_hasClass ks_yX1_hasClass kz_RX1 kd_yX1_hasClass dn_X1_hasClass rfl hl.1 ⟨by decide, by decide⟩ (Nat.le_of_ble_eq_true rfl) ⟨by decide, by decide⟩ dX5_addClass_10 (fun r_10 T_10 H locs p_10 hW => ?_)
    obtain ⟨q_10, p_10⟩ := p_10
    rw [p_10] at hW
    refine gq_top (rb (s_isC T x)) (q_10) ?_
    refine lv_if_ne (tgt := 26) hx hb dX5_addClass_13 (by decide) (fun c_13 => ?_) (fun c_13 => absurd c_13 (fun z => rb_n z (hx_.resolve_left c_2)))
    refine lv_aload_n hx hb dX5_addClass_26 rfl (lv_at hl 0 rfl) ?_
    refine kg_tm_0 hC hW kf_RX5_10 dX5_addClass_27 ?_
    refine kg_hi_3 hC hW kf_RX5_58 dX5_addClass_30 ?_
    refine gq_top (nI nc) (hI.1) ?_
    refine lv_bipush (v := (nI 8)) hx hb dX5_addClass_33 (by decide) ?_
    refine gn_icmp_lt (tgt := 48) hx hb (by omega) (by omega) dX5_addClass_35 (by decide) (fun c_35 => ?_) (fun c_35 => absurd c_35 (by omega))
    refine lv_aload_n hx hb dX5_addClass_48 rfl (lv_at hl 0 rfl) ?_
    refine kg_tm_0 hC hW kf_RX5_10 dX5_addClass_49 ?_
    refine lv_iload_n hx hb dX5_addClass_52 rfl (lv_at hl 1 rfl) ?_
    refine kc_Vi hC hW (kv_hi ) rfl (c1_addChild l V ad _ nc hI.1 hn8 x) km_RX5_66 kn_yX1_addChild ks_yX1_addChild kz_RX1 kd_yX1_addChild dn_X1_addChild rfl hl.1 ⟨by decide, by decide⟩ (Nat.le_of_ble_eq_true rfl) ⟨by decide, by decide⟩ dX5_addClass_53 (fun r_53 T_53 H locs p_53 hW => ?_)
    obtain ⟨q_53, p_53⟩ := p_53
    subst p_53
    refine gq_top (nI nc) q_53 ?_
    exact kr_iret hC hz hW (⟨rfl, rfl⟩) (by decide) (by decide) dX5_addClass_56
set_option maxHeartbeats 4000000 in
set_option maxRecDepth 100000 in
theorem c5_setPolicy (l : Launch) (V : gV) (ad : gA) (T : rS) (a b c_ : Int32) (hok : s_pok a b c_) : kMi l yX5_setPolicy cX5_setPolicy 5 (some .boolean) ({ frames := 1, cells := 0, slots := 0, locals := 20 } : Room) [.ref (ad 0 0 0), .int a, .int b, .int c_] V ad T (fun r T' => r = rb (T.1 7 0 ≠ a ∨ T.1 8 0 ≠ b ∨ T.1 9 0 ≠ c_) ∧ T' = su (su (su T 7 (fun _ => a)) 8 (fun _ => b)) 9 (fun _ => c_)) := by
  refine kMi.of (by decide) (Nat.le_of_ble_eq_true rfl) ?_
  intro p e s m_ below meth c ls E sz hC hz hW hl
  have hx := hC.1
  have hb := hC.2.1
  have hl : lv_has ls 5 [(0, .ref (ad 0 0 0)), (1, .int a), (2, .int b), (3, .int c_)] := hl
  refine lv_iload_n hx hb dX5_setPolicy_0 rfl (lv_at hl 1 rfl) ?_
  refine kc_Si hC hW (c5_isThreshold l V ad _ a) km_RX5_138 kst_yX5_isThreshold kz_RX5 kd_yX5_isThreshold dn_X5_isThreshold.2 rfl hl.1 ⟨by decide, by decide⟩ (Nat.le_of_ble_eq_true rfl) ⟨by decide, by decide⟩ dX5_setPolicy_1 (fun r_1 T_1 H locs p_1 hW => ?_)
  obtain ⟨q_1, p_1⟩ := p_1
  rw [p_1] at hW
  refine gq_top (rb (¬ a < 1 ∧ a ≤ 1000)) (q_1) ?_
  refine lv_if_eq (tgt := 23) hx hb dX5_setPolicy_4 (by decide) (fun c_4 => absurd c_4 (fun z => rb_n z ⟨hok.1, hok.2.1⟩)) (fun c_4 => ?_)
  refine lv_iload_n hx hb dX5_setPolicy_7 rfl (lv_at hl 2 rfl) ?_
  refine kc_Si hC hW (c5_isThreshold l V ad _ b) km_RX5_138 kst_yX5_isThreshold kz_RX5 kd_yX5_isThreshold dn_X5_isThreshold.2 rfl hl.1 ⟨by decide, by decide⟩ (Nat.le_of_ble_eq_true rfl) ⟨by decide, by decide⟩ dX5_setPolicy_8 (fun r_8 T_8 H locs p_8 hW => ?_)
  obtain ⟨q_8, p_8⟩ := p_8
  rw [p_8] at hW
  refine gq_top (rb (¬ b < 1 ∧ b ≤ 1000)) (q_8) ?_
  refine lv_if_eq (tgt := 23) hx hb dX5_setPolicy_11 (by decide) (fun c_11 => absurd c_11 (fun z => rb_n z ⟨hok.2.2.1, hok.2.2.2.1⟩)) (fun c_11 => ?_)
  refine lv_iload_n hx hb dX5_setPolicy_14 rfl (lv_at hl 3 rfl) ?_
  refine lv_if_lt (tgt := 23) hx hb dX5_setPolicy_15 (by decide) (fun c_15 => absurd c_15 (hok.2.2.2.2.1)) (fun c_15 => ?_)
  refine lv_iload_n hx hb dX5_setPolicy_18 rfl (lv_at hl 3 rfl) ?_
  refine lv_iconst (v := 5) hx hb dX5_setPolicy_19 (by decide) ?_
  refine lv_icmp_le (tgt := 33) hx hb dX5_setPolicy_20 (by decide) (fun c_20 => ?_) (fun c_20 => absurd (hok.2.2.2.2.2) c_20)
  refine lv_iload_n hx hb dX5_setPolicy_33 rfl (lv_at hl 1 rfl) ?_
  refine lv_aload_n hx hb dX5_setPolicy_34 rfl (lv_at hl 0 rfl) ?_
  refine kg_tm_2 hC hW kf_RX5_23 dX5_setPolicy_35 ?_
  refine lv_icmp_ne (tgt := 57) hx hb dX5_setPolicy_38 (by decide) (fun c_38 => ?_) (fun c_38 => ?_)
  · refine lv_iconst (v := 1) hx hb dX5_setPolicy_57 (by decide) ?_
    refine lv_goto (tgt := 62) hx hb dX5_setPolicy_58 (by decide) ?_
    refine lv_istore (lv' := [(4, .int 1), (0, .ref (ad 0 0 0)), (1, .int a), (2, .int b), (3, .int c_)]) hx hb dX5_setPolicy_62 hl (by decide) rfl (fun ls hl => ?_)
    refine lv_aload_n hx hb dX5_setPolicy_64 rfl (lv_at hl 1 rfl) ?_
    refine lv_iload_n hx hb dX5_setPolicy_65 rfl (lv_at hl 2 rfl) ?_
    refine kp_tm_2 hC hW kf_RX5_23 dX5_setPolicy_66 (fun H locs hW => ?_)
    refine lv_aload_n hx hb dX5_setPolicy_69 rfl (lv_at hl 1 rfl) ?_
    refine lv_iload_n hx hb dX5_setPolicy_70 rfl (lv_at hl 3 rfl) ?_
    refine kp_tm_3 hC hW kf_RX5_27 dX5_setPolicy_71 (fun H locs hW => ?_)
    refine lv_aload_n hx hb dX5_setPolicy_74 rfl (lv_at hl 1 rfl) ?_
    refine lv_iload_n hx hb dX5_setPolicy_75 rfl (lv_at hl 4 rfl) ?_
    refine kp_tm_4 hC hW kf_RX5_30 dX5_setPolicy_76 (fun H locs hW => ?_)
    refine lv_iload hx hb dX5_setPolicy_79 (lv_at hl 0 rfl) ?_
    exact kr_zret hC hz hW (by decide) (⟨(rb_1 (Or.inl (Ne.symm c_38))).symm, rfl⟩) (by decide) (by decide) dX5_setPolicy_81
  · refine lv_iload_n hx hb dX5_setPolicy_41 rfl (lv_at hl 2 rfl) ?_
    refine lv_aload_n hx hb dX5_setPolicy_42 rfl (lv_at hl 0 rfl) ?_
    refine kg_tm_3 hC hW kf_RX5_27 dX5_setPolicy_43 ?_
    refine lv_icmp_ne (tgt := 57) hx hb dX5_setPolicy_46 (by decide) (fun c_46 => ?_) (fun c_46 => ?_)
    · refine lv_iconst (v := 1) hx hb dX5_setPolicy_57 (by decide) ?_
      refine lv_goto (tgt := 62) hx hb dX5_setPolicy_58 (by decide) ?_
      refine lv_istore (lv' := [(4, .int 1), (0, .ref (ad 0 0 0)), (1, .int a), (2, .int b), (3, .int c_)]) hx hb dX5_setPolicy_62 hl (by decide) rfl (fun ls hl => ?_)
      refine lv_aload_n hx hb dX5_setPolicy_64 rfl (lv_at hl 1 rfl) ?_
      refine lv_iload_n hx hb dX5_setPolicy_65 rfl (lv_at hl 2 rfl) ?_
      refine kp_tm_2 hC hW kf_RX5_23 dX5_setPolicy_66 (fun H locs hW => ?_)
      refine lv_aload_n hx hb dX5_setPolicy_69 rfl (lv_at hl 1 rfl) ?_
      refine lv_iload_n hx hb dX5_setPolicy_70 rfl (lv_at hl 3 rfl) ?_
      refine kp_tm_3 hC hW kf_RX5_27 dX5_setPolicy_71 (fun H locs hW => ?_)
      refine lv_aload_n hx hb dX5_setPolicy_74 rfl (lv_at hl 1 rfl) ?_
      refine lv_iload_n hx hb dX5_setPolicy_75 rfl (lv_at hl 4 rfl) ?_
      refine kp_tm_4 hC hW kf_RX5_30 dX5_setPolicy_76 (fun H locs hW => ?_)
      refine lv_iload hx hb dX5_setPolicy_79 (lv_at hl 0 rfl) ?_
      exact kr_zret hC hz hW (by decide) (⟨(rb_1 (Or.inr (Or.inl (Ne.symm c_46)))).symm, rfl⟩) (by decide) (by decide) dX5_setPolicy_81
    · refine lv_iload_n hx hb dX5_setPolicy_49 rfl (lv_at hl 3 rfl) ?_
      refine lv_aload_n hx hb dX5_setPolicy_50 rfl (lv_at hl 0 rfl) ?_
      refine kg_tm_4 hC hW kf_RX5_30 dX5_setPolicy_51 ?_
      refine lv_icmp_eq (tgt := 61) hx hb dX5_setPolicy_54 (by decide) (fun c_54 => ?_) (fun c_54 => ?_)
      · refine lv_iconst (v := 0) hx hb dX5_setPolicy_61 (by decide) ?_
        refine lv_istore (lv' := [(4, .int 0), (0, .ref (ad 0 0 0)), (1, .int a), (2, .int b), (3, .int c_)]) hx hb dX5_setPolicy_62 hl (by decide) rfl (fun ls hl => ?_)
        refine lv_aload_n hx hb dX5_setPolicy_64 rfl (lv_at hl 1 rfl) ?_
        refine lv_iload_n hx hb dX5_setPolicy_65 rfl (lv_at hl 2 rfl) ?_
        refine kp_tm_2 hC hW kf_RX5_23 dX5_setPolicy_66 (fun H locs hW => ?_)
        refine lv_aload_n hx hb dX5_setPolicy_69 rfl (lv_at hl 1 rfl) ?_
        refine lv_iload_n hx hb dX5_setPolicy_70 rfl (lv_at hl 3 rfl) ?_
        refine kp_tm_3 hC hW kf_RX5_27 dX5_setPolicy_71 (fun H locs hW => ?_)
        refine lv_aload_n hx hb dX5_setPolicy_74 rfl (lv_at hl 1 rfl) ?_
        refine lv_iload_n hx hb dX5_setPolicy_75 rfl (lv_at hl 4 rfl) ?_
        refine kp_tm_4 hC hW kf_RX5_30 dX5_setPolicy_76 (fun H locs hW => ?_)
        refine lv_iload hx hb dX5_setPolicy_79 (lv_at hl 0 rfl) ?_
        exact kr_zret hC hz hW (by decide) (⟨(rb_0 (fun w => w.elim (fun z => z c_38.symm) (fun w => w.elim (fun z => z c_46.symm) (fun z => z c_54.symm)))).symm, rfl⟩) (by decide) (by decide) dX5_setPolicy_81
      · refine lv_iconst (v := 1) hx hb dX5_setPolicy_57 (by decide) ?_
        refine lv_goto (tgt := 62) hx hb dX5_setPolicy_58 (by decide) ?_
        refine lv_istore (lv' := [(4, .int 1), (0, .ref (ad 0 0 0)), (1, .int a), (2, .int b), (3, .int c_)]) hx hb dX5_setPolicy_62 hl (by decide) rfl (fun ls hl => ?_)
        refine lv_aload_n hx hb dX5_setPolicy_64 rfl (lv_at hl 1 rfl) ?_
        refine lv_iload_n hx hb dX5_setPolicy_65 rfl (lv_at hl 2 rfl) ?_
        refine kp_tm_2 hC hW kf_RX5_23 dX5_setPolicy_66 (fun H locs hW => ?_)
        refine lv_aload_n hx hb dX5_setPolicy_69 rfl (lv_at hl 1 rfl) ?_
        refine lv_iload_n hx hb dX5_setPolicy_70 rfl (lv_at hl 3 rfl) ?_
        refine kp_tm_3 hC hW kf_RX5_27 dX5_setPolicy_71 (fun H locs hW => ?_)
        refine lv_aload_n hx hb dX5_setPolicy_74 rfl (lv_at hl 1 rfl) ?_
        refine lv_iload_n hx hb dX5_setPolicy_75 rfl (lv_at hl 4 rfl) ?_
        refine kp_tm_4 hC hW kf_RX5_30 dX5_setPolicy_76 (fun H locs hW => ?_)
        refine lv_iload hx hb dX5_setPolicy_79 (lv_at hl 0 rfl) ?_
        exact kr_zret hC hz hW (by decide) (⟨(rb_1 (Or.inr (Or.inr (Ne.symm c_54)))).symm, rfl⟩) (by decide) (by decide) dX5_setPolicy_81
set_option maxHeartbeats 4000000 in
set_option maxRecDepth 100000 in
theorem c5_forget (l : Launch) (V : gV) (ad : gA) (T : rS) (nc nm : Nat) (hI : rI T nc nm) : kMi l yX5_forget cX5_forget 4 (some .int) ({ frames := 4, cells := 0, slots := 0, locals := 85 } : Room) [.ref (ad 0 0 0)] V ad T (fun r T' => r = nI (s_fc T nm) ∧ T' = s_fg T nm) := by
  refine kMi.of (by decide) (Nat.le_of_ble_eq_true rfl) ?_
  intro p e s m_ below meth c ls E sz hC hz hW hl
  have hx := hC.1
  have hb := hC.2.1
  have hl : lv_has ls 4 [(0, .ref (ad 0 0 0))] := hl
  have hI0 := hI
  have hnm := hI.2.2.2.1
  have ecn := rI_cnm hI
  refine lv_iconst (v := (nI 0)) hx hb dX5_forget_0 (by decide) ?_
  refine lv_istore_n (lv' := [(1, .int ((nI 0))), (0, .ref (ad 0 0 0))]) hx hb dX5_forget_1 rfl hl (by decide) rfl (fun ls hl => ?_)
  refine lv_iconst (v := (nI 0)) hx hb dX5_forget_2 (by decide) ?_
  refine lv_istore_n (lv' := [(2, .int ((nI 0))), (1, .int ((nI 0))), (0, .ref (ad 0 0 0))]) hx hb dX5_forget_3 rfl hl (by decide) rfl (fun ls hl => ?_)
  refine g_loop (T := Nat) (fun xx H locs ls => xx ≤ nm ∧ cmW V (gAd ad E sz) s.heap ad E (s_fg T xx) H locs ∧ lv_has ls 4 [(2, .int (nI xx)), (1, .int (nI (s_fc T xx))), (0, .ref (ad 0 0 0))]) (fun xx => nm - xx) (fun xx ih H locs ls hI => ?_) (0) ⟨by omega, hW, lv_sub hl [0, 1, 2] rfl⟩
  obtain ⟨hxn, hW, hl⟩ := hI
  have ecx : cnm (s_fg T xx) = nm := by unfold cnm; rw [s_fg_f (by decide) (by decide) (by decide) (by decide) (by decide)]; exact ecn
  refine lv_iload_n hx hb dX5_forget_4 rfl (lv_at hl 0 rfl) ?_
  refine lv_aload_n hx hb dX5_forget_5 rfl (lv_at hl 2 rfl) ?_
  refine kg_tm_1 hC hW kf_RX5_19 dX5_forget_6 ?_
  refine kc_Vi hC hW (kv_ml ) rfl (kc_size_ml l V ad _) km_RX5_70 kn_yJx4a65c_size_8abf5 ks_yJx4a65c_size_8abf5 kz_RJx4a65c kd_yJx4a65c_size_8abf5 dn_Jx4a65c_size_8abf5 rfl hl.1 ⟨by decide, by decide⟩ (Nat.le_of_ble_eq_true rfl) ⟨by decide, by decide⟩ dX5_forget_9 (fun r_9 T_9 H locs p_9 hW => ?_)
  obtain ⟨q_9, p_9⟩ := p_9
  rw [p_9] at hW
  refine gq_top (nI nm) (q_9.trans (congrArg nI ecx)) ?_
  refine gn_icmp_ge (tgt := 47) hx hb (by omega) (by omega) dX5_forget_12 (by decide) (fun c_12 => ?_) (fun c_12 => ?_)
  · refine lv_iload_n hx hb dX5_forget_47 rfl (lv_at hl 1 rfl) ?_
    exact kr_iret hC hz hW (⟨by rw [show nm = xx by omega], by rw [show nm = xx by omega]⟩) (by decide) (by decide) dX5_forget_48
  · obtain ⟨z, hz, ez, -, -⟩ := hI0.2.2.2.2.2.1 xx (by omega)
    have hzx : csz (s_fg T xx) xx ≤ 20 := by
      unfold csz
      rw [s_fg_f (by decide) (by decide) (by decide) (by decide) (by decide), ez, tn_nI (by omega)]
      exact hz
    refine lv_aload_n hx hb dX5_forget_15 rfl (lv_at hl 2 rfl) ?_
    refine kg_tm_1 hC hW kf_RX5_19 dX5_forget_16 ?_
    refine lv_iload_n hx hb dX5_forget_19 rfl (lv_at hl 0 rfl) ?_
    refine kc_Vr hC hW (kv_ml ) rfl (kc_get_ml l V ad _ (show xx < cnm (s_fg T xx) by omega)) km_RX5_120 kn_yJx4a65c_get_915e3 ks_yJx4a65c_get_915e3 kz_RJx4a65c kd_yJx4a65c_get_915e3 dn_Jx4a65c_get_915e3 rfl hl.1 ⟨by decide, by decide⟩ (Nat.le_of_ble_eq_true rfl) ⟨by decide, by decide⟩ dX5_forget_20 (fun r_20 T_20 H locs p_20 hW => ?_)
    obtain ⟨q_20, p_20⟩ := p_20
    rw [p_20] at hW
    rw [q_20]
    refine kx_cast hC hW (kv_me (show xx < cnm (s_fg T xx) by omega)) rfl kc_RX5_76 dX5_forget_23 ?_
    refine lv_astore_n (lv' := [(3, .ref (ad 13 xx 0)), (2, .int (nI xx)), (1, .int (nI (s_fc T xx))), (0, .ref (ad 0 0 0))]) hx hb dX5_forget_26 rfl hl (by decide) rfl (fun ls hl => ?_)
    refine lv_aload_n hx hb dX5_forget_27 rfl (lv_at hl 0 rfl) ?_
    refine kg_me_1 hC hW (show xx < cnm (s_fg T xx) by omega) kf_RX5_124 dX5_forget_28 ?_
    refine gq_top (T.1 10 xx) (s_fg_10 T xx xx (Nat.le_refl _)) ?_
    refine lv_if_le (tgt := 37) hx hb dX5_forget_31 (by decide) (fun c_31 => ?_) (fun c_31 => ?_)
    · have hfc : s_fc T xx = s_fc T (xx + 1) := (if_neg (Int32.not_lt.mpr c_31)).symm
      rw [hfc] at hl
      refine lv_aload_n hx hb dX5_forget_37 rfl (lv_at hl 0 rfl) ?_
      refine kc_Vv hC hW (kv_me (show xx < cnm (s_fg T xx) by omega)) rfl (c4_unlearn l V ad _ xx (show xx < cnm (s_fg T xx) by omega) hzx) km_RX5_109 kn_yX4_unlearn ks_yX4_unlearn kz_RX4 kd_yX4_unlearn dn_X4_unlearn rfl hl.1 ⟨by decide, by decide⟩ (Nat.le_of_ble_eq_true rfl) ⟨by decide, by decide⟩ dX5_forget_38 (fun T_38 H locs p_38 hW => ?_)
      subst p_38
      refine lv_iinc (v := (nI (xx + 1))) (lv' := [(2, .int ((nI (xx + 1)))), (3, .ref (ad 13 xx 0)), (1, .int (nI (s_fc T (xx + 1)))), (0, .ref (ad 0 0 0))]) hx hb dX5_forget_41 hl (k := 1) rfl (nI_1 xx) (by decide) rfl (fun ls hl => ?_)
      refine lv_goto (tgt := 4) hx hb dX5_forget_44 (by decide) ?_
      exact ih (xx + 1) (by omega) _ _ _ ⟨by omega, hW, lv_sub hl [0, 2, 3] rfl⟩
    · have hfc : s_fc T xx + 1 = s_fc T (xx + 1) := (if_pos (Int32.not_le.mp c_31)).symm
      refine lv_iinc (v := nI (s_fc T (xx + 1))) (lv' := [(1, .int (nI (s_fc T (xx + 1)))), (3, .ref (ad 13 xx 0)), (2, .int (nI xx)), (0, .ref (ad 0 0 0))]) hx hb dX5_forget_34 hl (k := 2) rfl ((nI_1 _).trans (congrArg nI hfc)) (by decide) rfl (fun ls hl => ?_)
      refine lv_aload_n hx hb dX5_forget_37 rfl (lv_at hl 1 rfl) ?_
      refine kc_Vv hC hW (kv_me (show xx < cnm (s_fg T xx) by omega)) rfl (c4_unlearn l V ad _ xx (show xx < cnm (s_fg T xx) by omega) hzx) km_RX5_109 kn_yX4_unlearn ks_yX4_unlearn kz_RX4 kd_yX4_unlearn dn_X4_unlearn rfl hl.1 ⟨by decide, by decide⟩ (Nat.le_of_ble_eq_true rfl) ⟨by decide, by decide⟩ dX5_forget_38 (fun T_38 H locs p_38 hW => ?_)
      subst p_38
      refine lv_iinc (v := (nI (xx + 1))) (lv' := [(2, .int ((nI (xx + 1)))), (1, .int (nI (s_fc T (xx + 1)))), (3, .ref (ad 13 xx 0)), (0, .ref (ad 0 0 0))]) hx hb dX5_forget_41 hl (k := 2) rfl (nI_1 xx) (by decide) rfl (fun ls hl => ?_)
      refine lv_goto (tgt := 4) hx hb dX5_forget_44 (by decide) ?_
      exact ih (xx + 1) (by omega) _ _ _ ⟨by omega, hW, lv_sub hl [0, 1, 3] rfl⟩
set_option maxHeartbeats 4000000 in
set_option maxRecDepth 100000 in
theorem c5_result (l : Launch) (V : gV) (ad : gA) (T : rS)  : kMi l yX5_result cX5_result 1 (some .int) ({ frames := 0, cells := 0, slots := 0, locals := 0 } : Room) [.ref (ad 0 0 0)] V ad T (fun r T' => r = T.1 24 0 ∧ T' = T) := by
  refine kMi.of (by decide) (Nat.le_of_ble_eq_true rfl) ?_
  intro p e s m_ below meth c ls E sz hC hz hW hl
  have hx := hC.1
  have hb := hC.2.1
  have hl : lv_has ls 1 [(0, .ref (ad 0 0 0))] := hl
  refine lv_aload_n hx hb dX5_result_0 rfl (lv_at hl 0 rfl) ?_
  refine kg_tm_7 hC hW kf_RX5_168 dX5_result_1 ?_
  exact kr_iret hC hz hW (⟨rfl, rfl⟩) (by decide) (by decide) dX5_result_4
set_option maxHeartbeats 4000000 in
set_option maxRecDepth 100000 in
theorem c5_resultClass (l : Launch) (V : gV) (ad : gA) (T : rS)  : kMi l yX5_resultClass cX5_resultClass 1 (some .int) ({ frames := 0, cells := 0, slots := 0, locals := 0 } : Room) [.ref (ad 0 0 0)] V ad T (fun r T' => r = T.1 23 0 ∧ T' = T) := by
  refine kMi.of (by decide) (Nat.le_of_ble_eq_true rfl) ?_
  intro p e s m_ below meth c ls E sz hC hz hW hl
  have hx := hC.1
  have hb := hC.2.1
  have hl : lv_has ls 1 [(0, .ref (ad 0 0 0))] := hl
  refine lv_aload_n hx hb dX5_resultClass_0 rfl (lv_at hl 0 rfl) ?_
  refine kg_tm_8 hC hW kf_RX5_40 dX5_resultClass_1 ?_
  exact kr_iret hC hz hW (⟨rfl, rfl⟩) (by decide) (by decide) dX5_resultClass_4
set_option maxHeartbeats 4000000 in
set_option maxRecDepth 100000 in
theorem c5_error (l : Launch) (V : gV) (ad : gA) (T : rS)  : kMi l yX5_error cX5_error 1 (some .int) ({ frames := 0, cells := 0, slots := 0, locals := 0 } : Room) [.ref (ad 0 0 0)] V ad T (fun r T' => r = T.1 25 0 ∧ T' = T) := by
  refine kMi.of (by decide) (Nat.le_of_ble_eq_true rfl) ?_
  intro p e s m_ below meth c ls E sz hC hz hW hl
  have hx := hC.1
  have hb := hC.2.1
  have hl : lv_has ls 1 [(0, .ref (ad 0 0 0))] := hl
  refine lv_aload_n hx hb dX5_error_0 rfl (lv_at hl 0 rfl) ?_
  refine kg_tm_9 hC hW kf_RX5_165 dX5_error_1 ?_
  exact kr_iret hC hz hW (⟨rfl, rfl⟩) (by decide) (by decide) dX5_error_4
set_option maxHeartbeats 4000000 in
set_option maxRecDepth 100000 in
theorem c5_steps (l : Launch) (V : gV) (ad : gA) (T : rS)  : kMi l yX5_steps cX5_steps 1 (some .int) ({ frames := 0, cells := 0, slots := 0, locals := 0 } : Room) [.ref (ad 0 0 0)] V ad T (fun r T' => r = T.1 27 0 ∧ T' = T) := by
  refine kMi.of (by decide) (Nat.le_of_ble_eq_true rfl) ?_
  intro p e s m_ below meth c ls E sz hC hz hW hl
  have hx := hC.1
  have hb := hC.2.1
  have hl : lv_has ls 1 [(0, .ref (ad 0 0 0))] := hl
  refine lv_aload_n hx hb dX5_steps_0 rfl (lv_at hl 0 rfl) ?_
  refine kg_tm_11 hC hW kf_RX5_175 dX5_steps_1 ?_
  exact kr_iret hC hz hW (⟨rfl, rfl⟩) (by decide) (by decide) dX5_steps_4
set_option maxHeartbeats 4000000 in
set_option maxRecDepth 100000 in
theorem c5_depth (l : Launch) (V : gV) (ad : gA) (T : rS)  : kMi l yX5_depth cX5_depth 1 (some .int) ({ frames := 0, cells := 0, slots := 0, locals := 0 } : Room) [.ref (ad 0 0 0)] V ad T (fun r T' => r = T.1 28 0 ∧ T' = T) := by
  refine kMi.of (by decide) (Nat.le_of_ble_eq_true rfl) ?_
  intro p e s m_ below meth c ls E sz hC hz hW hl
  have hx := hC.1
  have hb := hC.2.1
  have hl : lv_has ls 1 [(0, .ref (ad 0 0 0))] := hl
  refine lv_aload_n hx hb dX5_depth_0 rfl (lv_at hl 0 rfl) ?_
  refine kg_tm_12 hC hW kf_RX5_178 dX5_depth_1 ?_
  exact kr_iret hC hz hW (⟨rfl, rfl⟩) (by decide) (by decide) dX5_depth_4
set_option maxHeartbeats 4000000 in
set_option maxRecDepth 100000 in
theorem c5_cost (l : Launch) (V : gV) (ad : gA) (T : rS)  : kMl l yX5_cost cX5_cost 1 (some .long) ({ frames := 0, cells := 0, slots := 0, locals := 0 } : Room) [.ref (ad 0 0 0)] V ad T (fun r T' => r = T.2 26 0 ∧ T' = T) := by
  refine kMl.of (by decide) (Nat.le_of_ble_eq_true rfl) ?_
  intro p e s m_ below meth c ls E sz hC hz hW hl
  have hx := hC.1
  have hb := hC.2.1
  have hl : lv_has ls 1 [(0, .ref (ad 0 0 0))] := hl
  refine lv_aload_n hx hb dX5_cost_0 rfl (lv_at hl 0 rfl) ?_
  refine kg_tm_10 hC hW kf_RX5_171 dX5_cost_1 ?_
  exact kr_lret hC hz hW (⟨rfl, rfl⟩) (by decide) (by decide) dX5_cost_4
set_option maxHeartbeats 4000000 in
set_option maxRecDepth 100000 in
theorem c5_total (l : Launch) (V : gV) (ad : gA) (T : rS) (x : Nat) (hx4 : x < 4) : kMl l yX5_total cX5_total 2 (some .long) ({ frames := 0, cells := 0, slots := 0, locals := 0 } : Room) [.ref (ad 0 0 0), .int (nI x)] V ad T (fun r T' => r = T.2 16 x ∧ T' = T) := by
  refine kMl.of (by decide) (Nat.le_of_ble_eq_true rfl) ?_
  intro p e s m_ below meth c ls E sz hC hz hW hl
  have hx := hC.1
  have hb := hC.2.1
  have hl : lv_has ls 2 [(0, .ref (ad 0 0 0)), (1, .int (nI x))] := hl
  refine lv_iload_n hx hb dX5_total_0 rfl (lv_at hl 1 rfl) ?_
  refine lv_if_lt (tgt := 9) hx hb dX5_total_1 (by decide) (fun c_1 => absurd c_1 (nI_pos (by omega))) (fun c_1 => ?_)
  refine lv_iload_n hx hb dX5_total_4 rfl (lv_at hl 1 rfl) ?_
  refine lv_iconst (v := (nI 4)) hx hb dX5_total_5 (by decide) ?_
  refine gn_icmp_lt (tgt := 19) hx hb (by omega) (by omega) dX5_total_6 (by decide) (fun c_6 => ?_) (fun c_6 => absurd c_6 (by omega))
  refine lv_aload_n hx hb dX5_total_19 rfl (lv_at hl 0 rfl) ?_
  refine kg_tm_13 hC hW kf_RX5_43 dX5_total_20 ?_
  refine lv_iload_n hx hb dX5_total_23 rfl (lv_at hl 1 rfl) ?_
  refine ka_tot hC hW (by omega) dX5_total_24 ?_
  exact kr_lret hC hz hW (⟨rfl, rfl⟩) (by decide) (by decide) dX5_total_25
set_option maxHeartbeats 4000000 in
set_option maxRecDepth 100000 in
theorem c5_tier (l : Launch) (V : gV) (ad : gA) (T : rS) (m : Nat) (hm : m < cnm T) (hm12 : cnm T ≤ 12) : kMi l yX5_tier cX5_tier 2 (some .int) ({ frames := 4, cells := 0, slots := 0, locals := 85 } : Room) [.ref (ad 0 0 0), .int (nI m)] V ad T (fun r T' => r = T.1 10 m ∧ T' = T) := by
  refine kMi.of (by decide) (Nat.le_of_ble_eq_true rfl) ?_
  intro p e s m_ below meth c ls E sz hC hz hW hl
  have hx := hC.1
  have hb := hC.2.1
  have hl : lv_has ls 2 [(0, .ref (ad 0 0 0)), (1, .int (nI m))] := hl
  refine lv_aload_n hx hb dX5_tier_0 rfl (lv_at hl 0 rfl) ?_
  refine lv_iload_n hx hb dX5_tier_1 rfl (lv_at hl 1 rfl) ?_
  refine kc_Vr hC hW (kv_tm ) rfl (c5_existingMethod l V ad _ m hm hm12) km_RX5_83 kn_yX5_existingMethod ks_yX5_existingMethod kz_RX5 kd_yX5_existingMethod dn_X5_existingMethod rfl hl.1 ⟨by decide, by decide⟩ (Nat.le_of_ble_eq_true rfl) ⟨by decide, by decide⟩ dX5_tier_2 (fun r_2 T_2 H locs p_2 hW => ?_)
  obtain ⟨q_2, p_2⟩ := p_2
  rw [p_2] at hW
  rw [q_2]
  refine kg_me_1 hC hW hm kf_RX5_124 dX5_tier_5 ?_
  exact kr_iret hC hz hW (⟨rfl, rfl⟩) (by decide) (by decide) dX5_tier_8
set_option maxHeartbeats 4000000 in
set_option maxRecDepth 100000 in
theorem c5_heat (l : Launch) (V : gV) (ad : gA) (T : rS) (m : Nat) (hm : m < cnm T) (hm12 : cnm T ≤ 12) : kMi l yX5_heat cX5_heat 2 (some .int) ({ frames := 4, cells := 0, slots := 0, locals := 85 } : Room) [.ref (ad 0 0 0), .int (nI m)] V ad T (fun r T' => r = T.1 11 m ∧ T' = T) := by
  refine kMi.of (by decide) (Nat.le_of_ble_eq_true rfl) ?_
  intro p e s m_ below meth c ls E sz hC hz hW hl
  have hx := hC.1
  have hb := hC.2.1
  have hl : lv_has ls 2 [(0, .ref (ad 0 0 0)), (1, .int (nI m))] := hl
  refine lv_aload_n hx hb dX5_heat_0 rfl (lv_at hl 0 rfl) ?_
  refine lv_iload_n hx hb dX5_heat_1 rfl (lv_at hl 1 rfl) ?_
  refine kc_Vr hC hW (kv_tm ) rfl (c5_existingMethod l V ad _ m hm hm12) km_RX5_83 kn_yX5_existingMethod ks_yX5_existingMethod kz_RX5 kd_yX5_existingMethod dn_X5_existingMethod rfl hl.1 ⟨by decide, by decide⟩ (Nat.le_of_ble_eq_true rfl) ⟨by decide, by decide⟩ dX5_heat_2 (fun r_2 T_2 H locs p_2 hW => ?_)
  obtain ⟨q_2, p_2⟩ := p_2
  rw [p_2] at hW
  rw [q_2]
  refine kg_me_2 hC hW hm kf_RX5_183 dX5_heat_5 ?_
  exact kr_iret hC hz hW (⟨rfl, rfl⟩) (by decide) (by decide) dX5_heat_8
set_option maxHeartbeats 4000000 in
set_option maxRecDepth 100000 in
theorem c5_disappointments (l : Launch) (V : gV) (ad : gA) (T : rS) (m : Nat) (hm : m < cnm T) (hm12 : cnm T ≤ 12) : kMi l yX5_disappointments cX5_disappointments 2 (some .int) ({ frames := 4, cells := 0, slots := 0, locals := 85 } : Room) [.ref (ad 0 0 0), .int (nI m)] V ad T (fun r T' => r = T.1 12 m ∧ T' = T) := by
  refine kMi.of (by decide) (Nat.le_of_ble_eq_true rfl) ?_
  intro p e s m_ below meth c ls E sz hC hz hW hl
  have hx := hC.1
  have hb := hC.2.1
  have hl : lv_has ls 2 [(0, .ref (ad 0 0 0)), (1, .int (nI m))] := hl
  refine lv_aload_n hx hb dX5_disappointments_0 rfl (lv_at hl 0 rfl) ?_
  refine lv_iload_n hx hb dX5_disappointments_1 rfl (lv_at hl 1 rfl) ?_
  refine kc_Vr hC hW (kv_tm ) rfl (c5_existingMethod l V ad _ m hm hm12) km_RX5_83 kn_yX5_existingMethod ks_yX5_existingMethod kz_RX5 kd_yX5_existingMethod dn_X5_existingMethod rfl hl.1 ⟨by decide, by decide⟩ (Nat.le_of_ble_eq_true rfl) ⟨by decide, by decide⟩ dX5_disappointments_2 (fun r_2 T_2 H locs p_2 hW => ?_)
  obtain ⟨q_2, p_2⟩ := p_2
  rw [p_2] at hW
  rw [q_2]
  refine kg_me_3 hC hW hm kf_RX5_186 dX5_disappointments_5 ?_
  exact kr_iret hC hz hW (⟨rfl, rfl⟩) (by decide) (by decide) dX5_disappointments_8
set_option maxHeartbeats 4000000 in
set_option maxRecDepth 100000 in
theorem c5_existingRecord (l : Launch) (V : gV) (ad : gA) (T : rS) (m q : Nat) (hm : m < cnm T) (hm12 : cnm T ≤ 12) (hq : q < csz T m) (hz20 : csz T m ≤ 20) (hk : T.1 6 (5 * (20 * m + q)) = 5) : kMr l yX5_existingRecord cX5_existingRecord 4 (some (.object "TieredMachine$Meetings")) ({ frames := 4, cells := 0, slots := 0, locals := 85 } : Room) [.ref (ad 0 0 0), .int (nI m), .int (nI q)] V ad T (fun r T' => r = ad 17 m q ∧ T' = T) := by
  refine kMr.of (by decide) (Nat.le_of_ble_eq_true rfl) ?_
  intro p e s m_ below meth c ls E sz hC hz hW hl
  have hx := hC.1
  have hb := hC.2.1
  have hl : lv_has ls 4 [(0, .ref (ad 0 0 0)), (1, .int (nI m)), (2, .int (nI q))] := hl
  refine lv_aload_n hx hb dX5_existingRecord_0 rfl (lv_at hl 0 rfl) ?_
  refine lv_iload_n hx hb dX5_existingRecord_1 rfl (lv_at hl 1 rfl) ?_
  refine kc_Vr hC hW (kv_tm ) rfl (c5_existingMethod l V ad _ m hm hm12) km_RX5_83 kn_yX5_existingMethod ks_yX5_existingMethod kz_RX5 kd_yX5_existingMethod dn_X5_existingMethod rfl hl.1 ⟨by decide, by decide⟩ (Nat.le_of_ble_eq_true rfl) ⟨by decide, by decide⟩ dX5_existingRecord_2 (fun r_2 T_2 H locs p_2 hW => ?_)
  obtain ⟨q_2, p_2⟩ := p_2
  rw [p_2] at hW
  rw [q_2]
  refine lv_astore_n (lv' := [(3, .ref (ad 13 m 0)), (0, .ref (ad 0 0 0)), (1, .int (nI m)), (2, .int (nI q))]) hx hb dX5_existingRecord_5 rfl hl (by decide) rfl (fun ls hl => ?_)
  refine lv_aload_n hx hb dX5_existingRecord_6 rfl (lv_at hl 0 rfl) ?_
  refine lv_iload_n hx hb dX5_existingRecord_7 rfl (lv_at hl 3 rfl) ?_
  refine kc_Vi hC hW (kv_me hm) rfl (c4_hasPlace l V ad _ m hm (nI q)) km_RX5_215 kn_yX4_hasPlace ks_yX4_hasPlace kz_RX4 kd_yX4_hasPlace dn_X4_hasPlace rfl hl.1 ⟨by decide, by decide⟩ (Nat.le_of_ble_eq_true rfl) ⟨by decide, by decide⟩ dX5_existingRecord_8 (fun r_8 T_8 H locs p_8 hW => ?_)
  obtain ⟨q_8, p_8⟩ := p_8
  rw [p_8] at hW
  refine gq_top (rb (¬ nI q < 0 ∧ nI q < nI (csz T m))) (q_8) ?_
  refine lv_if_eq (tgt := 32) hx hb dX5_existingRecord_11 (by decide) (fun c_11 => absurd c_11 (fun z => rb_n z ⟨nI_pos (by omega), nI_lt hq (by omega)⟩)) (fun c_11 => ?_)
  refine lv_aload_n hx hb dX5_existingRecord_14 rfl (lv_at hl 0 rfl) ?_
  refine kg_me_0 hC hW hm kf_RX5_101 dX5_existingRecord_15 ?_
  refine lv_iload_n hx hb dX5_existingRecord_18 rfl (lv_at hl 3 rfl) ?_
  refine kc_Vr hC hW (kv_cl hm) rfl (kc_get_cl l V ad _ hm hq) km_RX5_120 kn_yJx4a65c_get_915e3 ks_yJx4a65c_get_915e3 kz_RJx4a65c kd_yJx4a65c_get_915e3 dn_Jx4a65c_get_915e3 rfl hl.1 ⟨by decide, by decide⟩ (Nat.le_of_ble_eq_true rfl) ⟨by decide, by decide⟩ dX5_existingRecord_19 (fun r_19 T_19 H locs p_19 hW => ?_)
  obtain ⟨q_19, p_19⟩ := p_19
  rw [p_19] at hW
  rw [q_19]
  refine kx_cast hC hW (kv_ins hm hq) rfl kc_RX5_104 dX5_existingRecord_22 ?_
  refine kg_ins_0 hC hW hm hq kf_RX5_218 dX5_existingRecord_25 ?_
  refine lv_iconst (v := 5) hx hb dX5_existingRecord_28 (by decide) ?_
  refine lv_icmp_eq (tgt := 42) hx hb dX5_existingRecord_29 (by decide) (fun c_29 => ?_) (fun c_29 => absurd (hk) c_29)
  refine lv_aload_n hx hb dX5_existingRecord_42 rfl (lv_at hl 0 rfl) ?_
  refine kg_me_0 hC hW hm kf_RX5_101 dX5_existingRecord_43 ?_
  refine lv_iload_n hx hb dX5_existingRecord_46 rfl (lv_at hl 3 rfl) ?_
  refine kc_Vr hC hW (kv_cl hm) rfl (kc_get_cl l V ad _ hm hq) km_RX5_120 kn_yJx4a65c_get_915e3 ks_yJx4a65c_get_915e3 kz_RJx4a65c kd_yJx4a65c_get_915e3 dn_Jx4a65c_get_915e3 rfl hl.1 ⟨by decide, by decide⟩ (Nat.le_of_ble_eq_true rfl) ⟨by decide, by decide⟩ dX5_existingRecord_47 (fun r_47 T_47 H locs p_47 hW => ?_)
  obtain ⟨q_47, p_47⟩ := p_47
  rw [p_47] at hW
  rw [q_47]
  refine kx_cast hC hW (kv_ins hm hq) rfl kc_RX5_104 dX5_existingRecord_50 ?_
  refine kg_ins_5 hC hW hm hq kf_RX5_223 dX5_existingRecord_53 ?_
  exact kr_aret hC (Or.inl ⟨_, rfl⟩) hz hW (⟨rfl, rfl⟩) (by decide) (by decide) dX5_existingRecord_56
set_option maxHeartbeats 4000000 in
set_option maxRecDepth 100000 in
theorem c5_met (l : Launch) (V : gV) (ad : gA) (T : rS) (m q : Nat) (hm : m < cnm T) (hm12 : cnm T ≤ 12) (hq : q < csz T m) (hz20 : csz T m ≤ 20) (hk : T.1 6 (5 * (20 * m + q)) = 5) : kMi l yX5_met cX5_met 3 (some .int) ({ frames := 5, cells := 0, slots := 0, locals := 108 } : Room) [.ref (ad 0 0 0), .int (nI m), .int (nI q)] V ad T (fun r T' => r = s_mat T m q ∧ T' = T) := by
  refine kMi.of (by decide) (Nat.le_of_ble_eq_true rfl) ?_
  intro p e s m_ below meth c ls E sz hC hz hW hl
  have hx := hC.1
  have hb := hC.2.1
  have hl : lv_has ls 3 [(0, .ref (ad 0 0 0)), (1, .int (nI m)), (2, .int (nI q))] := hl
  refine lv_aload_n hx hb dX5_met_0 rfl (lv_at hl 0 rfl) ?_
  refine lv_iload_n hx hb dX5_met_1 rfl (lv_at hl 1 rfl) ?_
  refine lv_iload_n hx hb dX5_met_2 rfl (lv_at hl 2 rfl) ?_
  refine kc_Vr hC hW (kv_tm ) rfl (c5_existingRecord l V ad _ m q hm hm12 hq hz20 hk) km_RX5_189 kn_yX5_existingRecord ks_yX5_existingRecord kz_RX5 kd_yX5_existingRecord dn_X5_existingRecord rfl hl.1 ⟨by decide, by decide⟩ (Nat.le_of_ble_eq_true rfl) ⟨by decide, by decide⟩ dX5_met_3 (fun r_3 T_3 H locs p_3 hW => ?_)
  obtain ⟨q_3, p_3⟩ := p_3
  rw [p_3] at hW
  rw [q_3]
  refine kc_Vi hC hW (kv_rm hm hq) rfl (c3_told l V ad _ m q hm hq) km_RX5_193 kn_yX3_told ks_yX3_told kz_RX3 kd_yX3_told dn_X3_told rfl hl.1 ⟨by decide, by decide⟩ (Nat.le_of_ble_eq_true rfl) ⟨by decide, by decide⟩ dX5_met_6 (fun r_6 T_6 H locs p_6 hW => ?_)
  obtain ⟨q_6, p_6⟩ := p_6
  rw [p_6] at hW
  refine gq_top (s_mat T m q) (q_6) ?_
  exact kr_iret hC hz hW (⟨rfl, rfl⟩) (by decide) (by decide) dX5_met_9
set_option maxHeartbeats 4000000 in
set_option maxRecDepth 100000 in
theorem c5_metClass (l : Launch) (V : gV) (ad : gA) (T : rS) (m q : Nat) (hm : m < cnm T) (hm12 : cnm T ≤ 12) (hq : q < csz T m) (hz20 : csz T m ≤ 20) (hk : T.1 6 (5 * (20 * m + q)) = 5) (x n : Nat) (hn : T.1 13 (20 * m + q) = nI n) (hn3 : n ≤ 3) (hxn : x < n) : kMi l yX5_metClass cX5_metClass 5 (some .int) ({ frames := 5, cells := 0, slots := 0, locals := 108 } : Room) [.ref (ad 0 0 0), .int (nI m), .int (nI q), .int (nI x)] V ad T (fun r T' => r = T.1 14 (3 * (20 * m + q) + x) ∧ T' = T) := by
  refine kMi.of (by decide) (Nat.le_of_ble_eq_true rfl) ?_
  intro p e s m_ below meth c ls E sz hC hz hW hl
  have hx := hC.1
  have hb := hC.2.1
  have hl : lv_has ls 5 [(0, .ref (ad 0 0 0)), (1, .int (nI m)), (2, .int (nI q)), (3, .int (nI x))] := hl
  refine lv_aload_n hx hb dX5_metClass_0 rfl (lv_at hl 0 rfl) ?_
  refine lv_iload_n hx hb dX5_metClass_1 rfl (lv_at hl 1 rfl) ?_
  refine lv_iload_n hx hb dX5_metClass_2 rfl (lv_at hl 2 rfl) ?_
  refine kc_Vr hC hW (kv_tm ) rfl (c5_existingRecord l V ad _ m q hm hm12 hq hz20 hk) km_RX5_189 kn_yX5_existingRecord ks_yX5_existingRecord kz_RX5 kd_yX5_existingRecord dn_X5_existingRecord rfl hl.1 ⟨by decide, by decide⟩ (Nat.le_of_ble_eq_true rfl) ⟨by decide, by decide⟩ dX5_metClass_3 (fun r_3 T_3 H locs p_3 hW => ?_)
  obtain ⟨q_3, p_3⟩ := p_3
  rw [p_3] at hW
  rw [q_3]
  refine lv_astore (lv' := [(4, .ref (ad 17 m q)), (0, .ref (ad 0 0 0)), (1, .int (nI m)), (2, .int (nI q)), (3, .int (nI x))]) hx hb dX5_metClass_6 hl (by decide) rfl (fun ls hl => ?_)
  refine lv_iload_n hx hb dX5_metClass_8 rfl (lv_at hl 4 rfl) ?_
  refine lv_if_lt (tgt := 21) hx hb dX5_metClass_9 (by decide) (fun c_9 => absurd c_9 (nI_pos (by omega))) (fun c_9 => ?_)
  refine lv_iload_n hx hb dX5_metClass_12 rfl (lv_at hl 4 rfl) ?_
  refine lv_aload hx hb dX5_metClass_13 (lv_at hl 0 rfl) ?_
  refine kg_rm_1 hC hW hm hq kf_RX5_198 dX5_metClass_15 ?_
  refine gq_top (nI n) (hn) ?_
  refine gn_icmp_lt (tgt := 31) hx hb (by omega) (by omega) dX5_metClass_18 (by decide) (fun c_18 => ?_) (fun c_18 => absurd c_18 (by omega))
  refine lv_aload hx hb dX5_metClass_31 (lv_at hl 0 rfl) ?_
  refine kg_rm_0 hC hW hm hq kf_RX5_201 dX5_metClass_33 ?_
  refine lv_iload_n hx hb dX5_metClass_36 rfl (lv_at hl 4 rfl) ?_
  refine ka_rmt hC hW hm hq (by omega) dX5_metClass_37 ?_
  exact kr_iret hC hz hW (⟨rfl, rfl⟩) (by decide) (by decide) dX5_metClass_38
set_option maxHeartbeats 4000000 in
set_option maxRecDepth 100000 in
theorem c5_digest (l : Launch) (V : gV) (ad : gA) (T : rS) (nc nm : Nat) (hI : rI T nc nm) : kMl l yX5_digest cX5_digest 4 (some .long) ({ frames := 4, cells := 0, slots := 0, locals := 89 } : Room) [.ref (ad 0 0 0)] V ad T (fun r T' => r = o_digest T ∧ T' = T) := by
  refine kMl.of (by decide) (Nat.le_of_ble_eq_true rfl) ?_
  intro p e s m_ below meth c ls E sz hC hz hW hl
  have hx := hC.1
  have hb := hC.2.1
  have hl : lv_has ls 4 [(0, .ref (ad 0 0 0))] := hl
  have hI0 := hI
  have hnm := hI.2.2.2.1
  have ecn := rI_cnm hI
  obtain ⟨d0, hd0⟩ : ∃ d0, d0 = ((3007 + (T.1 1 0).toInt64) * 31 + (T.1 4 0).toInt64) := ⟨_, rfl⟩
  refine gq_ldc2 hC kl_RX5_205 dX5_digest_0 ?_
  refine lv_lstore_n (lv' := [(1, .long 97), (0, .ref (ad 0 0 0))]) hx hb dX5_digest_3 rfl hl (by decide) rfl (fun ls hl => ?_)
  refine lv_lload_n hx hb dX5_digest_4 rfl (lv_at hl 0 rfl) ?_
  refine gq_ldc2 hC kl_RX5_207 dX5_digest_5 ?_
  refine lv_lmul hx hb dX5_digest_8 ?_
  refine lv_aload_n hx hb dX5_digest_9 rfl (lv_at hl 1 rfl) ?_
  refine kg_tm_0 hC hW kf_RX5_10 dX5_digest_10 ?_
  refine kg_hi_3 hC hW kf_RX5_58 dX5_digest_13 ?_
  refine lv_i2l hx hb dX5_digest_16 rfl ?_
  refine lv_ladd hx hb dX5_digest_17 ?_
  refine lv_topl (fun x_18 ex_18 => ?_)
  refine lv_lstore_n (lv' := [(1, .long x_18), (0, .ref (ad 0 0 0))]) hx hb dX5_digest_18 rfl hl (by decide) rfl (fun ls hl => ?_)
  refine lv_lload_n hx hb dX5_digest_19 rfl (lv_at hl 0 rfl) ?_
  refine gq_ldc2 hC kl_RX5_207 dX5_digest_20 ?_
  refine lv_lmul hx hb dX5_digest_23 ?_
  refine lv_aload_n hx hb dX5_digest_24 rfl (lv_at hl 1 rfl) ?_
  refine kg_tm_1 hC hW kf_RX5_19 dX5_digest_25 ?_
  refine kc_Vi hC hW (kv_ml ) rfl (kc_size_ml l V ad _) km_RX5_70 kn_yJx4a65c_size_8abf5 ks_yJx4a65c_size_8abf5 kz_RJx4a65c kd_yJx4a65c_size_8abf5 dn_Jx4a65c_size_8abf5 rfl hl.1 ⟨by decide, by decide⟩ (Nat.le_of_ble_eq_true rfl) ⟨by decide, by decide⟩ dX5_digest_28 (fun r_28 T_28 H locs p_28 hW => ?_)
  obtain ⟨q_28, p_28⟩ := p_28
  rw [p_28] at hW
  refine gq_top (T.1 4 0) (q_28.trans (by rw [hI.2.2.1, ecn])) ?_
  refine lv_i2l hx hb dX5_digest_31 rfl ?_
  refine lv_ladd hx hb dX5_digest_32 ?_
  refine lv_topl (fun x_33 ex_33 => ?_)
  refine lv_lstore_n (lv' := [(1, .long x_33), (0, .ref (ad 0 0 0))]) hx hb dX5_digest_33 rfl hl (by decide) rfl (fun ls hl => ?_)
  have hd2 : x_33 = d0 := by rw [ex_33, ex_18, hd0]; rfl
  rw [hd2] at hl
  refine lv_iconst (v := (nI 0)) hx hb dX5_digest_34 (by decide) ?_
  refine lv_istore_n (lv' := [(3, .int ((nI 0))), (1, .long d0), (0, .ref (ad 0 0 0))]) hx hb dX5_digest_35 rfl hl (by decide) rfl (fun ls hl => ?_)
  refine g_loop (T := Nat) (fun xx H locs ls => xx ≤ nm ∧ cmW V (gAd ad E sz) s.heap ad E T H locs ∧ lv_has ls 4 [(3, .int (nI xx)), (1, .long (s_dm T d0 xx)), (0, .ref (ad 0 0 0))]) (fun xx => nm - xx) (fun xx ih H locs ls hI => ?_) (0) ⟨by omega, hW, lv_sub hl [0, 1, 2] rfl⟩
  obtain ⟨hxn, hW, hl⟩ := hI
  refine lv_iload_n hx hb dX5_digest_36 rfl (lv_at hl 0 rfl) ?_
  refine lv_aload_n hx hb dX5_digest_37 rfl (lv_at hl 2 rfl) ?_
  refine kg_tm_1 hC hW kf_RX5_19 dX5_digest_38 ?_
  refine kc_Vi hC hW (kv_ml ) rfl (kc_size_ml l V ad _) km_RX5_70 kn_yJx4a65c_size_8abf5 ks_yJx4a65c_size_8abf5 kz_RJx4a65c kd_yJx4a65c_size_8abf5 dn_Jx4a65c_size_8abf5 rfl hl.1 ⟨by decide, by decide⟩ (Nat.le_of_ble_eq_true rfl) ⟨by decide, by decide⟩ dX5_digest_41 (fun r_41 T_41 H locs p_41 hW => ?_)
  obtain ⟨q_41, p_41⟩ := p_41
  rw [p_41] at hW
  refine gq_top (nI nm) (q_41.trans (congrArg nI ecn)) ?_
  refine gn_icmp_ge (tgt := 69) hx hb (by omega) (by omega) dX5_digest_44 (by decide) (fun c_44 => ?_) (fun c_44 => ?_)
  · refine lv_lload_n hx hb dX5_digest_69 rfl (lv_at hl 1 rfl) ?_
    refine gq_ldc2 hC kl_RX5_207 dX5_digest_70 ?_
    refine lv_lmul hx hb dX5_digest_73 ?_
    refine lv_aload_n hx hb dX5_digest_74 rfl (lv_at hl 2 rfl) ?_
    refine kg_tm_10 hC hW kf_RX5_171 dX5_digest_75 ?_
    refine lv_ladd hx hb dX5_digest_78 ?_
    refine lv_topl (fun x_79 ex_79 => ?_)
    refine lv_lstore_n (lv' := [(1, .long x_79), (3, .int (nI xx)), (0, .ref (ad 0 0 0))]) hx hb dX5_digest_79 rfl hl (by decide) rfl (fun ls hl => ?_)
    refine lv_lload_n hx hb dX5_digest_80 rfl (lv_at hl 0 rfl) ?_
    refine gq_ldc2 hC kl_RX5_207 dX5_digest_81 ?_
    refine lv_lmul hx hb dX5_digest_84 ?_
    refine lv_aload_n hx hb dX5_digest_85 rfl (lv_at hl 2 rfl) ?_
    refine kg_tm_11 hC hW kf_RX5_175 dX5_digest_86 ?_
    refine lv_i2l hx hb dX5_digest_89 rfl ?_
    refine lv_ladd hx hb dX5_digest_90 ?_
    refine lv_topl (fun x_91 ex_91 => ?_)
    refine lv_lstore_n (lv' := [(1, .long x_91), (3, .int (nI xx)), (0, .ref (ad 0 0 0))]) hx hb dX5_digest_91 rfl hl (by decide) rfl (fun ls hl => ?_)
    refine lv_lload_n hx hb dX5_digest_92 rfl (lv_at hl 0 rfl) ?_
    refine gq_ldc2 hC kl_RX5_207 dX5_digest_93 ?_
    refine lv_lmul hx hb dX5_digest_96 ?_
    refine lv_aload_n hx hb dX5_digest_97 rfl (lv_at hl 2 rfl) ?_
    refine kg_tm_9 hC hW kf_RX5_165 dX5_digest_98 ?_
    refine lv_i2l hx hb dX5_digest_101 rfl ?_
    refine lv_ladd hx hb dX5_digest_102 ?_
    exact kr_lret hC hz hW (⟨by rw [ex_91, ex_79, show xx = cnm T by omega, hd0]; rfl, rfl⟩) (by decide) (by decide) dX5_digest_103
  · obtain ⟨z, hz, ez, -, -⟩ := hI0.2.2.2.2.2.1 xx (by omega)
    have ecz : csz T xx = z := by unfold csz; rw [ez]; exact tn_nI (by omega)
    have hzx : csz T xx ≤ 20 := by omega
    have h5x : T.1 5 xx = nI (csz T xx) := by rw [ecz]; exact ez
    refine lv_aload_n hx hb dX5_digest_47 rfl (lv_at hl 2 rfl) ?_
    refine kg_tm_1 hC hW kf_RX5_19 dX5_digest_48 ?_
    refine lv_iload_n hx hb dX5_digest_51 rfl (lv_at hl 0 rfl) ?_
    refine kc_Vr hC hW (kv_ml ) rfl (kc_get_ml l V ad _ (show xx < cnm T by omega)) km_RX5_120 kn_yJx4a65c_get_915e3 ks_yJx4a65c_get_915e3 kz_RJx4a65c kd_yJx4a65c_get_915e3 dn_Jx4a65c_get_915e3 rfl hl.1 ⟨by decide, by decide⟩ (Nat.le_of_ble_eq_true rfl) ⟨by decide, by decide⟩ dX5_digest_52 (fun r_52 T_52 H locs p_52 hW => ?_)
    obtain ⟨q_52, p_52⟩ := p_52
    rw [p_52] at hW
    rw [q_52]
    refine kx_cast hC hW (kv_me (show xx < cnm T by omega)) rfl kc_RX5_76 dX5_digest_55 ?_
    refine lv_lload_n hx hb dX5_digest_58 rfl (lv_at hl 1 rfl) ?_
    refine kc_Vl hC hW (kv_me (show xx < cnm T by omega)) rfl (c4_mixInto l V ad _ xx (by omega) hzx h5x (s_dm T d0 xx)) km_RX5_209 kn_yX4_mixInto ks_yX4_mixInto kz_RX4 kd_yX4_mixInto dn_X4_mixInto rfl hl.1 ⟨by decide, by decide⟩ (Nat.le_of_ble_eq_true rfl) ⟨by decide, by decide⟩ dX5_digest_59 (fun r_59 T_59 H locs p_59 hW => ?_)
    obtain ⟨q_59, p_59⟩ := p_59
    rw [p_59] at hW
    refine gq_topl (s_dm T d0 (xx + 1)) q_59 ?_
    refine lv_topl (fun x_62 ex_62 => ?_)
    refine lv_lstore_n (lv' := [(1, .long x_62), (3, .int (nI xx)), (0, .ref (ad 0 0 0))]) hx hb dX5_digest_62 rfl hl (by decide) rfl (fun ls hl => ?_)
    rw [ex_62] at hl
    refine lv_iinc (v := (nI (xx + 1))) (lv' := [(3, .int ((nI (xx + 1)))), (1, .long (s_dm T d0 (xx + 1))), (0, .ref (ad 0 0 0))]) hx hb dX5_digest_63 hl (k := 1) rfl (nI_1 xx) (by decide) rfl (fun ls hl => ?_)
    refine lv_goto (tgt := 36) hx hb dX5_digest_66 (by decide) ?_
    exact ih (xx + 1) (by omega) _ _ _ ⟨by omega, hW, lv_sub hl [0, 1, 2] rfl⟩
