def s_fg (S : rS) : Nat → rS
  | 0 => S
  | k + 1 => sp_unlearn (s_fg S k) k
def s_fc (S : rS) : Nat → Nat
  | 0 => 0
  | k + 1 => if 0 < S.1 10 k then s_fc S k + 1 else s_fc S k
theorem s_fc_le (S : rS) : ∀ k : Nat, s_fc S k ≤ k
  | 0 => Nat.le_refl _
  | k + 1 => by
    unfold s_fc
    have := s_fc_le S k
    split <;> omega
theorem sp_unlearn_f {S : rS} {m f : Nat} (h1 : f ≠ 10) (h2 : f ≠ 11) (h3 : f ≠ 12) (h4 : f ≠ 13) (h5 : f ≠ 15) : (sp_unlearn S m).1 f = S.1 f := by
  unfold sp_unlearn
  rw [s_clr_f h4 h5]
  simp [su, h1, h2, h3]
theorem s_fg_f {S : rS} {f : Nat} (h1 : f ≠ 10) (h2 : f ≠ 11) (h3 : f ≠ 12) (h4 : f ≠ 13) (h5 : f ≠ 15) : ∀ k : Nat, (s_fg S k).1 f = S.1 f
  | 0 => rfl
  | k + 1 => by
    unfold s_fg
    rw [sp_unlearn_f h1 h2 h3 h4 h5]
    exact s_fg_f h1 h2 h3 h4 h5 k
theorem s_fg_10 (S : rS) : ∀ k j : Nat, k ≤ j → (s_fg S k).1 10 j = S.1 10 j
  | 0, _, _ => rfl
  | k + 1, j, h => by
    unfold s_fg sp_unlearn
    rw [s_clr_f (by decide) (by decide)]
    show va_up ((s_fg S k).1 10) k 0 j = _
    rw [va_up_ne _ _ (by omega)]
    exact s_fg_10 S k j (by omega)
def o_forget (S : rS) : Int32 × rS := (nI (s_fc S (tn (S.1 4 0))), s_fg S (tn (S.1 4 0)))
set_option maxHeartbeats 4000000 in
set_option maxRecDepth 100000 in
theorem c6_forget (l : Launch) (V : gV) (ad : gA) (S : rS) (nc nm : Nat) (hI : rI S nc nm) : rMi l yX6_forget cX6_forget 3 (some .int) ({ frames := 2, cells := 0, slots := 0, locals := 43 } : Room) [] V ad S (fun r S' => r = (o_forget (su S 0 (fun _ => 0))).1 ∧ S' = (o_forget (su S 0 (fun _ => 0))).2) := by
  refine rMi.of (by decide) (Nat.le_of_ble_eq_true rfl) ?_
  intro p e s m_ below meth c ls E sz hC hz hR hl
  have hx := hC.1
  have hb := hC.2.1
  have hl : lv_has ls 3 [(0, .ref (ad 50 0 0))] := hl
  have h4 := hI.2.2.1
  have hnm := hI.2.2.2.1
  refine lv_aload_n hx hb dX6_forget_0 rfl (lv_at hl 0 rfl) ?_
  refine lv_iconst (v := 0) hx hb dX6_forget_1 (by decide) ?_
  refine rp_0 hC hR dX6_forget_2 (fun H locs hR => ?_)
  refine lv_iconst (v := (nI 0)) hx hb dX6_forget_5 (by decide) ?_
  refine lv_istore_n (lv' := [(1, .int ((nI 0))), (0, .ref (ad 50 0 0))]) hx hb dX6_forget_6 rfl hl (by decide) rfl (fun ls hl => ?_)
  refine lv_iconst (v := (nI 0)) hx hb dX6_forget_7 (by decide) ?_
  refine lv_istore_n (lv' := [(2, .int ((nI 0))), (1, .int ((nI 0))), (0, .ref (ad 50 0 0))]) hx hb dX6_forget_8 rfl hl (by decide) rfl (fun ls hl => ?_)
  refine g_loop (T := Nat) (fun xx H locs ls => xx ≤ nm ∧ rfW V (gAd ad E sz) s.heap ad E (s_fg (su S 0 (fun _ => 0)) xx) H locs ∧ lv_has ls 3 [(2, .int (nI xx)), (1, .int (nI (s_fc (su S 0 (fun _ => 0)) xx))), (0, .ref (ad 50 0 0))]) (fun xx => nm - xx) (fun xx ih H locs ls hI => ?_) (0) ⟨by omega, hR, lv_sub hl [0, 1, 2] rfl⟩
  obtain ⟨hxm, hR, hl⟩ := hI
  refine lv_iload_n hx hb dX6_forget_9 rfl (lv_at hl 0 rfl) ?_
  refine lv_aload_n hx hb dX6_forget_10 rfl (lv_at hl 2 rfl) ?_
  refine rg_4 hC hR dX6_forget_11 ?_
  refine gq_top (nI nm) (by rw [s_fg_f (by decide) (by decide) (by decide) (by decide) (by decide)]; exact h4) ?_
  refine gn_icmp_ge (tgt := 45) hx hb (by omega) (by omega) dX6_forget_14 (by decide) (fun c_14 => ?_) (fun c_14 => ?_)
  · refine lv_iload_n hx hb dX6_forget_45 rfl (lv_at hl 1 rfl) ?_
    exact rr_iret hC hz hR (by unfold o_forget; rw [show tn (((su S 0 (fun _ => 0))).1 4 0) = nm by show tn (S.1 4 0) = nm; rw [h4]; exact tn_nI (by omega), show xx = nm by omega]; exact ⟨rfl, rfl⟩) (by decide) (by decide) dX6_forget_46
  · refine lv_iload_n hx hb dX6_forget_17 rfl (lv_at hl 1 rfl) ?_
    refine lv_aload_n hx hb dX6_forget_18 rfl (lv_at hl 2 rfl) ?_
    refine rg_10 hC hR dX6_forget_19 ?_
    refine lv_iload_n hx hb dX6_forget_22 rfl (lv_at hl 0 rfl) ?_
    refine ra_10 hC hR (by omega) dX6_forget_23 ?_
    refine gq_top (S.1 10 xx) (s_fg_10 _ xx xx (Nat.le_refl _)) ?_
    refine lv_if_le (tgt := 31) hx hb dX6_forget_24 (by decide) (fun c_24 => ?_) (fun c_24 => ?_)
    · refine lv_iconst (v := (nI 0)) hx hb dX6_forget_31 (by decide) ?_
      refine lv_iadd hx hb dX6_forget_32 ?_
      refine gq_top (nI (s_fc (su S 0 (fun _ => 0)) (xx + 1))) (by rw [nI_add]; first | (rw [show s_fc (su S 0 (fun _ => 0)) (xx + 1) = s_fc (su S 0 (fun _ => 0)) xx + 1 from if_pos (Int32.not_le.mp c_24)]) | (rw [show s_fc (su S 0 (fun _ => 0)) (xx + 1) = s_fc (su S 0 (fun _ => 0)) xx from if_neg (Int32.not_lt.mpr c_24)]; rfl)) ?_
      refine lv_istore_n (lv' := [(1, .int (nI (s_fc (su S 0 (fun _ => 0)) (xx + 1)))), (2, .int (nI xx)), (0, .ref (ad 50 0 0))]) hx hb dX6_forget_33 rfl hl (by decide) rfl (fun ls hl => ?_)
      refine lv_aload_n hx hb dX6_forget_34 rfl (lv_at hl 2 rfl) ?_
      refine lv_iload_n hx hb dX6_forget_35 rfl (lv_at hl 1 rfl) ?_
      refine rr_callv hC hR (c6_unlearn l V ad _ xx (by omega)) km_RX6_110 kn_yX6_unlearn ks_yX6_unlearn kz_RX6 kd_yX6_unlearn dn_X6_unlearn rfl hl.1 ⟨by decide, by decide⟩ (Nat.le_of_ble_eq_true rfl) ⟨by decide, by decide⟩ dX6_forget_36 (fun S_36 H locs p_36 hR => ?_)
      subst p_36
      refine lv_iinc (v := (nI (xx + 1))) (lv' := [(2, .int ((nI (xx + 1)))), (1, .int (nI (s_fc (su S 0 (fun _ => 0)) (xx + 1)))), (0, .ref (ad 50 0 0))]) hx hb dX6_forget_39 hl (k := 1) rfl (nI_1 xx) (by decide) rfl (fun ls hl => ?_)
      refine lv_goto (tgt := 9) hx hb dX6_forget_42 (by decide) ?_
      exact ih (xx + 1) (by omega) _ _ _ ⟨by omega, hR, lv_sub hl [0, 1, 2] rfl⟩
    · refine lv_iconst (v := (nI 1)) hx hb dX6_forget_27 (by decide) ?_
      refine lv_goto (tgt := 32) hx hb dX6_forget_28 (by decide) ?_
      refine lv_iadd hx hb dX6_forget_32 ?_
      refine gq_top (nI (s_fc (su S 0 (fun _ => 0)) (xx + 1))) (by rw [nI_add]; first | (rw [show s_fc (su S 0 (fun _ => 0)) (xx + 1) = s_fc (su S 0 (fun _ => 0)) xx + 1 from if_pos (Int32.not_le.mp c_24)]) | (rw [show s_fc (su S 0 (fun _ => 0)) (xx + 1) = s_fc (su S 0 (fun _ => 0)) xx from if_neg (Int32.not_lt.mpr c_24)]; rfl)) ?_
      refine lv_istore_n (lv' := [(1, .int (nI (s_fc (su S 0 (fun _ => 0)) (xx + 1)))), (2, .int (nI xx)), (0, .ref (ad 50 0 0))]) hx hb dX6_forget_33 rfl hl (by decide) rfl (fun ls hl => ?_)
      refine lv_aload_n hx hb dX6_forget_34 rfl (lv_at hl 2 rfl) ?_
      refine lv_iload_n hx hb dX6_forget_35 rfl (lv_at hl 1 rfl) ?_
      refine rr_callv hC hR (c6_unlearn l V ad _ xx (by omega)) km_RX6_110 kn_yX6_unlearn ks_yX6_unlearn kz_RX6 kd_yX6_unlearn dn_X6_unlearn rfl hl.1 ⟨by decide, by decide⟩ (Nat.le_of_ble_eq_true rfl) ⟨by decide, by decide⟩ dX6_forget_36 (fun S_36 H locs p_36 hR => ?_)
      subst p_36
      refine lv_iinc (v := (nI (xx + 1))) (lv' := [(2, .int ((nI (xx + 1)))), (1, .int (nI (s_fc (su S 0 (fun _ => 0)) (xx + 1)))), (0, .ref (ad 50 0 0))]) hx hb dX6_forget_39 hl (k := 1) rfl (nI_1 xx) (by decide) rfl (fun ls hl => ?_)
      refine lv_goto (tgt := 9) hx hb dX6_forget_42 (by decide) ?_
      exact ih (xx + 1) (by omega) _ _ _ ⟨by omega, hR, lv_sub hl [0, 1, 2] rfl⟩
def o_result (S : rS) : Int32 := if S.1 23 0 = -1 then S.1 24 0 else 0
set_option maxHeartbeats 4000000 in
set_option maxRecDepth 100000 in
theorem c6_result (l : Launch) (V : gV) (ad : gA) (S : rS)  : rMi l yX6_result cX6_result 1 (some .int) ({ frames := 0, cells := 0, slots := 0, locals := 0 } : Room) [] V ad S (fun r S' => r = o_result (su S 0 (fun _ => 0)) ∧ S' = (su S 0 (fun _ => 0))) := by
  refine rMi.of (by decide) (Nat.le_of_ble_eq_true rfl) ?_
  intro p e s m_ below meth c ls E sz hC hz hR hl
  have hx := hC.1
  have hb := hC.2.1
  have hl : lv_has ls 1 [(0, .ref (ad 50 0 0))] := hl
  refine lv_aload_n hx hb dX6_result_0 rfl (lv_at hl 0 rfl) ?_
  refine lv_iconst (v := 0) hx hb dX6_result_1 (by decide) ?_
  refine rp_0 hC hR dX6_result_2 (fun H locs hR => ?_)
  refine lv_aload_n hx hb dX6_result_5 rfl (lv_at hl 0 rfl) ?_
  refine rg_23 hC hR dX6_result_6 ?_
  refine lv_iconst (v := (-1)) hx hb dX6_result_9 (by decide) ?_
  refine lv_icmp_ne (tgt := 20) hx hb dX6_result_10 (by decide) (fun c_10 => ?_) (fun c_10 => ?_)
  · refine lv_iconst (v := 0) hx hb dX6_result_20 (by decide) ?_
    exact rr_iret hC hz hR (⟨by first | exact (if_pos c_10).symm | exact (if_neg c_10).symm, rfl⟩) (by decide) (by decide) dX6_result_21
  · refine lv_aload_n hx hb dX6_result_13 rfl (lv_at hl 0 rfl) ?_
    refine rg_24 hC hR dX6_result_14 ?_
    refine lv_goto (tgt := 21) hx hb dX6_result_17 (by decide) ?_
    exact rr_iret hC hz hR (⟨by first | exact (if_pos c_10).symm | exact (if_neg c_10).symm, rfl⟩) (by decide) (by decide) dX6_result_21
set_option maxHeartbeats 4000000 in
set_option maxRecDepth 100000 in
theorem c6_resultClass (l : Launch) (V : gV) (ad : gA) (S : rS)  : rMi l yX6_resultClass cX6_resultClass 1 (some .int) ({ frames := 0, cells := 0, slots := 0, locals := 0 } : Room) [] V ad S (fun r S' => r = S.1 23 0 ∧ S' = (su S 0 (fun _ => 0))) := by
  refine rMi.of (by decide) (Nat.le_of_ble_eq_true rfl) ?_
  intro p e s m_ below meth c ls E sz hC hz hR hl
  have hx := hC.1
  have hb := hC.2.1
  have hl : lv_has ls 1 [(0, .ref (ad 50 0 0))] := hl
  refine lv_aload_n hx hb dX6_resultClass_0 rfl (lv_at hl 0 rfl) ?_
  refine lv_iconst (v := 0) hx hb dX6_resultClass_1 (by decide) ?_
  refine rp_0 hC hR dX6_resultClass_2 (fun H locs hR => ?_)
  refine lv_aload_n hx hb dX6_resultClass_5 rfl (lv_at hl 0 rfl) ?_
  refine rg_23 hC hR dX6_resultClass_6 ?_
  exact rr_iret hC hz hR (⟨rfl, rfl⟩) (by decide) (by decide) dX6_resultClass_9
set_option maxHeartbeats 4000000 in
set_option maxRecDepth 100000 in
theorem c6_error (l : Launch) (V : gV) (ad : gA) (S : rS)  : rMi l yX6_error cX6_error 1 (some .int) ({ frames := 0, cells := 0, slots := 0, locals := 0 } : Room) [] V ad S (fun r S' => r = S.1 25 0 ∧ S' = (su S 0 (fun _ => 0))) := by
  refine rMi.of (by decide) (Nat.le_of_ble_eq_true rfl) ?_
  intro p e s m_ below meth c ls E sz hC hz hR hl
  have hx := hC.1
  have hb := hC.2.1
  have hl : lv_has ls 1 [(0, .ref (ad 50 0 0))] := hl
  refine lv_aload_n hx hb dX6_error_0 rfl (lv_at hl 0 rfl) ?_
  refine lv_iconst (v := 0) hx hb dX6_error_1 (by decide) ?_
  refine rp_0 hC hR dX6_error_2 (fun H locs hR => ?_)
  refine lv_aload_n hx hb dX6_error_5 rfl (lv_at hl 0 rfl) ?_
  refine rg_25 hC hR dX6_error_6 ?_
  exact rr_iret hC hz hR (⟨rfl, rfl⟩) (by decide) (by decide) dX6_error_9
set_option maxHeartbeats 4000000 in
set_option maxRecDepth 100000 in
theorem c6_steps (l : Launch) (V : gV) (ad : gA) (S : rS)  : rMi l yX6_steps cX6_steps 1 (some .int) ({ frames := 0, cells := 0, slots := 0, locals := 0 } : Room) [] V ad S (fun r S' => r = S.1 27 0 ∧ S' = (su S 0 (fun _ => 0))) := by
  refine rMi.of (by decide) (Nat.le_of_ble_eq_true rfl) ?_
  intro p e s m_ below meth c ls E sz hC hz hR hl
  have hx := hC.1
  have hb := hC.2.1
  have hl : lv_has ls 1 [(0, .ref (ad 50 0 0))] := hl
  refine lv_aload_n hx hb dX6_steps_0 rfl (lv_at hl 0 rfl) ?_
  refine lv_iconst (v := 0) hx hb dX6_steps_1 (by decide) ?_
  refine rp_0 hC hR dX6_steps_2 (fun H locs hR => ?_)
  refine lv_aload_n hx hb dX6_steps_5 rfl (lv_at hl 0 rfl) ?_
  refine rg_27 hC hR dX6_steps_6 ?_
  exact rr_iret hC hz hR (⟨rfl, rfl⟩) (by decide) (by decide) dX6_steps_9
set_option maxHeartbeats 4000000 in
set_option maxRecDepth 100000 in
theorem c6_depth (l : Launch) (V : gV) (ad : gA) (S : rS)  : rMi l yX6_depth cX6_depth 1 (some .int) ({ frames := 0, cells := 0, slots := 0, locals := 0 } : Room) [] V ad S (fun r S' => r = S.1 28 0 ∧ S' = (su S 0 (fun _ => 0))) := by
  refine rMi.of (by decide) (Nat.le_of_ble_eq_true rfl) ?_
  intro p e s m_ below meth c ls E sz hC hz hR hl
  have hx := hC.1
  have hb := hC.2.1
  have hl : lv_has ls 1 [(0, .ref (ad 50 0 0))] := hl
  refine lv_aload_n hx hb dX6_depth_0 rfl (lv_at hl 0 rfl) ?_
  refine lv_iconst (v := 0) hx hb dX6_depth_1 (by decide) ?_
  refine rp_0 hC hR dX6_depth_2 (fun H locs hR => ?_)
  refine lv_aload_n hx hb dX6_depth_5 rfl (lv_at hl 0 rfl) ?_
  refine rg_28 hC hR dX6_depth_6 ?_
  exact rr_iret hC hz hR (⟨rfl, rfl⟩) (by decide) (by decide) dX6_depth_9
set_option maxHeartbeats 4000000 in
set_option maxRecDepth 100000 in
theorem c6_cost (l : Launch) (V : gV) (ad : gA) (S : rS)  : rMl l yX6_cost cX6_cost 1 (some .long) ({ frames := 0, cells := 0, slots := 0, locals := 0 } : Room) [] V ad S (fun r S' => r = S.2 26 0 ∧ S' = (su S 0 (fun _ => 0))) := by
  refine rMl.of (by decide) (Nat.le_of_ble_eq_true rfl) ?_
  intro p e s m_ below meth c ls E sz hC hz hR hl
  have hx := hC.1
  have hb := hC.2.1
  have hl : lv_has ls 1 [(0, .ref (ad 50 0 0))] := hl
  refine lv_aload_n hx hb dX6_cost_0 rfl (lv_at hl 0 rfl) ?_
  refine lv_iconst (v := 0) hx hb dX6_cost_1 (by decide) ?_
  refine rp_0 hC hR dX6_cost_2 (fun H locs hR => ?_)
  refine lv_aload_n hx hb dX6_cost_5 rfl (lv_at hl 0 rfl) ?_
  refine rg_26 hC hR dX6_cost_6 ?_
  exact rr_lret hC hz hR (⟨rfl, rfl⟩) (by decide) (by decide) dX6_cost_9
def o_total (S : rS) (x : Int32) : Int64 × rS := if ¬ x < 0 ∧ x ≤ 3 then (S.2 16 (tn x), S) else (0, su S 0 (fun _ => 1))
set_option maxHeartbeats 4000000 in
set_option maxRecDepth 100000 in
theorem c6_total (l : Launch) (V : gV) (ad : gA) (S : rS) (x : Int32) : rMl l yX6_total cX6_total 2 (some .long) ({ frames := 1, cells := 0, slots := 0, locals := 21 } : Room) [.int x] V ad S (fun r S' => r = (o_total (su S 0 (fun _ => 0)) x).1 ∧ S' = (o_total (su S 0 (fun _ => 0)) x).2) := by
  refine rMl.of (by decide) (Nat.le_of_ble_eq_true rfl) ?_
  intro p e s m_ below meth c ls E sz hC hz hR hl
  have hx := hC.1
  have hb := hC.2.1
  have hl : lv_has ls 2 [(0, .ref (ad 50 0 0)), (1, .int x)] := hl
  refine lv_aload_n hx hb dX6_total_0 rfl (lv_at hl 0 rfl) ?_
  refine lv_iconst (v := 0) hx hb dX6_total_1 (by decide) ?_
  refine rp_0 hC hR dX6_total_2 (fun H locs hR => ?_)
  refine lv_iload_n hx hb dX6_total_5 rfl (lv_at hl 1 rfl) ?_
  refine lv_if_lt (tgt := 23) hx hb dX6_total_6 (by decide) (fun c_6 => ?_) (fun c_6 => ?_)
  · refine lv_aload_n hx hb dX6_total_23 rfl (lv_at hl 0 rfl) ?_
    refine lv_iconst (v := 1) hx hb dX6_total_24 (by decide) ?_
    refine rr_calli hC hR (c6_fail l V ad _ 1) km_RX6_86 kn_yX6_fail ks_yX6_fail kz_RX6 kd_yX6_fail dn_X6_fail rfl hl.1 ⟨by decide, by decide⟩ (Nat.le_of_ble_eq_true rfl) ⟨by decide, by decide⟩ dX6_total_25 (fun r_25 S_25 H locs p_25 hR => ?_)
    obtain ⟨q_25, p_25⟩ := p_25
    subst p_25
    rw [q_25]
    refine lv_i2l hx hb dX6_total_28 rfl ?_
    exact rr_lret hC hz hR (by rw [show o_total (su S 0 (fun _ => 0)) x = _ from if_neg (fun w => w.1 c_6)]; exact ⟨rfl, rfl⟩) (by decide) (by decide) dX6_total_29
  · refine lv_iload_n hx hb dX6_total_9 rfl (lv_at hl 1 rfl) ?_
    refine lv_iconst (v := 3) hx hb dX6_total_10 (by decide) ?_
    refine lv_icmp_gt (tgt := 23) hx hb dX6_total_11 (by decide) (fun c_11 => ?_) (fun c_11 => ?_)
    · refine lv_aload_n hx hb dX6_total_23 rfl (lv_at hl 0 rfl) ?_
      refine lv_iconst (v := 1) hx hb dX6_total_24 (by decide) ?_
      refine rr_calli hC hR (c6_fail l V ad _ 1) km_RX6_86 kn_yX6_fail ks_yX6_fail kz_RX6 kd_yX6_fail dn_X6_fail rfl hl.1 ⟨by decide, by decide⟩ (Nat.le_of_ble_eq_true rfl) ⟨by decide, by decide⟩ dX6_total_25 (fun r_25 S_25 H locs p_25 hR => ?_)
      obtain ⟨q_25, p_25⟩ := p_25
      subst p_25
      rw [q_25]
      refine lv_i2l hx hb dX6_total_28 rfl ?_
      exact rr_lret hC hz hR (by rw [show o_total (su S 0 (fun _ => 0)) x = _ from if_neg (fun w => Int32.not_le.mpr c_11 w.2)]; exact ⟨rfl, rfl⟩) (by decide) (by decide) dX6_total_29
    · obtain ⟨t, ht31, ex⟩ := nI_of c_6
      have ht : t ≤ 3 := by have h := Int32.not_lt.mp c_11; rw [ex, nl3] at h; exact (nI_leI ht31 (by decide)).mp h
      have tx : tn x = t := by rw [ex]; exact tn_nI ht31
      refine lv_aload_n hx hb dX6_total_14 rfl (lv_at hl 0 rfl) ?_
      refine rg_16 hC hR dX6_total_15 ?_
      refine lv_iload_n hx hb dX6_total_18 rfl (lv_at hl 1 rfl) ?_
      refine gq_top (nI t) (ex) ?_
      refine ra_16 hC hR (by omega) dX6_total_19 ?_
      refine lv_goto (tgt := 29) hx hb dX6_total_20 (by decide) ?_
      exact rr_lret hC hz hR (by rw [show o_total (su S 0 (fun _ => 0)) x = _ from if_pos ⟨c_6, Int32.not_lt.mp c_11⟩, tx]; exact ⟨rfl, rfl⟩) (by decide) (by decide) dX6_total_29
def o_at (S : rS) (f : Nat) (x : Int32) : Int32 × rS := if s_isM S x then (S.1 f (tn x), S) else (0, su S 0 (fun _ => 1))
set_option maxHeartbeats 4000000 in
set_option maxRecDepth 100000 in
theorem c6_tier (l : Launch) (V : gV) (ad : gA) (S : rS) (nc nm : Nat) (hI : rI S nc nm) (x : Int32) : rMi l yX6_tier cX6_tier 2 (some .int) ({ frames := 1, cells := 0, slots := 0, locals := 21 } : Room) [.int x] V ad S (fun r S' => r = (o_at (su S 0 (fun _ => 0)) 10 x).1 ∧ S' = (o_at (su S 0 (fun _ => 0)) 10 x).2) := by
  refine rMi.of (by decide) (Nat.le_of_ble_eq_true rfl) ?_
  intro p e s m_ below meth c ls E sz hC hz hR hl
  have hx := hC.1
  have hb := hC.2.1
  have hl : lv_has ls 2 [(0, .ref (ad 50 0 0)), (1, .int x)] := hl
  have h4 := hI.2.2.1
  have hnm := hI.2.2.2.1
  refine lv_aload_n hx hb dX6_tier_0 rfl (lv_at hl 0 rfl) ?_
  refine lv_iconst (v := 0) hx hb dX6_tier_1 (by decide) ?_
  refine rp_0 hC hR dX6_tier_2 (fun H locs hR => ?_)
  refine lv_aload_n hx hb dX6_tier_5 rfl (lv_at hl 0 rfl) ?_
  refine lv_iload_n hx hb dX6_tier_6 rfl (lv_at hl 1 rfl) ?_
  refine rr_calli hC hR (c6_isMethod l V ad _ x) km_RX6_103 kn_yX6_isMethod ks_yX6_isMethod kz_RX6 kd_yX6_isMethod dn_X6_isMethod rfl hl.1 ⟨by decide, by decide⟩ (Nat.le_of_ble_eq_true rfl) ⟨by decide, by decide⟩ dX6_tier_7 (fun r_7 S_7 H locs p_7 hR => ?_)
  obtain ⟨q_7, p_7⟩ := p_7
  rw [p_7] at hR
  refine gq_top (rb (s_isM S x)) q_7 ?_
  refine lv_if_eq (tgt := 22) hx hb dX6_tier_10 (by decide) (fun c_10 => ?_) (fun c_10 => ?_)
  · refine lv_aload_n hx hb dX6_tier_22 rfl (lv_at hl 0 rfl) ?_
    refine lv_iconst (v := 1) hx hb dX6_tier_23 (by decide) ?_
    refine rr_calli hC hR (c6_fail l V ad _ 1) km_RX6_86 kn_yX6_fail ks_yX6_fail kz_RX6 kd_yX6_fail dn_X6_fail rfl hl.1 ⟨by decide, by decide⟩ (Nat.le_of_ble_eq_true rfl) ⟨by decide, by decide⟩ dX6_tier_24 (fun r_24 S_24 H locs p_24 hR => ?_)
    obtain ⟨q_24, p_24⟩ := p_24
    subst p_24
    rw [q_24]
    exact rr_iret hC hz hR (by first | (rw [show o_at (su S 0 (fun _ => 0)) 10 x = _ from if_neg (rb_n c_10)]; exact ⟨rfl, rfl⟩) | (rw [show o_at (su S 0 (fun _ => 0)) 10 x = _ from if_pos (rb_t c_10), tx]; exact ⟨rfl, rfl⟩)) (by decide) (by decide) dX6_tier_27
  · obtain ⟨m, hm31, ex⟩ := nI_of (rb_t c_10).1
    have hmn : m < nm := by have h := (rb_t c_10).2; rw [ex, h4] at h; exact (nI_ltI hm31 (by omega)).mp h
    have tx : tn x = m := by rw [ex]; exact tn_nI hm31
    refine lv_aload_n hx hb dX6_tier_13 rfl (lv_at hl 0 rfl) ?_
    refine rg_10 hC hR dX6_tier_14 ?_
    refine lv_iload_n hx hb dX6_tier_17 rfl (lv_at hl 1 rfl) ?_
    refine gq_top (nI m) (ex) ?_
    refine ra_10 hC hR (by omega) dX6_tier_18 ?_
    refine lv_goto (tgt := 27) hx hb dX6_tier_19 (by decide) ?_
    exact rr_iret hC hz hR (by first | (rw [show o_at (su S 0 (fun _ => 0)) 10 x = _ from if_neg (rb_n c_10)]; exact ⟨rfl, rfl⟩) | (rw [show o_at (su S 0 (fun _ => 0)) 10 x = _ from if_pos (rb_t c_10), tx]; exact ⟨rfl, rfl⟩)) (by decide) (by decide) dX6_tier_27
set_option maxHeartbeats 4000000 in
set_option maxRecDepth 100000 in
theorem c6_heat (l : Launch) (V : gV) (ad : gA) (S : rS) (nc nm : Nat) (hI : rI S nc nm) (x : Int32) : rMi l yX6_heat cX6_heat 2 (some .int) ({ frames := 1, cells := 0, slots := 0, locals := 21 } : Room) [.int x] V ad S (fun r S' => r = (o_at (su S 0 (fun _ => 0)) 11 x).1 ∧ S' = (o_at (su S 0 (fun _ => 0)) 11 x).2) := by
  refine rMi.of (by decide) (Nat.le_of_ble_eq_true rfl) ?_
  intro p e s m_ below meth c ls E sz hC hz hR hl
  have hx := hC.1
  have hb := hC.2.1
  have hl : lv_has ls 2 [(0, .ref (ad 50 0 0)), (1, .int x)] := hl
  have h4 := hI.2.2.1
  have hnm := hI.2.2.2.1
  refine lv_aload_n hx hb dX6_heat_0 rfl (lv_at hl 0 rfl) ?_
  refine lv_iconst (v := 0) hx hb dX6_heat_1 (by decide) ?_
  refine rp_0 hC hR dX6_heat_2 (fun H locs hR => ?_)
  refine lv_aload_n hx hb dX6_heat_5 rfl (lv_at hl 0 rfl) ?_
  refine lv_iload_n hx hb dX6_heat_6 rfl (lv_at hl 1 rfl) ?_
  refine rr_calli hC hR (c6_isMethod l V ad _ x) km_RX6_103 kn_yX6_isMethod ks_yX6_isMethod kz_RX6 kd_yX6_isMethod dn_X6_isMethod rfl hl.1 ⟨by decide, by decide⟩ (Nat.le_of_ble_eq_true rfl) ⟨by decide, by decide⟩ dX6_heat_7 (fun r_7 S_7 H locs p_7 hR => ?_)
  obtain ⟨q_7, p_7⟩ := p_7
  rw [p_7] at hR
  refine gq_top (rb (s_isM S x)) q_7 ?_
  refine lv_if_eq (tgt := 22) hx hb dX6_heat_10 (by decide) (fun c_10 => ?_) (fun c_10 => ?_)
  · refine lv_aload_n hx hb dX6_heat_22 rfl (lv_at hl 0 rfl) ?_
    refine lv_iconst (v := 1) hx hb dX6_heat_23 (by decide) ?_
    refine rr_calli hC hR (c6_fail l V ad _ 1) km_RX6_86 kn_yX6_fail ks_yX6_fail kz_RX6 kd_yX6_fail dn_X6_fail rfl hl.1 ⟨by decide, by decide⟩ (Nat.le_of_ble_eq_true rfl) ⟨by decide, by decide⟩ dX6_heat_24 (fun r_24 S_24 H locs p_24 hR => ?_)
    obtain ⟨q_24, p_24⟩ := p_24
    subst p_24
    rw [q_24]
    exact rr_iret hC hz hR (by first | (rw [show o_at (su S 0 (fun _ => 0)) 11 x = _ from if_neg (rb_n c_10)]; exact ⟨rfl, rfl⟩) | (rw [show o_at (su S 0 (fun _ => 0)) 11 x = _ from if_pos (rb_t c_10), tx]; exact ⟨rfl, rfl⟩)) (by decide) (by decide) dX6_heat_27
  · obtain ⟨m, hm31, ex⟩ := nI_of (rb_t c_10).1
    have hmn : m < nm := by have h := (rb_t c_10).2; rw [ex, h4] at h; exact (nI_ltI hm31 (by omega)).mp h
    have tx : tn x = m := by rw [ex]; exact tn_nI hm31
    refine lv_aload_n hx hb dX6_heat_13 rfl (lv_at hl 0 rfl) ?_
    refine rg_11 hC hR dX6_heat_14 ?_
    refine lv_iload_n hx hb dX6_heat_17 rfl (lv_at hl 1 rfl) ?_
    refine gq_top (nI m) (ex) ?_
    refine ra_11 hC hR (by omega) dX6_heat_18 ?_
    refine lv_goto (tgt := 27) hx hb dX6_heat_19 (by decide) ?_
    exact rr_iret hC hz hR (by first | (rw [show o_at (su S 0 (fun _ => 0)) 11 x = _ from if_neg (rb_n c_10)]; exact ⟨rfl, rfl⟩) | (rw [show o_at (su S 0 (fun _ => 0)) 11 x = _ from if_pos (rb_t c_10), tx]; exact ⟨rfl, rfl⟩)) (by decide) (by decide) dX6_heat_27
set_option maxHeartbeats 4000000 in
set_option maxRecDepth 100000 in
theorem c6_disappointments (l : Launch) (V : gV) (ad : gA) (S : rS) (nc nm : Nat) (hI : rI S nc nm) (x : Int32) : rMi l yX6_disappointments cX6_disappointments 2 (some .int) ({ frames := 1, cells := 0, slots := 0, locals := 21 } : Room) [.int x] V ad S (fun r S' => r = (o_at (su S 0 (fun _ => 0)) 12 x).1 ∧ S' = (o_at (su S 0 (fun _ => 0)) 12 x).2) := by
  refine rMi.of (by decide) (Nat.le_of_ble_eq_true rfl) ?_
  intro p e s m_ below meth c ls E sz hC hz hR hl
  have hx := hC.1
  have hb := hC.2.1
  have hl : lv_has ls 2 [(0, .ref (ad 50 0 0)), (1, .int x)] := hl
  have h4 := hI.2.2.1
  have hnm := hI.2.2.2.1
  refine lv_aload_n hx hb dX6_disappointments_0 rfl (lv_at hl 0 rfl) ?_
  refine lv_iconst (v := 0) hx hb dX6_disappointments_1 (by decide) ?_
  refine rp_0 hC hR dX6_disappointments_2 (fun H locs hR => ?_)
  refine lv_aload_n hx hb dX6_disappointments_5 rfl (lv_at hl 0 rfl) ?_
  refine lv_iload_n hx hb dX6_disappointments_6 rfl (lv_at hl 1 rfl) ?_
  refine rr_calli hC hR (c6_isMethod l V ad _ x) km_RX6_103 kn_yX6_isMethod ks_yX6_isMethod kz_RX6 kd_yX6_isMethod dn_X6_isMethod rfl hl.1 ⟨by decide, by decide⟩ (Nat.le_of_ble_eq_true rfl) ⟨by decide, by decide⟩ dX6_disappointments_7 (fun r_7 S_7 H locs p_7 hR => ?_)
  obtain ⟨q_7, p_7⟩ := p_7
  rw [p_7] at hR
  refine gq_top (rb (s_isM S x)) q_7 ?_
  refine lv_if_eq (tgt := 22) hx hb dX6_disappointments_10 (by decide) (fun c_10 => ?_) (fun c_10 => ?_)
  · refine lv_aload_n hx hb dX6_disappointments_22 rfl (lv_at hl 0 rfl) ?_
    refine lv_iconst (v := 1) hx hb dX6_disappointments_23 (by decide) ?_
    refine rr_calli hC hR (c6_fail l V ad _ 1) km_RX6_86 kn_yX6_fail ks_yX6_fail kz_RX6 kd_yX6_fail dn_X6_fail rfl hl.1 ⟨by decide, by decide⟩ (Nat.le_of_ble_eq_true rfl) ⟨by decide, by decide⟩ dX6_disappointments_24 (fun r_24 S_24 H locs p_24 hR => ?_)
    obtain ⟨q_24, p_24⟩ := p_24
    subst p_24
    rw [q_24]
    exact rr_iret hC hz hR (by first | (rw [show o_at (su S 0 (fun _ => 0)) 12 x = _ from if_neg (rb_n c_10)]; exact ⟨rfl, rfl⟩) | (rw [show o_at (su S 0 (fun _ => 0)) 12 x = _ from if_pos (rb_t c_10), tx]; exact ⟨rfl, rfl⟩)) (by decide) (by decide) dX6_disappointments_27
  · obtain ⟨m, hm31, ex⟩ := nI_of (rb_t c_10).1
    have hmn : m < nm := by have h := (rb_t c_10).2; rw [ex, h4] at h; exact (nI_ltI hm31 (by omega)).mp h
    have tx : tn x = m := by rw [ex]; exact tn_nI hm31
    refine lv_aload_n hx hb dX6_disappointments_13 rfl (lv_at hl 0 rfl) ?_
    refine rg_12 hC hR dX6_disappointments_14 ?_
    refine lv_iload_n hx hb dX6_disappointments_17 rfl (lv_at hl 1 rfl) ?_
    refine gq_top (nI m) (ex) ?_
    refine ra_12 hC hR (by omega) dX6_disappointments_18 ?_
    refine lv_goto (tgt := 27) hx hb dX6_disappointments_19 (by decide) ?_
    exact rr_iret hC hz hR (by first | (rw [show o_at (su S 0 (fun _ => 0)) 12 x = _ from if_neg (rb_n c_10)]; exact ⟨rfl, rfl⟩) | (rw [show o_at (su S 0 (fun _ => 0)) 12 x = _ from if_pos (rb_t c_10), tx]; exact ⟨rfl, rfl⟩)) (by decide) (by decide) dX6_disappointments_27
abbrev s_isS (S : rS) (x y : Int32) : Prop := s_isM S x ∧ ¬ y < 0 ∧ y < S.1 5 (tn x) ∧ S.1 6 (5 * (20 * tn x + tn y)) = 5
def s_mat (S : rS) (m q : Nat) : Int32 := if S.1 15 (20 * m + q) = 0 then S.1 13 (20 * m + q) else 4
def o_met (S : rS) (x y : Int32) : Int32 × rS := if s_isS S x y then (s_mat S (tn x) (tn y), S) else (0, su S 0 (fun _ => 1))
def o_metClass (S : rS) (x y z : Int32) : Int32 × rS := if s_isS S x y ∧ ¬ z < 0 ∧ z < S.1 13 (20 * tn x + tn y) then (S.1 14 (3 * (20 * tn x + tn y) + tn z), S) else (0, su S 0 (fun _ => 1))
set_option maxHeartbeats 4000000 in
set_option maxRecDepth 100000 in
theorem c6_isSend (l : Launch) (V : gV) (ad : gA) (S : rS) (nc nm : Nat) (hI : rI S nc nm) (x y : Int32) : rMi l yX6_isSend cX6_isSend 3 (some .boolean) ({ frames := 1, cells := 0, slots := 0, locals := 22 } : Room) [.int x, .int y] V ad S (fun r S' => r = rb (s_isS S x y) ∧ S' = S) := by
  refine rMi.of (by decide) (Nat.le_of_ble_eq_true rfl) ?_
  intro p e s m_ below meth c ls E sz hC hz hR hl
  have hx := hC.1
  have hb := hC.2.1
  have hl : lv_has ls 3 [(0, .ref (ad 50 0 0)), (1, .int x), (2, .int y)] := hl
  have h4 := hI.2.2.1
  have hnm := hI.2.2.2.1
  refine lv_aload_n hx hb dX6_isSend_0 rfl (lv_at hl 0 rfl) ?_
  refine lv_iload_n hx hb dX6_isSend_1 rfl (lv_at hl 1 rfl) ?_
  refine rr_calli hC hR (c6_isMethod l V ad _ x) km_RX6_103 kn_yX6_isMethod ks_yX6_isMethod kz_RX6 kd_yX6_isMethod dn_X6_isMethod rfl hl.1 ⟨by decide, by decide⟩ (Nat.le_of_ble_eq_true rfl) ⟨by decide, by decide⟩ dX6_isSend_2 (fun r_2 S_2 H locs p_2 hR => ?_)
  obtain ⟨q_2, p_2⟩ := p_2
  rw [p_2] at hR
  refine gq_top (rb (s_isM S x)) q_2 ?_
  refine lv_if_eq (tgt := 36) hx hb dX6_isSend_5 (by decide) (fun c_5 => ?_) (fun c_5 => ?_)
  · refine lv_iconst (v := 0) hx hb dX6_isSend_36 (by decide) ?_
    exact rr_zret hC hz hR (by decide) (⟨(rb_0 (fun w => rb_n c_5 w.1)).symm, rfl⟩) (by decide) (by decide) dX6_isSend_37
  · obtain ⟨m, hm31, ex⟩ := nI_of (rb_t c_5).1
    have hmn : m < nm := by have h := (rb_t c_5).2; rw [ex, h4] at h; exact (nI_ltI hm31 (by omega)).mp h
    have tx : tn x = m := by rw [ex]; exact tn_nI hm31
    obtain ⟨z, hz20, h5, -⟩ := hI.2.2.2.2.2.1 m (by omega)
    refine lv_iload_n hx hb dX6_isSend_8 rfl (lv_at hl 2 rfl) ?_
    refine lv_if_lt (tgt := 36) hx hb dX6_isSend_9 (by decide) (fun c_9 => ?_) (fun c_9 => ?_)
    · refine lv_iconst (v := 0) hx hb dX6_isSend_36 (by decide) ?_
      exact rr_zret hC hz hR (by decide) (⟨(rb_0 (fun w => w.2.1 c_9)).symm, rfl⟩) (by decide) (by decide) dX6_isSend_37
    · obtain ⟨q, hq31, ey⟩ := nI_of c_9
      have ty : tn y = q := by rw [ey]; exact tn_nI hq31
      refine lv_iload_n hx hb dX6_isSend_12 rfl (lv_at hl 2 rfl) ?_
      refine lv_aload_n hx hb dX6_isSend_13 rfl (lv_at hl 0 rfl) ?_
      refine rg_5 hC hR dX6_isSend_14 ?_
      refine lv_iload_n hx hb dX6_isSend_17 rfl (lv_at hl 1 rfl) ?_
      refine gq_top (nI m) (ex) ?_
      refine ra_5 hC hR (by omega) dX6_isSend_18 ?_
      refine lv_icmp_ge (tgt := 36) hx hb dX6_isSend_19 (by decide) (fun c_19 => ?_) (fun c_19 => ?_)
      · refine lv_iconst (v := 0) hx hb dX6_isSend_36 (by decide) ?_
        exact rr_zret hC hz hR (by decide) (⟨(rb_0 (fun w => Int32.not_le.mpr (by rw [← tx]; exact w.2.2.1) c_19)).symm, rfl⟩) (by decide) (by decide) dX6_isSend_37
      · have hqz : q < z := by have h := Int32.not_le.mp c_19; rw [ey, h5] at h; exact (nI_ltI hq31 (by omega)).mp h
        refine lv_aload_n hx hb dX6_isSend_22 rfl (lv_at hl 0 rfl) ?_
        refine lv_iload_n hx hb dX6_isSend_23 rfl (lv_at hl 1 rfl) ?_
        refine gq_top (nI m) (ex) ?_
        refine lv_iload_n hx hb dX6_isSend_24 rfl (lv_at hl 2 rfl) ?_
        refine gq_top (nI q) (ey) ?_
        refine rr_calli hC hR (c6_kindAt l V ad _ m q z (by omega) hq31 h5 hz20) km_RX6_124 kn_yX6_kindAt ks_yX6_kindAt kz_RX6 kd_yX6_kindAt dn_X6_kindAt rfl hl.1 ⟨by decide, by decide⟩ (Nat.le_of_ble_eq_true rfl) ⟨by decide, by decide⟩ dX6_isSend_25 (fun r_25 S_25 H locs p_25 hR => ?_)
        obtain ⟨q_25, p_25⟩ := p_25
        rw [p_25] at hR
        rw [if_pos hqz] at q_25
        rw [q_25]
        refine lv_iconst (v := 5) hx hb dX6_isSend_28 (by decide) ?_
        refine lv_icmp_ne (tgt := 36) hx hb dX6_isSend_29 (by decide) (fun c_29 => ?_) (fun c_29 => ?_)
        · refine lv_iconst (v := 0) hx hb dX6_isSend_36 (by decide) ?_
          exact rr_zret hC hz hR (by decide) (⟨(rb_0 (fun w => c_29 (by rw [← tx, ← ty]; exact w.2.2.2))).symm, rfl⟩) (by decide) (by decide) dX6_isSend_37
        · refine lv_iconst (v := 1) hx hb dX6_isSend_32 (by decide) ?_
          refine lv_goto (tgt := 37) hx hb dX6_isSend_33 (by decide) ?_
          exact rr_zret hC hz hR (by decide) (⟨(rb_1 ⟨rb_t c_5, c_9, by rw [tx]; exact Int32.not_le.mp c_19, by rw [tx, ty]; exact c_29⟩).symm, rfl⟩) (by decide) (by decide) dX6_isSend_37
set_option maxHeartbeats 4000000 in
set_option maxRecDepth 100000 in
theorem c6_metAt (l : Launch) (V : gV) (ad : gA) (S : rS) (m q : Nat) (hm : m < 12) (hq : q < 20) : rMi l yX6_metAt cX6_metAt 4 (some .int) ({ frames := 0, cells := 0, slots := 0, locals := 0 } : Room) [.int (nI m), .int (nI q)] V ad S (fun r S' => r = s_mat S m q ∧ S' = S) := by
  refine rMi.of (by decide) (Nat.le_of_ble_eq_true rfl) ?_
  intro p e s m_ below meth c ls E sz hC hz hR hl
  have hx := hC.1
  have hb := hC.2.1
  have hl : lv_has ls 4 [(0, .ref (ad 50 0 0)), (1, .int (nI m)), (2, .int (nI q))] := hl
  refine lv_bipush (v := 20) hx hb dX6_metAt_0 (by decide) ?_
  refine lv_iload_n hx hb dX6_metAt_2 rfl (lv_at hl 1 rfl) ?_
  refine lv_imul hx hb dX6_metAt_3 ?_
  refine lv_iload_n hx hb dX6_metAt_4 rfl (lv_at hl 2 rfl) ?_
  refine lv_iadd hx hb dX6_metAt_5 ?_
  refine gq_top (nI (20 * m + q)) (by simp only [nl1, nl2, nl3, nl4, nl5, nl6, nl20, nl240, nI_mul, nI_add]) ?_
  refine lv_istore_n (lv' := [(3, .int (nI (20 * m + q))), (0, .ref (ad 50 0 0)), (1, .int (nI m)), (2, .int (nI q))]) hx hb dX6_metAt_6 rfl hl (by decide) rfl (fun ls hl => ?_)
  refine lv_aload_n hx hb dX6_metAt_7 rfl (lv_at hl 1 rfl) ?_
  refine rg_15 hC hR dX6_metAt_8 ?_
  refine lv_iload_n hx hb dX6_metAt_11 rfl (lv_at hl 0 rfl) ?_
  refine ra_15 hC hR (by omega) dX6_metAt_12 ?_
  refine lv_if_eq (tgt := 20) hx hb dX6_metAt_13 (by decide) (fun c_13 => ?_) (fun c_13 => ?_)
  · refine lv_aload_n hx hb dX6_metAt_20 rfl (lv_at hl 1 rfl) ?_
    refine rg_13 hC hR dX6_metAt_21 ?_
    refine lv_iload_n hx hb dX6_metAt_24 rfl (lv_at hl 0 rfl) ?_
    refine ra_13 hC hR (by omega) dX6_metAt_25 ?_
    exact rr_iret hC hz hR (⟨by first | exact (if_pos c_13).symm | exact (if_neg c_13).symm, rfl⟩) (by decide) (by decide) dX6_metAt_26
  · refine lv_iconst (v := 4) hx hb dX6_metAt_16 (by decide) ?_
    refine lv_goto (tgt := 26) hx hb dX6_metAt_17 (by decide) ?_
    exact rr_iret hC hz hR (⟨by first | exact (if_pos c_13).symm | exact (if_neg c_13).symm, rfl⟩) (by decide) (by decide) dX6_metAt_26
set_option maxHeartbeats 4000000 in
set_option maxRecDepth 100000 in
theorem c6_met (l : Launch) (V : gV) (ad : gA) (S : rS) (nc nm : Nat) (hI : rI S nc nm) (x y : Int32) : rMi l yX6_met cX6_met 3 (some .int) ({ frames := 2, cells := 0, slots := 0, locals := 44 } : Room) [.int x, .int y] V ad S (fun r S' => r = (o_met (su S 0 (fun _ => 0)) x y).1 ∧ S' = (o_met (su S 0 (fun _ => 0)) x y).2) := by
  refine rMi.of (by decide) (Nat.le_of_ble_eq_true rfl) ?_
  intro p e s m_ below meth c ls E sz hC hz hR hl
  have hx := hC.1
  have hb := hC.2.1
  have hl : lv_has ls 3 [(0, .ref (ad 50 0 0)), (1, .int x), (2, .int y)] := hl
  have h4 := hI.2.2.1
  have hnm := hI.2.2.2.1
  refine lv_aload_n hx hb dX6_met_0 rfl (lv_at hl 0 rfl) ?_
  refine lv_iconst (v := 0) hx hb dX6_met_1 (by decide) ?_
  refine rp_0 hC hR dX6_met_2 (fun H locs hR => ?_)
  refine lv_aload_n hx hb dX6_met_5 rfl (lv_at hl 0 rfl) ?_
  refine lv_iload_n hx hb dX6_met_6 rfl (lv_at hl 1 rfl) ?_
  refine lv_iload_n hx hb dX6_met_7 rfl (lv_at hl 2 rfl) ?_
  refine rr_calli hC hR (c6_isSend l V ad (su S 0 (fun _ => 0)) nc nm (rI_congr (S := S) rfl rfl rfl rfl rfl rfl rfl rfl rfl hI) x y) km_RX6_212 kn_yX6_isSend ks_yX6_isSend kz_RX6 kd_yX6_isSend dn_X6_isSend rfl hl.1 ⟨by decide, by decide⟩ (Nat.le_of_ble_eq_true rfl) ⟨by decide, by decide⟩ dX6_met_8 (fun r_8 S_8 H locs p_8 hR => ?_)
  obtain ⟨q_8, p_8⟩ := p_8
  rw [p_8] at hR
  refine gq_top (rb (s_isS S x y)) q_8 ?_
  refine lv_if_eq (tgt := 23) hx hb dX6_met_11 (by decide) (fun c_11 => ?_) (fun c_11 => ?_)
  · refine lv_aload_n hx hb dX6_met_23 rfl (lv_at hl 0 rfl) ?_
    refine lv_iconst (v := 1) hx hb dX6_met_24 (by decide) ?_
    refine rr_calli hC hR (c6_fail l V ad _ 1) km_RX6_86 kn_yX6_fail ks_yX6_fail kz_RX6 kd_yX6_fail dn_X6_fail rfl hl.1 ⟨by decide, by decide⟩ (Nat.le_of_ble_eq_true rfl) ⟨by decide, by decide⟩ dX6_met_25 (fun r_25 S_25 H locs p_25 hR => ?_)
    obtain ⟨q_25, p_25⟩ := p_25
    subst p_25
    rw [q_25]
    exact rr_iret hC hz hR (by first | (rw [show o_met (su S 0 (fun _ => 0)) x y = _ from if_neg (rb_n c_11)]; exact ⟨rfl, rfl⟩) | (rw [show o_met (su S 0 (fun _ => 0)) x y = _ from if_pos (rb_t c_11), tx, ty]; exact ⟨rfl, rfl⟩)) (by decide) (by decide) dX6_met_28
  · obtain ⟨⟨hM1, hM2⟩, hy0, hys, hk5⟩ := rb_t c_11
    obtain ⟨m, hm31, ex⟩ := nI_of hM1
    have hmn : m < nm := by rw [ex, h4] at hM2; exact (nI_ltI hm31 (by omega)).mp hM2
    have tx : tn x = m := by rw [ex]; exact tn_nI hm31
    obtain ⟨z, hz20, h5, -⟩ := hI.2.2.2.2.2.1 m (by omega)
    obtain ⟨q, hq31, ey⟩ := nI_of hy0
    have ty : tn y = q := by rw [ey]; exact tn_nI hq31
    have hqz : q < z := by rw [tx, ey, h5] at hys; exact (nI_ltI hq31 (by omega)).mp hys
    refine lv_aload_n hx hb dX6_met_14 rfl (lv_at hl 0 rfl) ?_
    refine lv_iload_n hx hb dX6_met_15 rfl (lv_at hl 1 rfl) ?_
    refine gq_top (nI m) (ex) ?_
    refine lv_iload_n hx hb dX6_met_16 rfl (lv_at hl 2 rfl) ?_
    refine gq_top (nI q) (ey) ?_
    refine rr_calli hC hR (c6_metAt l V ad _ m q (by omega) (by omega)) km_RX6_215 kn_yX6_metAt ks_yX6_metAt kz_RX6 kd_yX6_metAt dn_X6_metAt rfl hl.1 ⟨by decide, by decide⟩ (Nat.le_of_ble_eq_true rfl) ⟨by decide, by decide⟩ dX6_met_17 (fun r_17 S_17 H locs p_17 hR => ?_)
    obtain ⟨q_17, p_17⟩ := p_17
    rw [p_17] at hR
    rw [q_17]
    refine lv_goto (tgt := 28) hx hb dX6_met_20 (by decide) ?_
    exact rr_iret hC hz hR (by first | (rw [show o_met (su S 0 (fun _ => 0)) x y = _ from if_neg (rb_n c_11)]; exact ⟨rfl, rfl⟩) | (rw [show o_met (su S 0 (fun _ => 0)) x y = _ from if_pos (rb_t c_11), tx, ty]; exact ⟨rfl, rfl⟩)) (by decide) (by decide) dX6_met_28
set_option maxHeartbeats 4000000 in
set_option maxRecDepth 100000 in
theorem c6_metClass (l : Launch) (V : gV) (ad : gA) (S : rS) (nc nm : Nat) (hI : rI S nc nm) (x y z_ : Int32) : rMi l yX6_metClass cX6_metClass 4 (some .int) ({ frames := 2, cells := 0, slots := 0, locals := 44 } : Room) [.int x, .int y, .int z_] V ad S (fun r S' => r = (o_metClass (su S 0 (fun _ => 0)) x y z_).1 ∧ S' = (o_metClass (su S 0 (fun _ => 0)) x y z_).2) := by
  refine rMi.of (by decide) (Nat.le_of_ble_eq_true rfl) ?_
  intro p e s m_ below meth c ls E sz hC hz hR hl
  have hx := hC.1
  have hb := hC.2.1
  have hl : lv_has ls 4 [(0, .ref (ad 50 0 0)), (1, .int x), (2, .int y), (3, .int z_)] := hl
  have h4 := hI.2.2.1
  have hnm := hI.2.2.2.1
  refine lv_aload_n hx hb dX6_metClass_0 rfl (lv_at hl 0 rfl) ?_
  refine lv_iconst (v := 0) hx hb dX6_metClass_1 (by decide) ?_
  refine rp_0 hC hR dX6_metClass_2 (fun H locs hR => ?_)
  refine lv_aload_n hx hb dX6_metClass_5 rfl (lv_at hl 0 rfl) ?_
  refine lv_iload_n hx hb dX6_metClass_6 rfl (lv_at hl 1 rfl) ?_
  refine lv_iload_n hx hb dX6_metClass_7 rfl (lv_at hl 2 rfl) ?_
  refine rr_calli hC hR (c6_isSend l V ad (su S 0 (fun _ => 0)) nc nm (rI_congr (S := S) rfl rfl rfl rfl rfl rfl rfl rfl rfl hI) x y) km_RX6_212 kn_yX6_isSend ks_yX6_isSend kz_RX6 kd_yX6_isSend dn_X6_isSend rfl hl.1 ⟨by decide, by decide⟩ (Nat.le_of_ble_eq_true rfl) ⟨by decide, by decide⟩ dX6_metClass_8 (fun r_8 S_8 H locs p_8 hR => ?_)
  obtain ⟨q_8, p_8⟩ := p_8
  rw [p_8] at hR
  refine gq_top (rb (s_isS S x y)) q_8 ?_
  refine lv_if_eq (tgt := 33) hx hb dX6_metClass_11 (by decide) (fun c_11 => ?_) (fun c_11 => ?_)
  · refine lv_aload_n hx hb dX6_metClass_33 rfl (lv_at hl 0 rfl) ?_
    refine lv_iconst (v := 1) hx hb dX6_metClass_34 (by decide) ?_
    refine rr_calli hC hR (c6_fail l V ad _ 1) km_RX6_86 kn_yX6_fail ks_yX6_fail kz_RX6 kd_yX6_fail dn_X6_fail rfl hl.1 ⟨by decide, by decide⟩ (Nat.le_of_ble_eq_true rfl) ⟨by decide, by decide⟩ dX6_metClass_35 (fun r_35 S_35 H locs p_35 hR => ?_)
    obtain ⟨q_35, p_35⟩ := p_35
    subst p_35
    rw [q_35]
    exact rr_iret hC hz hR (by rw [show o_metClass (su S 0 (fun _ => 0)) x y z_ = _ from if_neg (fun w => rb_n c_11 w.1)]; exact ⟨rfl, rfl⟩) (by decide) (by decide) dX6_metClass_38
  · obtain ⟨⟨hM1, hM2⟩, hy0, hys, hk5⟩ := rb_t c_11
    obtain ⟨m, hm31, ex⟩ := nI_of hM1
    have hmn : m < nm := by rw [ex, h4] at hM2; exact (nI_ltI hm31 (by omega)).mp hM2
    have tx : tn x = m := by rw [ex]; exact tn_nI hm31
    obtain ⟨z, hz20, h5, -⟩ := hI.2.2.2.2.2.1 m (by omega)
    obtain ⟨q, hq31, ey⟩ := nI_of hy0
    have ty : tn y = q := by rw [ey]; exact tn_nI hq31
    have hqz : q < z := by rw [tx, ey, h5] at hys; exact (nI_ltI hq31 (by omega)).mp hys
    refine lv_iload_n hx hb dX6_metClass_14 rfl (lv_at hl 3 rfl) ?_
    refine lv_if_lt (tgt := 33) hx hb dX6_metClass_15 (by decide) (fun c_15 => ?_) (fun c_15 => ?_)
    · refine lv_aload_n hx hb dX6_metClass_33 rfl (lv_at hl 0 rfl) ?_
      refine lv_iconst (v := 1) hx hb dX6_metClass_34 (by decide) ?_
      refine rr_calli hC hR (c6_fail l V ad _ 1) km_RX6_86 kn_yX6_fail ks_yX6_fail kz_RX6 kd_yX6_fail dn_X6_fail rfl hl.1 ⟨by decide, by decide⟩ (Nat.le_of_ble_eq_true rfl) ⟨by decide, by decide⟩ dX6_metClass_35 (fun r_35 S_35 H locs p_35 hR => ?_)
      obtain ⟨q_35, p_35⟩ := p_35
      subst p_35
      rw [q_35]
      exact rr_iret hC hz hR (by rw [show o_metClass (su S 0 (fun _ => 0)) x y z_ = _ from if_neg (fun w => w.2.1 c_15)]; exact ⟨rfl, rfl⟩) (by decide) (by decide) dX6_metClass_38
    · refine lv_iload_n hx hb dX6_metClass_18 rfl (lv_at hl 3 rfl) ?_
      refine lv_aload_n hx hb dX6_metClass_19 rfl (lv_at hl 0 rfl) ?_
      refine rg_13 hC hR dX6_metClass_20 ?_
      refine lv_bipush (v := 20) hx hb dX6_metClass_23 (by decide) ?_
      refine lv_iload_n hx hb dX6_metClass_25 rfl (lv_at hl 1 rfl) ?_
      refine gq_top (nI m) (ex) ?_
      refine lv_imul hx hb dX6_metClass_26 ?_
      refine lv_iload_n hx hb dX6_metClass_27 rfl (lv_at hl 2 rfl) ?_
      refine gq_top (nI q) (ey) ?_
      refine lv_iadd hx hb dX6_metClass_28 ?_
      refine gq_top (nI (20 * m + q)) (by simp only [nl1, nl2, nl3, nl4, nl5, nl6, nl20, nl240, nI_mul, nI_add]) ?_
      refine ra_13 hC hR (by omega) dX6_metClass_29 ?_
      refine lv_icmp_lt (tgt := 39) hx hb dX6_metClass_30 (by decide) (fun c_30 => ?_) (fun c_30 => ?_)
      · obtain ⟨n, hn3, h13, -⟩ := hI.2.2.2.2.2.2.1 (20 * m + q) (by omega)
        obtain ⟨t, ht31, ez⟩ := nI_of c_15
        have tz : tn z_ = t := by rw [ez]; exact tn_nI ht31
        have htn : t < n := by have h : z_ < S.1 13 (20 * m + q) := c_30; rw [ez, h13] at h; exact (nI_ltI ht31 (by omega)).mp h
        refine lv_aload_n hx hb dX6_metClass_39 rfl (lv_at hl 0 rfl) ?_
        refine rg_14 hC hR dX6_metClass_40 ?_
        refine lv_iconst (v := 3) hx hb dX6_metClass_43 (by decide) ?_
        refine lv_bipush (v := 20) hx hb dX6_metClass_44 (by decide) ?_
        refine lv_iload_n hx hb dX6_metClass_46 rfl (lv_at hl 1 rfl) ?_
        refine gq_top (nI m) (ex) ?_
        refine lv_imul hx hb dX6_metClass_47 ?_
        refine lv_iload_n hx hb dX6_metClass_48 rfl (lv_at hl 2 rfl) ?_
        refine gq_top (nI q) (ey) ?_
        refine lv_iadd hx hb dX6_metClass_49 ?_
        refine lv_imul hx hb dX6_metClass_50 ?_
        refine lv_iload_n hx hb dX6_metClass_51 rfl (lv_at hl 3 rfl) ?_
        refine gq_top (nI t) (ez) ?_
        refine lv_iadd hx hb dX6_metClass_52 ?_
        refine gq_top (nI (3 * (20 * m + q) + t)) (by simp only [nl1, nl2, nl3, nl4, nl5, nl6, nl20, nl240, nI_mul, nI_add]) ?_
        refine ra_14 hC hR (by omega) dX6_metClass_53 ?_
        exact rr_iret hC hz hR (by rw [show o_metClass (su S 0 (fun _ => 0)) x y z_ = _ from if_pos ⟨rb_t c_11, c_15, by rw [tx, ty]; exact c_30⟩, tx, ty, tz]; exact ⟨rfl, rfl⟩) (by decide) (by decide) dX6_metClass_54
      · refine lv_aload_n hx hb dX6_metClass_33 rfl (lv_at hl 0 rfl) ?_
        refine lv_iconst (v := 1) hx hb dX6_metClass_34 (by decide) ?_
        refine rr_calli hC hR (c6_fail l V ad _ 1) km_RX6_86 kn_yX6_fail ks_yX6_fail kz_RX6 kd_yX6_fail dn_X6_fail rfl hl.1 ⟨by decide, by decide⟩ (Nat.le_of_ble_eq_true rfl) ⟨by decide, by decide⟩ dX6_metClass_35 (fun r_35 S_35 H locs p_35 hR => ?_)
        obtain ⟨q_35, p_35⟩ := p_35
        subst p_35
        rw [q_35]
        exact rr_iret hC hz hR (by rw [show o_metClass (su S 0 (fun _ => 0)) x y z_ = _ from if_neg (fun w => c_30 (by rw [tx, ty] at w; exact w.2.2))]; exact ⟨rfl, rfl⟩) (by decide) (by decide) dX6_metClass_38
def s_dr (S : rS) (m : Nat) (d : Int64) : Nat → Int64
  | 0 => d
  | k + 1 => if S.1 6 (5 * (20 * m + k)) = 5 then s_dr S m d k * 31 + (s_mat S m k).toInt64 else s_dr S m d k
def s_dh (S : rS) (m : Nat) (d : Int64) : Int64 := (((d * 31 + (S.1 5 m).toInt64) * 31 + (S.1 10 m).toInt64) * 31 + (S.1 11 m).toInt64) * 31 + (S.1 12 m).toInt64
def s_dm (S : rS) (d : Int64) : Nat → Int64
  | 0 => d
  | k + 1 => s_dr S k (s_dh S k (s_dm S d k)) (tn (S.1 5 k))
def o_digest (S : rS) : Int64 := ((s_dm S ((3007 + (S.1 1 0).toInt64) * 31 + (S.1 4 0).toInt64) (tn (S.1 4 0)) * 31 + S.2 26 0) * 31 + (S.1 27 0).toInt64) * 31 + (S.1 25 0).toInt64
set_option maxHeartbeats 4000000 in
set_option maxRecDepth 100000 in
theorem c6_digest (l : Launch) (V : gV) (ad : gA) (S : rS) (nc nm : Nat) (hI : rI S nc nm) : rMl l yX6_digest cX6_digest 5 (some .long) ({ frames := 1, cells := 0, slots := 0, locals := 23 } : Room) [] V ad S (fun r S' => r = o_digest S ∧ S' = (su S 0 (fun _ => 0))) := by
  refine rMl.of (by decide) (Nat.le_of_ble_eq_true rfl) ?_
  intro p e s m_ below meth c ls E sz hC hz hR hl
  have hx := hC.1
  have hb := hC.2.1
  have hl : lv_has ls 5 [(0, .ref (ad 50 0 0))] := hl
  have h4 := hI.2.2.1
  have hnm := hI.2.2.2.1
  obtain ⟨d0, hd0⟩ : ∃ d0, d0 = (3007 + (S.1 1 0).toInt64) * 31 + (S.1 4 0).toInt64 := ⟨_, rfl⟩
  refine lv_aload_n hx hb dX6_digest_0 rfl (lv_at hl 0 rfl) ?_
  refine lv_iconst (v := 0) hx hb dX6_digest_1 (by decide) ?_
  refine rp_0 hC hR dX6_digest_2 (fun H locs hR => ?_)
  refine gq_ldc2 hC kl_RX6_218 dX6_digest_5 ?_
  refine lv_aload_n hx hb dX6_digest_8 rfl (lv_at hl 0 rfl) ?_
  refine rg_1 hC hR dX6_digest_9 ?_
  refine lv_i2l hx hb dX6_digest_12 rfl ?_
  refine lv_ladd hx hb dX6_digest_13 ?_
  refine gq_ldc2 hC kl_RX6_220 dX6_digest_14 ?_
  refine lv_lmul hx hb dX6_digest_17 ?_
  refine lv_aload_n hx hb dX6_digest_18 rfl (lv_at hl 0 rfl) ?_
  refine rg_4 hC hR dX6_digest_19 ?_
  refine lv_i2l hx hb dX6_digest_22 rfl ?_
  refine lv_ladd hx hb dX6_digest_23 ?_
  refine gq_topl (d0) (hd0.symm) ?_
  refine lv_lstore_n (lv' := [(1, .long d0), (0, .ref (ad 50 0 0))]) hx hb dX6_digest_24 rfl hl (by decide) rfl (fun ls hl => ?_)
  refine lv_iconst (v := (nI 0)) hx hb dX6_digest_25 (by decide) ?_
  refine lv_istore_n (lv' := [(3, .int ((nI 0))), (1, .long d0), (0, .ref (ad 50 0 0))]) hx hb dX6_digest_26 rfl hl (by decide) rfl (fun ls hl => ?_)
  refine g_loop (T := Nat) (fun xx H locs ls => xx ≤ nm ∧ rfW V (gAd ad E sz) s.heap ad E (su S 0 (fun _ => 0)) H locs ∧ lv_has ls 5 [(3, .int (nI xx)), (1, .long (s_dm S d0 xx)), (0, .ref (ad 50 0 0))]) (fun xx => nm - xx) (fun xx ih H locs ls hI => ?_) (0) ⟨by omega, hR, lv_sub hl [0, 1, 2] rfl⟩
  obtain ⟨hxm, hR, hl⟩ := hI
  refine lv_iload_n hx hb dX6_digest_27 rfl (lv_at hl 0 rfl) ?_
  refine lv_aload_n hx hb dX6_digest_28 rfl (lv_at hl 2 rfl) ?_
  refine rg_4 hC hR dX6_digest_29 ?_
  refine gq_top (nI nm) (h4) ?_
  refine gn_icmp_ge (tgt := 137) hx hb (by omega) (by omega) dX6_digest_32 (by decide) (fun c_32 => ?_) (fun c_32 => ?_)
  · refine lv_lload_n hx hb dX6_digest_137 rfl (lv_at hl 1 rfl) ?_
    refine gq_ldc2 hC kl_RX6_220 dX6_digest_138 ?_
    refine lv_lmul hx hb dX6_digest_141 ?_
    refine lv_aload_n hx hb dX6_digest_142 rfl (lv_at hl 2 rfl) ?_
    refine rg_26 hC hR dX6_digest_143 ?_
    refine lv_ladd hx hb dX6_digest_146 ?_
    refine gq_ldc2 hC kl_RX6_220 dX6_digest_147 ?_
    refine lv_lmul hx hb dX6_digest_150 ?_
    refine lv_aload_n hx hb dX6_digest_151 rfl (lv_at hl 2 rfl) ?_
    refine rg_27 hC hR dX6_digest_152 ?_
    refine lv_i2l hx hb dX6_digest_155 rfl ?_
    refine lv_ladd hx hb dX6_digest_156 ?_
    refine gq_ldc2 hC kl_RX6_220 dX6_digest_157 ?_
    refine lv_lmul hx hb dX6_digest_160 ?_
    refine lv_aload_n hx hb dX6_digest_161 rfl (lv_at hl 2 rfl) ?_
    refine rg_25 hC hR dX6_digest_162 ?_
    refine lv_i2l hx hb dX6_digest_165 rfl ?_
    refine lv_ladd hx hb dX6_digest_166 ?_
    exact rr_lret hC hz hR (⟨by unfold o_digest; rw [show tn (S.1 4 0) = nm by rw [h4]; exact tn_nI (by omega), show xx = nm by omega, hd0]; rfl, rfl⟩) (by decide) (by decide) dX6_digest_167
  · obtain ⟨z, hz20, h5, -⟩ := hI.2.2.2.2.2.1 xx (by omega)
    have tz : tn (S.1 5 xx) = z := by rw [h5]; exact tn_nI (by omega)
    obtain ⟨d1, hd1⟩ : ∃ d1, d1 = s_dh S xx (s_dm S d0 xx) := ⟨_, rfl⟩
    refine lv_lload_n hx hb dX6_digest_35 rfl (lv_at hl 1 rfl) ?_
    refine gq_ldc2 hC kl_RX6_220 dX6_digest_36 ?_
    refine lv_lmul hx hb dX6_digest_39 ?_
    refine lv_aload_n hx hb dX6_digest_40 rfl (lv_at hl 2 rfl) ?_
    refine rg_5 hC hR dX6_digest_41 ?_
    refine lv_iload_n hx hb dX6_digest_44 rfl (lv_at hl 0 rfl) ?_
    refine ra_5 hC hR (by omega) dX6_digest_45 ?_
    refine lv_i2l hx hb dX6_digest_46 rfl ?_
    refine lv_ladd hx hb dX6_digest_47 ?_
    refine gq_ldc2 hC kl_RX6_220 dX6_digest_48 ?_
    refine lv_lmul hx hb dX6_digest_51 ?_
    refine lv_aload_n hx hb dX6_digest_52 rfl (lv_at hl 2 rfl) ?_
    refine rg_10 hC hR dX6_digest_53 ?_
    refine lv_iload_n hx hb dX6_digest_56 rfl (lv_at hl 0 rfl) ?_
    refine ra_10 hC hR (by omega) dX6_digest_57 ?_
    refine lv_i2l hx hb dX6_digest_58 rfl ?_
    refine lv_ladd hx hb dX6_digest_59 ?_
    refine gq_ldc2 hC kl_RX6_220 dX6_digest_60 ?_
    refine lv_lmul hx hb dX6_digest_63 ?_
    refine lv_aload_n hx hb dX6_digest_64 rfl (lv_at hl 2 rfl) ?_
    refine rg_11 hC hR dX6_digest_65 ?_
    refine lv_iload_n hx hb dX6_digest_68 rfl (lv_at hl 0 rfl) ?_
    refine ra_11 hC hR (by omega) dX6_digest_69 ?_
    refine lv_i2l hx hb dX6_digest_70 rfl ?_
    refine lv_ladd hx hb dX6_digest_71 ?_
    refine gq_ldc2 hC kl_RX6_220 dX6_digest_72 ?_
    refine lv_lmul hx hb dX6_digest_75 ?_
    refine lv_aload_n hx hb dX6_digest_76 rfl (lv_at hl 2 rfl) ?_
    refine rg_12 hC hR dX6_digest_77 ?_
    refine lv_iload_n hx hb dX6_digest_80 rfl (lv_at hl 0 rfl) ?_
    refine ra_12 hC hR (by omega) dX6_digest_81 ?_
    refine lv_i2l hx hb dX6_digest_82 rfl ?_
    refine lv_ladd hx hb dX6_digest_83 ?_
    refine gq_topl (d1) (hd1.symm) ?_
    refine lv_lstore_n (lv' := [(1, .long d1), (3, .int (nI xx)), (0, .ref (ad 50 0 0))]) hx hb dX6_digest_84 rfl hl (by decide) rfl (fun ls hl => ?_)
    refine lv_iconst (v := (nI 0)) hx hb dX6_digest_85 (by decide) ?_
    refine lv_istore (lv' := [(4, .int ((nI 0))), (1, .long d1), (3, .int (nI xx)), (0, .ref (ad 50 0 0))]) hx hb dX6_digest_86 hl (by decide) rfl (fun ls hl => ?_)
    refine g_loop (T := Nat) (fun yy H locs ls => yy ≤ z ∧ rfW V (gAd ad E sz) s.heap ad E (su S 0 (fun _ => 0)) H locs ∧ lv_has ls 5 [(4, .int (nI yy)), (1, .long (s_dr S xx d1 yy)), (3, .int (nI xx)), (0, .ref (ad 50 0 0))]) (fun yy => z - yy) (fun yy ih_y H locs ls hI => ?_) (0) ⟨by omega, hR, lv_sub hl [0, 1, 2, 3] rfl⟩
    obtain ⟨hyz, hR, hl⟩ := hI
    refine lv_iload hx hb dX6_digest_88 (lv_at hl 0 rfl) ?_
    refine lv_aload_n hx hb dX6_digest_90 rfl (lv_at hl 3 rfl) ?_
    refine rg_5 hC hR dX6_digest_91 ?_
    refine lv_iload_n hx hb dX6_digest_94 rfl (lv_at hl 2 rfl) ?_
    refine ra_5 hC hR (by omega) dX6_digest_95 ?_
    refine gq_top (nI z) (h5) ?_
    refine gn_icmp_ge (tgt := 131) hx hb (by omega) (by omega) dX6_digest_96 (by decide) (fun c_96 => ?_) (fun c_96 => ?_)
    · refine lv_iinc (v := (nI (xx + 1))) (lv' := [(3, .int ((nI (xx + 1)))), (4, .int (nI yy)), (1, .long (s_dr S xx d1 yy)), (0, .ref (ad 50 0 0))]) hx hb dX6_digest_131 hl (k := 2) rfl (nI_1 xx) (by decide) rfl (fun ls hl => ?_)
      refine lv_goto (tgt := 27) hx hb dX6_digest_134 (by decide) ?_
      have hnm2 : s_dm S d0 (xx + 1) = s_dr S xx d1 yy := by show s_dr S xx (s_dh S xx (s_dm S d0 xx)) (tn (S.1 5 xx)) = _; rw [← hd1, tz, show yy = z by omega]
      rw [← hnm2] at hl
      exact ih (xx + 1) (by omega) _ _ _ ⟨by omega, hR, lv_sub hl [0, 2, 3] rfl⟩
    · refine lv_aload_n hx hb dX6_digest_99 rfl (lv_at hl 3 rfl) ?_
      refine lv_iload_n hx hb dX6_digest_100 rfl (lv_at hl 2 rfl) ?_
      refine lv_iload hx hb dX6_digest_101 (lv_at hl 0 rfl) ?_
      refine rr_calli hC hR (c6_kindAt l V ad _ xx yy z (by omega) (by omega) h5 hz20) km_RX6_124 kn_yX6_kindAt ks_yX6_kindAt kz_RX6 kd_yX6_kindAt dn_X6_kindAt rfl hl.1 ⟨by decide, by decide⟩ (Nat.le_of_ble_eq_true rfl) ⟨by decide, by decide⟩ dX6_digest_103 (fun r_103 S_103 H locs p_103 hR => ?_)
      obtain ⟨q_103, p_103⟩ := p_103
      rw [p_103] at hR
      rw [if_pos (by omega)] at q_103
      refine gq_top (S.1 6 (5 * (20 * xx + yy))) q_103 ?_
      refine lv_iconst (v := 5) hx hb dX6_digest_106 (by decide) ?_
      refine lv_icmp_ne (tgt := 125) hx hb dX6_digest_107 (by decide) (fun c_107 => ?_) (fun c_107 => ?_)
      · have hnx : s_dr S xx d1 yy = s_dr S xx d1 (yy + 1) := by first | exact (if_neg c_107).symm | (first | exact (if_pos c_107).symm | (rw [ex_124]; exact (if_pos c_107).symm))
        rw [hnx] at hl
        refine lv_iinc (v := (nI (yy + 1))) (lv' := [(4, .int ((nI (yy + 1)))), (1, .long (s_dr S xx d1 (yy + 1))), (3, .int (nI xx)), (0, .ref (ad 50 0 0))]) hx hb dX6_digest_125 hl (k := 0) rfl (nI_1 yy) (by decide) rfl (fun ls hl => ?_)
        refine lv_goto (tgt := 88) hx hb dX6_digest_128 (by decide) ?_
        exact ih_y (yy + 1) (by omega) _ _ _ ⟨by omega, hR, lv_sub hl [0, 1, 2, 3] rfl⟩
      · refine lv_lload_n hx hb dX6_digest_110 rfl (lv_at hl 1 rfl) ?_
        refine gq_ldc2 hC kl_RX6_220 dX6_digest_111 ?_
        refine lv_lmul hx hb dX6_digest_114 ?_
        refine lv_aload_n hx hb dX6_digest_115 rfl (lv_at hl 3 rfl) ?_
        refine lv_iload_n hx hb dX6_digest_116 rfl (lv_at hl 2 rfl) ?_
        refine lv_iload hx hb dX6_digest_117 (lv_at hl 0 rfl) ?_
        refine rr_calli hC hR (c6_metAt l V ad _ xx yy (by omega) (by omega)) km_RX6_215 kn_yX6_metAt ks_yX6_metAt kz_RX6 kd_yX6_metAt dn_X6_metAt rfl hl.1 ⟨by decide, by decide⟩ (Nat.le_of_ble_eq_true rfl) ⟨by decide, by decide⟩ dX6_digest_119 (fun r_119 S_119 H locs p_119 hR => ?_)
        obtain ⟨q_119, p_119⟩ := p_119
        rw [p_119] at hR
        refine gq_top (s_mat S xx yy) q_119 ?_
        refine lv_i2l hx hb dX6_digest_122 rfl ?_
        refine lv_ladd hx hb dX6_digest_123 ?_
        refine lv_topl (fun x_124 ex_124 => ?_)
        refine lv_lstore_n (lv' := [(1, .long x_124), (4, .int (nI yy)), (3, .int (nI xx)), (0, .ref (ad 50 0 0))]) hx hb dX6_digest_124 rfl hl (by decide) rfl (fun ls hl => ?_)
        have hnx : x_124 = s_dr S xx d1 (yy + 1) := by first | exact (if_neg c_107).symm | (first | exact (if_pos c_107).symm | (rw [ex_124]; exact (if_pos c_107).symm))
        rw [hnx] at hl
        refine lv_iinc (v := (nI (yy + 1))) (lv' := [(4, .int ((nI (yy + 1)))), (1, .long (s_dr S xx d1 (yy + 1))), (3, .int (nI xx)), (0, .ref (ad 50 0 0))]) hx hb dX6_digest_125 hl (k := 1) rfl (nI_1 yy) (by decide) rfl (fun ls hl => ?_)
        refine lv_goto (tgt := 88) hx hb dX6_digest_128 (by decide) ?_
        exact ih_y (yy + 1) (by omega) _ _ _ ⟨by omega, hR, lv_sub hl [0, 1, 2, 3] rfl⟩
