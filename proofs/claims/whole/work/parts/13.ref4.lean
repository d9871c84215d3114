theorem s_ta_f {S : rS} {m k f : Nat} (h1 : f ≠ 13) (h2 : f ≠ 14) (h3 : f ≠ 15) : (s_ta S m k).1 f = S.1 f := by
  simp [s_ta, su, h1, h2, h3]
theorem sp_w2_f {S : rS} {m f : Nat} (h1 : f ≠ 10) (h2 : f ≠ 13) (h3 : f ≠ 14) (h4 : f ≠ 15) : (sp_w2 S m).1 f = S.1 f := by
  unfold sp_w2
  split
  · rw [s_ta_f h2 h3 h4]
    simp [su, sl, h1]
  · rfl
theorem sp_warm_f {S : rS} {m f : Nat} (h1 : f ≠ 10) (h2 : f ≠ 11) (h3 : f ≠ 13) (h4 : f ≠ 14) (h5 : f ≠ 15) : (sp_warm S m).1 f = S.1 f := by
  unfold sp_warm
  rw [sp_w2_f h1 h3 h4 h5, sp_w1_f h1 h2]
def sp_put (S : rS) (f g : Nat) (k v : Int32) : rS := su (su S 21 (va_up (S.1 21) (4 * f + g) k)) 22 (va_up (S.1 22) (4 * f + g) v)
/-- the registers of the frame f, the first k of them, the int 0 -/
def s_reg (S : rS) (f k : Nat) : rS := su (su S 21 (fun i => if 4 * f ≤ i ∧ i < 4 * f + k then -1 else S.1 21 i)) 22 (fun i => if 4 * f ≤ i ∧ i < 4 * f + k then 0 else S.1 22 i)
theorem s_reg_0 (S : rS) (f : Nat) : s_reg S f 0 = S := by
  unfold s_reg
  rw [up_rng0 (S.1 21) (4 * f) (fun _ => -1), up_rng0 (S.1 22) (4 * f) (fun _ => 0), su_id]
  exact su_id S 22
theorem s_reg_1 (S : rS) (f k : Nat) : sp_put (s_reg S f k) f k (-1) 0 = s_reg S f (k + 1) := by
  unfold sp_put
  have e1 : va_up ((s_reg S f k).1 21) (4 * f + k) (-1) = _ := up_rng (S.1 21) (4 * f) k (-1)
  have e2 : va_up ((s_reg S f k).1 22) (4 * f + k) 0 = _ := up_rng (S.1 22) (4 * f) k 0
  rw [e1, e2]
  unfold s_reg
  rw [su_c _ _ _ (show (22 : Nat) ≠ 21 by decide), su_ss, su_ss]
/-- a method begins as the running one number f -/
def sp_beg0 (S : rS) (f m : Nat) (k v : Int32) : rS := su (su (sp_put (s_reg (su (su S 18 (va_up (S.1 18) f (nI m))) 19 (va_up (S.1 19) f 0)) f 4) f 0 k v) 17 (fun _ => nI (f + 1))) 28 (fun _ => if S.1 28 0 < nI (f + 1) then nI (f + 1) else S.1 28 0)
def sp_begin (S : rS) (f m : Nat) (k v : Int32) : rS := su (sp_warm (sp_beg0 S f m k v) m) 20 (va_up (S.1 20) f ((sp_warm (sp_beg0 S f m k v) m).1 10 m))
set_option maxHeartbeats 4000000 in
set_option maxRecDepth 100000 in
theorem c6_begin (l : Launch) (V : gV) (ad : gA) (S : rS) (f m : Nat) (hf : f < 20) (hm : m < 12) (hr : S.1 17 0 = nI f) (hcr : ∀ q, q < 240 → S.1 15 q = 0 ∨ S.1 15 q = 1) (k v : Int32) : rMv l yX6_begin cX6_begin 5 none ({ frames := 2, cells := 0, slots := 0, locals := 44 } : Room) [.int (nI m), .int k, .int v] V ad S (fun S' => S' = sp_begin S f m k v) := by
  refine rMv.of (by decide) (Nat.le_of_ble_eq_true rfl) ?_
  intro p e s m_ below meth c ls E sz hC hz hR hl
  have hx := hC.1
  have hb := hC.2.1
  have hl : lv_has ls 5 [(0, .ref (ad 50 0 0)), (1, .int (nI m)), (2, .int k), (3, .int v)] := hl
  refine lv_aload_n hx hb dX6_begin_0 rfl (lv_at hl 0 rfl) ?_
  refine rg_18 hC hR dX6_begin_1 ?_
  refine lv_aload_n hx hb dX6_begin_4 rfl (lv_at hl 0 rfl) ?_
  refine rg_17 hC hR dX6_begin_5 ?_
  refine gq_top (nI f) (hr) ?_
  refine lv_iload_n hx hb dX6_begin_8 rfl (lv_at hl 1 rfl) ?_
  refine rs_18 hC hR (by omega) dX6_begin_9 (fun H locs hR => ?_)
  refine lv_aload_n hx hb dX6_begin_10 rfl (lv_at hl 0 rfl) ?_
  refine rg_19 hC hR dX6_begin_11 ?_
  refine lv_aload_n hx hb dX6_begin_14 rfl (lv_at hl 0 rfl) ?_
  refine rg_17 hC hR dX6_begin_15 ?_
  refine gq_top (nI f) (hr) ?_
  refine lv_iconst (v := 0) hx hb dX6_begin_18 (by decide) ?_
  refine rs_19 hC hR (by omega) dX6_begin_19 (fun H locs hR => ?_)
  refine lv_iconst (v := (nI 0)) hx hb dX6_begin_20 (by decide) ?_
  refine lv_istore (lv' := [(4, .int ((nI 0))), (0, .ref (ad 50 0 0)), (1, .int (nI m)), (2, .int k), (3, .int v)]) hx hb dX6_begin_21 hl (by decide) rfl (fun ls hl => ?_)
  refine g_loop (T := Nat) (fun x H locs ls => x ≤ 4 ∧ rfW V (gAd ad E sz) s.heap ad E (s_reg (su (su S 18 (va_up (S.1 18) f (nI m))) 19 (va_up (S.1 19) f 0)) f x) H locs ∧ lv_has ls 5 [(4, .int (nI x)), (0, .ref (ad 50 0 0)), (1, .int (nI m)), (2, .int k), (3, .int v)]) (fun x => 4 - x) (fun x ih H locs ls hI => ?_) (0) ⟨by omega, by rw [s_reg_0]; exact hR, lv_sub hl [0, 1, 2, 3, 4] rfl⟩
  obtain ⟨hx4, hR, hl⟩ := hI
  refine lv_iload hx hb dX6_begin_23 (lv_at hl 0 rfl) ?_
  refine lv_iconst (v := (nI 4)) hx hb dX6_begin_25 (by decide) ?_
  refine gn_icmp_ge (tgt := 47) hx hb (by omega) (by omega) dX6_begin_26 (by decide) (fun c_26 => ?_) (fun c_26 => ?_)
  · rw [show x = 4 by omega] at hR
    refine lv_aload_n hx hb dX6_begin_47 rfl (lv_at hl 1 rfl) ?_
    refine lv_aload_n hx hb dX6_begin_48 rfl (lv_at hl 1 rfl) ?_
    refine rg_17 hC hR dX6_begin_49 ?_
    refine gq_top (nI f) (hr) ?_
    refine lv_iconst (v := (nI 0)) hx hb dX6_begin_52 (by decide) ?_
    refine lv_iload_n hx hb dX6_begin_53 rfl (lv_at hl 3 rfl) ?_
    refine lv_iload_n hx hb dX6_begin_54 rfl (lv_at hl 4 rfl) ?_
    refine rr_callv hC hR (c6_put l V ad _ (f) (0) (by omega) (by omega) (k) (v)) km_RX6_148 kn_yX6_put ks_yX6_put kz_RX6 kd_yX6_put dn_X6_put rfl hl.1 ⟨by decide, by decide⟩ (Nat.le_of_ble_eq_true rfl) ⟨by decide, by decide⟩ dX6_begin_55 (fun S_55 H locs p_55 hR => ?_)
    subst p_55
    refine lv_aload_n hx hb dX6_begin_58 rfl (lv_at hl 1 rfl) ?_
    refine lv_dup hx hb dX6_begin_59 rfl ?_
    refine rg_17 hC hR dX6_begin_60 ?_
    refine gq_top (nI f) (hr) ?_
    refine lv_iconst (v := 1) hx hb dX6_begin_63 (by decide) ?_
    refine lv_iadd hx hb dX6_begin_64 ?_
    refine gq_top (nI (f + 1)) (nI_1 f) ?_
    refine rp_17 hC hR dX6_begin_65 (fun H locs hR => ?_)
    refine lv_aload_n hx hb dX6_begin_68 rfl (lv_at hl 1 rfl) ?_
    refine lv_aload_n hx hb dX6_begin_69 rfl (lv_at hl 1 rfl) ?_
    refine rg_28 hC hR dX6_begin_70 ?_
    refine lv_aload_n hx hb dX6_begin_73 rfl (lv_at hl 1 rfl) ?_
    refine rg_17 hC hR dX6_begin_74 ?_
    refine gq_top (nI (f + 1)) (rfl) ?_
    refine gq_mmax hC km_RX6_155 kst_Lib_Math_max_name kz_java_lang_Math kd_Lib_Math_max_name hl.1 (by decide) (Nat.le_of_ble_eq_true rfl) (by decide) (by decide) dX6_begin_77 ?_
    refine rp_28 hC hR dX6_begin_80 (fun H locs hR => ?_)
    refine lv_aload_n hx hb dX6_begin_83 rfl (lv_at hl 1 rfl) ?_
    refine lv_iload_n hx hb dX6_begin_84 rfl (lv_at hl 2 rfl) ?_
    refine rr_callv hC hR (c6_warm l V ad _ m hm hcr) km_RX6_160 kn_yX6_warm ks_yX6_warm kz_RX6 kd_yX6_warm dn_X6_warm rfl hl.1 ⟨by decide, by decide⟩ (Nat.le_of_ble_eq_true rfl) ⟨by decide, by decide⟩ dX6_begin_85 (fun S_85 H locs p_85 hR => ?_)
    subst p_85
    refine lv_aload_n hx hb dX6_begin_88 rfl (lv_at hl 1 rfl) ?_
    refine rg_20 hC hR dX6_begin_89 ?_
    refine lv_aload_n hx hb dX6_begin_92 rfl (lv_at hl 1 rfl) ?_
    refine rg_17 hC hR dX6_begin_93 ?_
    refine gq_top (nI (f + 1)) (by rw [sp_warm_f (by decide) (by decide) (by decide) (by decide) (by decide)]; rfl) ?_
    refine lv_iconst (v := 1) hx hb dX6_begin_96 (by decide) ?_
    refine lv_isub hx hb dX6_begin_97 ?_
    refine gq_top (nI f) (nI_pred f) ?_
    refine lv_aload_n hx hb dX6_begin_98 rfl (lv_at hl 1 rfl) ?_
    refine rg_10 hC hR dX6_begin_99 ?_
    refine lv_iload_n hx hb dX6_begin_102 rfl (lv_at hl 2 rfl) ?_
    refine ra_10 hC hR (by omega) dX6_begin_103 ?_
    refine rs_20 hC hR (by omega) dX6_begin_104 (fun H locs hR => ?_)
    exact rr_vret hC hz hR (by unfold sp_begin; rw [show S.1 20 = (sp_warm (sp_beg0 S f m k v) m).1 20 by rw [sp_warm_f (by decide) (by decide) (by decide) (by decide) (by decide)]; rfl]; rfl) (by decide) (by decide) dX6_begin_105
  · refine lv_aload_n hx hb dX6_begin_29 rfl (lv_at hl 1 rfl) ?_
    refine lv_aload_n hx hb dX6_begin_30 rfl (lv_at hl 1 rfl) ?_
    refine rg_17 hC hR dX6_begin_31 ?_
    refine gq_top (nI f) (hr) ?_
    refine lv_iload hx hb dX6_begin_34 (lv_at hl 0 rfl) ?_
    refine lv_iconst (v := (-1)) hx hb dX6_begin_36 (by decide) ?_
    refine lv_iconst (v := 0) hx hb dX6_begin_37 (by decide) ?_
    refine rr_callv hC hR (c6_put l V ad _ (f) (x) (by omega) (by omega) (-1) (0)) km_RX6_148 kn_yX6_put ks_yX6_put kz_RX6 kd_yX6_put dn_X6_put rfl hl.1 ⟨by decide, by decide⟩ (Nat.le_of_ble_eq_true rfl) ⟨by decide, by decide⟩ dX6_begin_38 (fun S_38 H locs p_38 hR => ?_)
    subst p_38
    refine lv_iinc (v := (nI (x + 1))) (lv' := [(4, .int ((nI (x + 1)))), (0, .ref (ad 50 0 0)), (1, .int (nI m)), (2, .int k), (3, .int v)]) hx hb dX6_begin_41 hl (k := 0) rfl (nI_1 x) (by decide) rfl (fun ls hl => ?_)
    refine lv_goto (tgt := 23) hx hb dX6_begin_44 (by decide) ?_
    exact ih (x + 1) (by omega) _ _ _ ⟨by omega, by rw [← s_reg_1]; exact hR, lv_sub hl [0, 1, 2, 3, 4] rfl⟩
/-- the running method number f (of f + 1) ends with a value -/
def sp_finish (S : rS) (f : Nat) (k v : Int32) : rS :=
  if f = 0 then su (su (su S 17 (fun _ => nI f)) 23 (fun _ => k)) 24 (fun _ => v)
  else su (sp_put (su S 17 (fun _ => nI f)) (f - 1) (tn (S.1 6 (5 * (20 * tn (S.1 18 (f - 1)) + tn (S.1 19 (f - 1))) + 1))) k v) 19 (va_up (S.1 19) (f - 1) (S.1 19 (f - 1) + 1))
set_option maxHeartbeats 4000000 in
set_option maxRecDepth 100000 in
theorem c6_finish (l : Launch) (V : gV) (ad : gA) (S : rS) (f : Nat) (hf : f < 20) (hr : S.1 17 0 = nI (f + 1)) (hcall : f ≠ 0 → ∃ m q a : Nat, m < 12 ∧ q < 20 ∧ a < 4 ∧ S.1 18 (f - 1) = nI m ∧ S.1 19 (f - 1) = nI q ∧ S.1 6 (5 * (20 * m + q) + 1) = nI a) (k v : Int32) : rMv l yX6_finish cX6_finish 4 none ({ frames := 1, cells := 0, slots := 0, locals := 24 } : Room) [.int k, .int v] V ad S (fun S' => S' = sp_finish S f k v) := by
  refine rMv.of (by decide) (Nat.le_of_ble_eq_true rfl) ?_
  intro p e s m_ below meth c ls E sz hC hz hR hl
  have hx := hC.1
  have hb := hC.2.1
  have hl : lv_has ls 4 [(0, .ref (ad 50 0 0)), (1, .int k), (2, .int v)] := hl
  refine lv_aload_n hx hb dX6_finish_0 rfl (lv_at hl 0 rfl) ?_
  refine lv_dup hx hb dX6_finish_1 rfl ?_
  refine rg_17 hC hR dX6_finish_2 ?_
  refine gq_top (nI (f + 1)) (hr) ?_
  refine lv_iconst (v := 1) hx hb dX6_finish_5 (by decide) ?_
  refine lv_isub hx hb dX6_finish_6 ?_
  refine gq_top (nI f) (nI_pred f) ?_
  refine rp_17 hC hR dX6_finish_7 (fun H locs hR => ?_)
  refine lv_aload_n hx hb dX6_finish_10 rfl (lv_at hl 0 rfl) ?_
  refine rg_17 hC hR dX6_finish_11 ?_
  refine gq_top (nI f) (rfl) ?_
  refine gn_if_ne (tgt := 28) hx hb (by omega) dX6_finish_14 (by decide) (fun c_14 => ?_) (fun c_14 => ?_)
  · obtain ⟨m, q, a, hm, hq, ha, h18, h19, h6⟩ := hcall c_14
    have e18 : tn (S.1 18 (f - 1)) = m := by rw [h18]; exact tn_nI (by omega)
    have e19 : tn (S.1 19 (f - 1)) = q := by rw [h19]; exact tn_nI (by omega)
    have e6 : tn (S.1 6 (5 * (20 * m + q) + 1)) = a := by rw [h6]; exact tn_nI (by omega)
    refine lv_aload_n hx hb dX6_finish_28 rfl (lv_at hl 0 rfl) ?_
    refine rg_19 hC hR dX6_finish_29 ?_
    refine lv_aload_n hx hb dX6_finish_32 rfl (lv_at hl 0 rfl) ?_
    refine rg_17 hC hR dX6_finish_33 ?_
    refine gq_top (nI f) (rfl) ?_
    refine lv_iconst (v := 1) hx hb dX6_finish_36 (by decide) ?_
    refine lv_isub hx hb dX6_finish_37 ?_
    refine gq_top (nI (f - 1)) (nI_sub (b := 1) (by omega)) ?_
    refine ra_19 hC hR (by omega) dX6_finish_38 ?_
    refine gq_top (nI q) (h19) ?_
    refine lv_istore_n (lv' := [(3, .int (nI q)), (0, .ref (ad 50 0 0)), (1, .int k), (2, .int v)]) hx hb dX6_finish_39 rfl hl (by decide) rfl (fun ls hl => ?_)
    refine lv_aload_n hx hb dX6_finish_40 rfl (lv_at hl 1 rfl) ?_
    refine lv_aload_n hx hb dX6_finish_41 rfl (lv_at hl 1 rfl) ?_
    refine rg_17 hC hR dX6_finish_42 ?_
    refine gq_top (nI f) (rfl) ?_
    refine lv_iconst (v := 1) hx hb dX6_finish_45 (by decide) ?_
    refine lv_isub hx hb dX6_finish_46 ?_
    refine gq_top (nI (f - 1)) (nI_sub (b := 1) (by omega)) ?_
    refine lv_aload_n hx hb dX6_finish_47 rfl (lv_at hl 1 rfl) ?_
    refine lv_aload_n hx hb dX6_finish_48 rfl (lv_at hl 1 rfl) ?_
    refine rg_18 hC hR dX6_finish_49 ?_
    refine lv_aload_n hx hb dX6_finish_52 rfl (lv_at hl 1 rfl) ?_
    refine rg_17 hC hR dX6_finish_53 ?_
    refine gq_top (nI f) (rfl) ?_
    refine lv_iconst (v := 1) hx hb dX6_finish_56 (by decide) ?_
    refine lv_isub hx hb dX6_finish_57 ?_
    refine gq_top (nI (f - 1)) (nI_sub (b := 1) (by omega)) ?_
    refine ra_18 hC hR (by omega) dX6_finish_58 ?_
    refine gq_top (nI m) (h18) ?_
    refine lv_iload_n hx hb dX6_finish_59 rfl (lv_at hl 0 rfl) ?_
    refine lv_iconst (v := (nI 1)) hx hb dX6_finish_60 (by decide) ?_
    refine rr_calli hC hR (c6_operand l V ad _ m q 1 hm hq (by omega)) km_RX6_127 kn_yX6_operand ks_yX6_operand kz_RX6 kd_yX6_operand dn_X6_operand rfl hl.1 ⟨by decide, by decide⟩ (Nat.le_of_ble_eq_true rfl) ⟨by decide, by decide⟩ dX6_finish_61 (fun r_61 S_61 H locs p_61 hR => ?_)
    obtain ⟨q_61, p_61⟩ := p_61
    rw [p_61] at hR
    refine gq_top (nI a) (q_61.trans h6) ?_
    refine lv_iload_n hx hb dX6_finish_64 rfl (lv_at hl 2 rfl) ?_
    refine lv_iload_n hx hb dX6_finish_65 rfl (lv_at hl 3 rfl) ?_
    refine rr_callv hC hR (c6_put l V ad _ (f - 1) (a) (by omega) (by omega) (k) (v)) km_RX6_148 kn_yX6_put ks_yX6_put kz_RX6 kd_yX6_put dn_X6_put rfl hl.1 ⟨by decide, by decide⟩ (Nat.le_of_ble_eq_true rfl) ⟨by decide, by decide⟩ dX6_finish_66 (fun S_66 H locs p_66 hR => ?_)
    subst p_66
    refine lv_aload_n hx hb dX6_finish_69 rfl (lv_at hl 1 rfl) ?_
    refine rg_19 hC hR dX6_finish_70 ?_
    refine lv_aload_n hx hb dX6_finish_73 rfl (lv_at hl 1 rfl) ?_
    refine rg_17 hC hR dX6_finish_74 ?_
    refine gq_top (nI f) (rfl) ?_
    refine lv_iconst (v := 1) hx hb dX6_finish_77 (by decide) ?_
    refine lv_isub hx hb dX6_finish_78 ?_
    refine gq_top (nI (f - 1)) (nI_sub (b := 1) (by omega)) ?_
    refine lv_iload_n hx hb dX6_finish_79 rfl (lv_at hl 0 rfl) ?_
    refine lv_iconst (v := 1) hx hb dX6_finish_80 (by decide) ?_
    refine lv_iadd hx hb dX6_finish_81 ?_
    refine rs_19 hC hR (by omega) dX6_finish_82 (fun H locs hR => ?_)
    exact rr_vret hC hz hR (by unfold sp_finish; rw [if_neg c_14, e18, e19, e6, h19]; rfl) (by decide) (by decide) dX6_finish_83
  · refine lv_aload_n hx hb dX6_finish_17 rfl (lv_at hl 0 rfl) ?_
    refine lv_iload_n hx hb dX6_finish_18 rfl (lv_at hl 1 rfl) ?_
    refine rp_23 hC hR dX6_finish_19 (fun H locs hR => ?_)
    refine lv_aload_n hx hb dX6_finish_22 rfl (lv_at hl 0 rfl) ?_
    refine lv_iload_n hx hb dX6_finish_23 rfl (lv_at hl 2 rfl) ?_
    refine rp_24 hC hR dX6_finish_24 (fun H locs hR => ?_)
    exact rr_vret hC hz hR (by unfold sp_finish; rw [if_pos c_14]) (by decide) (by decide) dX6_finish_27
/-- the running tier follows -/
def sp_go2 (S : rS) (f m : Nat) : rS := if S.1 20 f < S.1 10 m then sl (su S 20 (va_up (S.1 20) f (S.1 10 m))) 16 (va_up (S.2 16) 3 (S.2 16 3 + 1)) else S
def sp_goTo (S : rS) (f : Nat) (p : Int32) : rS :=
  if S.1 19 f < p then su S 19 (va_up (S.1 19) f p) else sp_go2 (sp_warm (su S 19 (va_up (S.1 19) f p)) (tn (S.1 18 f))) f (tn (S.1 18 f))
set_option maxHeartbeats 4000000 in
set_option maxRecDepth 100000 in
theorem c6_goTo (l : Launch) (V : gV) (ad : gA) (S : rS) (f m : Nat) (hf : f < 20) (hm : m < 12) (hr : S.1 17 0 = nI (f + 1)) (h18 : S.1 18 f = nI m) (hcr : ∀ q, q < 240 → S.1 15 q = 0 ∨ S.1 15 q = 1) (p_ : Int32) : rMv l yX6_goTo cX6_goTo 5 none ({ frames := 2, cells := 0, slots := 0, locals := 44 } : Room) [.int p_] V ad S (fun S' => S' = sp_goTo S f p_) := by
  refine rMv.of (by decide) (Nat.le_of_ble_eq_true rfl) ?_
  intro p e s m_ below meth c ls E sz hC hz hR hl
  have hx := hC.1
  have hb := hC.2.1
  have hl : lv_has ls 5 [(0, .ref (ad 50 0 0)), (1, .int p_)] := hl
  have e18 : tn (S.1 18 f) = m := by rw [h18]; exact tn_nI (by omega)
  refine lv_aload_n hx hb dX6_goTo_0 rfl (lv_at hl 0 rfl) ?_
  refine rg_17 hC hR dX6_goTo_1 ?_
  refine gq_top (nI (f + 1)) (hr) ?_
  refine lv_iconst (v := 1) hx hb dX6_goTo_4 (by decide) ?_
  refine lv_isub hx hb dX6_goTo_5 ?_
  refine gq_top (nI f) (nI_pred f) ?_
  refine lv_istore_n (lv' := [(2, .int (nI f)), (0, .ref (ad 50 0 0)), (1, .int p_)]) hx hb dX6_goTo_6 rfl hl (by decide) rfl (fun ls hl => ?_)
  refine lv_iload_n hx hb dX6_goTo_7 rfl (lv_at hl 2 rfl) ?_
  refine lv_aload_n hx hb dX6_goTo_8 rfl (lv_at hl 1 rfl) ?_
  refine rg_19 hC hR dX6_goTo_9 ?_
  refine lv_iload_n hx hb dX6_goTo_12 rfl (lv_at hl 0 rfl) ?_
  refine ra_19 hC hR (by omega) dX6_goTo_13 ?_
  refine lv_icmp_gt (tgt := 21) hx hb dX6_goTo_14 (by decide) (fun c_14 => ?_) (fun c_14 => ?_)
  · refine lv_iconst (v := 0) hx hb dX6_goTo_21 (by decide) ?_
    refine lv_istore_n (lv' := [(3, .int 0), (2, .int (nI f)), (0, .ref (ad 50 0 0)), (1, .int p_)]) hx hb dX6_goTo_22 rfl hl (by decide) rfl (fun ls hl => ?_)
    refine lv_aload_n hx hb dX6_goTo_23 rfl (lv_at hl 2 rfl) ?_
    refine rg_19 hC hR dX6_goTo_24 ?_
    refine lv_iload_n hx hb dX6_goTo_27 rfl (lv_at hl 1 rfl) ?_
    refine lv_iload_n hx hb dX6_goTo_28 rfl (lv_at hl 3 rfl) ?_
    refine rs_19 hC hR (by omega) dX6_goTo_29 (fun H locs hR => ?_)
    refine lv_iload_n hx hb dX6_goTo_30 rfl (lv_at hl 0 rfl) ?_
    refine lv_if_ne (tgt := 35) hx hb dX6_goTo_31 (by decide) (fun c_31 => absurd (by decide) c_31) (fun c_31 => ?_)
    exact rr_vret hC hz hR (by unfold sp_goTo; rw [if_pos c_14]) (by decide) (by decide) dX6_goTo_34
  · refine lv_iconst (v := 1) hx hb dX6_goTo_17 (by decide) ?_
    refine lv_goto (tgt := 22) hx hb dX6_goTo_18 (by decide) ?_
    refine lv_istore_n (lv' := [(3, .int 1), (2, .int (nI f)), (0, .ref (ad 50 0 0)), (1, .int p_)]) hx hb dX6_goTo_22 rfl hl (by decide) rfl (fun ls hl => ?_)
    refine lv_aload_n hx hb dX6_goTo_23 rfl (lv_at hl 2 rfl) ?_
    refine rg_19 hC hR dX6_goTo_24 ?_
    refine lv_iload_n hx hb dX6_goTo_27 rfl (lv_at hl 1 rfl) ?_
    refine lv_iload_n hx hb dX6_goTo_28 rfl (lv_at hl 3 rfl) ?_
    refine rs_19 hC hR (by omega) dX6_goTo_29 (fun H locs hR => ?_)
    refine lv_iload_n hx hb dX6_goTo_30 rfl (lv_at hl 0 rfl) ?_
    refine lv_if_ne (tgt := 35) hx hb dX6_goTo_31 (by decide) (fun c_31 => ?_) (fun c_31 => absurd c_31 (by decide))
    refine lv_aload_n hx hb dX6_goTo_35 rfl (lv_at hl 2 rfl) ?_
    refine rg_18 hC hR dX6_goTo_36 ?_
    refine lv_iload_n hx hb dX6_goTo_39 rfl (lv_at hl 1 rfl) ?_
    refine ra_18 hC hR (by omega) dX6_goTo_40 ?_
    refine gq_top (nI m) (h18) ?_
    refine lv_istore (lv' := [(4, .int (nI m)), (3, .int 1), (2, .int (nI f)), (0, .ref (ad 50 0 0)), (1, .int p_)]) hx hb dX6_goTo_41 hl (by decide) rfl (fun ls hl => ?_)
    refine lv_aload_n hx hb dX6_goTo_43 rfl (lv_at hl 3 rfl) ?_
    refine lv_iload hx hb dX6_goTo_44 (lv_at hl 0 rfl) ?_
    refine rr_callv hC hR (c6_warm l V ad _ m hm hcr) km_RX6_160 kn_yX6_warm ks_yX6_warm kz_RX6 kd_yX6_warm dn_X6_warm rfl hl.1 ⟨by decide, by decide⟩ (Nat.le_of_ble_eq_true rfl) ⟨by decide, by decide⟩ dX6_goTo_46 (fun S_46 H locs p_46 hR => ?_)
    subst p_46
    refine lv_aload_n hx hb dX6_goTo_49 rfl (lv_at hl 3 rfl) ?_
    refine rg_10 hC hR dX6_goTo_50 ?_
    refine lv_iload hx hb dX6_goTo_53 (lv_at hl 0 rfl) ?_
    refine ra_10 hC hR (by omega) dX6_goTo_55 ?_
    refine lv_aload_n hx hb dX6_goTo_56 rfl (lv_at hl 3 rfl) ?_
    refine rg_20 hC hR dX6_goTo_57 ?_
    refine lv_iload_n hx hb dX6_goTo_60 rfl (lv_at hl 2 rfl) ?_
    refine ra_20 hC hR (by omega) dX6_goTo_61 ?_
    refine lv_icmp_gt (tgt := 66) hx hb dX6_goTo_62 (by decide) (fun c_62 => ?_) (fun c_62 => ?_)
    · refine lv_aload_n hx hb dX6_goTo_66 rfl (lv_at hl 3 rfl) ?_
      refine rg_20 hC hR dX6_goTo_67 ?_
      refine lv_iload_n hx hb dX6_goTo_70 rfl (lv_at hl 2 rfl) ?_
      refine lv_aload_n hx hb dX6_goTo_71 rfl (lv_at hl 3 rfl) ?_
      refine rg_10 hC hR dX6_goTo_72 ?_
      refine lv_iload hx hb dX6_goTo_75 (lv_at hl 0 rfl) ?_
      refine ra_10 hC hR (by omega) dX6_goTo_77 ?_
      refine rs_20 hC hR (by omega) dX6_goTo_78 (fun H locs hR => ?_)
      refine lv_aload_n hx hb dX6_goTo_79 rfl (lv_at hl 3 rfl) ?_
      refine rg_16 hC hR dX6_goTo_80 ?_
      refine lv_iconst (v := (nI 3)) hx hb dX6_goTo_83 (by decide) ?_
      refine lv_dup2_11 hx hb dX6_goTo_84 rfl rfl ?_
      refine ra_16 hC hR (by omega) dX6_goTo_85 ?_
      refine lv_lconst (v := 1) hx hb dX6_goTo_86 (by decide) ?_
      refine lv_ladd hx hb dX6_goTo_87 ?_
      refine rs_16 hC hR (by omega) dX6_goTo_88 (fun H locs hR => ?_)
      exact rr_vret hC hz hR (by unfold sp_goTo; rw [if_neg c_14, e18]; exact (if_pos c_62).symm) (by decide) (by decide) dX6_goTo_89
    · exact rr_vret hC hz hR (by unfold sp_goTo; rw [if_neg c_14, e18]; exact (if_neg c_62).symm) (by decide) (by decide) dX6_goTo_65
/-- how many classes there are from x up to the one that implements g -/
def s_len (S : rS) (g : Nat) : Nat → Nat → Nat
  | 0, _ => 1
  | _ + 1, 0 => 1
  | n + 1, c + 1 => if S.1 3 (6 * c + g) = -1 then s_len S g n (tn (S.1 2 c + 1)) + 1 else 1
theorem s_len_fuel {S : rS} {g nc : Nat} (h : s_par S nc) : ∀ n k x : Nat, x ≤ nc → x ≤ n → x ≤ k → s_len S g n x = s_len S g k x
  | n, k, 0, _, _, _ => by cases n <;> cases k <;> rfl
  | 0, k, c + 1, _, h1, _ => by omega
  | n + 1, 0, c + 1, _, _, h2 => by omega
  | n + 1, k + 1, c + 1, hx, h1, h2 => by
    unfold s_len
    obtain ⟨d, g1, g2⟩ := h.2 c (by omega)
    have h3 : tn (S.1 2 c + 1) = d := by rw [g2, nI_m1]; exact tn_nI (by have := h.1; omega)
    rw [h3, s_len_fuel h n k d (by omega) (by omega) (by omega)]
theorem s_len_le {S : rS} {g : Nat} : ∀ n x : Nat, s_len S g n x ≤ n + 1
  | 0, _ => by unfold s_len; omega
  | n + 1, 0 => by unfold s_len; omega
  | n + 1, c + 1 => by
    unfold s_len
    split
    · have := s_len_le (S := S) (g := g) n (tn (S.1 2 c + 1))
      omega
    · omega
set_option maxHeartbeats 4000000 in
set_option maxRecDepth 100000 in
theorem c6_length (l : Launch) (V : gV) (ad : gA) (S : rS) (x0 g nc : Nat) (hp : s_par S nc) (hx0 : x0 ≤ nc) (hg : g < 6) (hsome : s_upf S g 9 x0 ≠ 0) : rMi l yX6_length cX6_length 6 (some .int) ({ frames := 1, cells := 0, slots := 0, locals := 23 } : Room) [.int (nI x0 - 1), .int (nI g)] V ad S (fun r S' => r = nI (s_len S g 9 x0) ∧ S' = S) := by
  refine rMi.of (by decide) (Nat.le_of_ble_eq_true rfl) ?_
  intro p e s m_ below meth c ls E sz hC hz hR hl
  have hx := hC.1
  have hb := hC.2.1
  have hl : lv_has ls 6 [(0, .ref (ad 50 0 0)), (1, .int (nI x0 - 1)), (2, .int (nI g))] := hl
  have hnc := hp.1
  have hle := s_upf_le (g := g) hp 9 x0 hx0
  obtain ⟨u, hu⟩ : ∃ u, u = s_upf S g 9 x0 := ⟨_, rfl⟩
  rw [← hu] at hle hsome
  refine lv_aload_n hx hb dX6_length_0 rfl (lv_at hl 0 rfl) ?_
  refine lv_iload_n hx hb dX6_length_1 rfl (lv_at hl 1 rfl) ?_
  refine lv_iload_n hx hb dX6_length_2 rfl (lv_at hl 2 rfl) ?_
  refine rr_calli hC hR (c6_implementer l V ad _ x0 g nc hp hx0 hg) km_RX6_113 kn_yX6_implementer ks_yX6_implementer kz_RX6 kd_yX6_implementer dn_X6_implementer rfl hl.1 ⟨by decide, by decide⟩ (Nat.le_of_ble_eq_true rfl) ⟨by decide, by decide⟩ dX6_length_3 (fun r_3 S_3 H locs p_3 hR => ?_)
  obtain ⟨q_3, p_3⟩ := p_3
  rw [← hu] at q_3
  rw [p_3] at hR
  refine gq_top (nI u - 1) q_3 ?_
  refine lv_istore_n (lv' := [(3, .int (nI u - 1)), (0, .ref (ad 50 0 0)), (1, .int (nI x0 - 1)), (2, .int (nI g))]) hx hb dX6_length_6 rfl hl (by decide) rfl (fun ls hl => ?_)
  refine lv_iconst (v := (nI 1)) hx hb dX6_length_7 (by decide) ?_
  refine lv_istore (lv' := [(4, .int ((nI 1))), (3, .int (nI u - 1)), (0, .ref (ad 50 0 0)), (1, .int (nI x0 - 1)), (2, .int (nI g))]) hx hb dX6_length_8 hl (by decide) rfl (fun ls hl => ?_)
  refine lv_iload_n hx hb dX6_length_10 rfl (lv_at hl 3 rfl) ?_
  refine lv_istore (lv' := [(5, .int (nI x0 - 1)), (4, .int ((nI 1))), (3, .int (nI u - 1)), (0, .ref (ad 50 0 0)), (1, .int (nI x0 - 1)), (2, .int (nI g))]) hx hb dX6_length_11 hl (by decide) rfl (fun ls hl => ?_)
  refine g_loop (T := Nat × Nat) (fun x H locs ls => (x.1 ≤ nc ∧ s_upf S g 9 x.1 = u ∧ s_len S g 9 x0 + 1 = s_len S g 9 x.1 + x.2) ∧ rfW V (gAd ad E sz) s.heap ad E S H locs ∧ lv_has ls 6 [(5, .int (nI x.1 - 1)), (4, .int (nI x.2)), (3, .int (nI u - 1)), (0, .ref (ad 50 0 0)), (1, .int (nI x0 - 1)), (2, .int (nI g))]) (fun x => x.1) (fun x ih H locs ls hI => ?_) ((x0, 1)) ⟨⟨hx0, hu.symm, rfl⟩, hR, lv_sub hl [0, 1, 2, 3, 4, 5] rfl⟩
  obtain ⟨⟨hxn, hup, hln⟩, hR, hl⟩ := hI
  refine lv_iload hx hb dX6_length_13 (lv_at hl 0 rfl) ?_
  refine lv_iload_n hx hb dX6_length_15 rfl (lv_at hl 2 rfl) ?_
  refine lv_icmp_eq (tgt := 34) hx hb dX6_length_16 (by decide) (fun c_16 => ?_) (fun c_16 => ?_)
  · have hxu : x.1 = u := by
      have z := congrArg (fun t => t + 1) c_16
      rw [nI_m1, nI_m1] at z
      exact (nI_eq (by omega) (by omega)).mp z
    have hl1 : s_len S g 9 x.1 = 1 := by
      obtain ⟨y, hy⟩ : ∃ y, x.1 = y + 1 := ⟨x.1 - 1, by omega⟩
      rw [hy] at hup ⊢
      show (if S.1 3 (6 * y + g) = -1 then s_len S g 8 (tn (S.1 2 y + 1)) + 1 else 1) = 1
      by_cases z : S.1 3 (6 * y + g) = -1
      · exfalso
        obtain ⟨d, hd1, hd2⟩ := hp.2 y (by omega)
        have h3 : tn (S.1 2 y + 1) = d := by rw [hd2, nI_m1]; exact tn_nI (by omega)
        have h4 : (if S.1 3 (6 * y + g) = -1 then s_upf S g 8 (tn (S.1 2 y + 1)) else y + 1) = u := hup
        rw [if_pos z, h3] at h4
        have := s_upf_le (g := g) hp 8 d (by omega)
        omega
      · rw [if_neg z]
    refine lv_iload hx hb dX6_length_34 (lv_at hl 1 rfl) ?_
    exact rr_iret hC hz hR (⟨by rw [show s_len S g 9 x0 = x.2 by omega], rfl⟩) (by decide) (by decide) dX6_length_36
  · have hne : x.1 ≠ u := fun z => c_16 (by rw [z])
    obtain ⟨y, hy⟩ : ∃ y, x.1 = y + 1 := by
      rcases Nat.eq_zero_or_pos x.1 with z | z
      · exfalso
        rw [z] at hup
        exact hsome hup.symm
      · exact ⟨x.1 - 1, by omega⟩
    obtain ⟨d, hd1, hd2⟩ := hp.2 y (by omega)
    have h3 : tn (S.1 2 y + 1) = d := by rw [hd2, nI_m1]; exact tn_nI (by omega)
    have hno : S.1 3 (6 * y + g) = -1 := by
      refine Decidable.byContradiction fun z => hne ?_
      rw [← hup, hy]
      exact (if_neg z).symm
    have hup2 : s_upf S g 9 d = u := by
      rw [← hup, hy]
      show _ = (if S.1 3 (6 * y + g) = -1 then s_upf S g 8 (tn (S.1 2 y + 1)) else y + 1)
      rw [if_pos hno, h3]
      exact s_upf_fuel hp 9 8 d (by omega) (by omega) (by omega)
    have hln2 : s_len S g 9 x.1 = s_len S g 9 d + 1 := by
      rw [hy]
      show (if S.1 3 (6 * y + g) = -1 then s_len S g 8 (tn (S.1 2 y + 1)) + 1 else 1) = _
      rw [if_pos hno, h3, s_len_fuel hp 8 9 d (by omega) (by omega) (by omega)]
    refine lv_iinc (v := (nI (x.2 + 1))) (lv' := [(4, .int ((nI (x.2 + 1)))), (5, .int (nI x.1 - 1)), (3, .int (nI u - 1)), (0, .ref (ad 50 0 0)), (1, .int (nI x0 - 1)), (2, .int (nI g))]) hx hb dX6_length_19 hl (k := 1) rfl (nI_1 x.2) (by decide) rfl (fun ls hl => ?_)
    refine lv_aload_n hx hb dX6_length_22 rfl (lv_at hl 3 rfl) ?_
    refine rg_2 hC hR dX6_length_23 ?_
    refine lv_iload hx hb dX6_length_26 (lv_at hl 1 rfl) ?_
    refine gq_top (nI y) (by rw [hy]; exact nI_m1s y) ?_
    refine ra_2 hC hR (by omega) dX6_length_28 ?_
    refine gq_top (nI d - 1) (hd2) ?_
    refine lv_istore (lv' := [(5, .int (nI d - 1)), (4, .int ((nI (x.2 + 1)))), (3, .int (nI u - 1)), (0, .ref (ad 50 0 0)), (1, .int (nI x0 - 1)), (2, .int (nI g))]) hx hb dX6_length_29 hl (by decide) rfl (fun ls hl => ?_)
    refine lv_goto (tgt := 13) hx hb dX6_length_31 (by decide) ?_
    exact ih (d, x.2 + 1) (by show d < x.1; omega) _ _ _ ⟨⟨by show d ≤ nc; omega, hup2, by show s_len S g 9 x0 + 1 = s_len S g 9 d + (x.2 + 1); omega⟩, hR, lv_sub hl [0, 1, 2, 3, 4, 5] rfl⟩
