theorem rb_t {q : Prop} [Decidable q] (h : ¬ rb q = 0) : q := Decidable.byContradiction fun z => h (rb_0 z)
theorem rb_n {q : Prop} [Decidable q] (h : rb q = 0) : ¬ q := fun z => absurd ((rb_1 z).symm.trans h) (by decide)
abbrev s_isC (S : rS) (x : Int32) : Prop := ¬ x < 0 ∧ x < S.1 1 0
abbrev s_isM (S : rS) (x : Int32) : Prop := ¬ x < 0 ∧ x < S.1 4 0
def s_imr (S : rS) (c k : Nat) : rS := su S 3 (fun i => if 6 * c ≤ i ∧ i < 6 * c + k then -1 else S.1 3 i)
theorem s_imr_0 (S : rS) (c : Nat) : s_imr S c 0 = S := by
  unfold s_imr
  rw [up_rng0 (S.1 3) (6 * c) (fun _ => -1)]
  exact su_id S 3
theorem s_imr_1 (S : rS) (c k : Nat) : su (s_imr S c k) 3 (va_up ((s_imr S c k).1 3) (6 * c + k) (-1)) = s_imr S c (k + 1) := by
  have e1 : va_up ((s_imr S c k).1 3) (6 * c + k) (-1) = _ := up_rng (S.1 3) (6 * c) k (-1)
  rw [e1]
  unfold s_imr
  rw [su_ss]
def o_addClass (S : rS) (x : Int32) : Int32 × rS :=
  if x ≠ -1 ∧ ¬ s_isC S x then (0, su S 0 (fun _ => 1)) else if S.1 1 0 = 8 then (0, su S 0 (fun _ => 2))
  else (S.1 1 0, su (s_imr (su S 2 (va_up (S.1 2) (tn (S.1 1 0)) x)) (tn (S.1 1 0)) 6) 1 (fun _ => S.1 1 0 + 1))
def o_addMethod (S : rS) : Int32 × rS := if S.1 4 0 = 12 then (0, su S 0 (fun _ => 1)) else (S.1 4 0, su S 4 (fun _ => S.1 4 0 + 1))
set_option maxHeartbeats 4000000 in
set_option maxRecDepth 100000 in
theorem c6_addClass (l : Launch) (V : gV) (ad : gA) (S : rS) (nc nm : Nat) (hI : rI S nc nm) (x : Int32) : rMi l yX6_addClass cX6_addClass 3 (some .int) ({ frames := 1, cells := 0, slots := 0, locals := 21 } : Room) [.int x] V ad S (fun r S' => r = (o_addClass (su S 0 (fun _ => 0)) x).1 ∧ S' = (o_addClass (su S 0 (fun _ => 0)) x).2) := by
  refine rMi.of (by decide) (Nat.le_of_ble_eq_true rfl) ?_
  intro p e s m_ below meth c ls E sz hC hz hR hl
  have hx := hC.1
  have hb := hC.2.1
  have hl : lv_has ls 3 [(0, .ref (ad 50 0 0)), (1, .int x)] := hl
  have h1 := hI.1
  have hnc := hI.2.1.1
  have tc : tn (S.1 1 0) = nc := by rw [h1]; exact tn_nI (by omega)
  refine lv_aload_n hx hb dX6_addClass_0 rfl (lv_at hl 0 rfl) ?_
  refine lv_iconst (v := 0) hx hb dX6_addClass_1 (by decide) ?_
  refine rp_0 hC hR dX6_addClass_2 (fun H locs hR => ?_)
  refine g_cut (pc2 := 24) (fun H locs ls => ¬ (x ≠ -1 ∧ ¬ s_isC S x) ∧ rfW V (gAd ad E sz) s.heap ad E (su S 0 (fun _ => 0)) H locs ∧ lv_has ls 3 [(0, .ref (ad 50 0 0)), (1, .int x)]) (fun H locs ls hI => ?_) (fun k24 => ?_)
  · obtain ⟨hok, hR, hl⟩ := hI
    refine lv_aload_n hx hb dX6_addClass_24 rfl (lv_at hl 0 rfl) ?_
    refine rg_1 hC hR dX6_addClass_25 ?_
    refine lv_bipush (v := 8) hx hb dX6_addClass_28 (by decide) ?_
    refine lv_icmp_ne (tgt := 39) hx hb dX6_addClass_30 (by decide) (fun c_30 => ?_) (fun c_30 => ?_)
    · have hn8 : nc ≠ 8 := fun z => c_30 (by show S.1 1 0 = 8; rw [h1, z]; rfl)
      refine lv_aload_n hx hb dX6_addClass_39 rfl (lv_at hl 0 rfl) ?_
      refine rg_2 hC hR dX6_addClass_40 ?_
      refine lv_aload_n hx hb dX6_addClass_43 rfl (lv_at hl 0 rfl) ?_
      refine rg_1 hC hR dX6_addClass_44 ?_
      refine gq_top (nI nc) (h1) ?_
      refine lv_iload_n hx hb dX6_addClass_47 rfl (lv_at hl 1 rfl) ?_
      refine rs_2 hC hR (by omega) dX6_addClass_48 (fun H locs hR => ?_)
      refine lv_iconst (v := (nI 0)) hx hb dX6_addClass_49 (by decide) ?_
      refine lv_istore_n (lv' := [(2, .int ((nI 0))), (0, .ref (ad 50 0 0)), (1, .int x)]) hx hb dX6_addClass_50 rfl hl (by decide) rfl (fun ls hl => ?_)
      refine g_loop (T := Nat) (fun xx H locs ls => xx ≤ 6 ∧ rfW V (gAd ad E sz) s.heap ad E (s_imr (su (su S 0 (fun _ => 0)) 2 (va_up (S.1 2) nc x)) nc xx) H locs ∧ lv_has ls 3 [(2, .int (nI xx)), (0, .ref (ad 50 0 0)), (1, .int x)]) (fun xx => 6 - xx) (fun xx ih H locs ls hI => ?_) (0) ⟨by omega, by rw [s_imr_0]; exact hR, lv_sub hl [0, 1, 2] rfl⟩
      obtain ⟨hx6, hR, hl⟩ := hI
      refine lv_iload_n hx hb dX6_addClass_51 rfl (lv_at hl 0 rfl) ?_
      refine lv_bipush (v := (nI 6)) hx hb dX6_addClass_52 (by decide) ?_
      refine gn_icmp_ge (tgt := 78) hx hb (by omega) (by omega) dX6_addClass_54 (by decide) (fun c_54 => ?_) (fun c_54 => ?_)
      · rw [show xx = 6 by omega] at hR
        refine lv_aload_n hx hb dX6_addClass_78 rfl (lv_at hl 1 rfl) ?_
        refine lv_dup hx hb dX6_addClass_79 rfl ?_
        refine rg_1 hC hR dX6_addClass_80 ?_
        refine gq_top (nI nc) (h1) ?_
        refine lv_iconst (v := 1) hx hb dX6_addClass_83 (by decide) ?_
        refine lv_iadd hx hb dX6_addClass_84 ?_
        refine gq_top (nI (nc + 1)) (nI_1 nc) ?_
        refine rp_1 hC hR dX6_addClass_85 (fun H locs hR => ?_)
        refine lv_aload_n hx hb dX6_addClass_88 rfl (lv_at hl 1 rfl) ?_
        refine rg_1 hC hR dX6_addClass_89 ?_
        refine gq_top (nI (nc + 1)) (rfl) ?_
        refine lv_iconst (v := 1) hx hb dX6_addClass_92 (by decide) ?_
        refine lv_isub hx hb dX6_addClass_93 ?_
        refine gq_top (nI nc) (nI_pred nc) ?_
        exact rr_iret hC hz hR (by rw [show o_addClass (su S 0 (fun _ => 0)) x = _ from (if_neg hok).trans (if_neg c_30)]; show nI nc = S.1 1 0 ∧ _ = su (s_imr (su (su S 0 (fun _ => 0)) 2 (va_up (S.1 2) (tn (S.1 1 0)) x)) (tn (S.1 1 0)) 6) 1 (fun _ => S.1 1 0 + 1); rw [tc, h1, nI_1]; exact ⟨rfl, rfl⟩) (by decide) (by decide) dX6_addClass_94
      · refine lv_aload_n hx hb dX6_addClass_57 rfl (lv_at hl 1 rfl) ?_
        refine rg_3 hC hR dX6_addClass_58 ?_
        refine lv_bipush (v := 6) hx hb dX6_addClass_61 (by decide) ?_
        refine lv_aload_n hx hb dX6_addClass_63 rfl (lv_at hl 1 rfl) ?_
        refine rg_1 hC hR dX6_addClass_64 ?_
        refine gq_top (nI nc) (h1) ?_
        refine lv_imul hx hb dX6_addClass_67 ?_
        refine lv_iload_n hx hb dX6_addClass_68 rfl (lv_at hl 0 rfl) ?_
        refine lv_iadd hx hb dX6_addClass_69 ?_
        refine gq_top (nI (6 * nc + xx)) (by simp only [nl1, nl2, nl3, nl4, nl5, nl6, nl20, nl240, nI_mul, nI_add]) ?_
        refine lv_iconst (v := (-1)) hx hb dX6_addClass_70 (by decide) ?_
        refine rs_3 hC hR (by omega) dX6_addClass_71 (fun H locs hR => ?_)
        refine lv_iinc (v := (nI (xx + 1))) (lv' := [(2, .int ((nI (xx + 1)))), (0, .ref (ad 50 0 0)), (1, .int x)]) hx hb dX6_addClass_72 hl (k := 0) rfl (nI_1 xx) (by decide) rfl (fun ls hl => ?_)
        refine lv_goto (tgt := 51) hx hb dX6_addClass_75 (by decide) ?_
        exact ih (xx + 1) (by omega) _ _ _ ⟨by omega, by rw [← s_imr_1]; exact hR, lv_sub hl [0, 1, 2] rfl⟩
    · refine lv_aload_n hx hb dX6_addClass_33 rfl (lv_at hl 0 rfl) ?_
      refine lv_iconst (v := 2) hx hb dX6_addClass_34 (by decide) ?_
      refine rr_calli hC hR (c6_fail l V ad _ 2) km_RX6_86 kn_yX6_fail ks_yX6_fail kz_RX6 kd_yX6_fail dn_X6_fail rfl hl.1 ⟨by decide, by decide⟩ (Nat.le_of_ble_eq_true rfl) ⟨by decide, by decide⟩ dX6_addClass_35 (fun r_35 S_35 H locs p_35 hR => ?_)
      obtain ⟨q_35, p_35⟩ := p_35
      subst p_35
      rw [q_35]
      exact rr_iret hC hz hR (by rw [show o_addClass (su S 0 (fun _ => 0)) x = _ from (if_neg hok).trans (if_pos c_30)]; exact ⟨rfl, rfl⟩) (by decide) (by decide) dX6_addClass_38
  · refine lv_iload_n hx hb dX6_addClass_5 rfl (lv_at hl 1 rfl) ?_
    refine lv_iconst (v := (-1)) hx hb dX6_addClass_6 (by decide) ?_
    refine lv_icmp_eq (tgt := 24) hx hb dX6_addClass_7 (by decide) (fun c_7 => ?_) (fun c_7 => ?_)
    · refine k24 _ _ _ ⟨?_, hR, lv_sub hl [0, 1] rfl⟩
      first | exact fun z => z.1 c_7 | exact fun z => z.2 (rb_t c_15)
    · refine lv_aload_n hx hb dX6_addClass_10 rfl (lv_at hl 0 rfl) ?_
      refine lv_iload_n hx hb dX6_addClass_11 rfl (lv_at hl 1 rfl) ?_
      refine rr_calli hC hR (c6_isClass l V ad _ x) km_RX6_82 kn_yX6_isClass ks_yX6_isClass kz_RX6 kd_yX6_isClass dn_X6_isClass rfl hl.1 ⟨by decide, by decide⟩ (Nat.le_of_ble_eq_true rfl) ⟨by decide, by decide⟩ dX6_addClass_12 (fun r_12 S_12 H locs p_12 hR => ?_)
      obtain ⟨q_12, p_12⟩ := p_12
      rw [p_12] at hR
      refine gq_top (rb (s_isC S x)) q_12 ?_
      refine lv_if_ne (tgt := 24) hx hb dX6_addClass_15 (by decide) (fun c_15 => ?_) (fun c_15 => ?_)
      · refine k24 _ _ _ ⟨?_, hR, lv_sub hl [0, 1] rfl⟩
        first | exact fun z => z.1 c_7 | exact fun z => z.2 (rb_t c_15)
      · refine lv_aload_n hx hb dX6_addClass_18 rfl (lv_at hl 0 rfl) ?_
        refine lv_iconst (v := 1) hx hb dX6_addClass_19 (by decide) ?_
        refine rr_calli hC hR (c6_fail l V ad _ 1) km_RX6_86 kn_yX6_fail ks_yX6_fail kz_RX6 kd_yX6_fail dn_X6_fail rfl hl.1 ⟨by decide, by decide⟩ (Nat.le_of_ble_eq_true rfl) ⟨by decide, by decide⟩ dX6_addClass_20 (fun r_20 S_20 H locs p_20 hR => ?_)
        obtain ⟨q_20, p_20⟩ := p_20
        subst p_20
        rw [q_20]
        exact rr_iret hC hz hR (by rw [show o_addClass (su S 0 (fun _ => 0)) x = _ from if_pos ⟨c_7, rb_n c_15⟩]; exact ⟨rfl, rfl⟩) (by decide) (by decide) dX6_addClass_23
set_option maxHeartbeats 4000000 in
set_option maxRecDepth 100000 in
theorem c6_addMethod (l : Launch) (V : gV) (ad : gA) (S : rS) (nc nm : Nat) (hI : rI S nc nm) : rMi l yX6_addMethod cX6_addMethod 1 (some .int) ({ frames := 1, cells := 0, slots := 0, locals := 21 } : Room) [] V ad S (fun r S' => r = (o_addMethod (su S 0 (fun _ => 0))).1 ∧ S' = (o_addMethod (su S 0 (fun _ => 0))).2) := by
  refine rMi.of (by decide) (Nat.le_of_ble_eq_true rfl) ?_
  intro p e s m_ below meth c ls E sz hC hz hR hl
  have hx := hC.1
  have hb := hC.2.1
  have hl : lv_has ls 1 [(0, .ref (ad 50 0 0))] := hl
  have h4 := hI.2.2.1
  refine lv_aload_n hx hb dX6_addMethod_0 rfl (lv_at hl 0 rfl) ?_
  refine lv_iconst (v := 0) hx hb dX6_addMethod_1 (by decide) ?_
  refine rp_0 hC hR dX6_addMethod_2 (fun H locs hR => ?_)
  refine lv_aload_n hx hb dX6_addMethod_5 rfl (lv_at hl 0 rfl) ?_
  refine rg_4 hC hR dX6_addMethod_6 ?_
  refine lv_bipush (v := 12) hx hb dX6_addMethod_9 (by decide) ?_
  refine lv_icmp_ne (tgt := 20) hx hb dX6_addMethod_11 (by decide) (fun c_11 => ?_) (fun c_11 => ?_)
  · refine lv_aload_n hx hb dX6_addMethod_20 rfl (lv_at hl 0 rfl) ?_
    refine lv_dup hx hb dX6_addMethod_21 rfl ?_
    refine rg_4 hC hR dX6_addMethod_22 ?_
    refine gq_top (nI nm) (h4) ?_
    refine lv_iconst (v := 1) hx hb dX6_addMethod_25 (by decide) ?_
    refine lv_iadd hx hb dX6_addMethod_26 ?_
    refine gq_top (nI (nm + 1)) (nI_1 nm) ?_
    refine rp_4 hC hR dX6_addMethod_27 (fun H locs hR => ?_)
    refine lv_aload_n hx hb dX6_addMethod_30 rfl (lv_at hl 0 rfl) ?_
    refine rg_4 hC hR dX6_addMethod_31 ?_
    refine gq_top (nI (nm + 1)) (rfl) ?_
    refine lv_iconst (v := 1) hx hb dX6_addMethod_34 (by decide) ?_
    refine lv_isub hx hb dX6_addMethod_35 ?_
    refine gq_top (nI nm) (nI_pred nm) ?_
    exact rr_iret hC hz hR (by rw [show o_addMethod (su S 0 (fun _ => 0)) = _ from if_neg c_11]; show nI nm = S.1 4 0 ∧ _ = su (su S 0 (fun _ => 0)) 4 (fun _ => S.1 4 0 + 1); rw [h4, nI_1]; exact ⟨rfl, rfl⟩) (by decide) (by decide) dX6_addMethod_36
  · refine lv_aload_n hx hb dX6_addMethod_14 rfl (lv_at hl 0 rfl) ?_
    refine lv_iconst (v := 1) hx hb dX6_addMethod_15 (by decide) ?_
    refine rr_calli hC hR (c6_fail l V ad _ 1) km_RX6_86 kn_yX6_fail ks_yX6_fail kz_RX6 kd_yX6_fail dn_X6_fail rfl hl.1 ⟨by decide, by decide⟩ (Nat.le_of_ble_eq_true rfl) ⟨by decide, by decide⟩ dX6_addMethod_16 (fun r_16 S_16 H locs p_16 hR => ?_)
    obtain ⟨q_16, p_16⟩ := p_16
    subst p_16
    rw [q_16]
    exact rr_iret hC hz hR (by rw [show o_addMethod (su S 0 (fun _ => 0)) = _ from if_pos c_11]; exact ⟨rfl, rfl⟩) (by decide) (by decide) dX6_addMethod_19
abbrev s_rg (x : Int32) : Prop := ¬ x < 0 ∧ x < 4
abbrev s_sl (x : Int32) : Prop := ¬ x < 0 ∧ x < 6
abbrev s_pl (x : Int32) : Prop := ¬ x < 0 ∧ x ≤ 20
abbrev s_fit (S : rS) (k a b c d : Int32) : Prop := (k = 0 ∧ s_rg a) ∨ ((k = 1 ∨ k = 2 ∨ k = 3) ∧ s_rg a ∧ s_rg b ∧ s_rg c) ∨ (k = 4 ∧ s_rg a ∧ s_isC S b) ∨ (k = 5 ∧ s_rg a ∧ s_sl b ∧ s_rg c ∧ s_rg d) ∨ (k = 6 ∧ s_rg a ∧ s_rg b ∧ s_pl c) ∨ (k = 7 ∧ s_pl a) ∨ (k = 8 ∧ s_rg a)
