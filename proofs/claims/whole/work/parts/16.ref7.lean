/-- an instruction's own cost, and its count -/
def sp_pay (S : rS) (f : Nat) : rS := sl (su S 27 (fun _ => S.1 27 0 + 1)) 26 (fun _ => S.2 26 0 + (if S.1 20 f = 0 then 10 else if S.1 20 f = 1 then 4 else 1))
def s_int (S : rS) (f a b : Nat) : Prop := S.1 21 (4 * f + a) = -1 ∧ S.1 21 (4 * f + b) = -1
/-- the instruction at place q of m, running as f: what it does -/
def sp_less (S : rS) (f m q : Nat) : rS :=
  if S.1 21 (4 * f + tn (s_op S m q 1)) = -1 ∧ S.1 21 (4 * f + tn (s_op S m q 2)) = -1 then (if S.1 22 (4 * f + tn (s_op S m q 1)) < S.1 22 (4 * f + tn (s_op S m q 2)) then sp_goTo S f (s_op S m q 3) else s_nxt S f) else s_err S 1
def sp_calc (S : rS) (f m q : Nat) (v : Int32) : rS :=
  if S.1 21 (4 * f + tn (s_op S m q 2)) = -1 ∧ S.1 21 (4 * f + tn (s_op S m q 3)) = -1 then s_nxt (sp_put S f (tn (s_op S m q 1)) (-1) v) f else s_err S 1
def sp_ex (S : rS) (f m q : Nat) : Nat → rS
  | 0 => s_nxt (sp_put S f (tn (s_op S m q 1)) (-1) (s_op S m q 2)) f
  | 1 => sp_calc S f m q (S.1 22 (4 * f + tn (s_op S m q 2)) + S.1 22 (4 * f + tn (s_op S m q 3)))
  | 2 => sp_calc S f m q (S.1 22 (4 * f + tn (s_op S m q 2)) - S.1 22 (4 * f + tn (s_op S m q 3)))
  | 3 => sp_calc S f m q (S.1 22 (4 * f + tn (s_op S m q 2)) * S.1 22 (4 * f + tn (s_op S m q 3)))
  | 4 => s_nxt (sp_put S f (tn (s_op S m q 1)) (s_op S m q 2) 0) f
  | 5 => sp_send S f m q
  | 6 => sp_less S f m q
  | 7 => sp_goTo S f (s_op S m q 1)
  | _ => sp_finish S f (S.1 21 (4 * f + tn (s_op S m q 1))) (S.1 22 (4 * f + tn (s_op S m q 1)))
def sp_step (S : rS) (f : Nat) : rS := sp_ex (sp_pay S f) f (tn (S.1 18 f)) (tn (S.1 19 f)) (tn (s_op S (tn (S.1 18 f)) (tn (S.1 19 f)) 0))
set_option maxHeartbeats 4000000 in
set_option maxRecDepth 100000 in
theorem c6_doStep (l : Launch) (V : gV) (ad : gA) (S : rS) (f m q z nc nm : Nat) (hf : f < 20) (hI : rI S nc nm) (hF : rF S nc nm (f + 1)) (hm : m < 12) (h18 : S.1 18 f = nI m) (h19 : S.1 19 f = nI q) (h5 : S.1 5 m = nI z) (hz20 : z ≤ 20) (hqz : q < z) : rMv l yX6_doStep cX6_doStep 8 none ({ frames := 4, cells := 0, slots := 0, locals := 101 } : Room) [] V ad S (fun S' => S' = sp_step S f) := by
  refine rMv.of (by decide) (Nat.le_of_ble_eq_true rfl) ?_
  intro p e s m_ below meth c ls E sz hC hz hR hl
  have hx := hC.1
  have hb := hC.2.1
  have hl : lv_has ls 8 [(0, .ref (ad 50 0 0))] := hl
  have hI0 := hI
  have hr0 := hF.1
  have e18 : tn (S.1 18 f) = m := by rw [h18]; exact tn_nI (by omega)
  have e19 : tn (S.1 19 f) = q := by rw [h19]; exact tn_nI (by omega)
  have hcr0 : ∀ q, q < 240 → S.1 15 q = 0 ∨ S.1 15 q = 1 := fun q h => hI.2.2.2.2.2.2.2 q (by omega)
  have hcall0 : f ≠ 0 → ∃ m q a : Nat, m < 12 ∧ q < 20 ∧ a < 4 ∧ S.1 18 (f - 1) = nI m ∧ S.1 19 (f - 1) = nI q ∧ S.1 6 (5 * (20 * m + q) + 1) = nI a := by
    intro hf0
    obtain ⟨m1, q1, g1, g2, g3, g4, g5⟩ := hF.2.2.1 (f - 1) (by omega)
    obtain ⟨g6, g7⟩ := g5 (by omega)
    have hnm := hI.2.2.2.1
    obtain ⟨z1, k1, k2, -, k4⟩ := hI.2.2.2.2.2.1 m1 (by omega)
    rw [k2, tn_nI (by omega)] at g6
    obtain ⟨kk, j1, j2, ⟨a1, j3, j4, j5⟩, -⟩ := k4 q1 g6
    have j6 : kk = 5 := (nI_eq (by omega) (by decide)).mp (j2.symm.trans g7)
    exact ⟨m1, q1, a1, by omega, by omega, j5 (by omega), g3, g4, j3⟩
  obtain ⟨k, hk8, e0, ⟨a, ea, ha20, ha4⟩, hb_, hb4_, hb5, hc_, hc6, hd_⟩ : s_ins S nc (20 * m + q) := by
    obtain ⟨z1, k1, k2, -, k4⟩ := hI.2.2.2.2.2.1 m hm
    exact k4 q (by have := (nI_eq (by omega) (by omega)).mp (k2.symm.trans h5); omega)
  have ta : tn (s_op S m q 1) = a := by rw [show s_op S m q 1 = nI a from ea]; exact tn_nI (by omega)
  refine lv_aload_n hx hb dX6_doStep_0 rfl (lv_at hl 0 rfl) ?_
  refine rg_17 hC hR dX6_doStep_1 ?_
  refine gq_top (nI (f + 1)) (hr0) ?_
  refine lv_iconst (v := 1) hx hb dX6_doStep_4 (by decide) ?_
  refine lv_isub hx hb dX6_doStep_5 ?_
  refine gq_top (nI f) (nI_pred f) ?_
  refine lv_istore_n (lv' := [(1, .int (nI f)), (0, .ref (ad 50 0 0))]) hx hb dX6_doStep_6 rfl hl (by decide) rfl (fun ls hl => ?_)
  refine lv_aload_n hx hb dX6_doStep_7 rfl (lv_at hl 1 rfl) ?_
  refine rg_18 hC hR dX6_doStep_8 ?_
  refine lv_iload_n hx hb dX6_doStep_11 rfl (lv_at hl 0 rfl) ?_
  refine ra_18 hC hR (by omega) dX6_doStep_12 ?_
  refine gq_top (nI m) (h18) ?_
  refine lv_istore_n (lv' := [(2, .int (nI m)), (1, .int (nI f)), (0, .ref (ad 50 0 0))]) hx hb dX6_doStep_13 rfl hl (by decide) rfl (fun ls hl => ?_)
  refine lv_aload_n hx hb dX6_doStep_14 rfl (lv_at hl 2 rfl) ?_
  refine rg_19 hC hR dX6_doStep_15 ?_
  refine lv_iload_n hx hb dX6_doStep_18 rfl (lv_at hl 1 rfl) ?_
  refine ra_19 hC hR (by omega) dX6_doStep_19 ?_
  refine gq_top (nI q) (h19) ?_
  refine lv_istore_n (lv' := [(3, .int (nI q)), (2, .int (nI m)), (1, .int (nI f)), (0, .ref (ad 50 0 0))]) hx hb dX6_doStep_20 rfl hl (by decide) rfl (fun ls hl => ?_)
  refine lv_aload_n hx hb dX6_doStep_21 rfl (lv_at hl 3 rfl) ?_
  refine lv_iload_n hx hb dX6_doStep_22 rfl (lv_at hl 1 rfl) ?_
  refine lv_iload_n hx hb dX6_doStep_23 rfl (lv_at hl 0 rfl) ?_
  refine rr_calli hC hR (c6_kindAt l V ad _ m q z hm (by omega) h5 hz20) km_RX6_124 kn_yX6_kindAt ks_yX6_kindAt kz_RX6 kd_yX6_kindAt dn_X6_kindAt rfl hl.1 ⟨by decide, by decide⟩ (Nat.le_of_ble_eq_true rfl) ⟨by decide, by decide⟩ dX6_doStep_24 (fun r_24 S_24 H locs p_24 hR => ?_)
  obtain ⟨q_24, p_24⟩ := p_24
  rw [p_24] at hR
  rw [if_pos hqz] at q_24
  refine gq_top (nI k) (q_24.trans e0) ?_
  refine lv_istore (lv' := [(4, .int (nI k)), (3, .int (nI q)), (2, .int (nI m)), (1, .int (nI f)), (0, .ref (ad 50 0 0))]) hx hb dX6_doStep_27 hl (by decide) rfl (fun ls hl => ?_)
  refine lv_aload_n hx hb dX6_doStep_29 rfl (lv_at hl 4 rfl) ?_
  refine lv_iload_n hx hb dX6_doStep_30 rfl (lv_at hl 2 rfl) ?_
  refine lv_iload_n hx hb dX6_doStep_31 rfl (lv_at hl 1 rfl) ?_
  refine lv_iconst (v := (nI 1)) hx hb dX6_doStep_32 (by decide) ?_
  refine rr_calli hC hR (c6_operand l V ad _ m q 1 hm (by omega) (by omega)) km_RX6_127 kn_yX6_operand ks_yX6_operand kz_RX6 kd_yX6_operand dn_X6_operand rfl hl.1 ⟨by decide, by decide⟩ (Nat.le_of_ble_eq_true rfl) ⟨by decide, by decide⟩ dX6_doStep_33 (fun r_33 S_33 H locs p_33 hR => ?_)
  obtain ⟨q_33, p_33⟩ := p_33
  rw [p_33] at hR
  refine gq_top (s_op S m q 1) q_33 ?_
  refine lv_istore (lv' := [(5, .int (s_op S m q 1)), (4, .int (nI k)), (3, .int (nI q)), (2, .int (nI m)), (1, .int (nI f)), (0, .ref (ad 50 0 0))]) hx hb dX6_doStep_36 hl (by decide) rfl (fun ls hl => ?_)
  refine lv_aload_n hx hb dX6_doStep_38 rfl (lv_at hl 5 rfl) ?_
  refine lv_iload_n hx hb dX6_doStep_39 rfl (lv_at hl 3 rfl) ?_
  refine lv_iload_n hx hb dX6_doStep_40 rfl (lv_at hl 2 rfl) ?_
  refine lv_iconst (v := (nI 2)) hx hb dX6_doStep_41 (by decide) ?_
  refine rr_calli hC hR (c6_operand l V ad _ m q 2 hm (by omega) (by omega)) km_RX6_127 kn_yX6_operand ks_yX6_operand kz_RX6 kd_yX6_operand dn_X6_operand rfl hl.1 ⟨by decide, by decide⟩ (Nat.le_of_ble_eq_true rfl) ⟨by decide, by decide⟩ dX6_doStep_42 (fun r_42 S_42 H locs p_42 hR => ?_)
  obtain ⟨q_42, p_42⟩ := p_42
  rw [p_42] at hR
  refine gq_top (s_op S m q 2) q_42 ?_
  refine lv_istore (lv' := [(6, .int (s_op S m q 2)), (5, .int (s_op S m q 1)), (4, .int (nI k)), (3, .int (nI q)), (2, .int (nI m)), (1, .int (nI f)), (0, .ref (ad 50 0 0))]) hx hb dX6_doStep_45 hl (by decide) rfl (fun ls hl => ?_)
  refine lv_aload_n hx hb dX6_doStep_47 rfl (lv_at hl 6 rfl) ?_
  refine lv_iload_n hx hb dX6_doStep_48 rfl (lv_at hl 4 rfl) ?_
  refine lv_iload_n hx hb dX6_doStep_49 rfl (lv_at hl 3 rfl) ?_
  refine lv_iconst (v := (nI 3)) hx hb dX6_doStep_50 (by decide) ?_
  refine rr_calli hC hR (c6_operand l V ad _ m q 3 hm (by omega) (by omega)) km_RX6_127 kn_yX6_operand ks_yX6_operand kz_RX6 kd_yX6_operand dn_X6_operand rfl hl.1 ⟨by decide, by decide⟩ (Nat.le_of_ble_eq_true rfl) ⟨by decide, by decide⟩ dX6_doStep_51 (fun r_51 S_51 H locs p_51 hR => ?_)
  obtain ⟨q_51, p_51⟩ := p_51
  rw [p_51] at hR
  refine gq_top (s_op S m q 3) q_51 ?_
  refine lv_istore (lv' := [(7, .int (s_op S m q 3)), (6, .int (s_op S m q 2)), (5, .int (s_op S m q 1)), (4, .int (nI k)), (3, .int (nI q)), (2, .int (nI m)), (1, .int (nI f)), (0, .ref (ad 50 0 0))]) hx hb dX6_doStep_54 hl (by decide) rfl (fun ls hl => ?_)
  refine g_cut (pc2 := 107) (fun H locs ls => rfW V (gAd ad E sz) s.heap ad E (sp_pay S f) H locs ∧ lv_has ls 8 [(7, .int (s_op S m q 3)), (6, .int (s_op S m q 2)), (5, .int (s_op S m q 1)), (4, .int (nI k)), (3, .int (nI q)), (2, .int (nI m)), (1, .int (nI f)), (0, .ref (ad 50 0 0))]) (fun H locs ls hI => ?_) (fun k107 => ?_)
  · obtain ⟨hR, hl⟩ := hI
    obtain ⟨S1, hS1⟩ : ∃ S1, S1 = sp_pay S f := ⟨_, rfl⟩
    have hI1 : rI S1 nc nm := by rw [hS1]; exact hI0
    have hr : S1.1 17 0 = nI (f + 1) := by rw [hS1]; exact hr0
    have hcr : ∀ q, q < 240 → S1.1 15 q = 0 ∨ S1.1 15 q = 1 := by rw [hS1]; exact hcr0
    have hcall : f ≠ 0 → ∃ m q a : Nat, m < 12 ∧ q < 20 ∧ a < 4 ∧ S1.1 18 (f - 1) = nI m ∧ S1.1 19 (f - 1) = nI q ∧ S1.1 6 (5 * (20 * m + q) + 1) = nI a := by rw [hS1]; exact hcall0
    have h18 : S1.1 18 f = nI m := by rw [hS1]; exact h18
    have eop : ∀ j, s_op S1 m q j = s_op S m q j := fun j => by rw [hS1]; rfl
    have ta : tn (s_op S1 m q 1) = a := by rw [eop]; exact ta
    have hreg : ∀ g, g < 4 → ∃ x, x ≤ nc ∧ S1.1 21 (4 * f + g) = nI x - 1 := fun g hg => by
      obtain ⟨x, h1, h2, -⟩ := hF.2.2.2 f g (by omega) hg
      exact ⟨x, h1, by rw [hS1]; exact h2⟩
    rw [← hS1] at hR
    have hkk : k = 0 ∨ k = 1 ∨ k = 2 ∨ k = 3 ∨ k = 4 ∨ k = 5 ∨ k = 6 ∨ k = 7 ∨ k = 8 := by omega
    rcases hkk with hkk | hkk | hkk | hkk | hkk | hkk | hkk | hkk | hkk <;> subst hkk
    · have hk : tn (s_op S m q 0) = 0 := by rw [show s_op S m q 0 = nI 0 from e0]; rfl
      have hfin : ∀ S2, S2 = sp_ex S1 f m q 0 → S2 = sp_step S f := fun S2 z => by unfold sp_step; rw [e18, e19, hk]; rw [hS1] at z; exact z
      have ha : a < 4 := ha4 (by decide)
      refine lv_iload hx hb dX6_doStep_107 (lv_at hl 3 rfl) ?_
      refine lv_iconst (v := 5) hx hb dX6_doStep_109 (by decide) ?_
      refine lv_icmp_ne (tgt := 122) hx hb dX6_doStep_110 (by decide) (fun c_110 => ?_) (fun c_110 => absurd c_110 (by decide))
      refine lv_iload hx hb dX6_doStep_122 (lv_at hl 3 rfl) ?_
      refine lv_bipush (v := 7) hx hb dX6_doStep_124 (by decide) ?_
      refine lv_icmp_ne (tgt := 138) hx hb dX6_doStep_126 (by decide) (fun c_126 => ?_) (fun c_126 => absurd c_126 (by decide))
      refine lv_iload hx hb dX6_doStep_138 (lv_at hl 3 rfl) ?_
      refine lv_bipush (v := 8) hx hb dX6_doStep_140 (by decide) ?_
      refine lv_icmp_ne (tgt := 164) hx hb dX6_doStep_142 (by decide) (fun c_142 => ?_) (fun c_142 => absurd c_142 (by decide))
      refine lv_iload hx hb dX6_doStep_164 (lv_at hl 3 rfl) ?_
      refine lv_bipush (v := 6) hx hb dX6_doStep_166 (by decide) ?_
      refine lv_icmp_ne (tgt := 227) hx hb dX6_doStep_168 (by decide) (fun c_168 => ?_) (fun c_168 => absurd c_168 (by decide))
      refine lv_iload hx hb dX6_doStep_227 (lv_at hl 3 rfl) ?_
      refine lv_iconst (v := 1) hx hb dX6_doStep_229 (by decide) ?_
      refine lv_icmp_lt (tgt := 258) hx hb dX6_doStep_230 (by decide) (fun c_230 => ?_) (fun c_230 => absurd (by decide) c_230)
      refine lv_iload hx hb dX6_doStep_258 (lv_at hl 3 rfl) ?_
      refine lv_if_ne (tgt := 273) hx hb dX6_doStep_260 (by decide) (fun c_260 => absurd (by decide) c_260) (fun c_260 => ?_)
      refine lv_aload_n hx hb dX6_doStep_263 rfl (lv_at hl 7 rfl) ?_
      refine lv_iload_n hx hb dX6_doStep_264 rfl (lv_at hl 6 rfl) ?_
      refine lv_iload hx hb dX6_doStep_265 (lv_at hl 2 rfl) ?_
      refine gq_top (nI a) (ea) ?_
      refine lv_iconst (v := (-1)) hx hb dX6_doStep_267 (by decide) ?_
      refine lv_iload hx hb dX6_doStep_268 (lv_at hl 1 rfl) ?_
      refine rr_callv hC hR (c6_put l V ad _ (f) (a) (by omega) (by omega) (-1) (s_op S m q 2)) km_RX6_148 kn_yX6_put ks_yX6_put kz_RX6 kd_yX6_put dn_X6_put rfl hl.1 ⟨by decide, by decide⟩ (Nat.le_of_ble_eq_true rfl) ⟨by decide, by decide⟩ dX6_doStep_270 (fun S_270 H locs p_270 hR => ?_)
      subst p_270
      refine lv_iload hx hb dX6_doStep_273 (lv_at hl 3 rfl) ?_
      refine lv_iconst (v := 4) hx hb dX6_doStep_275 (by decide) ?_
      refine lv_icmp_ne (tgt := 289) hx hb dX6_doStep_276 (by decide) (fun c_276 => ?_) (fun c_276 => absurd c_276 (by decide))
      refine lv_iload hx hb dX6_doStep_289 (lv_at hl 3 rfl) ?_
      refine lv_iconst (v := 1) hx hb dX6_doStep_291 (by decide) ?_
      refine lv_icmp_ne (tgt := 316) hx hb dX6_doStep_292 (by decide) (fun c_292 => ?_) (fun c_292 => absurd c_292 (by decide))
      refine lv_iload hx hb dX6_doStep_316 (lv_at hl 3 rfl) ?_
      refine lv_iconst (v := 2) hx hb dX6_doStep_318 (by decide) ?_
      refine lv_icmp_ne (tgt := 343) hx hb dX6_doStep_319 (by decide) (fun c_319 => ?_) (fun c_319 => absurd c_319 (by decide))
      refine lv_iload hx hb dX6_doStep_343 (lv_at hl 3 rfl) ?_
      refine lv_iconst (v := 3) hx hb dX6_doStep_345 (by decide) ?_
      refine lv_icmp_ne (tgt := 370) hx hb dX6_doStep_346 (by decide) (fun c_346 => ?_) (fun c_346 => absurd c_346 (by decide))
      refine lv_aload_n hx hb dX6_doStep_370 rfl (lv_at hl 7 rfl) ?_
      refine rg_19 hC hR dX6_doStep_371 ?_
      refine lv_iload_n hx hb dX6_doStep_374 rfl (lv_at hl 6 rfl) ?_
      refine lv_dup2_11 hx hb dX6_doStep_375 rfl rfl ?_
      refine ra_19 hC hR (by omega) dX6_doStep_376 ?_
      refine lv_iconst (v := 1) hx hb dX6_doStep_377 (by decide) ?_
      refine lv_iadd hx hb dX6_doStep_378 ?_
      refine rs_19 hC hR (by omega) dX6_doStep_379 (fun H locs hR => ?_)
      exact rr_vret hC hz hR (hfin _ (by show _ = s_nxt (sp_put S1 f (tn (s_op S1 m q 1)) (-1) (s_op S1 m q 2)) f; rw [ta, eop]; rfl)) (by decide) (by decide) dX6_doStep_380
    · have hk : tn (s_op S m q 0) = 1 := by rw [show s_op S m q 0 = nI 1 from e0]; rfl
      have hfin : ∀ S2, S2 = sp_ex S1 f m q 1 → S2 = sp_step S f := fun S2 z => by unfold sp_step; rw [e18, e19, hk]; rw [hS1] at z; exact z
      have ha : a < 4 := ha4 (by decide)
      obtain ⟨b, hb4, eb⟩ := hb_ (by decide)
      have tb : tn (s_op S1 m q 2) = b := by rw [eop, show s_op S m q 2 = nI b from eb]; exact tn_nI (by omega)
      obtain ⟨c_, hc4, ec⟩ := hc_ (by decide)
      have tc : tn (s_op S1 m q 3) = c_ := by rw [eop, show s_op S m q 3 = nI c_ from ec]; exact tn_nI (by omega)
      refine lv_iload hx hb dX6_doStep_107 (lv_at hl 3 rfl) ?_
      refine lv_iconst (v := 5) hx hb dX6_doStep_109 (by decide) ?_
      refine lv_icmp_ne (tgt := 122) hx hb dX6_doStep_110 (by decide) (fun c_110 => ?_) (fun c_110 => absurd c_110 (by decide))
      refine lv_iload hx hb dX6_doStep_122 (lv_at hl 3 rfl) ?_
      refine lv_bipush (v := 7) hx hb dX6_doStep_124 (by decide) ?_
      refine lv_icmp_ne (tgt := 138) hx hb dX6_doStep_126 (by decide) (fun c_126 => ?_) (fun c_126 => absurd c_126 (by decide))
      refine lv_iload hx hb dX6_doStep_138 (lv_at hl 3 rfl) ?_
      refine lv_bipush (v := 8) hx hb dX6_doStep_140 (by decide) ?_
      refine lv_icmp_ne (tgt := 164) hx hb dX6_doStep_142 (by decide) (fun c_142 => ?_) (fun c_142 => absurd c_142 (by decide))
      refine lv_iload hx hb dX6_doStep_164 (lv_at hl 3 rfl) ?_
      refine lv_bipush (v := 6) hx hb dX6_doStep_166 (by decide) ?_
      refine lv_icmp_ne (tgt := 227) hx hb dX6_doStep_168 (by decide) (fun c_168 => ?_) (fun c_168 => absurd c_168 (by decide))
      refine lv_iload hx hb dX6_doStep_227 (lv_at hl 3 rfl) ?_
      refine lv_iconst (v := 1) hx hb dX6_doStep_229 (by decide) ?_
      refine lv_icmp_lt (tgt := 258) hx hb dX6_doStep_230 (by decide) (fun c_230 => absurd c_230 (by decide)) (fun c_230 => ?_)
      refine lv_iload hx hb dX6_doStep_233 (lv_at hl 3 rfl) ?_
      refine lv_iconst (v := 3) hx hb dX6_doStep_235 (by decide) ?_
      refine lv_icmp_gt (tgt := 258) hx hb dX6_doStep_236 (by decide) (fun c_236 => absurd c_236 (by decide)) (fun c_236 => ?_)
      refine lv_aload_n hx hb dX6_doStep_239 rfl (lv_at hl 7 rfl) ?_
      refine lv_iload hx hb dX6_doStep_240 (lv_at hl 1 rfl) ?_
      refine gq_top (nI b) (eb) ?_
      refine lv_iload hx hb dX6_doStep_242 (lv_at hl 0 rfl) ?_
      refine gq_top (nI c_) (ec) ?_
      refine rr_calli hC hR (c6_areInts l V ad _ f hf hr (b) (c_) (by omega) (by omega)) km_RX6_205 kn_yX6_areInts ks_yX6_areInts kz_RX6 kd_yX6_areInts dn_X6_areInts rfl hl.1 ⟨by decide, by decide⟩ (Nat.le_of_ble_eq_true rfl) ⟨by decide, by decide⟩ dX6_doStep_244 (fun r_244 S_244 H locs p_244 hR => ?_)
      obtain ⟨q_244, p_244⟩ := p_244
      rw [p_244] at hR
      refine gq_top (rb (S1.1 21 (4 * f + b) = -1 ∧ S1.1 21 (4 * f + c_) = -1)) q_244 ?_
      refine lv_if_ne (tgt := 258) hx hb dX6_doStep_247 (by decide) (fun c_247 => ?_) (fun c_247 => ?_)
      · have hin2 : S1.1 21 (4 * f + b) = -1 ∧ S1.1 21 (4 * f + c_) = -1 := Decidable.byContradiction fun z => c_247 (rb_0 z)
        refine lv_iload hx hb dX6_doStep_258 (lv_at hl 3 rfl) ?_
        refine lv_if_ne (tgt := 273) hx hb dX6_doStep_260 (by decide) (fun c_260 => ?_) (fun c_260 => absurd c_260 (by decide))
        refine lv_iload hx hb dX6_doStep_273 (lv_at hl 3 rfl) ?_
        refine lv_iconst (v := 4) hx hb dX6_doStep_275 (by decide) ?_
        refine lv_icmp_ne (tgt := 289) hx hb dX6_doStep_276 (by decide) (fun c_276 => ?_) (fun c_276 => absurd c_276 (by decide))
        refine lv_iload hx hb dX6_doStep_289 (lv_at hl 3 rfl) ?_
        refine lv_iconst (v := 1) hx hb dX6_doStep_291 (by decide) ?_
        refine lv_icmp_ne (tgt := 316) hx hb dX6_doStep_292 (by decide) (fun c_292 => absurd (by decide) c_292) (fun c_292 => ?_)
        refine lv_aload_n hx hb dX6_doStep_295 rfl (lv_at hl 7 rfl) ?_
        refine lv_iload_n hx hb dX6_doStep_296 rfl (lv_at hl 6 rfl) ?_
        refine lv_iload hx hb dX6_doStep_297 (lv_at hl 2 rfl) ?_
        refine gq_top (nI a) (ea) ?_
        refine lv_iconst (v := (-1)) hx hb dX6_doStep_299 (by decide) ?_
        refine lv_aload_n hx hb dX6_doStep_300 rfl (lv_at hl 7 rfl) ?_
        refine lv_iload hx hb dX6_doStep_301 (lv_at hl 1 rfl) ?_
        refine gq_top (nI b) (eb) ?_
        refine rr_calli hC hR (c6_valueOf l V ad _ f hf hr (b) (by omega)) km_RX6_182 kn_yX6_valueOf ks_yX6_valueOf kz_RX6 kd_yX6_valueOf dn_X6_valueOf rfl hl.1 ⟨by decide, by decide⟩ (Nat.le_of_ble_eq_true rfl) ⟨by decide, by decide⟩ dX6_doStep_303 (fun r_303 S_303 H locs p_303 hR => ?_)
        obtain ⟨q_303, p_303⟩ := p_303
        rw [p_303] at hR
        refine gq_top (S1.1 22 (4 * f + b)) q_303 ?_
        refine lv_aload_n hx hb dX6_doStep_306 rfl (lv_at hl 7 rfl) ?_
        refine lv_iload hx hb dX6_doStep_307 (lv_at hl 0 rfl) ?_
        refine gq_top (nI c_) (ec) ?_
        refine rr_calli hC hR (c6_valueOf l V ad _ f hf hr (c_) (by omega)) km_RX6_182 kn_yX6_valueOf ks_yX6_valueOf kz_RX6 kd_yX6_valueOf dn_X6_valueOf rfl hl.1 ⟨by decide, by decide⟩ (Nat.le_of_ble_eq_true rfl) ⟨by decide, by decide⟩ dX6_doStep_309 (fun r_309 S_309 H locs p_309 hR => ?_)
        obtain ⟨q_309, p_309⟩ := p_309
        rw [p_309] at hR
        refine gq_top (S1.1 22 (4 * f + c_)) q_309 ?_
        refine lv_iadd hx hb dX6_doStep_312 ?_
        refine rr_callv hC hR (c6_put l V ad _ (f) (a) (by omega) (by omega) (-1) (S1.1 22 (4 * f + b) + S1.1 22 (4 * f + c_))) km_RX6_148 kn_yX6_put ks_yX6_put kz_RX6 kd_yX6_put dn_X6_put rfl hl.1 ⟨by decide, by decide⟩ (Nat.le_of_ble_eq_true rfl) ⟨by decide, by decide⟩ dX6_doStep_313 (fun S_313 H locs p_313 hR => ?_)
        subst p_313
        refine lv_iload hx hb dX6_doStep_316 (lv_at hl 3 rfl) ?_
        refine lv_iconst (v := 2) hx hb dX6_doStep_318 (by decide) ?_
        refine lv_icmp_ne (tgt := 343) hx hb dX6_doStep_319 (by decide) (fun c_319 => ?_) (fun c_319 => absurd c_319 (by decide))
        refine lv_iload hx hb dX6_doStep_343 (lv_at hl 3 rfl) ?_
        refine lv_iconst (v := 3) hx hb dX6_doStep_345 (by decide) ?_
        refine lv_icmp_ne (tgt := 370) hx hb dX6_doStep_346 (by decide) (fun c_346 => ?_) (fun c_346 => absurd c_346 (by decide))
        refine lv_aload_n hx hb dX6_doStep_370 rfl (lv_at hl 7 rfl) ?_
        refine rg_19 hC hR dX6_doStep_371 ?_
        refine lv_iload_n hx hb dX6_doStep_374 rfl (lv_at hl 6 rfl) ?_
        refine lv_dup2_11 hx hb dX6_doStep_375 rfl rfl ?_
        refine ra_19 hC hR (by omega) dX6_doStep_376 ?_
        refine lv_iconst (v := 1) hx hb dX6_doStep_377 (by decide) ?_
        refine lv_iadd hx hb dX6_doStep_378 ?_
        refine rs_19 hC hR (by omega) dX6_doStep_379 (fun H locs hR => ?_)
        exact rr_vret hC hz hR (hfin _ (by show _ = sp_calc S1 f m q _; unfold sp_calc; rw [ta, tb, tc]; first | exact (if_neg hni).symm | exact (if_pos hin2).symm)) (by decide) (by decide) dX6_doStep_380
      · have hni : ¬ (S1.1 21 (4 * f + b) = -1 ∧ S1.1 21 (4 * f + c_) = -1) := fun z => absurd (rb_1 z) (by rw [c_247]; decide)
        refine lv_aload_n hx hb dX6_doStep_250 rfl (lv_at hl 7 rfl) ?_
        refine lv_iconst (v := 1) hx hb dX6_doStep_251 (by decide) ?_
        refine rp_25 hC hR dX6_doStep_252 (fun H locs hR => ?_)
        refine lv_goto (tgt := 380) hx hb dX6_doStep_255 (by decide) ?_
        exact rr_vret hC hz hR (hfin _ (by show _ = sp_calc S1 f m q _; unfold sp_calc; rw [ta, tb, tc]; first | exact (if_neg hni).symm | exact (if_pos hin2).symm)) (by decide) (by decide) dX6_doStep_380
    · have hk : tn (s_op S m q 0) = 2 := by rw [show s_op S m q 0 = nI 2 from e0]; rfl
      have hfin : ∀ S2, S2 = sp_ex S1 f m q 2 → S2 = sp_step S f := fun S2 z => by unfold sp_step; rw [e18, e19, hk]; rw [hS1] at z; exact z
      have ha : a < 4 := ha4 (by decide)
      obtain ⟨b, hb4, eb⟩ := hb_ (by decide)
      have tb : tn (s_op S1 m q 2) = b := by rw [eop, show s_op S m q 2 = nI b from eb]; exact tn_nI (by omega)
      obtain ⟨c_, hc4, ec⟩ := hc_ (by decide)
      have tc : tn (s_op S1 m q 3) = c_ := by rw [eop, show s_op S m q 3 = nI c_ from ec]; exact tn_nI (by omega)
      refine lv_iload hx hb dX6_doStep_107 (lv_at hl 3 rfl) ?_
      refine lv_iconst (v := 5) hx hb dX6_doStep_109 (by decide) ?_
      refine lv_icmp_ne (tgt := 122) hx hb dX6_doStep_110 (by decide) (fun c_110 => ?_) (fun c_110 => absurd c_110 (by decide))
      refine lv_iload hx hb dX6_doStep_122 (lv_at hl 3 rfl) ?_
      refine lv_bipush (v := 7) hx hb dX6_doStep_124 (by decide) ?_
      refine lv_icmp_ne (tgt := 138) hx hb dX6_doStep_126 (by decide) (fun c_126 => ?_) (fun c_126 => absurd c_126 (by decide))
      refine lv_iload hx hb dX6_doStep_138 (lv_at hl 3 rfl) ?_
      refine lv_bipush (v := 8) hx hb dX6_doStep_140 (by decide) ?_
      refine lv_icmp_ne (tgt := 164) hx hb dX6_doStep_142 (by decide) (fun c_142 => ?_) (fun c_142 => absurd c_142 (by decide))
      refine lv_iload hx hb dX6_doStep_164 (lv_at hl 3 rfl) ?_
      refine lv_bipush (v := 6) hx hb dX6_doStep_166 (by decide) ?_
      refine lv_icmp_ne (tgt := 227) hx hb dX6_doStep_168 (by decide) (fun c_168 => ?_) (fun c_168 => absurd c_168 (by decide))
      refine lv_iload hx hb dX6_doStep_227 (lv_at hl 3 rfl) ?_
      refine lv_iconst (v := 1) hx hb dX6_doStep_229 (by decide) ?_
      refine lv_icmp_lt (tgt := 258) hx hb dX6_doStep_230 (by decide) (fun c_230 => absurd c_230 (by decide)) (fun c_230 => ?_)
      refine lv_iload hx hb dX6_doStep_233 (lv_at hl 3 rfl) ?_
      refine lv_iconst (v := 3) hx hb dX6_doStep_235 (by decide) ?_
      refine lv_icmp_gt (tgt := 258) hx hb dX6_doStep_236 (by decide) (fun c_236 => absurd c_236 (by decide)) (fun c_236 => ?_)
      refine lv_aload_n hx hb dX6_doStep_239 rfl (lv_at hl 7 rfl) ?_
      refine lv_iload hx hb dX6_doStep_240 (lv_at hl 1 rfl) ?_
      refine gq_top (nI b) (eb) ?_
      refine lv_iload hx hb dX6_doStep_242 (lv_at hl 0 rfl) ?_
      refine gq_top (nI c_) (ec) ?_
      refine rr_calli hC hR (c6_areInts l V ad _ f hf hr (b) (c_) (by omega) (by omega)) km_RX6_205 kn_yX6_areInts ks_yX6_areInts kz_RX6 kd_yX6_areInts dn_X6_areInts rfl hl.1 ⟨by decide, by decide⟩ (Nat.le_of_ble_eq_true rfl) ⟨by decide, by decide⟩ dX6_doStep_244 (fun r_244 S_244 H locs p_244 hR => ?_)
      obtain ⟨q_244, p_244⟩ := p_244
      rw [p_244] at hR
      refine gq_top (rb (S1.1 21 (4 * f + b) = -1 ∧ S1.1 21 (4 * f + c_) = -1)) q_244 ?_
      refine lv_if_ne (tgt := 258) hx hb dX6_doStep_247 (by decide) (fun c_247 => ?_) (fun c_247 => ?_)
      · have hin2 : S1.1 21 (4 * f + b) = -1 ∧ S1.1 21 (4 * f + c_) = -1 := Decidable.byContradiction fun z => c_247 (rb_0 z)
        refine lv_iload hx hb dX6_doStep_258 (lv_at hl 3 rfl) ?_
        refine lv_if_ne (tgt := 273) hx hb dX6_doStep_260 (by decide) (fun c_260 => ?_) (fun c_260 => absurd c_260 (by decide))
        refine lv_iload hx hb dX6_doStep_273 (lv_at hl 3 rfl) ?_
        refine lv_iconst (v := 4) hx hb dX6_doStep_275 (by decide) ?_
        refine lv_icmp_ne (tgt := 289) hx hb dX6_doStep_276 (by decide) (fun c_276 => ?_) (fun c_276 => absurd c_276 (by decide))
        refine lv_iload hx hb dX6_doStep_289 (lv_at hl 3 rfl) ?_
        refine lv_iconst (v := 1) hx hb dX6_doStep_291 (by decide) ?_
        refine lv_icmp_ne (tgt := 316) hx hb dX6_doStep_292 (by decide) (fun c_292 => ?_) (fun c_292 => absurd c_292 (by decide))
        refine lv_iload hx hb dX6_doStep_316 (lv_at hl 3 rfl) ?_
        refine lv_iconst (v := 2) hx hb dX6_doStep_318 (by decide) ?_
        refine lv_icmp_ne (tgt := 343) hx hb dX6_doStep_319 (by decide) (fun c_319 => absurd (by decide) c_319) (fun c_319 => ?_)
        refine lv_aload_n hx hb dX6_doStep_322 rfl (lv_at hl 7 rfl) ?_
        refine lv_iload_n hx hb dX6_doStep_323 rfl (lv_at hl 6 rfl) ?_
        refine lv_iload hx hb dX6_doStep_324 (lv_at hl 2 rfl) ?_
        refine gq_top (nI a) (ea) ?_
        refine lv_iconst (v := (-1)) hx hb dX6_doStep_326 (by decide) ?_
        refine lv_aload_n hx hb dX6_doStep_327 rfl (lv_at hl 7 rfl) ?_
        refine lv_iload hx hb dX6_doStep_328 (lv_at hl 1 rfl) ?_
        refine gq_top (nI b) (eb) ?_
        refine rr_calli hC hR (c6_valueOf l V ad _ f hf hr (b) (by omega)) km_RX6_182 kn_yX6_valueOf ks_yX6_valueOf kz_RX6 kd_yX6_valueOf dn_X6_valueOf rfl hl.1 ⟨by decide, by decide⟩ (Nat.le_of_ble_eq_true rfl) ⟨by decide, by decide⟩ dX6_doStep_330 (fun r_330 S_330 H locs p_330 hR => ?_)
        obtain ⟨q_330, p_330⟩ := p_330
        rw [p_330] at hR
        refine gq_top (S1.1 22 (4 * f + b)) q_330 ?_
        refine lv_aload_n hx hb dX6_doStep_333 rfl (lv_at hl 7 rfl) ?_
        refine lv_iload hx hb dX6_doStep_334 (lv_at hl 0 rfl) ?_
        refine gq_top (nI c_) (ec) ?_
        refine rr_calli hC hR (c6_valueOf l V ad _ f hf hr (c_) (by omega)) km_RX6_182 kn_yX6_valueOf ks_yX6_valueOf kz_RX6 kd_yX6_valueOf dn_X6_valueOf rfl hl.1 ⟨by decide, by decide⟩ (Nat.le_of_ble_eq_true rfl) ⟨by decide, by decide⟩ dX6_doStep_336 (fun r_336 S_336 H locs p_336 hR => ?_)
        obtain ⟨q_336, p_336⟩ := p_336
        rw [p_336] at hR
        refine gq_top (S1.1 22 (4 * f + c_)) q_336 ?_
        refine lv_isub hx hb dX6_doStep_339 ?_
        refine rr_callv hC hR (c6_put l V ad _ (f) (a) (by omega) (by omega) (-1) (S1.1 22 (4 * f + b) - S1.1 22 (4 * f + c_))) km_RX6_148 kn_yX6_put ks_yX6_put kz_RX6 kd_yX6_put dn_X6_put rfl hl.1 ⟨by decide, by decide⟩ (Nat.le_of_ble_eq_true rfl) ⟨by decide, by decide⟩ dX6_doStep_340 (fun S_340 H locs p_340 hR => ?_)
        subst p_340
        refine lv_iload hx hb dX6_doStep_343 (lv_at hl 3 rfl) ?_
        refine lv_iconst (v := 3) hx hb dX6_doStep_345 (by decide) ?_
        refine lv_icmp_ne (tgt := 370) hx hb dX6_doStep_346 (by decide) (fun c_346 => ?_) (fun c_346 => absurd c_346 (by decide))
        refine lv_aload_n hx hb dX6_doStep_370 rfl (lv_at hl 7 rfl) ?_
        refine rg_19 hC hR dX6_doStep_371 ?_
        refine lv_iload_n hx hb dX6_doStep_374 rfl (lv_at hl 6 rfl) ?_
        refine lv_dup2_11 hx hb dX6_doStep_375 rfl rfl ?_
        refine ra_19 hC hR (by omega) dX6_doStep_376 ?_
        refine lv_iconst (v := 1) hx hb dX6_doStep_377 (by decide) ?_
        refine lv_iadd hx hb dX6_doStep_378 ?_
        refine rs_19 hC hR (by omega) dX6_doStep_379 (fun H locs hR => ?_)
        exact rr_vret hC hz hR (hfin _ (by show _ = sp_calc S1 f m q _; unfold sp_calc; rw [ta, tb, tc]; first | exact (if_neg hni).symm | exact (if_pos hin2).symm)) (by decide) (by decide) dX6_doStep_380
      · have hni : ¬ (S1.1 21 (4 * f + b) = -1 ∧ S1.1 21 (4 * f + c_) = -1) := fun z => absurd (rb_1 z) (by rw [c_247]; decide)
        refine lv_aload_n hx hb dX6_doStep_250 rfl (lv_at hl 7 rfl) ?_
        refine lv_iconst (v := 1) hx hb dX6_doStep_251 (by decide) ?_
        refine rp_25 hC hR dX6_doStep_252 (fun H locs hR => ?_)
        refine lv_goto (tgt := 380) hx hb dX6_doStep_255 (by decide) ?_
        exact rr_vret hC hz hR (hfin _ (by show _ = sp_calc S1 f m q _; unfold sp_calc; rw [ta, tb, tc]; first | exact (if_neg hni).symm | exact (if_pos hin2).symm)) (by decide) (by decide) dX6_doStep_380
    · have hk : tn (s_op S m q 0) = 3 := by rw [show s_op S m q 0 = nI 3 from e0]; rfl
      have hfin : ∀ S2, S2 = sp_ex S1 f m q 3 → S2 = sp_step S f := fun S2 z => by unfold sp_step; rw [e18, e19, hk]; rw [hS1] at z; exact z
      have ha : a < 4 := ha4 (by decide)
      obtain ⟨b, hb4, eb⟩ := hb_ (by decide)
      have tb : tn (s_op S1 m q 2) = b := by rw [eop, show s_op S m q 2 = nI b from eb]; exact tn_nI (by omega)
      obtain ⟨c_, hc4, ec⟩ := hc_ (by decide)
      have tc : tn (s_op S1 m q 3) = c_ := by rw [eop, show s_op S m q 3 = nI c_ from ec]; exact tn_nI (by omega)
      refine lv_iload hx hb dX6_doStep_107 (lv_at hl 3 rfl) ?_
      refine lv_iconst (v := 5) hx hb dX6_doStep_109 (by decide) ?_
      refine lv_icmp_ne (tgt := 122) hx hb dX6_doStep_110 (by decide) (fun c_110 => ?_) (fun c_110 => absurd c_110 (by decide))
      refine lv_iload hx hb dX6_doStep_122 (lv_at hl 3 rfl) ?_
      refine lv_bipush (v := 7) hx hb dX6_doStep_124 (by decide) ?_
      refine lv_icmp_ne (tgt := 138) hx hb dX6_doStep_126 (by decide) (fun c_126 => ?_) (fun c_126 => absurd c_126 (by decide))
      refine lv_iload hx hb dX6_doStep_138 (lv_at hl 3 rfl) ?_
      refine lv_bipush (v := 8) hx hb dX6_doStep_140 (by decide) ?_
      refine lv_icmp_ne (tgt := 164) hx hb dX6_doStep_142 (by decide) (fun c_142 => ?_) (fun c_142 => absurd c_142 (by decide))
      refine lv_iload hx hb dX6_doStep_164 (lv_at hl 3 rfl) ?_
      refine lv_bipush (v := 6) hx hb dX6_doStep_166 (by decide) ?_
      refine lv_icmp_ne (tgt := 227) hx hb dX6_doStep_168 (by decide) (fun c_168 => ?_) (fun c_168 => absurd c_168 (by decide))
      refine lv_iload hx hb dX6_doStep_227 (lv_at hl 3 rfl) ?_
      refine lv_iconst (v := 1) hx hb dX6_doStep_229 (by decide) ?_
      refine lv_icmp_lt (tgt := 258) hx hb dX6_doStep_230 (by decide) (fun c_230 => absurd c_230 (by decide)) (fun c_230 => ?_)
      refine lv_iload hx hb dX6_doStep_233 (lv_at hl 3 rfl) ?_
      refine lv_iconst (v := 3) hx hb dX6_doStep_235 (by decide) ?_
      refine lv_icmp_gt (tgt := 258) hx hb dX6_doStep_236 (by decide) (fun c_236 => absurd c_236 (by decide)) (fun c_236 => ?_)
      refine lv_aload_n hx hb dX6_doStep_239 rfl (lv_at hl 7 rfl) ?_
      refine lv_iload hx hb dX6_doStep_240 (lv_at hl 1 rfl) ?_
      refine gq_top (nI b) (eb) ?_
      refine lv_iload hx hb dX6_doStep_242 (lv_at hl 0 rfl) ?_
      refine gq_top (nI c_) (ec) ?_
      refine rr_calli hC hR (c6_areInts l V ad _ f hf hr (b) (c_) (by omega) (by omega)) km_RX6_205 kn_yX6_areInts ks_yX6_areInts kz_RX6 kd_yX6_areInts dn_X6_areInts rfl hl.1 ⟨by decide, by decide⟩ (Nat.le_of_ble_eq_true rfl) ⟨by decide, by decide⟩ dX6_doStep_244 (fun r_244 S_244 H locs p_244 hR => ?_)
      obtain ⟨q_244, p_244⟩ := p_244
      rw [p_244] at hR
      refine gq_top (rb (S1.1 21 (4 * f + b) = -1 ∧ S1.1 21 (4 * f + c_) = -1)) q_244 ?_
      refine lv_if_ne (tgt := 258) hx hb dX6_doStep_247 (by decide) (fun c_247 => ?_) (fun c_247 => ?_)
      · have hin2 : S1.1 21 (4 * f + b) = -1 ∧ S1.1 21 (4 * f + c_) = -1 := Decidable.byContradiction fun z => c_247 (rb_0 z)
        refine lv_iload hx hb dX6_doStep_258 (lv_at hl 3 rfl) ?_
        refine lv_if_ne (tgt := 273) hx hb dX6_doStep_260 (by decide) (fun c_260 => ?_) (fun c_260 => absurd c_260 (by decide))
        refine lv_iload hx hb dX6_doStep_273 (lv_at hl 3 rfl) ?_
        refine lv_iconst (v := 4) hx hb dX6_doStep_275 (by decide) ?_
        refine lv_icmp_ne (tgt := 289) hx hb dX6_doStep_276 (by decide) (fun c_276 => ?_) (fun c_276 => absurd c_276 (by decide))
        refine lv_iload hx hb dX6_doStep_289 (lv_at hl 3 rfl) ?_
        refine lv_iconst (v := 1) hx hb dX6_doStep_291 (by decide) ?_
        refine lv_icmp_ne (tgt := 316) hx hb dX6_doStep_292 (by decide) (fun c_292 => ?_) (fun c_292 => absurd c_292 (by decide))
        refine lv_iload hx hb dX6_doStep_316 (lv_at hl 3 rfl) ?_
        refine lv_iconst (v := 2) hx hb dX6_doStep_318 (by decide) ?_
        refine lv_icmp_ne (tgt := 343) hx hb dX6_doStep_319 (by decide) (fun c_319 => ?_) (fun c_319 => absurd c_319 (by decide))
        refine lv_iload hx hb dX6_doStep_343 (lv_at hl 3 rfl) ?_
        refine lv_iconst (v := 3) hx hb dX6_doStep_345 (by decide) ?_
        refine lv_icmp_ne (tgt := 370) hx hb dX6_doStep_346 (by decide) (fun c_346 => absurd (by decide) c_346) (fun c_346 => ?_)
        refine lv_aload_n hx hb dX6_doStep_349 rfl (lv_at hl 7 rfl) ?_
        refine lv_iload_n hx hb dX6_doStep_350 rfl (lv_at hl 6 rfl) ?_
        refine lv_iload hx hb dX6_doStep_351 (lv_at hl 2 rfl) ?_
        refine gq_top (nI a) (ea) ?_
        refine lv_iconst (v := (-1)) hx hb dX6_doStep_353 (by decide) ?_
        refine lv_aload_n hx hb dX6_doStep_354 rfl (lv_at hl 7 rfl) ?_
        refine lv_iload hx hb dX6_doStep_355 (lv_at hl 1 rfl) ?_
        refine gq_top (nI b) (eb) ?_
        refine rr_calli hC hR (c6_valueOf l V ad _ f hf hr (b) (by omega)) km_RX6_182 kn_yX6_valueOf ks_yX6_valueOf kz_RX6 kd_yX6_valueOf dn_X6_valueOf rfl hl.1 ⟨by decide, by decide⟩ (Nat.le_of_ble_eq_true rfl) ⟨by decide, by decide⟩ dX6_doStep_357 (fun r_357 S_357 H locs p_357 hR => ?_)
        obtain ⟨q_357, p_357⟩ := p_357
        rw [p_357] at hR
        refine gq_top (S1.1 22 (4 * f + b)) q_357 ?_
        refine lv_aload_n hx hb dX6_doStep_360 rfl (lv_at hl 7 rfl) ?_
        refine lv_iload hx hb dX6_doStep_361 (lv_at hl 0 rfl) ?_
        refine gq_top (nI c_) (ec) ?_
        refine rr_calli hC hR (c6_valueOf l V ad _ f hf hr (c_) (by omega)) km_RX6_182 kn_yX6_valueOf ks_yX6_valueOf kz_RX6 kd_yX6_valueOf dn_X6_valueOf rfl hl.1 ⟨by decide, by decide⟩ (Nat.le_of_ble_eq_true rfl) ⟨by decide, by decide⟩ dX6_doStep_363 (fun r_363 S_363 H locs p_363 hR => ?_)
        obtain ⟨q_363, p_363⟩ := p_363
        rw [p_363] at hR
        refine gq_top (S1.1 22 (4 * f + c_)) q_363 ?_
        refine lv_imul hx hb dX6_doStep_366 ?_
        refine rr_callv hC hR (c6_put l V ad _ (f) (a) (by omega) (by omega) (-1) (S1.1 22 (4 * f + b) * S1.1 22 (4 * f + c_))) km_RX6_148 kn_yX6_put ks_yX6_put kz_RX6 kd_yX6_put dn_X6_put rfl hl.1 ⟨by decide, by decide⟩ (Nat.le_of_ble_eq_true rfl) ⟨by decide, by decide⟩ dX6_doStep_367 (fun S_367 H locs p_367 hR => ?_)
        subst p_367
        refine lv_aload_n hx hb dX6_doStep_370 rfl (lv_at hl 7 rfl) ?_
        refine rg_19 hC hR dX6_doStep_371 ?_
        refine lv_iload_n hx hb dX6_doStep_374 rfl (lv_at hl 6 rfl) ?_
        refine lv_dup2_11 hx hb dX6_doStep_375 rfl rfl ?_
        refine ra_19 hC hR (by omega) dX6_doStep_376 ?_
        refine lv_iconst (v := 1) hx hb dX6_doStep_377 (by decide) ?_
        refine lv_iadd hx hb dX6_doStep_378 ?_
        refine rs_19 hC hR (by omega) dX6_doStep_379 (fun H locs hR => ?_)
        exact rr_vret hC hz hR (hfin _ (by show _ = sp_calc S1 f m q _; unfold sp_calc; rw [ta, tb, tc]; first | exact (if_neg hni).symm | exact (if_pos hin2).symm)) (by decide) (by decide) dX6_doStep_380
      · have hni : ¬ (S1.1 21 (4 * f + b) = -1 ∧ S1.1 21 (4 * f + c_) = -1) := fun z => absurd (rb_1 z) (by rw [c_247]; decide)
        refine lv_aload_n hx hb dX6_doStep_250 rfl (lv_at hl 7 rfl) ?_
        refine lv_iconst (v := 1) hx hb dX6_doStep_251 (by decide) ?_
        refine rp_25 hC hR dX6_doStep_252 (fun H locs hR => ?_)
        refine lv_goto (tgt := 380) hx hb dX6_doStep_255 (by decide) ?_
        exact rr_vret hC hz hR (hfin _ (by show _ = sp_calc S1 f m q _; unfold sp_calc; rw [ta, tb, tc]; first | exact (if_neg hni).symm | exact (if_pos hin2).symm)) (by decide) (by decide) dX6_doStep_380
    · have hk : tn (s_op S m q 0) = 4 := by rw [show s_op S m q 0 = nI 4 from e0]; rfl
      have hfin : ∀ S2, S2 = sp_ex S1 f m q 4 → S2 = sp_step S f := fun S2 z => by unfold sp_step; rw [e18, e19, hk]; rw [hS1] at z; exact z
      have ha : a < 4 := ha4 (by decide)
      refine lv_iload hx hb dX6_doStep_107 (lv_at hl 3 rfl) ?_
      refine lv_iconst (v := 5) hx hb dX6_doStep_109 (by decide) ?_
      refine lv_icmp_ne (tgt := 122) hx hb dX6_doStep_110 (by decide) (fun c_110 => ?_) (fun c_110 => absurd c_110 (by decide))
      refine lv_iload hx hb dX6_doStep_122 (lv_at hl 3 rfl) ?_
      refine lv_bipush (v := 7) hx hb dX6_doStep_124 (by decide) ?_
      refine lv_icmp_ne (tgt := 138) hx hb dX6_doStep_126 (by decide) (fun c_126 => ?_) (fun c_126 => absurd c_126 (by decide))
      refine lv_iload hx hb dX6_doStep_138 (lv_at hl 3 rfl) ?_
      refine lv_bipush (v := 8) hx hb dX6_doStep_140 (by decide) ?_
      refine lv_icmp_ne (tgt := 164) hx hb dX6_doStep_142 (by decide) (fun c_142 => ?_) (fun c_142 => absurd c_142 (by decide))
      refine lv_iload hx hb dX6_doStep_164 (lv_at hl 3 rfl) ?_
      refine lv_bipush (v := 6) hx hb dX6_doStep_166 (by decide) ?_
      refine lv_icmp_ne (tgt := 227) hx hb dX6_doStep_168 (by decide) (fun c_168 => ?_) (fun c_168 => absurd c_168 (by decide))
      refine lv_iload hx hb dX6_doStep_227 (lv_at hl 3 rfl) ?_
      refine lv_iconst (v := 1) hx hb dX6_doStep_229 (by decide) ?_
      refine lv_icmp_lt (tgt := 258) hx hb dX6_doStep_230 (by decide) (fun c_230 => absurd c_230 (by decide)) (fun c_230 => ?_)
      refine lv_iload hx hb dX6_doStep_233 (lv_at hl 3 rfl) ?_
      refine lv_iconst (v := 3) hx hb dX6_doStep_235 (by decide) ?_
      refine lv_icmp_gt (tgt := 258) hx hb dX6_doStep_236 (by decide) (fun c_236 => ?_) (fun c_236 => absurd (by decide) c_236)
      refine lv_iload hx hb dX6_doStep_258 (lv_at hl 3 rfl) ?_
      refine lv_if_ne (tgt := 273) hx hb dX6_doStep_260 (by decide) (fun c_260 => ?_) (fun c_260 => absurd c_260 (by decide))
      refine lv_iload hx hb dX6_doStep_273 (lv_at hl 3 rfl) ?_
      refine lv_iconst (v := 4) hx hb dX6_doStep_275 (by decide) ?_
      refine lv_icmp_ne (tgt := 289) hx hb dX6_doStep_276 (by decide) (fun c_276 => absurd (by decide) c_276) (fun c_276 => ?_)
      refine lv_aload_n hx hb dX6_doStep_279 rfl (lv_at hl 7 rfl) ?_
      refine lv_iload_n hx hb dX6_doStep_280 rfl (lv_at hl 6 rfl) ?_
      refine lv_iload hx hb dX6_doStep_281 (lv_at hl 2 rfl) ?_
      refine gq_top (nI a) (ea) ?_
      refine lv_iload hx hb dX6_doStep_283 (lv_at hl 1 rfl) ?_
      refine lv_iconst (v := 0) hx hb dX6_doStep_285 (by decide) ?_
      refine rr_callv hC hR (c6_put l V ad _ (f) (a) (by omega) (by omega) (s_op S m q 2) (0)) km_RX6_148 kn_yX6_put ks_yX6_put kz_RX6 kd_yX6_put dn_X6_put rfl hl.1 ⟨by decide, by decide⟩ (Nat.le_of_ble_eq_true rfl) ⟨by decide, by decide⟩ dX6_doStep_286 (fun S_286 H locs p_286 hR => ?_)
      subst p_286
      refine lv_iload hx hb dX6_doStep_289 (lv_at hl 3 rfl) ?_
      refine lv_iconst (v := 1) hx hb dX6_doStep_291 (by decide) ?_
      refine lv_icmp_ne (tgt := 316) hx hb dX6_doStep_292 (by decide) (fun c_292 => ?_) (fun c_292 => absurd c_292 (by decide))
      refine lv_iload hx hb dX6_doStep_316 (lv_at hl 3 rfl) ?_
      refine lv_iconst (v := 2) hx hb dX6_doStep_318 (by decide) ?_
      refine lv_icmp_ne (tgt := 343) hx hb dX6_doStep_319 (by decide) (fun c_319 => ?_) (fun c_319 => absurd c_319 (by decide))
      refine lv_iload hx hb dX6_doStep_343 (lv_at hl 3 rfl) ?_
      refine lv_iconst (v := 3) hx hb dX6_doStep_345 (by decide) ?_
      refine lv_icmp_ne (tgt := 370) hx hb dX6_doStep_346 (by decide) (fun c_346 => ?_) (fun c_346 => absurd c_346 (by decide))
      refine lv_aload_n hx hb dX6_doStep_370 rfl (lv_at hl 7 rfl) ?_
      refine rg_19 hC hR dX6_doStep_371 ?_
      refine lv_iload_n hx hb dX6_doStep_374 rfl (lv_at hl 6 rfl) ?_
      refine lv_dup2_11 hx hb dX6_doStep_375 rfl rfl ?_
      refine ra_19 hC hR (by omega) dX6_doStep_376 ?_
      refine lv_iconst (v := 1) hx hb dX6_doStep_377 (by decide) ?_
      refine lv_iadd hx hb dX6_doStep_378 ?_
      refine rs_19 hC hR (by omega) dX6_doStep_379 (fun H locs hR => ?_)
      exact rr_vret hC hz hR (hfin _ (by show _ = s_nxt (sp_put S1 f (tn (s_op S1 m q 1)) (s_op S1 m q 2) 0) f; rw [ta, eop]; rfl)) (by decide) (by decide) dX6_doStep_380
    · have hk : tn (s_op S m q 0) = 5 := by rw [show s_op S m q 0 = nI 5 from e0]; rfl
      have hfin : ∀ S2, S2 = sp_ex S1 f m q 5 → S2 = sp_step S f := fun S2 z => by unfold sp_step; rw [e18, e19, hk]; rw [hS1] at z; exact z
      obtain ⟨g, hg, e2⟩ := hb5 rfl
      obtain ⟨oc, hoc, e3⟩ := hc_ (by decide)
      obtain ⟨od, hod, e4⟩ := hd_ rfl
      obtain ⟨x, hxn, ex⟩ := hreg oc hoc
      refine lv_iload hx hb dX6_doStep_107 (lv_at hl 3 rfl) ?_
      refine lv_iconst (v := 5) hx hb dX6_doStep_109 (by decide) ?_
      refine lv_icmp_ne (tgt := 122) hx hb dX6_doStep_110 (by decide) (fun c_110 => absurd (by decide) c_110) (fun c_110 => ?_)
      refine lv_aload_n hx hb dX6_doStep_113 rfl (lv_at hl 7 rfl) ?_
      refine lv_iload_n hx hb dX6_doStep_114 rfl (lv_at hl 5 rfl) ?_
      refine lv_iload_n hx hb dX6_doStep_115 rfl (lv_at hl 4 rfl) ?_
      refine rr_callv hC hR (c6_send l V ad _ f m q nc nm g oc od x hf hm (by omega) hr hI1 hg hoc hod ((eop 2).trans e2) ((eop 3).trans e3) ((eop 4).trans e4) hxn ex) km_RX6_196 kn_yX6_send ks_yX6_send kz_RX6 kd_yX6_send dn_X6_send rfl hl.1 ⟨by decide, by decide⟩ (Nat.le_of_ble_eq_true rfl) ⟨by decide, by decide⟩ dX6_doStep_116 (fun S_116 H locs p_116 hR => ?_)
      subst p_116
      refine lv_goto (tgt := 380) hx hb dX6_doStep_119 (by decide) ?_
      exact rr_vret hC hz hR (hfin _ rfl) (by decide) (by decide) dX6_doStep_380
    · have hk : tn (s_op S m q 0) = 6 := by rw [show s_op S m q 0 = nI 6 from e0]; rfl
      have hfin : ∀ S2, S2 = sp_ex S1 f m q 6 → S2 = sp_step S f := fun S2 z => by unfold sp_step; rw [e18, e19, hk]; rw [hS1] at z; exact z
      have ha : a < 4 := ha4 (by decide)
      obtain ⟨b, hb4, eb⟩ := hb_ (by decide)
      have tb : tn (s_op S1 m q 2) = b := by rw [eop, show s_op S m q 2 = nI b from eb]; exact tn_nI (by omega)
      refine lv_iload hx hb dX6_doStep_107 (lv_at hl 3 rfl) ?_
      refine lv_iconst (v := 5) hx hb dX6_doStep_109 (by decide) ?_
      refine lv_icmp_ne (tgt := 122) hx hb dX6_doStep_110 (by decide) (fun c_110 => ?_) (fun c_110 => absurd c_110 (by decide))
      refine lv_iload hx hb dX6_doStep_122 (lv_at hl 3 rfl) ?_
      refine lv_bipush (v := 7) hx hb dX6_doStep_124 (by decide) ?_
      refine lv_icmp_ne (tgt := 138) hx hb dX6_doStep_126 (by decide) (fun c_126 => ?_) (fun c_126 => absurd c_126 (by decide))
      refine lv_iload hx hb dX6_doStep_138 (lv_at hl 3 rfl) ?_
      refine lv_bipush (v := 8) hx hb dX6_doStep_140 (by decide) ?_
      refine lv_icmp_ne (tgt := 164) hx hb dX6_doStep_142 (by decide) (fun c_142 => ?_) (fun c_142 => absurd c_142 (by decide))
      refine lv_iload hx hb dX6_doStep_164 (lv_at hl 3 rfl) ?_
      refine lv_bipush (v := 6) hx hb dX6_doStep_166 (by decide) ?_
      refine lv_icmp_ne (tgt := 227) hx hb dX6_doStep_168 (by decide) (fun c_168 => absurd (by decide) c_168) (fun c_168 => ?_)
      refine lv_aload_n hx hb dX6_doStep_171 rfl (lv_at hl 7 rfl) ?_
      refine lv_iload hx hb dX6_doStep_172 (lv_at hl 2 rfl) ?_
      refine gq_top (nI a) (ea) ?_
      refine lv_iload hx hb dX6_doStep_174 (lv_at hl 1 rfl) ?_
      refine gq_top (nI b) (eb) ?_
      refine rr_calli hC hR (c6_areInts l V ad _ f hf hr (a) (b) (by omega) (by omega)) km_RX6_205 kn_yX6_areInts ks_yX6_areInts kz_RX6 kd_yX6_areInts dn_X6_areInts rfl hl.1 ⟨by decide, by decide⟩ (Nat.le_of_ble_eq_true rfl) ⟨by decide, by decide⟩ dX6_doStep_176 (fun r_176 S_176 H locs p_176 hR => ?_)
      obtain ⟨q_176, p_176⟩ := p_176
      rw [p_176] at hR
      refine gq_top (rb (S1.1 21 (4 * f + a) = -1 ∧ S1.1 21 (4 * f + b) = -1)) q_176 ?_
      refine lv_if_ne (tgt := 190) hx hb dX6_doStep_179 (by decide) (fun c_179 => ?_) (fun c_179 => ?_)
      · have hin2 : S1.1 21 (4 * f + a) = -1 ∧ S1.1 21 (4 * f + b) = -1 := Decidable.byContradiction fun z => c_179 (rb_0 z)
        refine lv_aload_n hx hb dX6_doStep_190 rfl (lv_at hl 7 rfl) ?_
        refine lv_iload hx hb dX6_doStep_191 (lv_at hl 2 rfl) ?_
        refine gq_top (nI a) (ea) ?_
        refine rr_calli hC hR (c6_valueOf l V ad _ f hf hr (a) (by omega)) km_RX6_182 kn_yX6_valueOf ks_yX6_valueOf kz_RX6 kd_yX6_valueOf dn_X6_valueOf rfl hl.1 ⟨by decide, by decide⟩ (Nat.le_of_ble_eq_true rfl) ⟨by decide, by decide⟩ dX6_doStep_193 (fun r_193 S_193 H locs p_193 hR => ?_)
        obtain ⟨q_193, p_193⟩ := p_193
        rw [p_193] at hR
        refine gq_top (S1.1 22 (4 * f + a)) q_193 ?_
        refine lv_aload_n hx hb dX6_doStep_196 rfl (lv_at hl 7 rfl) ?_
        refine lv_iload hx hb dX6_doStep_197 (lv_at hl 1 rfl) ?_
        refine gq_top (nI b) (eb) ?_
        refine rr_calli hC hR (c6_valueOf l V ad _ f hf hr (b) (by omega)) km_RX6_182 kn_yX6_valueOf ks_yX6_valueOf kz_RX6 kd_yX6_valueOf dn_X6_valueOf rfl hl.1 ⟨by decide, by decide⟩ (Nat.le_of_ble_eq_true rfl) ⟨by decide, by decide⟩ dX6_doStep_199 (fun r_199 S_199 H locs p_199 hR => ?_)
        obtain ⟨q_199, p_199⟩ := p_199
        rw [p_199] at hR
        refine gq_top (S1.1 22 (4 * f + b)) q_199 ?_
        refine lv_icmp_ge (tgt := 214) hx hb dX6_doStep_202 (by decide) (fun c_202 => ?_) (fun c_202 => ?_)
        · refine lv_aload_n hx hb dX6_doStep_214 rfl (lv_at hl 7 rfl) ?_
          refine rg_19 hC hR dX6_doStep_215 ?_
          refine lv_iload_n hx hb dX6_doStep_218 rfl (lv_at hl 6 rfl) ?_
          refine lv_dup2_11 hx hb dX6_doStep_219 rfl rfl ?_
          refine ra_19 hC hR (by omega) dX6_doStep_220 ?_
          refine lv_iconst (v := 1) hx hb dX6_doStep_221 (by decide) ?_
          refine lv_iadd hx hb dX6_doStep_222 ?_
          refine rs_19 hC hR (by omega) dX6_doStep_223 (fun H locs hR => ?_)
          refine lv_goto (tgt := 380) hx hb dX6_doStep_224 (by decide) ?_
          exact rr_vret hC hz hR (hfin _ (by show _ = sp_less S1 f m q; unfold sp_less; rw [ta, tb, eop]; first | exact (if_neg hni).symm | exact ((if_pos hin2).trans (if_pos (Int32.not_le.mp c_202))).symm | exact ((if_pos hin2).trans (if_neg (Int32.not_lt.mpr c_202))).symm)) (by decide) (by decide) dX6_doStep_380
        · refine lv_aload_n hx hb dX6_doStep_205 rfl (lv_at hl 7 rfl) ?_
          refine lv_iload hx hb dX6_doStep_206 (lv_at hl 0 rfl) ?_
          refine rr_callv hC hR (c6_goTo l V ad _ f m hf hm hr h18 hcr (s_op S m q 3)) km_RX6_199 kn_yX6_goTo ks_yX6_goTo kz_RX6 kd_yX6_goTo dn_X6_goTo rfl hl.1 ⟨by decide, by decide⟩ (Nat.le_of_ble_eq_true rfl) ⟨by decide, by decide⟩ dX6_doStep_208 (fun S_208 H locs p_208 hR => ?_)
          subst p_208
          refine lv_goto (tgt := 380) hx hb dX6_doStep_211 (by decide) ?_
          exact rr_vret hC hz hR (hfin _ (by show _ = sp_less S1 f m q; unfold sp_less; rw [ta, tb, eop]; first | exact (if_neg hni).symm | exact ((if_pos hin2).trans (if_pos (Int32.not_le.mp c_202))).symm | exact ((if_pos hin2).trans (if_neg (Int32.not_lt.mpr c_202))).symm)) (by decide) (by decide) dX6_doStep_380
      · have hni : ¬ (S1.1 21 (4 * f + a) = -1 ∧ S1.1 21 (4 * f + b) = -1) := fun z => absurd (rb_1 z) (by rw [c_179]; decide)
        refine lv_aload_n hx hb dX6_doStep_182 rfl (lv_at hl 7 rfl) ?_
        refine lv_iconst (v := 1) hx hb dX6_doStep_183 (by decide) ?_
        refine rp_25 hC hR dX6_doStep_184 (fun H locs hR => ?_)
        refine lv_goto (tgt := 380) hx hb dX6_doStep_187 (by decide) ?_
        exact rr_vret hC hz hR (hfin _ (by show _ = sp_less S1 f m q; unfold sp_less; rw [ta, tb, eop]; first | exact (if_neg hni).symm | exact ((if_pos hin2).trans (if_pos (Int32.not_le.mp c_202))).symm | exact ((if_pos hin2).trans (if_neg (Int32.not_lt.mpr c_202))).symm)) (by decide) (by decide) dX6_doStep_380
    · have hk : tn (s_op S m q 0) = 7 := by rw [show s_op S m q 0 = nI 7 from e0]; rfl
      have hfin : ∀ S2, S2 = sp_ex S1 f m q 7 → S2 = sp_step S f := fun S2 z => by unfold sp_step; rw [e18, e19, hk]; rw [hS1] at z; exact z
      refine lv_iload hx hb dX6_doStep_107 (lv_at hl 3 rfl) ?_
      refine lv_iconst (v := 5) hx hb dX6_doStep_109 (by decide) ?_
      refine lv_icmp_ne (tgt := 122) hx hb dX6_doStep_110 (by decide) (fun c_110 => ?_) (fun c_110 => absurd c_110 (by decide))
      refine lv_iload hx hb dX6_doStep_122 (lv_at hl 3 rfl) ?_
      refine lv_bipush (v := 7) hx hb dX6_doStep_124 (by decide) ?_
      refine lv_icmp_ne (tgt := 138) hx hb dX6_doStep_126 (by decide) (fun c_126 => absurd (by decide) c_126) (fun c_126 => ?_)
      refine lv_aload_n hx hb dX6_doStep_129 rfl (lv_at hl 7 rfl) ?_
      refine lv_iload hx hb dX6_doStep_130 (lv_at hl 2 rfl) ?_
      refine rr_callv hC hR (c6_goTo l V ad _ f m hf hm hr h18 hcr (s_op S m q 1)) km_RX6_199 kn_yX6_goTo ks_yX6_goTo kz_RX6 kd_yX6_goTo dn_X6_goTo rfl hl.1 ⟨by decide, by decide⟩ (Nat.le_of_ble_eq_true rfl) ⟨by decide, by decide⟩ dX6_doStep_132 (fun S_132 H locs p_132 hR => ?_)
      subst p_132
      refine lv_goto (tgt := 380) hx hb dX6_doStep_135 (by decide) ?_
      exact rr_vret hC hz hR (hfin _ (by show _ = sp_goTo S1 f (s_op S1 m q 1); rw [eop])) (by decide) (by decide) dX6_doStep_380
    · have hk : tn (s_op S m q 0) = 8 := by rw [show s_op S m q 0 = nI 8 from e0]; rfl
      have hfin : ∀ S2, S2 = sp_ex S1 f m q 8 → S2 = sp_step S f := fun S2 z => by unfold sp_step; rw [e18, e19, hk]; rw [hS1] at z; exact z
      have ha : a < 4 := ha4 (by decide)
      refine lv_iload hx hb dX6_doStep_107 (lv_at hl 3 rfl) ?_
      refine lv_iconst (v := 5) hx hb dX6_doStep_109 (by decide) ?_
      refine lv_icmp_ne (tgt := 122) hx hb dX6_doStep_110 (by decide) (fun c_110 => ?_) (fun c_110 => absurd c_110 (by decide))
      refine lv_iload hx hb dX6_doStep_122 (lv_at hl 3 rfl) ?_
      refine lv_bipush (v := 7) hx hb dX6_doStep_124 (by decide) ?_
      refine lv_icmp_ne (tgt := 138) hx hb dX6_doStep_126 (by decide) (fun c_126 => ?_) (fun c_126 => absurd c_126 (by decide))
      refine lv_iload hx hb dX6_doStep_138 (lv_at hl 3 rfl) ?_
      refine lv_bipush (v := 8) hx hb dX6_doStep_140 (by decide) ?_
      refine lv_icmp_ne (tgt := 164) hx hb dX6_doStep_142 (by decide) (fun c_142 => absurd (by decide) c_142) (fun c_142 => ?_)
      refine lv_aload_n hx hb dX6_doStep_145 rfl (lv_at hl 7 rfl) ?_
      refine lv_aload_n hx hb dX6_doStep_146 rfl (lv_at hl 7 rfl) ?_
      refine lv_iload hx hb dX6_doStep_147 (lv_at hl 2 rfl) ?_
      refine gq_top (nI a) (ea) ?_
      refine rr_calli hC hR (c6_kindOf l V ad _ f hf hr (a) (by omega)) km_RX6_163 kn_yX6_kindOf ks_yX6_kindOf kz_RX6 kd_yX6_kindOf dn_X6_kindOf rfl hl.1 ⟨by decide, by decide⟩ (Nat.le_of_ble_eq_true rfl) ⟨by decide, by decide⟩ dX6_doStep_149 (fun r_149 S_149 H locs p_149 hR => ?_)
      obtain ⟨q_149, p_149⟩ := p_149
      rw [p_149] at hR
      refine gq_top (S1.1 21 (4 * f + a)) q_149 ?_
      refine lv_aload_n hx hb dX6_doStep_152 rfl (lv_at hl 7 rfl) ?_
      refine lv_iload hx hb dX6_doStep_153 (lv_at hl 2 rfl) ?_
      refine gq_top (nI a) (ea) ?_
      refine rr_calli hC hR (c6_valueOf l V ad _ f hf hr (a) (by omega)) km_RX6_182 kn_yX6_valueOf ks_yX6_valueOf kz_RX6 kd_yX6_valueOf dn_X6_valueOf rfl hl.1 ⟨by decide, by decide⟩ (Nat.le_of_ble_eq_true rfl) ⟨by decide, by decide⟩ dX6_doStep_155 (fun r_155 S_155 H locs p_155 hR => ?_)
      obtain ⟨q_155, p_155⟩ := p_155
      rw [p_155] at hR
      refine gq_top (S1.1 22 (4 * f + a)) q_155 ?_
      refine rr_callv hC hR (c6_finish l V ad _ f hf hr hcall (S1.1 21 (4 * f + a)) (S1.1 22 (4 * f + a))) km_RX6_202 kn_yX6_finish ks_yX6_finish kz_RX6 kd_yX6_finish dn_X6_finish rfl hl.1 ⟨by decide, by decide⟩ (Nat.le_of_ble_eq_true rfl) ⟨by decide, by decide⟩ dX6_doStep_158 (fun S_158 H locs p_158 hR => ?_)
      subst p_158
      refine lv_goto (tgt := 380) hx hb dX6_doStep_161 (by decide) ?_
      exact rr_vret hC hz hR (hfin _ (by show _ = sp_finish S1 f (S1.1 21 (4 * f + tn (s_op S1 m q 1))) (S1.1 22 (4 * f + tn (s_op S1 m q 1))); rw [ta])) (by decide) (by decide) dX6_doStep_380
  · refine lv_aload_n hx hb dX6_doStep_56 rfl (lv_at hl 7 rfl) ?_
    refine lv_dup hx hb dX6_doStep_57 rfl ?_
    refine rg_27 hC hR dX6_doStep_58 ?_
    refine lv_iconst (v := 1) hx hb dX6_doStep_61 (by decide) ?_
    refine lv_iadd hx hb dX6_doStep_62 ?_
    refine rp_27 hC hR dX6_doStep_63 (fun H locs hR => ?_)
    refine lv_aload_n hx hb dX6_doStep_66 rfl (lv_at hl 7 rfl) ?_
    refine lv_dup hx hb dX6_doStep_67 rfl ?_
    refine rg_26 hC hR dX6_doStep_68 ?_
    refine lv_aload_n hx hb dX6_doStep_71 rfl (lv_at hl 7 rfl) ?_
    refine rg_20 hC hR dX6_doStep_72 ?_
    refine lv_iload_n hx hb dX6_doStep_75 rfl (lv_at hl 6 rfl) ?_
    refine ra_20 hC hR (by omega) dX6_doStep_76 ?_
    refine lv_if_ne (tgt := 86) hx hb dX6_doStep_77 (by decide) (fun c_77 => ?_) (fun c_77 => ?_)
    · refine lv_aload_n hx hb dX6_doStep_86 rfl (lv_at hl 7 rfl) ?_
      refine rg_20 hC hR dX6_doStep_87 ?_
      refine lv_iload_n hx hb dX6_doStep_90 rfl (lv_at hl 6 rfl) ?_
      refine ra_20 hC hR (by omega) dX6_doStep_91 ?_
      refine lv_iconst (v := 1) hx hb dX6_doStep_92 (by decide) ?_
      refine lv_icmp_ne (tgt := 102) hx hb dX6_doStep_93 (by decide) (fun c_93 => ?_) (fun c_93 => ?_)
      · refine lv_lconst (v := 1) hx hb dX6_doStep_102 (by decide) ?_
        refine lv_ladd hx hb dX6_doStep_103 ?_
        refine rp_26 hC hR dX6_doStep_104 (fun H locs hR => ?_)
        refine k107 _ _ _ ⟨?_, lv_sub hl [0, 1, 2, 3, 4, 5, 6, 7] rfl⟩
        first | (rw [show sp_pay S f = sl (su S 27 (fun _ => S.1 27 0 + 1)) 26 (fun _ => S.2 26 0 + 10) by unfold sp_pay; rw [if_pos (show S.1 20 f = 0 from c_77)]]; exact hR) | (rw [show sp_pay S f = sl (su S 27 (fun _ => S.1 27 0 + 1)) 26 (fun _ => S.2 26 0 + 4) by unfold sp_pay; rw [if_neg (show ¬ S.1 20 f = 0 from c_77), if_pos (show S.1 20 f = 1 from c_93)]]; exact hR) | (rw [show sp_pay S f = sl (su S 27 (fun _ => S.1 27 0 + 1)) 26 (fun _ => S.2 26 0 + 1) by unfold sp_pay; rw [if_neg (show ¬ S.1 20 f = 0 from c_77), if_neg (show ¬ S.1 20 f = 1 from c_93)]]; exact hR)
      · refine gq_ldc2 hC kl_RX6_194 dX6_doStep_96 ?_
        refine lv_goto (tgt := 103) hx hb dX6_doStep_99 (by decide) ?_
        refine lv_ladd hx hb dX6_doStep_103 ?_
        refine rp_26 hC hR dX6_doStep_104 (fun H locs hR => ?_)
        refine k107 _ _ _ ⟨?_, lv_sub hl [0, 1, 2, 3, 4, 5, 6, 7] rfl⟩
        first | (rw [show sp_pay S f = sl (su S 27 (fun _ => S.1 27 0 + 1)) 26 (fun _ => S.2 26 0 + 10) by unfold sp_pay; rw [if_pos (show S.1 20 f = 0 from c_77)]]; exact hR) | (rw [show sp_pay S f = sl (su S 27 (fun _ => S.1 27 0 + 1)) 26 (fun _ => S.2 26 0 + 4) by unfold sp_pay; rw [if_neg (show ¬ S.1 20 f = 0 from c_77), if_pos (show S.1 20 f = 1 from c_93)]]; exact hR) | (rw [show sp_pay S f = sl (su S 27 (fun _ => S.1 27 0 + 1)) 26 (fun _ => S.2 26 0 + 1) by unfold sp_pay; rw [if_neg (show ¬ S.1 20 f = 0 from c_77), if_neg (show ¬ S.1 20 f = 1 from c_93)]]; exact hR)
    · refine gq_ldc2 hC kl_RX6_192 dX6_doStep_80 ?_
      refine lv_goto (tgt := 103) hx hb dX6_doStep_83 (by decide) ?_
      refine lv_ladd hx hb dX6_doStep_103 ?_
      refine rp_26 hC hR dX6_doStep_104 (fun H locs hR => ?_)
      refine k107 _ _ _ ⟨?_, lv_sub hl [0, 1, 2, 3, 4, 5, 6, 7] rfl⟩
      first | (rw [show sp_pay S f = sl (su S 27 (fun _ => S.1 27 0 + 1)) 26 (fun _ => S.2 26 0 + 10) by unfold sp_pay; rw [if_pos (show S.1 20 f = 0 from c_77)]]; exact hR) | (rw [show sp_pay S f = sl (su S 27 (fun _ => S.1 27 0 + 1)) 26 (fun _ => S.2 26 0 + 4) by unfold sp_pay; rw [if_neg (show ¬ S.1 20 f = 0 from c_77), if_pos (show S.1 20 f = 1 from c_93)]]; exact hR) | (rw [show sp_pay S f = sl (su S 27 (fun _ => S.1 27 0 + 1)) 26 (fun _ => S.2 26 0 + 1) by unfold sp_pay; rw [if_neg (show ¬ S.1 20 f = 0 from c_77), if_neg (show ¬ S.1 20 f = 1 from c_93)]]; exact hR)
