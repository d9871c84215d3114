def tn (x : Int32) : Nat := x.toNatClampNeg
theorem tn_nI {n : Nat} (h : n < 2 ^ 31) : tn (nI n) = n := nI_clamp h
theorem nI_ne1 {n : Nat} (h : n < 2 ^ 31) : nI n ≠ -1 := by
  intro e
  have h1 := nI_toInt h
  rw [e] at h1
  have h2 : (-1 : Int32).toInt = -1 := by decide
  omega
def sp_note (S : rS) (r : Nat) (t : Int32) : rS :=
  if s_idx (fun k => S.1 14 (3 * r + k)) t (tn (S.1 13 r)) 0 ≠ -1 then S else if S.1 13 r = 3 then su S 15 (va_up (S.1 15) r 1) else su (su S 14 (va_up (S.1 14) (3 * r + tn (S.1 13 r)) t)) 13 (va_up (S.1 13) r (S.1 13 r + 1))
set_option maxHeartbeats 4000000 in
set_option maxRecDepth 100000 in
theorem c6_note (l : Launch) (V : gV) (ad : gA) (S : rS) (r n : Nat) (t : Int32) (hr : r < 480) (hn : S.1 13 r = nI n) (hn3 : n ≤ 3) : rMv l yX6_note cX6_note 3 none ({ frames := 1, cells := 0, slots := 0, locals := 23 } : Room) [.int (nI r), .int t] V ad S (fun S' => S' = sp_note S r t) := by
  refine rMv.of (by decide) (Nat.le_of_ble_eq_true rfl) ?_
  intro p e s m_ below meth c ls E sz hC hz hR hl
  have hx := hC.1
  have hb := hC.2.1
  have hl : lv_has ls 3 [(0, .ref (ad 50 0 0)), (1, .int (nI r)), (2, .int t)] := hl
  have htn : tn (S.1 13 r) = n := by rw [hn]; exact tn_nI (by omega)
  refine lv_aload_n hx hb dX6_note_0 rfl (lv_at hl 0 rfl) ?_
  refine lv_iload_n hx hb dX6_note_1 rfl (lv_at hl 1 rfl) ?_
  refine lv_iload_n hx hb dX6_note_2 rfl (lv_at hl 2 rfl) ?_
  refine rr_calli hC hR (c6_indexOf l V ad _ r n t hr hn hn3) km_RX6_142 kn_yX6_indexOf ks_yX6_indexOf kz_RX6 kd_yX6_indexOf dn_X6_indexOf rfl hl.1 ⟨by decide, by decide⟩ (Nat.le_of_ble_eq_true rfl) ⟨by decide, by decide⟩ dX6_note_3 (fun r_3 S_3 H locs p_3 hR => ?_)
  obtain ⟨q_3, p_3⟩ := p_3
  rw [p_3] at hR
  refine gq_top (s_idx (fun k => S.1 14 (3 * r + k)) t n 0) (q_3) ?_
  refine lv_iconst (v := (-1)) hx hb dX6_note_6 (by decide) ?_
  refine lv_icmp_eq (tgt := 11) hx hb dX6_note_7 (by decide) (fun c_7 => ?_) (fun c_7 => ?_)
  · refine lv_aload_n hx hb dX6_note_11 rfl (lv_at hl 0 rfl) ?_
    refine rg_13 hC hR dX6_note_12 ?_
    refine lv_iload_n hx hb dX6_note_15 rfl (lv_at hl 1 rfl) ?_
    refine ra_13 hC hR (by omega) dX6_note_16 ?_
    refine lv_iconst (v := 3) hx hb dX6_note_17 (by decide) ?_
    refine lv_icmp_ne (tgt := 29) hx hb dX6_note_18 (by decide) (fun c_18 => ?_) (fun c_18 => ?_)
    · have hn9 : n ≠ 3 := fun z => c_18 (by rw [hn, z]; rfl)
      refine lv_aload_n hx hb dX6_note_29 rfl (lv_at hl 0 rfl) ?_
      refine rg_14 hC hR dX6_note_30 ?_
      refine lv_iconst (v := 3) hx hb dX6_note_33 (by decide) ?_
      refine lv_iload_n hx hb dX6_note_34 rfl (lv_at hl 1 rfl) ?_
      refine lv_imul hx hb dX6_note_35 ?_
      refine lv_aload_n hx hb dX6_note_36 rfl (lv_at hl 0 rfl) ?_
      refine rg_13 hC hR dX6_note_37 ?_
      refine lv_iload_n hx hb dX6_note_40 rfl (lv_at hl 1 rfl) ?_
      refine ra_13 hC hR (by omega) dX6_note_41 ?_
      refine gq_top (nI n) (hn) ?_
      refine lv_iadd hx hb dX6_note_42 ?_
      refine gq_top (nI (3 * r + n)) (by simp only [nl3, nl4, nl5, nl6, nl20, nl240, nI_mul, nI_add]) ?_
      refine lv_iload_n hx hb dX6_note_43 rfl (lv_at hl 2 rfl) ?_
      refine rs_14 hC hR (by omega) dX6_note_44 (fun H locs hR => ?_)
      refine lv_aload_n hx hb dX6_note_45 rfl (lv_at hl 0 rfl) ?_
      refine rg_13 hC hR dX6_note_46 ?_
      refine lv_iload_n hx hb dX6_note_49 rfl (lv_at hl 1 rfl) ?_
      refine lv_dup2_11 hx hb dX6_note_50 rfl rfl ?_
      refine ra_13 hC hR (by omega) dX6_note_51 ?_
      refine lv_iconst (v := 1) hx hb dX6_note_52 (by decide) ?_
      refine lv_iadd hx hb dX6_note_53 ?_
      refine rs_13 hC hR (by omega) dX6_note_54 (fun H locs hR => ?_)
      exact rr_vret hC hz hR (by unfold sp_note; rw [htn, if_neg (fun z => z c_7), if_neg c_18]; rfl) (by decide) (by decide) dX6_note_55
    · refine lv_aload_n hx hb dX6_note_21 rfl (lv_at hl 0 rfl) ?_
      refine rg_15 hC hR dX6_note_22 ?_
      refine lv_iload_n hx hb dX6_note_25 rfl (lv_at hl 1 rfl) ?_
      refine lv_iconst (v := 1) hx hb dX6_note_26 (by decide) ?_
      refine rs_15 hC hR (by decide) (by omega) dX6_note_27 (fun H locs hR => ?_)
      exact rr_vret hC hz hR (by unfold sp_note; rw [htn, if_neg (fun z => z c_7), if_pos c_18]) (by decide) (by decide) dX6_note_28
  · exact rr_vret hC hz hR (by unfold sp_note; rw [htn, if_pos c_7]) (by decide) (by decide) dX6_note_10
/-- the class (its number and 1; 0: none) from x upward that implements g -/
def s_upf (S : rS) (g : Nat) : Nat → Nat → Nat
  | 0, _ => 0
  | _ + 1, 0 => 0
  | n + 1, c + 1 => if S.1 3 (6 * c + g) = -1 then s_upf S g n (tn (S.1 2 c + 1)) else c + 1
/-- a class's parent comes before it -/
def s_par (S : rS) (nc : Nat) : Prop := nc ≤ 8 ∧ ∀ c : Nat, c < nc → ∃ d : Nat, d ≤ c ∧ S.1 2 c = nI d - 1
theorem nI_m1 (d : Nat) : nI d - 1 + 1 = nI d := by rw [Int32.sub_add_cancel]
theorem s_upf_le {S : rS} {g nc : Nat} (h : s_par S nc) : ∀ n x : Nat, x ≤ nc → s_upf S g n x ≤ x
  | 0, _, _ => Nat.zero_le _
  | n + 1, 0, _ => Nat.le_refl _
  | n + 1, c + 1, hx => by
    unfold s_upf
    split
    · obtain ⟨d, h1, h2⟩ := h.2 c (by omega)
      have h3 : tn (S.1 2 c + 1) = d := by rw [h2, nI_m1]; exact tn_nI (by have := h.1; omega)
      rw [h3]
      have := s_upf_le (g := g) h n d (by omega)
      omega
    · exact Nat.le_refl _
theorem s_upf_fuel {S : rS} {g nc : Nat} (h : s_par S nc) : ∀ n k x : Nat, x ≤ nc → x ≤ n → x ≤ k → s_upf S g n x = s_upf S g k x
  | n, k, 0, _, _, _ => by cases n <;> cases k <;> rfl
  | 0, k, c + 1, _, h1, _ => by omega
  | n + 1, 0, c + 1, _, _, h2 => by omega
  | n + 1, k + 1, c + 1, hx, h1, h2 => by
    unfold s_upf
    obtain ⟨d, g1, g2⟩ := h.2 c (by omega)
    have h3 : tn (S.1 2 c + 1) = d := by rw [g2, nI_m1]; exact tn_nI (by have := h.1; omega)
    rw [h3, s_upf_fuel h n k d (by omega) (by omega) (by omega)]
theorem nI_m1s (d : Nat) : nI (d + 1) - 1 = nI d := nI_pred d
theorem nI_m1_eq {d : Nat} (h : d < 2 ^ 31) : nI d - 1 = -1 ↔ d = 0 := by
  constructor
  · intro e
    have h1 : nI d - 1 + 1 = -1 + 1 := by rw [e]
    rw [nI_m1] at h1
    exact (nI_eq h (by decide)).mp h1
  · intro e
    subst e
    rfl
set_option maxHeartbeats 4000000 in
set_option maxRecDepth 100000 in
theorem c6_implementer (l : Launch) (V : gV) (ad : gA) (S : rS) (x0 g nc : Nat) (hp : s_par S nc) (hx0 : x0 ≤ nc) (hg : g < 6) : rMi l yX6_implementer cX6_implementer 4 (some .int) ({ frames := 0, cells := 0, slots := 0, locals := 0 } : Room) [.int (nI x0 - 1), .int (nI g)] V ad S (fun r S' => r = nI (s_upf S g 9 x0) - 1 ∧ S' = S) := by
  refine rMi.of (by decide) (Nat.le_of_ble_eq_true rfl) ?_
  intro p e s m_ below meth c ls E sz hC hz hR hl
  have hx := hC.1
  have hb := hC.2.1
  have hl : lv_has ls 4 [(0, .ref (ad 50 0 0)), (1, .int (nI x0 - 1)), (2, .int (nI g))] := hl
  have hnc := hp.1
  refine lv_iload_n hx hb dX6_implementer_0 rfl (lv_at hl 1 rfl) ?_
  refine lv_istore_n (lv' := [(3, .int (nI x0 - 1)), (0, .ref (ad 50 0 0)), (1, .int (nI x0 - 1)), (2, .int (nI g))]) hx hb dX6_implementer_1 rfl hl (by decide) rfl (fun ls hl => ?_)
  refine g_loop (T := Nat) (fun x H locs ls => (x ≤ nc ∧ s_upf S g 9 x0 = s_upf S g 9 x) ∧ rfW V (gAd ad E sz) s.heap ad E S H locs ∧ lv_has ls 4 [(3, .int (nI x - 1)), (0, .ref (ad 50 0 0)), (1, .int (nI x0 - 1)), (2, .int (nI g))]) (fun x => x) (fun x ih H locs ls hI => ?_) (x0) ⟨⟨hx0, rfl⟩, hR, lv_sub hl [0, 1, 2, 3] rfl⟩
  obtain ⟨⟨hxn, hup⟩, hR, hl⟩ := hI
  refine lv_iload_n hx hb dX6_implementer_2 rfl (lv_at hl 0 rfl) ?_
  refine lv_iconst (v := (-1)) hx hb dX6_implementer_3 (by decide) ?_
  refine lv_icmp_eq (tgt := 32) hx hb dX6_implementer_4 (by decide) (fun c_4 => ?_) (fun c_4 => ?_)
  · refine lv_iload_n hx hb dX6_implementer_32 rfl (lv_at hl 0 rfl) ?_
    exact rr_iret hC hz hR (⟨by first | (rw [hup, show x = 0 from (nI_m1_eq (by omega)).mp c_4]; rfl) | (rw [hup, hy]; show _ = nI (if S.1 3 (6 * y + g) = -1 then s_upf S g 8 (tn (S.1 2 y + 1)) else y + 1) - 1; rw [if_neg c_19]), rfl⟩) (by decide) (by decide) dX6_implementer_33
  · have hne : x ≠ 0 := fun z => c_4 ((nI_m1_eq (by omega)).mpr z)
    obtain ⟨y, hy⟩ : ∃ y, x = y + 1 := ⟨x - 1, by omega⟩
    refine lv_aload_n hx hb dX6_implementer_7 rfl (lv_at hl 1 rfl) ?_
    refine rg_3 hC hR dX6_implementer_8 ?_
    refine lv_bipush (v := 6) hx hb dX6_implementer_11 (by decide) ?_
    refine lv_iload_n hx hb dX6_implementer_13 rfl (lv_at hl 0 rfl) ?_
    refine gq_top (nI y) (by rw [hy]; exact nI_m1s y) ?_
    refine lv_imul hx hb dX6_implementer_14 ?_
    refine lv_iload_n hx hb dX6_implementer_15 rfl (lv_at hl 3 rfl) ?_
    refine lv_iadd hx hb dX6_implementer_16 ?_
    refine gq_top (nI (6 * y + g)) (by simp only [nl3, nl4, nl5, nl6, nl20, nl240, nI_mul, nI_add]) ?_
    refine ra_3 hC hR (by omega) dX6_implementer_17 ?_
    refine lv_iconst (v := (-1)) hx hb dX6_implementer_18 (by decide) ?_
    refine lv_icmp_ne (tgt := 32) hx hb dX6_implementer_19 (by decide) (fun c_19 => ?_) (fun c_19 => ?_)
    · refine lv_iload_n hx hb dX6_implementer_32 rfl (lv_at hl 0 rfl) ?_
      exact rr_iret hC hz hR (⟨by first | (rw [hup, show x = 0 from (nI_m1_eq (by omega)).mp c_4]; rfl) | (rw [hup, hy]; show _ = nI (if S.1 3 (6 * y + g) = -1 then s_upf S g 8 (tn (S.1 2 y + 1)) else y + 1) - 1; rw [if_neg c_19]), rfl⟩) (by decide) (by decide) dX6_implementer_33
    · obtain ⟨d, hd1, hd2⟩ := hp.2 y (by omega)
      have hst : s_upf S g 9 x = s_upf S g 9 d := by
        have h3 : tn (S.1 2 y + 1) = d := by rw [hd2, nI_m1]; exact tn_nI (by omega)
        rw [hy]
        show (if S.1 3 (6 * y + g) = -1 then s_upf S g 8 (tn (S.1 2 y + 1)) else y + 1) = _
        rw [if_pos c_19, h3]
        exact s_upf_fuel hp 8 9 d (by omega) (by omega) (by omega)
      refine lv_aload_n hx hb dX6_implementer_22 rfl (lv_at hl 1 rfl) ?_
      refine rg_2 hC hR dX6_implementer_23 ?_
      refine lv_iload_n hx hb dX6_implementer_26 rfl (lv_at hl 0 rfl) ?_
      refine gq_top (nI y) (by rw [hy]; exact nI_m1s y) ?_
      refine ra_2 hC hR (by omega) dX6_implementer_27 ?_
      refine gq_top (nI d - 1) (hd2) ?_
      refine lv_istore_n (lv' := [(3, .int (nI d - 1)), (0, .ref (ad 50 0 0)), (1, .int (nI x0 - 1)), (2, .int (nI g))]) hx hb dX6_implementer_28 rfl hl (by decide) rfl (fun ls hl => ?_)
      refine lv_goto (tgt := 2) hx hb dX6_implementer_29 (by decide) ?_
      exact ih d (by omega) _ _ _ ⟨⟨by omega, hup.trans hst⟩, hR, lv_sub hl [0, 1, 2, 3] rfl⟩
/-- the method that the class x - 1 understands for g (x = 0: no class) -/
def s_und (S : rS) (x g : Nat) : Int32 := if s_upf S g 9 x = 0 then -1 else S.1 3 (6 * (s_upf S g 9 x - 1) + g)
set_option maxHeartbeats 4000000 in
set_option maxRecDepth 100000 in
theorem c6_understood (l : Launch) (V : gV) (ad : gA) (S : rS) (x0 g nc : Nat) (hp : s_par S nc) (hx0 : x0 ≤ nc) (hg : g < 6) : rMi l yX6_understood cX6_understood 4 (some .int) ({ frames := 1, cells := 0, slots := 0, locals := 23 } : Room) [.int (nI x0 - 1), .int (nI g)] V ad S (fun r S' => r = s_und S x0 g ∧ S' = S) := by
  refine rMi.of (by decide) (Nat.le_of_ble_eq_true rfl) ?_
  intro p e s m_ below meth c ls E sz hC hz hR hl
  have hx := hC.1
  have hb := hC.2.1
  have hl : lv_has ls 4 [(0, .ref (ad 50 0 0)), (1, .int (nI x0 - 1)), (2, .int (nI g))] := hl
  have hnc := hp.1
  have hle := s_upf_le (g := g) hp 9 x0 hx0
  obtain ⟨u, hu⟩ : ∃ u, u = s_upf S g 9 x0 := ⟨_, rfl⟩
  rw [← hu] at hle
  refine lv_aload_n hx hb dX6_understood_0 rfl (lv_at hl 0 rfl) ?_
  refine lv_iload_n hx hb dX6_understood_1 rfl (lv_at hl 1 rfl) ?_
  refine lv_iload_n hx hb dX6_understood_2 rfl (lv_at hl 2 rfl) ?_
  refine rr_calli hC hR (c6_implementer l V ad _ x0 g nc hp hx0 hg) km_RX6_113 kn_yX6_implementer ks_yX6_implementer kz_RX6 kd_yX6_implementer dn_X6_implementer rfl hl.1 ⟨by decide, by decide⟩ (Nat.le_of_ble_eq_true rfl) ⟨by decide, by decide⟩ dX6_understood_3 (fun r_3 S_3 H locs p_3 hR => ?_)
  obtain ⟨q_3, p_3⟩ := p_3
  rw [← hu] at q_3
  rw [p_3] at hR
  refine gq_top (nI u - 1) q_3 ?_
  refine lv_istore_n (lv' := [(3, .int (nI u - 1)), (0, .ref (ad 50 0 0)), (1, .int (nI x0 - 1)), (2, .int (nI g))]) hx hb dX6_understood_6 rfl hl (by decide) rfl (fun ls hl => ?_)
  refine lv_iload_n hx hb dX6_understood_7 rfl (lv_at hl 0 rfl) ?_
  refine lv_iconst (v := (-1)) hx hb dX6_understood_8 (by decide) ?_
  refine lv_icmp_ne (tgt := 16) hx hb dX6_understood_9 (by decide) (fun c_9 => ?_) (fun c_9 => ?_)
  · have hu0 : u ≠ 0 := fun z => c_9 ((nI_m1_eq (d := u) (by omega)).mpr z)
    refine lv_aload_n hx hb dX6_understood_16 rfl (lv_at hl 1 rfl) ?_
    refine rg_3 hC hR dX6_understood_17 ?_
    refine lv_bipush (v := 6) hx hb dX6_understood_20 (by decide) ?_
    refine lv_iload_n hx hb dX6_understood_22 rfl (lv_at hl 0 rfl) ?_
    refine gq_top (nI (u - 1)) (by rw [← nI_sub (b := 1) (by omega)]; rfl) ?_
    refine lv_imul hx hb dX6_understood_23 ?_
    refine lv_iload_n hx hb dX6_understood_24 rfl (lv_at hl 3 rfl) ?_
    refine lv_iadd hx hb dX6_understood_25 ?_
    refine gq_top (nI (6 * (u - 1) + g)) (by simp only [nl3, nl4, nl5, nl6, nl20, nl240, nI_mul, nI_add]) ?_
    refine ra_3 hC hR (by omega) dX6_understood_26 ?_
    exact rr_iret hC hz hR (⟨by first | (unfold s_und; rw [← hu, if_pos ((nI_m1_eq (d := u) (by omega)).mp c_9)]) | (unfold s_und; rw [← hu, if_neg (fun z => c_9 ((nI_m1_eq (d := u) (by omega)).mpr z))]), rfl⟩) (by decide) (by decide) dX6_understood_27
  · refine lv_iconst (v := (-1)) hx hb dX6_understood_12 (by decide) ?_
    refine lv_goto (tgt := 27) hx hb dX6_understood_13 (by decide) ?_
    exact rr_iret hC hz hR (⟨by first | (unfold s_und; rw [← hu, if_pos ((nI_m1_eq (d := u) (by omega)).mp c_9)]) | (unfold s_und; rw [← hu, if_neg (fun z => c_9 ((nI_m1_eq (d := u) (by omega)).mpr z))]), rfl⟩) (by decide) (by decide) dX6_understood_27
set_option maxHeartbeats 4000000 in
set_option maxRecDepth 100000 in
theorem c6_kindOf (l : Launch) (V : gV) (ad : gA) (S : rS) (f : Nat) (hf : f < 20) (hr : S.1 17 0 = nI (f + 1)) (g : Nat) (hg : g < 4) : rMi l yX6_kindOf cX6_kindOf 2 (some .int) ({ frames := 0, cells := 0, slots := 0, locals := 0 } : Room) [.int (nI g)] V ad S (fun r S' => r = S.1 21 (4 * f + g) ∧ S' = S) := by
  refine rMi.of (by decide) (Nat.le_of_ble_eq_true rfl) ?_
  intro p e s m_ below meth c ls E sz hC hz hR hl
  have hx := hC.1
  have hb := hC.2.1
  have hl : lv_has ls 2 [(0, .ref (ad 50 0 0)), (1, .int (nI g))] := hl
  refine lv_aload_n hx hb dX6_kindOf_0 rfl (lv_at hl 0 rfl) ?_
  refine rg_21 hC hR dX6_kindOf_1 ?_
  refine lv_iconst (v := 4) hx hb dX6_kindOf_4 (by decide) ?_
  refine lv_aload_n hx hb dX6_kindOf_5 rfl (lv_at hl 0 rfl) ?_
  refine rg_17 hC hR dX6_kindOf_6 ?_
  refine gq_top (nI (f + 1)) (hr) ?_
  refine lv_iconst (v := 1) hx hb dX6_kindOf_9 (by decide) ?_
  refine lv_isub hx hb dX6_kindOf_10 ?_
  refine gq_top (nI f) (nI_pred f) ?_
  refine lv_imul hx hb dX6_kindOf_11 ?_
  refine lv_iload_n hx hb dX6_kindOf_12 rfl (lv_at hl 1 rfl) ?_
  refine lv_iadd hx hb dX6_kindOf_13 ?_
  refine gq_top (nI (4 * f + g)) (by simp only [nl3, nl4, nl5, nl6, nl20, nl240, nI_mul, nI_add]) ?_
  refine ra_21 hC hR (by omega) dX6_kindOf_14 ?_
  exact rr_iret hC hz hR (⟨rfl, rfl⟩) (by decide) (by decide) dX6_kindOf_15
set_option maxHeartbeats 4000000 in
set_option maxRecDepth 100000 in
theorem c6_valueOf (l : Launch) (V : gV) (ad : gA) (S : rS) (f : Nat) (hf : f < 20) (hr : S.1 17 0 = nI (f + 1)) (g : Nat) (hg : g < 4) : rMi l yX6_valueOf cX6_valueOf 2 (some .int) ({ frames := 0, cells := 0, slots := 0, locals := 0 } : Room) [.int (nI g)] V ad S (fun r S' => r = S.1 22 (4 * f + g) ∧ S' = S) := by
  refine rMi.of (by decide) (Nat.le_of_ble_eq_true rfl) ?_
  intro p e s m_ below meth c ls E sz hC hz hR hl
  have hx := hC.1
  have hb := hC.2.1
  have hl : lv_has ls 2 [(0, .ref (ad 50 0 0)), (1, .int (nI g))] := hl
  refine lv_aload_n hx hb dX6_valueOf_0 rfl (lv_at hl 0 rfl) ?_
  refine rg_22 hC hR dX6_valueOf_1 ?_
  refine lv_iconst (v := 4) hx hb dX6_valueOf_4 (by decide) ?_
  refine lv_aload_n hx hb dX6_valueOf_5 rfl (lv_at hl 0 rfl) ?_
  refine rg_17 hC hR dX6_valueOf_6 ?_
  refine gq_top (nI (f + 1)) (hr) ?_
  refine lv_iconst (v := 1) hx hb dX6_valueOf_9 (by decide) ?_
  refine lv_isub hx hb dX6_valueOf_10 ?_
  refine gq_top (nI f) (nI_pred f) ?_
  refine lv_imul hx hb dX6_valueOf_11 ?_
  refine lv_iload_n hx hb dX6_valueOf_12 rfl (lv_at hl 1 rfl) ?_
  refine lv_iadd hx hb dX6_valueOf_13 ?_
  refine gq_top (nI (4 * f + g)) (by simp only [nl3, nl4, nl5, nl6, nl20, nl240, nI_mul, nI_add]) ?_
  refine ra_22 hC hR (by omega) dX6_valueOf_14 ?_
  exact rr_iret hC hz hR (⟨rfl, rfl⟩) (by decide) (by decide) dX6_valueOf_15
set_option maxHeartbeats 4000000 in
set_option maxRecDepth 100000 in
theorem c6_areInts (l : Launch) (V : gV) (ad : gA) (S : rS) (f : Nat) (hf : f < 20) (hr : S.1 17 0 = nI (f + 1)) (g k : Nat) (hg : g < 4) (hk : k < 4) : rMi l yX6_areInts cX6_areInts 3 (some .boolean) ({ frames := 1, cells := 0, slots := 0, locals := 21 } : Room) [.int (nI g), .int (nI k)] V ad S (fun r S' => r = rb (S.1 21 (4 * f + g) = -1 ∧ S.1 21 (4 * f + k) = -1) ∧ S' = S) := by
  refine rMi.of (by decide) (Nat.le_of_ble_eq_true rfl) ?_
  intro p e s m_ below meth c ls E sz hC hz hR hl
  have hx := hC.1
  have hb := hC.2.1
  have hl : lv_has ls 3 [(0, .ref (ad 50 0 0)), (1, .int (nI g)), (2, .int (nI k))] := hl
  refine lv_aload_n hx hb dX6_areInts_0 rfl (lv_at hl 0 rfl) ?_
  refine lv_iload_n hx hb dX6_areInts_1 rfl (lv_at hl 1 rfl) ?_
  refine rr_calli hC hR (c6_kindOf l V ad _ f hf hr g hg) km_RX6_163 kn_yX6_kindOf ks_yX6_kindOf kz_RX6 kd_yX6_kindOf dn_X6_kindOf rfl hl.1 ⟨by decide, by decide⟩ (Nat.le_of_ble_eq_true rfl) ⟨by decide, by decide⟩ dX6_areInts_2 (fun r_2 S_2 H locs p_2 hR => ?_)
  obtain ⟨q_2, p_2⟩ := p_2
  rw [p_2] at hR
  refine gq_top (S.1 21 (4 * f + g)) (q_2) ?_
  refine lv_iconst (v := (-1)) hx hb dX6_areInts_5 (by decide) ?_
  refine lv_icmp_ne (tgt := 22) hx hb dX6_areInts_6 (by decide) (fun c_6 => ?_) (fun c_6 => ?_)
  · refine lv_iconst (v := 0) hx hb dX6_areInts_22 (by decide) ?_
    exact rr_zret hC hz hR (by decide) (⟨by simp_all [rb], rfl⟩) (by decide) (by decide) dX6_areInts_23
  · refine lv_aload_n hx hb dX6_areInts_9 rfl (lv_at hl 0 rfl) ?_
    refine lv_iload_n hx hb dX6_areInts_10 rfl (lv_at hl 2 rfl) ?_
    refine rr_calli hC hR (c6_kindOf l V ad _ f hf hr k hk) km_RX6_163 kn_yX6_kindOf ks_yX6_kindOf kz_RX6 kd_yX6_kindOf dn_X6_kindOf rfl hl.1 ⟨by decide, by decide⟩ (Nat.le_of_ble_eq_true rfl) ⟨by decide, by decide⟩ dX6_areInts_11 (fun r_11 S_11 H locs p_11 hR => ?_)
    obtain ⟨q_11, p_11⟩ := p_11
    rw [p_11] at hR
    refine gq_top (S.1 21 (4 * f + k)) (q_11) ?_
    refine lv_iconst (v := (-1)) hx hb dX6_areInts_14 (by decide) ?_
    refine lv_icmp_ne (tgt := 22) hx hb dX6_areInts_15 (by decide) (fun c_15 => ?_) (fun c_15 => ?_)
    · refine lv_iconst (v := 0) hx hb dX6_areInts_22 (by decide) ?_
      exact rr_zret hC hz hR (by decide) (⟨by simp_all [rb], rfl⟩) (by decide) (by decide) dX6_areInts_23
    · refine lv_iconst (v := 1) hx hb dX6_areInts_18 (by decide) ?_
      refine lv_goto (tgt := 23) hx hb dX6_areInts_19 (by decide) ?_
      exact rr_zret hC hz hR (by decide) (⟨by simp_all [rb], rfl⟩) (by decide) (by decide) dX6_areInts_23
/-- the first k records of method m become what it trusts -/
def s_ta (S : rS) (m k : Nat) : rS := su (su (su S 13 (fun i => if 240 + 20 * m ≤ i ∧ i < 240 + 20 * m + k then S.1 13 (i - 240) else S.1 13 i)) 15 (fun i => if 240 + 20 * m ≤ i ∧ i < 240 + 20 * m + k then S.1 15 (i - 240) else S.1 15 i)) 14 (fun i => if 720 + 60 * m ≤ i ∧ i < 720 + 60 * m + 3 * k then S.1 14 (i - 720) else S.1 14 i)
theorem s_ta_0 (S : rS) (m : Nat) : s_ta S m 0 = S := by
  unfold s_ta
  rw [up_rng0 (S.1 13) (240 + 20 * m) (fun i => S.1 13 (i - 240)), up_rng0 (S.1 15) (240 + 20 * m) (fun i => S.1 15 (i - 240)), Nat.mul_zero, up_rng0 (S.1 14) (720 + 60 * m) (fun i => S.1 14 (i - 720)), su_id]
  rw [show su S 15 (S.1 15) = S from su_id S 15, su_id]
theorem s_ta_13 (S : rS) (m k r : Nat) (hr : r < 240) : (s_ta S m k).1 13 r = S.1 13 r := by
  show (if 240 + 20 * m ≤ r ∧ r < 240 + 20 * m + k then S.1 13 (r - 240) else S.1 13 r) = _
  rw [if_neg (by omega)]
theorem s_ta_15 (S : rS) (m k r : Nat) (hr : r < 240) : (s_ta S m k).1 15 r = S.1 15 r := by
  show (if 240 + 20 * m ≤ r ∧ r < 240 + 20 * m + k then S.1 15 (r - 240) else S.1 15 r) = _
  rw [if_neg (by omega)]
theorem s_ta_1 (S : rS) (m k : Nat) (hm : m < 12) (hk : k < 20) : s_tr (s_ta S m k) (20 * m + k) 3 = s_ta S m (k + 1) := by
  have e13 := s_ta_13 S m k (20 * m + k) (by omega)
  have e15 := s_ta_15 S m k (20 * m + k) (by omega)
  have e14 : ∀ i, i < 720 → (s_ta S m k).1 14 i = S.1 14 i := fun i hi => by
    show (if 720 + 60 * m ≤ i ∧ i < 720 + 60 * m + 3 * k then S.1 14 (i - 720) else S.1 14 i) = _
    rw [if_neg (by omega)]
  refine Prod.ext (funext fun f => funext fun i => ?_) rfl
  by_cases h14 : f = 14
  · subst h14
    show (if 3 * (240 + (20 * m + k)) ≤ i ∧ i < 3 * (240 + (20 * m + k)) + 3 then (s_ta S m k).1 14 (i - 720) else (s_ta S m k).1 14 i) = (if 720 + 60 * m ≤ i ∧ i < 720 + 60 * m + 3 * (k + 1) then S.1 14 (i - 720) else S.1 14 i)
    by_cases h : 3 * (240 + (20 * m + k)) ≤ i ∧ i < 3 * (240 + (20 * m + k)) + 3
    · rw [if_pos h, if_pos (by omega), e14 _ (by omega)]
    · rw [if_neg h]
      show (if 720 + 60 * m ≤ i ∧ i < 720 + 60 * m + 3 * k then S.1 14 (i - 720) else S.1 14 i) = _
      by_cases h2 : 720 + 60 * m ≤ i ∧ i < 720 + 60 * m + 3 * k
      · rw [if_pos h2, if_pos (by omega)]
      · rw [if_neg h2, if_neg (by omega)]
  by_cases h15 : f = 15
  · subst h15
    show va_up ((s_ta S m k).1 15) (240 + (20 * m + k)) ((s_ta S m k).1 15 (20 * m + k)) i = (if 240 + 20 * m ≤ i ∧ i < 240 + 20 * m + (k + 1) then S.1 15 (i - 240) else S.1 15 i)
    rw [e15]
    by_cases h : i = 240 + (20 * m + k)
    · subst h
      rw [if_pos (by omega)]
      simp only [va_up, if_true]
      rw [show 240 + (20 * m + k) - 240 = 20 * m + k by omega]
    · simp only [va_up, if_neg h]
      show (if 240 + 20 * m ≤ i ∧ i < 240 + 20 * m + k then S.1 15 (i - 240) else S.1 15 i) = _
      by_cases h2 : 240 + 20 * m ≤ i ∧ i < 240 + 20 * m + k
      · rw [if_pos h2, if_pos (by omega)]
      · rw [if_neg h2, if_neg (by omega)]
  by_cases h13 : f = 13
  · subst h13
    show va_up ((s_ta S m k).1 13) (240 + (20 * m + k)) ((s_ta S m k).1 13 (20 * m + k)) i = (if 240 + 20 * m ≤ i ∧ i < 240 + 20 * m + (k + 1) then S.1 13 (i - 240) else S.1 13 i)
    rw [e13]
    by_cases h : i = 240 + (20 * m + k)
    · subst h
      rw [if_pos (by omega)]
      simp only [va_up, if_true]
      rw [show 240 + (20 * m + k) - 240 = 20 * m + k by omega]
    · simp only [va_up, if_neg h]
      show (if 240 + 20 * m ≤ i ∧ i < 240 + 20 * m + k then S.1 13 (i - 240) else S.1 13 i) = _
      by_cases h2 : 240 + 20 * m ≤ i ∧ i < 240 + 20 * m + k
      · rw [if_pos h2, if_pos (by omega)]
      · rw [if_neg h2, if_neg (by omega)]
  simp [s_tr, s_ta, su, h13, h14, h15]
/-- warmed: first the heat and tier 1, then tier 2 -/
def sp_w1 (S : rS) (m : Nat) : rS := if S.1 10 m = 0 ∧ S.1 7 0 ≤ S.1 11 m + 1 then sl (sl (su (su S 11 (va_up (S.1 11) m (S.1 11 m + 1))) 10 (va_up (S.1 10) m 1)) 26 (fun _ => S.2 26 0 + 20 * (S.1 5 m).toInt64)) 16 (va_up (S.2 16) 0 (S.2 16 0 + 1)) else su S 11 (va_up (S.1 11) m (S.1 11 m + 1))
def sp_w2 (S : rS) (m : Nat) : rS := if S.1 10 m = 1 ∧ S.1 8 0 ≤ S.1 11 m ∧ S.1 12 m < S.1 9 0 then s_ta (sl (sl (su S 10 (va_up (S.1 10) m 2)) 26 (fun _ => S.2 26 0 + 50 * (S.1 5 m).toInt64)) 16 (va_up (S.2 16) 1 (S.2 16 1 + 1))) m 20 else S
def sp_warm (S : rS) (m : Nat) : rS := sp_w2 (sp_w1 S m) m
theorem sp_w1_f {S : rS} {m f : Nat} (h1 : f ≠ 10) (h2 : f ≠ 11) : (sp_w1 S m).1 f = S.1 f := by
  unfold sp_w1
  split <;> simp [su, sl, h1, h2]
set_option maxHeartbeats 4000000 in
set_option maxRecDepth 100000 in
theorem c6_warm (l : Launch) (V : gV) (ad : gA) (S : rS) (m : Nat) (hm : m < 12) (hcr : ∀ q, q < 240 → S.1 15 q = 0 ∨ S.1 15 q = 1) : rMv l yX6_warm cX6_warm 3 none ({ frames := 1, cells := 0, slots := 0, locals := 22 } : Room) [.int (nI m)] V ad S (fun S' => S' = sp_warm S m) := by
  refine rMv.of (by decide) (Nat.le_of_ble_eq_true rfl) ?_
  intro p e s m_ below meth c ls E sz hC hz hR hl
  have hx := hC.1
  have hb := hC.2.1
  have hl : lv_has ls 3 [(0, .ref (ad 50 0 0)), (1, .int (nI m))] := hl
  refine lv_aload_n hx hb dX6_warm_0 rfl (lv_at hl 0 rfl) ?_
  refine rg_11 hC hR dX6_warm_1 ?_
  refine lv_iload_n hx hb dX6_warm_4 rfl (lv_at hl 1 rfl) ?_
  refine lv_dup2_11 hx hb dX6_warm_5 rfl rfl ?_
  refine ra_11 hC hR (by omega) dX6_warm_6 ?_
  refine lv_iconst (v := 1) hx hb dX6_warm_7 (by decide) ?_
  refine lv_iadd hx hb dX6_warm_8 ?_
  refine rs_11 hC hR (by omega) dX6_warm_9 (fun H locs hR => ?_)
  refine g_cut (pc2 := 69) (fun H locs ls => rfW V (gAd ad E sz) s.heap ad E (sp_w1 S m) H locs ∧ lv_has ls 3 [(0, .ref (ad 50 0 0)), (1, .int (nI m))]) (fun H locs ls hI => ?_) (fun k69 => ?_)
  · obtain ⟨hR, hl⟩ := hI
    have hcr : ∀ q, q < 240 → (sp_w1 S m).1 15 q = 0 ∨ (sp_w1 S m).1 15 q = 1 := by rw [sp_w1_f (by decide) (by decide)]; exact hcr
    have hw : sp_warm S m = sp_w2 (sp_w1 S m) m := rfl
    generalize sp_w1 S m = S1 at hR hcr hw
    refine lv_aload_n hx hb dX6_warm_69 rfl (lv_at hl 0 rfl) ?_
    refine rg_10 hC hR dX6_warm_70 ?_
    refine lv_iload_n hx hb dX6_warm_73 rfl (lv_at hl 1 rfl) ?_
    refine ra_10 hC hR (by omega) dX6_warm_74 ?_
    refine lv_iconst (v := 1) hx hb dX6_warm_75 (by decide) ?_
    refine lv_icmp_ne (tgt := 105) hx hb dX6_warm_76 (by decide) (fun c_76 => ?_) (fun c_76 => ?_)
    · exact rr_vret hC hz hR (by first | exact (hw.trans (if_neg (fun z => c_76 z.1))).symm | exact (hw.trans (if_neg (fun z => Int32.not_lt.mpr z.2.1 c_89))).symm | exact (hw.trans (if_neg (fun z => c_102 z.2.2))).symm) (by decide) (by decide) dX6_warm_105
    · refine lv_aload_n hx hb dX6_warm_79 rfl (lv_at hl 0 rfl) ?_
      refine rg_11 hC hR dX6_warm_80 ?_
      refine lv_iload_n hx hb dX6_warm_83 rfl (lv_at hl 1 rfl) ?_
      refine ra_11 hC hR (by omega) dX6_warm_84 ?_
      refine lv_aload_n hx hb dX6_warm_85 rfl (lv_at hl 0 rfl) ?_
      refine rg_8 hC hR dX6_warm_86 ?_
      refine lv_icmp_lt (tgt := 105) hx hb dX6_warm_89 (by decide) (fun c_89 => ?_) (fun c_89 => ?_)
      · exact rr_vret hC hz hR (by first | exact (hw.trans (if_neg (fun z => c_76 z.1))).symm | exact (hw.trans (if_neg (fun z => Int32.not_lt.mpr z.2.1 c_89))).symm | exact (hw.trans (if_neg (fun z => c_102 z.2.2))).symm) (by decide) (by decide) dX6_warm_105
      · refine lv_aload_n hx hb dX6_warm_92 rfl (lv_at hl 0 rfl) ?_
        refine rg_12 hC hR dX6_warm_93 ?_
        refine lv_iload_n hx hb dX6_warm_96 rfl (lv_at hl 1 rfl) ?_
        refine ra_12 hC hR (by omega) dX6_warm_97 ?_
        refine lv_aload_n hx hb dX6_warm_98 rfl (lv_at hl 0 rfl) ?_
        refine rg_9 hC hR dX6_warm_99 ?_
        refine lv_icmp_lt (tgt := 106) hx hb dX6_warm_102 (by decide) (fun c_102 => ?_) (fun c_102 => ?_)
        · refine lv_aload_n hx hb dX6_warm_106 rfl (lv_at hl 0 rfl) ?_
          refine rg_10 hC hR dX6_warm_107 ?_
          refine lv_iload_n hx hb dX6_warm_110 rfl (lv_at hl 1 rfl) ?_
          refine lv_iconst (v := 2) hx hb dX6_warm_111 (by decide) ?_
          refine rs_10 hC hR (by omega) dX6_warm_112 (fun H locs hR => ?_)
          refine lv_aload_n hx hb dX6_warm_113 rfl (lv_at hl 0 rfl) ?_
          refine lv_dup hx hb dX6_warm_114 rfl ?_
          refine rg_26 hC hR dX6_warm_115 ?_
          refine gq_ldc2 hC kl_RX6_137 dX6_warm_118 ?_
          refine lv_aload_n hx hb dX6_warm_121 rfl (lv_at hl 0 rfl) ?_
          refine rg_5 hC hR dX6_warm_122 ?_
          refine lv_iload_n hx hb dX6_warm_125 rfl (lv_at hl 1 rfl) ?_
          refine ra_5 hC hR (by omega) dX6_warm_126 ?_
          refine lv_i2l hx hb dX6_warm_127 rfl ?_
          refine lv_lmul hx hb dX6_warm_128 ?_
          refine lv_ladd hx hb dX6_warm_129 ?_
          refine rp_26 hC hR dX6_warm_130 (fun H locs hR => ?_)
          refine lv_aload_n hx hb dX6_warm_133 rfl (lv_at hl 0 rfl) ?_
          refine rg_16 hC hR dX6_warm_134 ?_
          refine lv_iconst (v := (nI 1)) hx hb dX6_warm_137 (by decide) ?_
          refine lv_dup2_11 hx hb dX6_warm_138 rfl rfl ?_
          refine ra_16 hC hR (by omega) dX6_warm_139 ?_
          refine lv_lconst (v := 1) hx hb dX6_warm_140 (by decide) ?_
          refine lv_ladd hx hb dX6_warm_141 ?_
          refine rs_16 hC hR (by omega) dX6_warm_142 (fun H locs hR => ?_)
          refine lv_iconst (v := (nI 0)) hx hb dX6_warm_143 (by decide) ?_
          refine lv_istore_n (lv' := [(2, .int ((nI 0))), (0, .ref (ad 50 0 0)), (1, .int (nI m))]) hx hb dX6_warm_144 rfl hl (by decide) rfl (fun ls hl => ?_)
          have hw2 : sp_warm S m = s_ta (sl (sl (su S1 10 (va_up (S1.1 10) m 2)) 26 (fun _ => S1.2 26 0 + 50 * (S1.1 5 m).toInt64)) 16 (va_up (S1.2 16) 1 (S1.2 16 1 + 1))) m 20 := hw.trans (if_pos ⟨c_76, Int32.not_lt.mp c_89, c_102⟩)
          refine g_loop (T := Nat) (fun x H locs ls => x ≤ 20 ∧ rfW V (gAd ad E sz) s.heap ad E (s_ta (sl (sl (su S1 10 (va_up (S1.1 10) m 2)) 26 (fun _ => S1.2 26 0 + 50 * (S1.1 5 m).toInt64)) 16 (va_up (S1.2 16) 1 (S1.2 16 1 + 1))) m x) H locs ∧ lv_has ls 3 [(2, .int (nI x)), (0, .ref (ad 50 0 0)), (1, .int (nI m))]) (fun x => 20 - x) (fun x ih H locs ls hI => ?_) (0) ⟨by omega, by rw [s_ta_0]; exact hR, lv_sub hl [0, 1, 2] rfl⟩
          obtain ⟨hx20, hR, hl⟩ := hI
          refine lv_iload_n hx hb dX6_warm_145 rfl (lv_at hl 0 rfl) ?_
          refine lv_bipush (v := (nI 20)) hx hb dX6_warm_146 (by decide) ?_
          refine gn_icmp_ge (tgt := 167) hx hb (by omega) (by omega) dX6_warm_148 (by decide) (fun c_148 => ?_) (fun c_148 => ?_)
          · exact rr_vret hC hz hR (by rw [hw2, show x = 20 by omega]) (by decide) (by decide) dX6_warm_167
          · refine lv_aload_n hx hb dX6_warm_151 rfl (lv_at hl 1 rfl) ?_
            refine lv_bipush (v := 20) hx hb dX6_warm_152 (by decide) ?_
            refine lv_iload_n hx hb dX6_warm_154 rfl (lv_at hl 2 rfl) ?_
            refine lv_imul hx hb dX6_warm_155 ?_
            refine lv_iload_n hx hb dX6_warm_156 rfl (lv_at hl 0 rfl) ?_
            refine lv_iadd hx hb dX6_warm_157 ?_
            refine gq_top (nI (20 * m + x)) (by simp only [nl3, nl4, nl5, nl6, nl20, nl240, nI_mul, nI_add]) ?_
            refine rr_callv hC hR (c6_trust l V ad _ (20 * m + x) (by omega) (by rw [s_ta_15 _ _ _ _ (by omega)]; exact hcr _ (by omega))) km_RX6_139 kn_yX6_trust ks_yX6_trust kz_RX6 kd_yX6_trust dn_X6_trust rfl hl.1 ⟨by decide, by decide⟩ (Nat.le_of_ble_eq_true rfl) ⟨by decide, by decide⟩ dX6_warm_158 (fun S_158 H locs p_158 hR => ?_)
            subst p_158
            refine lv_iinc (v := (nI (x + 1))) (lv' := [(2, .int ((nI (x + 1)))), (0, .ref (ad 50 0 0)), (1, .int (nI m))]) hx hb dX6_warm_161 hl (k := 0) rfl (nI_1 x) (by decide) rfl (fun ls hl => ?_)
            refine lv_goto (tgt := 145) hx hb dX6_warm_164 (by decide) ?_
            exact ih (x + 1) (by omega) _ _ _ ⟨by omega, by rw [← s_ta_1 _ m x hm (by omega)]; exact hR, lv_sub hl [0, 1, 2] rfl⟩
        · exact rr_vret hC hz hR (by first | exact (hw.trans (if_neg (fun z => c_76 z.1))).symm | exact (hw.trans (if_neg (fun z => Int32.not_lt.mpr z.2.1 c_89))).symm | exact (hw.trans (if_neg (fun z => c_102 z.2.2))).symm) (by decide) (by decide) dX6_warm_105
  · refine lv_aload_n hx hb dX6_warm_10 rfl (lv_at hl 0 rfl) ?_
    refine rg_10 hC hR dX6_warm_11 ?_
    refine lv_iload_n hx hb dX6_warm_14 rfl (lv_at hl 1 rfl) ?_
    refine ra_10 hC hR (by omega) dX6_warm_15 ?_
    refine lv_if_ne (tgt := 69) hx hb dX6_warm_16 (by decide) (fun c_16 => ?_) (fun c_16 => ?_)
    · refine k69 _ _ _ ⟨?_, lv_sub hl [0, 1] rfl⟩
      first | (rw [show sp_w1 S m = _ from if_pos ⟨c_16, Int32.not_lt.mp c_29⟩]; exact hR) | (rw [show sp_w1 S m = _ from if_neg (fun z => c_16 z.1)]; exact hR) | (rw [show sp_w1 S m = _ from if_neg (fun z => Int32.not_lt.mpr z.2 c_29)]; exact hR)
    · refine lv_aload_n hx hb dX6_warm_19 rfl (lv_at hl 0 rfl) ?_
      refine rg_11 hC hR dX6_warm_20 ?_
      refine lv_iload_n hx hb dX6_warm_23 rfl (lv_at hl 1 rfl) ?_
      refine ra_11 hC hR (by omega) dX6_warm_24 ?_
      refine gq_top (S.1 11 m + 1) (by simp [su, va_up]) ?_
      refine lv_aload_n hx hb dX6_warm_25 rfl (lv_at hl 0 rfl) ?_
      refine rg_7 hC hR dX6_warm_26 ?_
      refine lv_icmp_lt (tgt := 69) hx hb dX6_warm_29 (by decide) (fun c_29 => ?_) (fun c_29 => ?_)
      · refine k69 _ _ _ ⟨?_, lv_sub hl [0, 1] rfl⟩
        first | (rw [show sp_w1 S m = _ from if_pos ⟨c_16, Int32.not_lt.mp c_29⟩]; exact hR) | (rw [show sp_w1 S m = _ from if_neg (fun z => c_16 z.1)]; exact hR) | (rw [show sp_w1 S m = _ from if_neg (fun z => Int32.not_lt.mpr z.2 c_29)]; exact hR)
      · refine lv_aload_n hx hb dX6_warm_32 rfl (lv_at hl 0 rfl) ?_
        refine rg_10 hC hR dX6_warm_33 ?_
        refine lv_iload_n hx hb dX6_warm_36 rfl (lv_at hl 1 rfl) ?_
        refine lv_iconst (v := 1) hx hb dX6_warm_37 (by decide) ?_
        refine rs_10 hC hR (by omega) dX6_warm_38 (fun H locs hR => ?_)
        refine lv_aload_n hx hb dX6_warm_39 rfl (lv_at hl 0 rfl) ?_
        refine lv_dup hx hb dX6_warm_40 rfl ?_
        refine rg_26 hC hR dX6_warm_41 ?_
        refine gq_ldc2 hC kl_RX6_135 dX6_warm_44 ?_
        refine lv_aload_n hx hb dX6_warm_47 rfl (lv_at hl 0 rfl) ?_
        refine rg_5 hC hR dX6_warm_48 ?_
        refine lv_iload_n hx hb dX6_warm_51 rfl (lv_at hl 1 rfl) ?_
        refine ra_5 hC hR (by omega) dX6_warm_52 ?_
        refine lv_i2l hx hb dX6_warm_53 rfl ?_
        refine lv_lmul hx hb dX6_warm_54 ?_
        refine lv_ladd hx hb dX6_warm_55 ?_
        refine rp_26 hC hR dX6_warm_56 (fun H locs hR => ?_)
        refine lv_aload_n hx hb dX6_warm_59 rfl (lv_at hl 0 rfl) ?_
        refine rg_16 hC hR dX6_warm_60 ?_
        refine lv_iconst (v := (nI 0)) hx hb dX6_warm_63 (by decide) ?_
        refine lv_dup2_11 hx hb dX6_warm_64 rfl rfl ?_
        refine ra_16 hC hR (by omega) dX6_warm_65 ?_
        refine lv_lconst (v := 1) hx hb dX6_warm_66 (by decide) ?_
        refine lv_ladd hx hb dX6_warm_67 ?_
        refine rs_16 hC hR (by omega) dX6_warm_68 (fun H locs hR => ?_)
        refine k69 _ _ _ ⟨?_, lv_sub hl [0, 1] rfl⟩
        first | (rw [show sp_w1 S m = _ from if_pos ⟨c_16, Int32.not_lt.mp c_29⟩]; exact hR) | (rw [show sp_w1 S m = _ from if_neg (fun z => c_16 z.1)]; exact hR) | (rw [show sp_w1 S m = _ from if_neg (fun z => Int32.not_lt.mpr z.2 c_29)]; exact hR)
