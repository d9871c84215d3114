/-- the instruction number i is one that append takes -/
def s_ins (S : rS) (nc i : Nat) : Prop := ∃ k : Nat, k ≤ 8 ∧ S.1 6 (5 * i) = nI k ∧
  (∃ a : Nat, S.1 6 (5 * i + 1) = nI a ∧ a ≤ 20 ∧ (k ≠ 7 → a < 4)) ∧
  ((k = 1 ∨ k = 2 ∨ k = 3 ∨ k = 6) → ∃ b : Nat, b < 4 ∧ S.1 6 (5 * i + 2) = nI b) ∧ (k = 4 → ∃ b : Nat, b < nc ∧ S.1 6 (5 * i + 2) = nI b) ∧ (k = 5 → ∃ b : Nat, b < 6 ∧ S.1 6 (5 * i + 2) = nI b) ∧
  ((k = 1 ∨ k = 2 ∨ k = 3 ∨ k = 5) → ∃ c : Nat, c < 4 ∧ S.1 6 (5 * i + 3) = nI c) ∧ (k = 6 → ∃ c : Nat, c ≤ 20 ∧ S.1 6 (5 * i + 3) = nI c) ∧
  (k = 5 → ∃ d : Nat, d < 4 ∧ S.1 6 (5 * i + 4) = nI d)
/-- what every state between two calls has: nc classes, nm methods -/
def rI (S : rS) (nc nm : Nat) : Prop :=
  S.1 1 0 = nI nc ∧ s_par S nc ∧ S.1 4 0 = nI nm ∧ nm ≤ 12 ∧
  (∀ c g : Nat, c < nc → g < 6 → ∃ d : Nat, d ≤ nm ∧ S.1 3 (6 * c + g) = nI d - 1) ∧
  (∀ m : Nat, m < 12 → ∃ z : Nat, z ≤ 20 ∧ S.1 5 m = nI z ∧ (nm ≤ m → z = 0) ∧ ∀ q : Nat, q < z → s_ins S nc (20 * m + q)) ∧
  (∀ r : Nat, r < 480 → ∃ n : Nat, n ≤ 3 ∧ S.1 13 r = nI n ∧ ∀ k : Nat, k < n → ∃ d : Nat, d < nc ∧ S.1 14 (3 * r + k) = nI d) ∧
  ∀ r : Nat, r < 480 → S.1 15 r = 0 ∨ S.1 15 r = 1
/-- and, with f methods running, their frames -/
def rF (S : rS) (nc nm f : Nat) : Prop :=
  S.1 17 0 = nI f ∧ f ≤ 20 ∧
  (∀ i : Nat, i < f → ∃ m q : Nat, m < nm ∧ q ≤ 20 ∧ S.1 18 i = nI m ∧ S.1 19 i = nI q ∧ (i + 1 < f → q < tn (S.1 5 m) ∧ S.1 6 (5 * (20 * m + q)) = nI 5)) ∧
  ∀ i g : Nat, i < f → g < 4 → ∃ x : Nat, x ≤ nc ∧ S.1 21 (4 * i + g) = nI x - 1 ∧ (x ≠ 0 → S.1 22 (4 * i + g) = 0)
theorem s_und_m {S : rS} {nc nm x g : Nat} (hp : s_par S nc) (h : ∀ c g : Nat, c < nc → g < 6 → ∃ d : Nat, d ≤ nm ∧ S.1 3 (6 * c + g) = nI d - 1) (hx : x ≤ nc) (hg : g < 6) : ∃ d : Nat, d ≤ nm ∧ s_und S x g = nI d - 1 := by
  unfold s_und
  have hle := s_upf_le (g := g) hp 9 x hx
  split
  · exact ⟨0, Nat.zero_le _, rfl⟩
  · exact h _ g (by omega) hg
theorem s_und_up {S : rS} {x g : Nat} (h : s_und S x g ≠ -1) : s_upf S g 9 x ≠ 0 := fun z => h (if_pos z)
theorem sp_meet_f {S : rS} {f m q x g k : Nat} (h1 : k ≠ 10) (h2 : k ≠ 11) (h3 : k ≠ 12) (h4 : k ≠ 13) (h5 : k ≠ 14) (h6 : k ≠ 15) (h7 : k ≠ 20) : (sp_meet S f m q x g).1 k = S.1 k := by
  unfold sp_meet
  split
  · show (sp_note S (20 * m + q) (nI x - 1)).1 k = _
    exact sp_note_f h4 h5 h6
  · split
    · rfl
    · split
      · rfl
      · show (s_ft (s_di0 (sp_note S (20 * m + q) (nI x - 1)) m) m (f + 1)).1 k = _
        unfold s_ft s_di0
        simp only [su, if_neg h7, if_neg h1, if_neg h2, if_neg h3]
        exact sp_note_f h4 h5 h6
theorem sp_meet_15 {S : rS} {f m q x g : Nat} (h : ∀ q, q < 480 → S.1 15 q = 0 ∨ S.1 15 q = 1) : ∀ k, k < 480 → (sp_meet S f m q x g).1 15 k = 0 ∨ (sp_meet S f m q x g).1 15 k = 1 := by
  unfold sp_meet
  split
  · exact sp_note_15 h
  · split
    · exact h
    · split
      · exact h
      · exact sp_note_15 h
def s_err (S : rS) (k : Int32) : rS := su S 25 (fun _ => k)
def s_nxt (S : rS) (f : Nat) : rS := su S 19 (va_up (S.1 19) f (S.1 19 f + 1))
def s_op (S : rS) (m q j : Nat) : Int32 := S.1 6 (5 * (20 * m + q) + j)
/-- a SEND at place q of m, running as f -/
def sp_sen2 (S : rS) (f m q x g mt : Nat) (k v : Int32) : rS :=
  if f + 1 = 20 then s_err (sp_meet S f m q x g) 3 else sp_put (sp_begin (sp_meet S f m q x g) (f + 1) mt k v) (f + 1) 1 (nI x - 1) 0
def sp_send (S : rS) (f m q : Nat) : rS :=
  if S.1 21 (4 * f + tn (s_op S m q 3)) = -1 then s_err S 1
  else if s_und S (tn (S.1 21 (4 * f + tn (s_op S m q 3)) + 1)) (tn (s_op S m q 2)) = -1 then s_err S 2
  else sp_sen2 S f m q (tn (S.1 21 (4 * f + tn (s_op S m q 3)) + 1)) (tn (s_op S m q 2)) (tn (s_und S (tn (S.1 21 (4 * f + tn (s_op S m q 3)) + 1)) (tn (s_op S m q 2)))) (S.1 21 (4 * f + tn (s_op S m q 4))) (S.1 22 (4 * f + tn (s_op S m q 4)))
set_option maxHeartbeats 4000000 in
set_option maxRecDepth 100000 in
theorem c6_send (l : Launch) (V : gV) (ad : gA) (S : rS) (f m q nc nm g oc od x : Nat) (hf : f < 20) (hm : m < 12) (hq : q < 20) (hr : S.1 17 0 = nI (f + 1)) (hI : rI S nc nm) (hg : g < 6) (hoc : oc < 4) (hod : od < 4) (e2 : s_op S m q 2 = nI g) (e3 : s_op S m q 3 = nI oc) (e4 : s_op S m q 4 = nI od) (hxn : x ≤ nc) (ex : S.1 21 (4 * f + oc) = nI x - 1) : rMv l yX6_send cX6_send 8 none ({ frames := 3, cells := 0, slots := 0, locals := 74 } : Room) [.int (nI m), .int (nI q)] V ad S (fun S' => S' = sp_send S f m q) := by
  refine rMv.of (by decide) (Nat.le_of_ble_eq_true rfl) ?_
  intro p e s m_ below meth c ls E sz hC hz hR hl
  have hx := hC.1
  have hb := hC.2.1
  have hl : lv_has ls 8 [(0, .ref (ad 50 0 0)), (1, .int (nI m)), (2, .int (nI q))] := hl
  obtain ⟨hI1, hp, hI4, hnm, hI3, hI5, hI13, hcr⟩ := hI
  have hnc := hp.1
  have t2 : tn (s_op S m q 2) = g := by rw [e2]; exact tn_nI (by omega)
  have t3 : tn (s_op S m q 3) = oc := by rw [e3]; exact tn_nI (by omega)
  have t4 : tn (s_op S m q 4) = od := by rw [e4]; exact tn_nI (by omega)
  have tx : tn (S.1 21 (4 * f + oc) + 1) = x := by rw [ex, nI_m1]; exact tn_nI (by omega)
  obtain ⟨mt, hmt, emt⟩ := s_und_m (g := g) hp hI3 hxn hg
  refine lv_aload_n hx hb dX6_send_0 rfl (lv_at hl 0 rfl) ?_
  refine lv_iload_n hx hb dX6_send_1 rfl (lv_at hl 1 rfl) ?_
  refine lv_iload_n hx hb dX6_send_2 rfl (lv_at hl 2 rfl) ?_
  refine lv_iconst (v := (nI 2)) hx hb dX6_send_3 (by decide) ?_
  refine rr_calli hC hR (c6_operand l V ad _ m q 2 hm hq (by omega)) km_RX6_127 kn_yX6_operand ks_yX6_operand kz_RX6 kd_yX6_operand dn_X6_operand rfl hl.1 ⟨by decide, by decide⟩ (Nat.le_of_ble_eq_true rfl) ⟨by decide, by decide⟩ dX6_send_4 (fun r_4 S_4 H locs p_4 hR => ?_)
  obtain ⟨q_4, p_4⟩ := p_4
  rw [p_4] at hR
  refine gq_top (nI g) (q_4.trans e2) ?_
  refine lv_istore_n (lv' := [(3, .int (nI g)), (0, .ref (ad 50 0 0)), (1, .int (nI m)), (2, .int (nI q))]) hx hb dX6_send_7 rfl hl (by decide) rfl (fun ls hl => ?_)
  refine lv_aload_n hx hb dX6_send_8 rfl (lv_at hl 1 rfl) ?_
  refine lv_iload_n hx hb dX6_send_9 rfl (lv_at hl 2 rfl) ?_
  refine lv_iload_n hx hb dX6_send_10 rfl (lv_at hl 3 rfl) ?_
  refine lv_iconst (v := (nI 3)) hx hb dX6_send_11 (by decide) ?_
  refine rr_calli hC hR (c6_operand l V ad _ m q 3 hm hq (by omega)) km_RX6_127 kn_yX6_operand ks_yX6_operand kz_RX6 kd_yX6_operand dn_X6_operand rfl hl.1 ⟨by decide, by decide⟩ (Nat.le_of_ble_eq_true rfl) ⟨by decide, by decide⟩ dX6_send_12 (fun r_12 S_12 H locs p_12 hR => ?_)
  obtain ⟨q_12, p_12⟩ := p_12
  rw [p_12] at hR
  refine gq_top (nI oc) (q_12.trans e3) ?_
  refine lv_istore (lv' := [(4, .int (nI oc)), (3, .int (nI g)), (0, .ref (ad 50 0 0)), (1, .int (nI m)), (2, .int (nI q))]) hx hb dX6_send_15 hl (by decide) rfl (fun ls hl => ?_)
  refine lv_aload_n hx hb dX6_send_17 rfl (lv_at hl 2 rfl) ?_
  refine lv_iload_n hx hb dX6_send_18 rfl (lv_at hl 3 rfl) ?_
  refine lv_iload_n hx hb dX6_send_19 rfl (lv_at hl 4 rfl) ?_
  refine lv_iconst (v := (nI 4)) hx hb dX6_send_20 (by decide) ?_
  refine rr_calli hC hR (c6_operand l V ad _ m q 4 hm hq (by omega)) km_RX6_127 kn_yX6_operand ks_yX6_operand kz_RX6 kd_yX6_operand dn_X6_operand rfl hl.1 ⟨by decide, by decide⟩ (Nat.le_of_ble_eq_true rfl) ⟨by decide, by decide⟩ dX6_send_21 (fun r_21 S_21 H locs p_21 hR => ?_)
  obtain ⟨q_21, p_21⟩ := p_21
  rw [p_21] at hR
  refine gq_top (nI od) (q_21.trans e4) ?_
  refine lv_istore (lv' := [(5, .int (nI od)), (4, .int (nI oc)), (3, .int (nI g)), (0, .ref (ad 50 0 0)), (1, .int (nI m)), (2, .int (nI q))]) hx hb dX6_send_24 hl (by decide) rfl (fun ls hl => ?_)
  refine lv_aload_n hx hb dX6_send_26 rfl (lv_at hl 3 rfl) ?_
  refine lv_iload hx hb dX6_send_27 (lv_at hl 1 rfl) ?_
  refine rr_calli hC hR (c6_kindOf l V ad _ f hf hr (oc) hoc) km_RX6_163 kn_yX6_kindOf ks_yX6_kindOf kz_RX6 kd_yX6_kindOf dn_X6_kindOf rfl hl.1 ⟨by decide, by decide⟩ (Nat.le_of_ble_eq_true rfl) ⟨by decide, by decide⟩ dX6_send_29 (fun r_29 S_29 H locs p_29 hR => ?_)
  obtain ⟨q_29, p_29⟩ := p_29
  rw [p_29] at hR
  refine gq_top (nI x - 1) (q_29.trans ex) ?_
  refine lv_iconst (v := (-1)) hx hb dX6_send_32 (by decide) ?_
  refine lv_icmp_ne (tgt := 42) hx hb dX6_send_33 (by decide) (fun c_33 => ?_) (fun c_33 => ?_)
  · refine lv_aload_n hx hb dX6_send_42 rfl (lv_at hl 3 rfl) ?_
    refine lv_iload hx hb dX6_send_43 (lv_at hl 1 rfl) ?_
    refine rr_calli hC hR (c6_kindOf l V ad _ f hf hr (oc) hoc) km_RX6_163 kn_yX6_kindOf ks_yX6_kindOf kz_RX6 kd_yX6_kindOf dn_X6_kindOf rfl hl.1 ⟨by decide, by decide⟩ (Nat.le_of_ble_eq_true rfl) ⟨by decide, by decide⟩ dX6_send_45 (fun r_45 S_45 H locs p_45 hR => ?_)
    obtain ⟨q_45, p_45⟩ := p_45
    rw [p_45] at hR
    refine gq_top (nI x - 1) (q_45.trans ex) ?_
    refine lv_istore (lv' := [(6, .int (nI x - 1)), (5, .int (nI od)), (4, .int (nI oc)), (3, .int (nI g)), (0, .ref (ad 50 0 0)), (1, .int (nI m)), (2, .int (nI q))]) hx hb dX6_send_48 hl (by decide) rfl (fun ls hl => ?_)
    refine lv_aload_n hx hb dX6_send_50 rfl (lv_at hl 4 rfl) ?_
    refine lv_iload hx hb dX6_send_51 (lv_at hl 0 rfl) ?_
    refine lv_iload_n hx hb dX6_send_53 rfl (lv_at hl 3 rfl) ?_
    refine rr_calli hC hR (c6_understood l V ad _ x g nc hp hxn hg) km_RX6_117 kn_yX6_understood ks_yX6_understood kz_RX6 kd_yX6_understood dn_X6_understood rfl hl.1 ⟨by decide, by decide⟩ (Nat.le_of_ble_eq_true rfl) ⟨by decide, by decide⟩ dX6_send_54 (fun r_54 S_54 H locs p_54 hR => ?_)
    obtain ⟨q_54, p_54⟩ := p_54
    rw [p_54] at hR
    refine gq_top (nI mt - 1) (q_54.trans emt) ?_
    refine lv_istore (lv' := [(7, .int (nI mt - 1)), (6, .int (nI x - 1)), (5, .int (nI od)), (4, .int (nI oc)), (3, .int (nI g)), (0, .ref (ad 50 0 0)), (1, .int (nI m)), (2, .int (nI q))]) hx hb dX6_send_57 hl (by decide) rfl (fun ls hl => ?_)
    refine lv_iload hx hb dX6_send_59 (lv_at hl 0 rfl) ?_
    refine lv_iconst (v := (-1)) hx hb dX6_send_61 (by decide) ?_
    refine lv_icmp_ne (tgt := 71) hx hb dX6_send_62 (by decide) (fun c_62 => ?_) (fun c_62 => ?_)
    · have hund : s_und S x g ≠ -1 := by rw [emt]; exact c_62
      have hmt0 : mt ≠ 0 := fun z => c_62 (by rw [z]; rfl)
      have emt2 : s_und S x g = nI (mt - 1) := by rw [emt, ← nI_sub (b := 1) (by omega)]; rfl
      have tmt : tn (s_und S x g) = mt - 1 := by rw [emt2]; exact tn_nI (by omega)
      refine lv_aload_n hx hb dX6_send_71 rfl (lv_at hl 5 rfl) ?_
      refine lv_iload_n hx hb dX6_send_72 rfl (lv_at hl 6 rfl) ?_
      refine lv_iload_n hx hb dX6_send_73 rfl (lv_at hl 7 rfl) ?_
      refine lv_iload hx hb dX6_send_74 (lv_at hl 1 rfl) ?_
      refine lv_iload_n hx hb dX6_send_76 rfl (lv_at hl 4 rfl) ?_
      refine rr_callv hC hR (c6_meet l V ad _ f m q x g nc hf hm hq hg hr hp hxn (s_und_up hund) (fun r h => by obtain ⟨n, h1, h2, _⟩ := hI13 r h; exact ⟨n, h1, h2⟩)) km_RX6_179 kn_yX6_meet ks_yX6_meet kz_RX6 kd_yX6_meet dn_X6_meet rfl hl.1 ⟨by decide, by decide⟩ (Nat.le_of_ble_eq_true rfl) ⟨by decide, by decide⟩ dX6_send_77 (fun S_77 H locs p_77 hR => ?_)
      subst p_77
      refine lv_aload_n hx hb dX6_send_80 rfl (lv_at hl 5 rfl) ?_
      refine rg_17 hC hR dX6_send_81 ?_
      refine gq_top (nI (f + 1)) (by rw [show (sp_meet S f m q x g).1 17 = S.1 17 from sp_meet_f (by decide) (by decide) (by decide) (by decide) (by decide) (by decide) (by decide)]; exact hr) ?_
      refine lv_bipush (v := (nI 20)) hx hb dX6_send_84 (by decide) ?_
      refine gn_icmp_ne (tgt := 95) hx hb (by omega) (by omega) dX6_send_86 (by decide) (fun c_86 => ?_) (fun c_86 => ?_)
      · have fm : ∀ {k : Nat}, k ≠ 10 → k ≠ 11 → k ≠ 12 → k ≠ 13 → k ≠ 14 → k ≠ 15 → k ≠ 20 → (sp_meet S f m q x g).1 k = S.1 k := fun h1 h2 h3 h4 h5 h6 h7 => sp_meet_f h1 h2 h3 h4 h5 h6 h7
        refine lv_aload_n hx hb dX6_send_95 rfl (lv_at hl 5 rfl) ?_
        refine lv_iload hx hb dX6_send_96 (lv_at hl 0 rfl) ?_
        refine gq_top (nI (mt - 1)) (by rw [← nI_sub (b := 1) (by omega)]; rfl) ?_
        refine lv_aload_n hx hb dX6_send_98 rfl (lv_at hl 5 rfl) ?_
        refine lv_iload hx hb dX6_send_99 (lv_at hl 2 rfl) ?_
        refine rr_calli hC hR (c6_kindOf l V ad _ f hf (by rw [fm (by decide) (by decide) (by decide) (by decide) (by decide) (by decide) (by decide)]; exact hr) od hod) km_RX6_163 kn_yX6_kindOf ks_yX6_kindOf kz_RX6 kd_yX6_kindOf dn_X6_kindOf rfl hl.1 ⟨by decide, by decide⟩ (Nat.le_of_ble_eq_true rfl) ⟨by decide, by decide⟩ dX6_send_101 (fun r_101 S_101 H locs p_101 hR => ?_)
        obtain ⟨q_101, p_101⟩ := p_101
        rw [p_101] at hR
        refine gq_top (S.1 21 (4 * f + od)) (q_101.trans (by rw [fm (by decide) (by decide) (by decide) (by decide) (by decide) (by decide) (by decide)])) ?_
        refine lv_aload_n hx hb dX6_send_104 rfl (lv_at hl 5 rfl) ?_
        refine lv_iload hx hb dX6_send_105 (lv_at hl 2 rfl) ?_
        refine rr_calli hC hR (c6_valueOf l V ad _ f hf (by rw [fm (by decide) (by decide) (by decide) (by decide) (by decide) (by decide) (by decide)]; exact hr) od hod) km_RX6_182 kn_yX6_valueOf ks_yX6_valueOf kz_RX6 kd_yX6_valueOf dn_X6_valueOf rfl hl.1 ⟨by decide, by decide⟩ (Nat.le_of_ble_eq_true rfl) ⟨by decide, by decide⟩ dX6_send_107 (fun r_107 S_107 H locs p_107 hR => ?_)
        obtain ⟨q_107, p_107⟩ := p_107
        rw [p_107] at hR
        refine gq_top (S.1 22 (4 * f + od)) (q_107.trans (by rw [fm (by decide) (by decide) (by decide) (by decide) (by decide) (by decide) (by decide)])) ?_
        refine rr_callv hC hR (c6_begin l V ad _ (f + 1) (mt - 1) (by omega) (by omega) (by rw [fm (by decide) (by decide) (by decide) (by decide) (by decide) (by decide) (by decide)]; exact hr) (fun r h => sp_meet_15 hcr r (by omega)) (S.1 21 (4 * f + od)) (S.1 22 (4 * f + od))) km_RX6_185 kn_yX6_begin ks_yX6_begin kz_RX6 kd_yX6_begin dn_X6_begin rfl hl.1 ⟨by decide, by decide⟩ (Nat.le_of_ble_eq_true rfl) ⟨by decide, by decide⟩ dX6_send_110 (fun S_110 H locs p_110 hR => ?_)
        subst p_110
        refine lv_aload_n hx hb dX6_send_113 rfl (lv_at hl 5 rfl) ?_
        refine lv_aload_n hx hb dX6_send_114 rfl (lv_at hl 5 rfl) ?_
        refine rg_17 hC hR dX6_send_115 ?_
        refine gq_top (nI (f + 1 + 1)) (by show (sp_warm _ _).1 17 0 = _; rw [sp_warm_f (by decide) (by decide) (by decide) (by decide) (by decide)]; rfl) ?_
        refine lv_iconst (v := 1) hx hb dX6_send_118 (by decide) ?_
        refine lv_isub hx hb dX6_send_119 ?_
        refine gq_top (nI (f + 1)) (nI_pred (f + 1)) ?_
        refine lv_iconst (v := (nI 1)) hx hb dX6_send_120 (by decide) ?_
        refine lv_iload hx hb dX6_send_121 (lv_at hl 1 rfl) ?_
        refine lv_iconst (v := 0) hx hb dX6_send_123 (by decide) ?_
        refine rr_callv hC hR (c6_put l V ad _ (f + 1) (1) (by omega) (by omega) (nI x - 1) (0)) km_RX6_148 kn_yX6_put ks_yX6_put kz_RX6 kd_yX6_put dn_X6_put rfl hl.1 ⟨by decide, by decide⟩ (Nat.le_of_ble_eq_true rfl) ⟨by decide, by decide⟩ dX6_send_124 (fun S_124 H locs p_124 hR => ?_)
        subst p_124
        exact rr_vret hC hz hR (by unfold sp_send; rw [t3, if_neg (fun z => c_33 (ex.symm.trans z)), tx, t2, t4, tmt, if_neg hund]; exact (if_neg c_86).symm) (by decide) (by decide) dX6_send_127
      · refine lv_aload_n hx hb dX6_send_89 rfl (lv_at hl 5 rfl) ?_
        refine lv_iconst (v := 3) hx hb dX6_send_90 (by decide) ?_
        refine rp_25 hC hR dX6_send_91 (fun H locs hR => ?_)
        exact rr_vret hC hz hR (by unfold sp_send; rw [t3, if_neg (fun z => c_33 (ex.symm.trans z)), tx, t2, if_neg hund]; exact (if_pos c_86).symm) (by decide) (by decide) dX6_send_94
    · refine lv_aload_n hx hb dX6_send_65 rfl (lv_at hl 5 rfl) ?_
      refine lv_iconst (v := 2) hx hb dX6_send_66 (by decide) ?_
      refine rp_25 hC hR dX6_send_67 (fun H locs hR => ?_)
      exact rr_vret hC hz hR (by unfold sp_send; rw [t3, if_neg (fun z => c_33 (ex.symm.trans z)), tx, t2, if_pos (emt.trans c_62)]; rfl) (by decide) (by decide) dX6_send_70
  · refine lv_aload_n hx hb dX6_send_36 rfl (lv_at hl 3 rfl) ?_
    refine lv_iconst (v := 1) hx hb dX6_send_37 (by decide) ?_
    refine rp_25 hC hR dX6_send_38 (fun H locs hR => ?_)
    exact rr_vret hC hz hR (by unfold sp_send; rw [t3, if_pos (ex.trans c_33)]; rfl) (by decide) (by decide) dX6_send_41
