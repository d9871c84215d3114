theorem s_upf_congr {S S2 : rS} (h2 : S2.1 2 = S.1 2) (h3 : S2.1 3 = S.1 3) (g : Nat) : ∀ n x : Nat, s_upf S2 g n x = s_upf S g n x
  | 0, _ => rfl
  | _ + 1, 0 => rfl
  | n + 1, c + 1 => by
    unfold s_upf
    rw [h2, h3, s_upf_congr h2 h3 g n]
theorem s_len_congr {S S2 : rS} (h2 : S2.1 2 = S.1 2) (h3 : S2.1 3 = S.1 3) (g : Nat) : ∀ n x : Nat, s_len S2 g n x = s_len S g n x
  | 0, _ => rfl
  | _ + 1, 0 => rfl
  | n + 1, c + 1 => by
    unfold s_len
    rw [h2, h3, s_len_congr h2 h3 g n]
theorem s_par_congr {S S2 : rS} (h2 : S2.1 2 = S.1 2) {nc : Nat} (h : s_par S nc) : s_par S2 nc := ⟨h.1, fun c hc => by rw [h2]; exact h.2 c hc⟩
theorem sp_note_f {S : rS} {r f : Nat} {t : Int32} (h1 : f ≠ 13) (h2 : f ≠ 14) (h3 : f ≠ 15) : (sp_note S r t).1 f = S.1 f := by
  unfold sp_note
  split
  · rfl
  · split <;> simp [su, h1, h2, h3]
theorem sp_note_2 {S : rS} {r : Nat} {t : Int32} : (sp_note S r t).2 = S.2 := by
  unfold sp_note
  split
  · rfl
  · split <;> rfl
theorem sp_note_15 {S : rS} {r : Nat} {t : Int32} (h : ∀ q, q < 480 → S.1 15 q = 0 ∨ S.1 15 q = 1) : ∀ q, q < 480 → (sp_note S r t).1 15 q = 0 ∨ (sp_note S r t).1 15 q = 1 := by
  intro q hq
  unfold sp_note
  split
  · exact h q hq
  · split
    · show va_up (S.1 15) r 1 q = 0 ∨ va_up (S.1 15) r 1 q = 1
      simp only [va_up]
      split
      · exact Or.inr rfl
      · exact h q hq
    · exact h q hq
/-- frames of the method m, the first k: running tier 0 -/
def s_ft (S : rS) (m k : Nat) : rS := su S 20 (fun i => if i < k ∧ S.1 18 i = nI m then 0 else S.1 20 i)
theorem s_ft_0 (S : rS) (m : Nat) : s_ft S m 0 = S := by
  unfold s_ft
  rw [show (fun i => if i < 0 ∧ S.1 18 i = nI m then 0 else S.1 20 i) = S.1 20 from funext fun i => if_neg (by omega)]
  exact su_id S 20
theorem s_ft_y {S : rS} {m k : Nat} (h : S.1 18 k = nI m) : su (s_ft S m k) 20 (va_up ((s_ft S m k).1 20) k 0) = s_ft S m (k + 1) := by
  unfold s_ft
  rw [su_ss]
  refine congrArg (su S 20) (funext fun i => ?_)
  show va_up (fun i => if i < k ∧ S.1 18 i = nI m then 0 else S.1 20 i) k 0 i = _
  simp only [va_up]
  by_cases e : i = k
  · subst e
    rw [if_pos rfl, if_pos ⟨by omega, h⟩]
  · rw [if_neg e]
    by_cases h2 : i < k ∧ S.1 18 i = nI m
    · rw [if_pos h2, if_pos ⟨by omega, h2.2⟩]
    · rw [if_neg h2, if_neg (fun z => h2 ⟨by omega, z.2⟩)]
theorem s_ft_n {S : rS} {m k : Nat} (h : ¬ S.1 18 k = nI m) : s_ft S m k = s_ft S m (k + 1) := by
  unfold s_ft
  refine congrArg (su S 20) (funext fun i => ?_)
  by_cases h2 : i < k ∧ S.1 18 i = nI m
  · rw [if_pos h2, if_pos ⟨by omega, h2.2⟩]
  · rw [if_neg h2, if_neg (fun z => ?_)]
    by_cases e : i = k
    · subst e
      exact h z.2
    · exact h2 ⟨by omega, z.2⟩
def s_cost (S : rS) (x : Int64) : rS := sl S 26 (fun _ => S.2 26 0 + x)
/-- the method m, running as f and perhaps below, is disappointed -/
def s_di0 (S : rS) (m : Nat) : rS := su (su (su S 12 (va_up (S.1 12) m (S.1 12 m + 1))) 10 (va_up (S.1 10) m 0)) 11 (va_up (S.1 11) m 0)
def sp_dis (S : rS) (f m : Nat) : rS := sl (s_ft (s_di0 S m) m (f + 1)) 16 (va_up (S.2 16) 2 (S.2 16 2 + 1))
/-- what the SEND at place q of m, running as f, does with the class x - 1 -/
def s_mix (S : rS) (m q x : Nat) : Int32 := s_idx (fun k => S.1 14 (3 * (240 + (20 * m + q)) + k)) (nI x - 1) (tn (S.1 13 (240 + (20 * m + q)))) 0
def sp_meet (S : rS) (f m q x g : Nat) : rS :=
  if S.1 20 f < 2 then s_cost (sp_note S (20 * m + q) (nI x - 1)) (nI (s_len S g 9 x)).toInt64
  else if S.1 15 (240 + (20 * m + q)) ≠ 0 then s_cost S (nI (s_len S g 9 x)).toInt64
  else if s_mix S m q x ≠ -1 then s_cost S (s_mix S m q x).toInt64
  else s_cost (sp_dis (sp_note S (20 * m + q) (nI x - 1)) f m) (nI (s_len S g 9 x)).toInt64
set_option maxHeartbeats 4000000 in
set_option maxRecDepth 100000 in
theorem c6_meet (l : Launch) (V : gV) (ad : gA) (S : rS) (f m q x g nc : Nat) (hf : f < 20) (hm : m < 12) (hq : q < 20) (hg : g < 6) (hr : S.1 17 0 = nI (f + 1)) (hp : s_par S nc) (hxn : x ≤ nc) (hsome : s_upf S g 9 x ≠ 0) (hcn : ∀ q, q < 480 → ∃ n : Nat, n ≤ 3 ∧ S.1 13 q = nI n) : rMv l yX6_meet cX6_meet 7 none ({ frames := 2, cells := 0, slots := 0, locals := 48 } : Room) [.int (nI m), .int (nI q), .int (nI x - 1), .int (nI g)] V ad S (fun S' => S' = sp_meet S f m q x g) := by
  refine rMv.of (by decide) (Nat.le_of_ble_eq_true rfl) ?_
  intro p e s m_ below meth c ls E sz hC hz hR hl
  have hx := hC.1
  have hb := hC.2.1
  have hl : lv_has ls 7 [(0, .ref (ad 50 0 0)), (1, .int (nI m)), (2, .int (nI q)), (3, .int (nI x - 1)), (4, .int (nI g))] := hl
  obtain ⟨n1, hn13, hn1⟩ := hcn (20 * m + q) (by omega)
  obtain ⟨n2, hn23, hn2⟩ := hcn (240 + (20 * m + q)) (by omega)
  have e2 : tn (S.1 13 (240 + (20 * m + q))) = n2 := by rw [hn2]; exact tn_nI (by omega)
  have f2 : (sp_note S (20 * m + q) (nI x - 1)).1 2 = S.1 2 := sp_note_f (by decide) (by decide) (by decide)
  have f3 : (sp_note S (20 * m + q) (nI x - 1)).1 3 = S.1 3 := sp_note_f (by decide) (by decide) (by decide)
  have f17 : (sp_note S (20 * m + q) (nI x - 1)).1 17 = S.1 17 := sp_note_f (by decide) (by decide) (by decide)
  have f18 : (sp_note S (20 * m + q) (nI x - 1)).1 18 = S.1 18 := sp_note_f (by decide) (by decide) (by decide)
  refine lv_bipush (v := 20) hx hb dX6_meet_0 (by decide) ?_
  refine lv_iload_n hx hb dX6_meet_2 rfl (lv_at hl 1 rfl) ?_
  refine lv_imul hx hb dX6_meet_3 ?_
  refine lv_iload_n hx hb dX6_meet_4 rfl (lv_at hl 2 rfl) ?_
  refine lv_iadd hx hb dX6_meet_5 ?_
  refine gq_top (nI (20 * m + q)) (by simp only [nl1, nl2, nl3, nl4, nl5, nl6, nl20, nl240, nI_mul, nI_add]) ?_
  refine lv_istore (lv' := [(5, .int (nI (20 * m + q))), (0, .ref (ad 50 0 0)), (1, .int (nI m)), (2, .int (nI q)), (3, .int (nI x - 1)), (4, .int (nI g))]) hx hb dX6_meet_6 hl (by decide) rfl (fun ls hl => ?_)
  refine lv_aload_n hx hb dX6_meet_8 rfl (lv_at hl 1 rfl) ?_
  refine rg_20 hC hR dX6_meet_9 ?_
  refine lv_aload_n hx hb dX6_meet_12 rfl (lv_at hl 1 rfl) ?_
  refine rg_17 hC hR dX6_meet_13 ?_
  refine gq_top (nI (f + 1)) (hr) ?_
  refine lv_iconst (v := 1) hx hb dX6_meet_16 (by decide) ?_
  refine lv_isub hx hb dX6_meet_17 ?_
  refine gq_top (nI f) (nI_pred f) ?_
  refine ra_20 hC hR (by omega) dX6_meet_18 ?_
  refine lv_iconst (v := 2) hx hb dX6_meet_19 (by decide) ?_
  refine lv_icmp_ge (tgt := 50) hx hb dX6_meet_20 (by decide) (fun c_20 => ?_) (fun c_20 => ?_)
  · refine lv_aload_n hx hb dX6_meet_50 rfl (lv_at hl 1 rfl) ?_
    refine rg_15 hC hR dX6_meet_51 ?_
    refine lv_sipush (v := 240) hx hb dX6_meet_54 (by decide) ?_
    refine lv_iload hx hb dX6_meet_57 (lv_at hl 0 rfl) ?_
    refine lv_iadd hx hb dX6_meet_59 ?_
    refine gq_top (nI (240 + (20 * m + q))) (by simp only [nl1, nl2, nl3, nl4, nl5, nl6, nl20, nl240, nI_mul, nI_add]) ?_
    refine ra_15 hC hR (by omega) dX6_meet_60 ?_
    refine lv_if_eq (tgt := 84) hx hb dX6_meet_61 (by decide) (fun c_61 => ?_) (fun c_61 => ?_)
    · refine lv_aload_n hx hb dX6_meet_84 rfl (lv_at hl 1 rfl) ?_
      refine lv_sipush (v := 240) hx hb dX6_meet_85 (by decide) ?_
      refine lv_iload hx hb dX6_meet_88 (lv_at hl 0 rfl) ?_
      refine lv_iadd hx hb dX6_meet_90 ?_
      refine gq_top (nI (240 + (20 * m + q))) (by simp only [nl1, nl2, nl3, nl4, nl5, nl6, nl20, nl240, nI_mul, nI_add]) ?_
      refine lv_iload_n hx hb dX6_meet_91 rfl (lv_at hl 4 rfl) ?_
      refine rr_calli hC hR (c6_indexOf l V ad _ (240 + (20 * m + q)) n2 (nI x - 1) (by omega) hn2 hn23) km_RX6_142 kn_yX6_indexOf ks_yX6_indexOf kz_RX6 kd_yX6_indexOf dn_X6_indexOf rfl hl.1 ⟨by decide, by decide⟩ (Nat.le_of_ble_eq_true rfl) ⟨by decide, by decide⟩ dX6_meet_92 (fun r_92 S_92 H locs p_92 hR => ?_)
      obtain ⟨q_92, p_92⟩ := p_92
      rw [p_92] at hR
      refine gq_top (s_mix S m q x) (by unfold s_mix; rw [e2]; exact q_92) ?_
      refine lv_iconst (v := (-1)) hx hb dX6_meet_95 (by decide) ?_
      refine lv_icmp_eq (tgt := 123) hx hb dX6_meet_96 (by decide) (fun c_96 => ?_) (fun c_96 => ?_)
      · refine lv_aload_n hx hb dX6_meet_123 rfl (lv_at hl 1 rfl) ?_
        refine lv_iload hx hb dX6_meet_124 (lv_at hl 0 rfl) ?_
        refine lv_iload_n hx hb dX6_meet_126 rfl (lv_at hl 4 rfl) ?_
        refine rr_callv hC hR (c6_note l V ad _ (20 * m + q) n1 (nI x - 1) (by omega) hn1 hn13) km_RX6_169 kn_yX6_note ks_yX6_note kz_RX6 kd_yX6_note dn_X6_note rfl hl.1 ⟨by decide, by decide⟩ (Nat.le_of_ble_eq_true rfl) ⟨by decide, by decide⟩ dX6_meet_127 (fun S_127 H locs p_127 hR => ?_)
        subst p_127
        refine lv_aload_n hx hb dX6_meet_130 rfl (lv_at hl 1 rfl) ?_
        refine rg_12 hC hR dX6_meet_131 ?_
        refine lv_iload_n hx hb dX6_meet_134 rfl (lv_at hl 2 rfl) ?_
        refine lv_dup2_11 hx hb dX6_meet_135 rfl rfl ?_
        refine ra_12 hC hR (by omega) dX6_meet_136 ?_
        refine lv_iconst (v := 1) hx hb dX6_meet_137 (by decide) ?_
        refine lv_iadd hx hb dX6_meet_138 ?_
        refine rs_12 hC hR (by omega) dX6_meet_139 (fun H locs hR => ?_)
        refine lv_aload_n hx hb dX6_meet_140 rfl (lv_at hl 1 rfl) ?_
        refine rg_10 hC hR dX6_meet_141 ?_
        refine lv_iload_n hx hb dX6_meet_144 rfl (lv_at hl 2 rfl) ?_
        refine lv_iconst (v := 0) hx hb dX6_meet_145 (by decide) ?_
        refine rs_10 hC hR (by omega) dX6_meet_146 (fun H locs hR => ?_)
        refine lv_aload_n hx hb dX6_meet_147 rfl (lv_at hl 1 rfl) ?_
        refine rg_11 hC hR dX6_meet_148 ?_
        refine lv_iload_n hx hb dX6_meet_151 rfl (lv_at hl 2 rfl) ?_
        refine lv_iconst (v := 0) hx hb dX6_meet_152 (by decide) ?_
        refine rs_11 hC hR (by omega) dX6_meet_153 (fun H locs hR => ?_)
        refine lv_iconst (v := (nI 0)) hx hb dX6_meet_154 (by decide) ?_
        refine lv_istore (lv' := [(6, .int ((nI 0))), (5, .int (nI (20 * m + q))), (0, .ref (ad 50 0 0)), (1, .int (nI m)), (2, .int (nI q)), (3, .int (nI x - 1)), (4, .int (nI g))]) hx hb dX6_meet_155 hl (by decide) rfl (fun ls hl => ?_)
        refine g_loop (T := Nat) (fun xx H locs ls => xx ≤ f + 1 ∧ rfW V (gAd ad E sz) s.heap ad E (s_ft (s_di0 (sp_note S (20 * m + q) (nI x - 1)) m) m xx) H locs ∧ lv_has ls 7 [(6, .int (nI xx)), (5, .int (nI (20 * m + q))), (0, .ref (ad 50 0 0)), (1, .int (nI m)), (2, .int (nI q)), (3, .int (nI x - 1)), (4, .int (nI g))]) (fun xx => f + 1 - xx) (fun xx ih H locs ls hI => ?_) (0) ⟨by omega, by rw [s_ft_0]; exact hR, lv_sub hl [0, 1, 2, 3, 4, 5, 6] rfl⟩
        obtain ⟨hxf, hR, hl⟩ := hI
        refine lv_iload hx hb dX6_meet_157 (lv_at hl 0 rfl) ?_
        refine lv_aload_n hx hb dX6_meet_159 rfl (lv_at hl 2 rfl) ?_
        refine rg_17 hC hR dX6_meet_160 ?_
        refine gq_top (nI (f + 1)) (by show (sp_note S (20 * m + q) (nI x - 1)).1 17 0 = _; rw [f17]; exact hr) ?_
        refine gn_icmp_ge (tgt := 191) hx hb (by omega) (by omega) dX6_meet_163 (by decide) (fun c_163 => ?_) (fun c_163 => ?_)
        · rw [show xx = f + 1 by omega] at hR
          refine lv_aload_n hx hb dX6_meet_191 rfl (lv_at hl 2 rfl) ?_
          refine rg_16 hC hR dX6_meet_192 ?_
          refine lv_iconst (v := (nI 2)) hx hb dX6_meet_195 (by decide) ?_
          refine lv_dup2_11 hx hb dX6_meet_196 rfl rfl ?_
          refine ra_16 hC hR (by omega) dX6_meet_197 ?_
          refine lv_lconst (v := 1) hx hb dX6_meet_198 (by decide) ?_
          refine lv_ladd hx hb dX6_meet_199 ?_
          refine rs_16 hC hR (by omega) dX6_meet_200 (fun H locs hR => ?_)
          have hR : rfW V (gAd ad E sz) s.heap ad E (sp_dis (sp_note S (20 * m + q) (nI x - 1)) f m) H locs := hR
          have g2 : (sp_dis (sp_note S (20 * m + q) (nI x - 1)) f m).1 2 = S.1 2 := f2
          have g3 : (sp_dis (sp_note S (20 * m + q) (nI x - 1)) f m).1 3 = S.1 3 := f3
          refine lv_aload_n hx hb dX6_meet_201 rfl (lv_at hl 2 rfl) ?_
          refine lv_dup hx hb dX6_meet_202 rfl ?_
          refine rg_26 hC hR dX6_meet_203 ?_
          refine lv_aload_n hx hb dX6_meet_206 rfl (lv_at hl 2 rfl) ?_
          refine lv_iload_n hx hb dX6_meet_207 rfl (lv_at hl 5 rfl) ?_
          refine lv_iload hx hb dX6_meet_208 (lv_at hl 6 rfl) ?_
          refine rr_calli hC hR (c6_length l V ad _ x g nc (s_par_congr g2 hp) hxn hg (by rw [s_upf_congr g2 g3]; exact hsome)) km_RX6_173 kn_yX6_length ks_yX6_length kz_RX6 kd_yX6_length dn_X6_length rfl hl.1 ⟨by decide, by decide⟩ (Nat.le_of_ble_eq_true rfl) ⟨by decide, by decide⟩ dX6_meet_210 (fun r_210 S_210 H locs p_210 hR => ?_)
          obtain ⟨q_210, p_210⟩ := p_210
          rw [p_210] at hR
          rw [s_len_congr g2 g3] at q_210
          refine gq_top (nI (s_len S g 9 x)) q_210 ?_
          refine lv_i2l hx hb dX6_meet_213 rfl ?_
          refine lv_ladd hx hb dX6_meet_214 ?_
          refine rp_26 hC hR dX6_meet_215 (fun H locs hR => ?_)
          exact rr_vret hC hz hR (by first | exact (if_pos (Int32.not_le.mp c_20)).symm | exact ((if_neg (Int32.not_lt.mpr c_20)).trans (if_pos c_61)).symm | exact ((if_neg (Int32.not_lt.mpr c_20)).trans ((if_neg (fun z => z c_61)).trans (if_pos c_96))).symm | (refine ((if_neg (Int32.not_lt.mpr c_20)).trans ((if_neg (fun z => z c_61)).trans (if_neg (fun z => z c_96)))).symm.trans ?_; rfl) | exact ((if_neg (Int32.not_lt.mpr c_20)).trans ((if_neg (fun z => z c_61)).trans (if_neg (fun z => z c_96)))).symm) (by decide) (by decide) dX6_meet_218
        · refine lv_aload_n hx hb dX6_meet_166 rfl (lv_at hl 2 rfl) ?_
          refine rg_18 hC hR dX6_meet_167 ?_
          refine lv_iload hx hb dX6_meet_170 (lv_at hl 0 rfl) ?_
          refine ra_18 hC hR (by omega) dX6_meet_172 ?_
          refine lv_iload_n hx hb dX6_meet_173 rfl (lv_at hl 3 rfl) ?_
          refine lv_icmp_ne (tgt := 185) hx hb dX6_meet_174 (by decide) (fun c_174 => ?_) (fun c_174 => ?_)
          · refine lv_iinc (v := (nI (xx + 1))) (lv' := [(6, .int ((nI (xx + 1)))), (5, .int (nI (20 * m + q))), (0, .ref (ad 50 0 0)), (1, .int (nI m)), (2, .int (nI q)), (3, .int (nI x - 1)), (4, .int (nI g))]) hx hb dX6_meet_185 hl (k := 0) rfl (nI_1 xx) (by decide) rfl (fun ls hl => ?_)
            refine lv_goto (tgt := 157) hx hb dX6_meet_188 (by decide) ?_
            exact ih (xx + 1) (by omega) _ _ _ ⟨by omega, by first | (rw [← s_ft_y (show (s_di0 (sp_note S (20 * m + q) (nI x - 1)) m).1 18 xx = nI m from c_174)]; exact hR) | (rw [← s_ft_n (show ¬ (s_di0 (sp_note S (20 * m + q) (nI x - 1)) m).1 18 xx = nI m from c_174)]; exact hR), lv_sub hl [0, 1, 2, 3, 4, 5, 6] rfl⟩
          · refine lv_aload_n hx hb dX6_meet_177 rfl (lv_at hl 2 rfl) ?_
            refine rg_20 hC hR dX6_meet_178 ?_
            refine lv_iload hx hb dX6_meet_181 (lv_at hl 0 rfl) ?_
            refine lv_iconst (v := 0) hx hb dX6_meet_183 (by decide) ?_
            refine rs_20 hC hR (by omega) dX6_meet_184 (fun H locs hR => ?_)
            refine lv_iinc (v := (nI (xx + 1))) (lv' := [(6, .int ((nI (xx + 1)))), (5, .int (nI (20 * m + q))), (0, .ref (ad 50 0 0)), (1, .int (nI m)), (2, .int (nI q)), (3, .int (nI x - 1)), (4, .int (nI g))]) hx hb dX6_meet_185 hl (k := 0) rfl (nI_1 xx) (by decide) rfl (fun ls hl => ?_)
            refine lv_goto (tgt := 157) hx hb dX6_meet_188 (by decide) ?_
            exact ih (xx + 1) (by omega) _ _ _ ⟨by omega, by first | (rw [← s_ft_y (show (s_di0 (sp_note S (20 * m + q) (nI x - 1)) m).1 18 xx = nI m from c_174)]; exact hR) | (rw [← s_ft_n (show ¬ (s_di0 (sp_note S (20 * m + q) (nI x - 1)) m).1 18 xx = nI m from c_174)]; exact hR), lv_sub hl [0, 1, 2, 3, 4, 5, 6] rfl⟩
      · refine lv_aload_n hx hb dX6_meet_99 rfl (lv_at hl 1 rfl) ?_
        refine lv_dup hx hb dX6_meet_100 rfl ?_
        refine rg_26 hC hR dX6_meet_101 ?_
        refine lv_aload_n hx hb dX6_meet_104 rfl (lv_at hl 1 rfl) ?_
        refine lv_sipush (v := 240) hx hb dX6_meet_105 (by decide) ?_
        refine lv_iload hx hb dX6_meet_108 (lv_at hl 0 rfl) ?_
        refine lv_iadd hx hb dX6_meet_110 ?_
        refine gq_top (nI (240 + (20 * m + q))) (by simp only [nl1, nl2, nl3, nl4, nl5, nl6, nl20, nl240, nI_mul, nI_add]) ?_
        refine lv_iload_n hx hb dX6_meet_111 rfl (lv_at hl 4 rfl) ?_
        refine rr_calli hC hR (c6_indexOf l V ad _ (240 + (20 * m + q)) n2 (nI x - 1) (by omega) hn2 hn23) km_RX6_142 kn_yX6_indexOf ks_yX6_indexOf kz_RX6 kd_yX6_indexOf dn_X6_indexOf rfl hl.1 ⟨by decide, by decide⟩ (Nat.le_of_ble_eq_true rfl) ⟨by decide, by decide⟩ dX6_meet_112 (fun r_112 S_112 H locs p_112 hR => ?_)
        obtain ⟨q_112, p_112⟩ := p_112
        rw [p_112] at hR
        refine gq_top (s_mix S m q x) (by unfold s_mix; rw [e2]; exact q_112) ?_
        refine lv_i2l hx hb dX6_meet_115 rfl ?_
        refine lv_ladd hx hb dX6_meet_116 ?_
        refine rp_26 hC hR dX6_meet_117 (fun H locs hR => ?_)
        refine lv_goto (tgt := 218) hx hb dX6_meet_120 (by decide) ?_
        exact rr_vret hC hz hR (by first | exact (if_pos (Int32.not_le.mp c_20)).symm | exact ((if_neg (Int32.not_lt.mpr c_20)).trans (if_pos c_61)).symm | exact ((if_neg (Int32.not_lt.mpr c_20)).trans ((if_neg (fun z => z c_61)).trans (if_pos c_96))).symm | (refine ((if_neg (Int32.not_lt.mpr c_20)).trans ((if_neg (fun z => z c_61)).trans (if_neg (fun z => z c_96)))).symm.trans ?_; rfl) | exact ((if_neg (Int32.not_lt.mpr c_20)).trans ((if_neg (fun z => z c_61)).trans (if_neg (fun z => z c_96)))).symm) (by decide) (by decide) dX6_meet_218
    · refine lv_aload_n hx hb dX6_meet_64 rfl (lv_at hl 1 rfl) ?_
      refine lv_dup hx hb dX6_meet_65 rfl ?_
      refine rg_26 hC hR dX6_meet_66 ?_
      refine lv_aload_n hx hb dX6_meet_69 rfl (lv_at hl 1 rfl) ?_
      refine lv_iload_n hx hb dX6_meet_70 rfl (lv_at hl 4 rfl) ?_
      refine lv_iload hx hb dX6_meet_71 (lv_at hl 5 rfl) ?_
      refine rr_calli hC hR (c6_length l V ad _ x g nc (hp) hxn hg (hsome)) km_RX6_173 kn_yX6_length ks_yX6_length kz_RX6 kd_yX6_length dn_X6_length rfl hl.1 ⟨by decide, by decide⟩ (Nat.le_of_ble_eq_true rfl) ⟨by decide, by decide⟩ dX6_meet_73 (fun r_73 S_73 H locs p_73 hR => ?_)
      obtain ⟨q_73, p_73⟩ := p_73
      rw [p_73] at hR
      refine gq_top (nI (s_len S g 9 x)) (q_73) ?_
      refine lv_i2l hx hb dX6_meet_76 rfl ?_
      refine lv_ladd hx hb dX6_meet_77 ?_
      refine rp_26 hC hR dX6_meet_78 (fun H locs hR => ?_)
      refine lv_goto (tgt := 218) hx hb dX6_meet_81 (by decide) ?_
      exact rr_vret hC hz hR (by first | exact (if_pos (Int32.not_le.mp c_20)).symm | exact ((if_neg (Int32.not_lt.mpr c_20)).trans (if_pos c_61)).symm | exact ((if_neg (Int32.not_lt.mpr c_20)).trans ((if_neg (fun z => z c_61)).trans (if_pos c_96))).symm | (refine ((if_neg (Int32.not_lt.mpr c_20)).trans ((if_neg (fun z => z c_61)).trans (if_neg (fun z => z c_96)))).symm.trans ?_; rfl) | exact ((if_neg (Int32.not_lt.mpr c_20)).trans ((if_neg (fun z => z c_61)).trans (if_neg (fun z => z c_96)))).symm) (by decide) (by decide) dX6_meet_218
  · refine lv_aload_n hx hb dX6_meet_23 rfl (lv_at hl 1 rfl) ?_
    refine lv_iload hx hb dX6_meet_24 (lv_at hl 0 rfl) ?_
    refine lv_iload_n hx hb dX6_meet_26 rfl (lv_at hl 4 rfl) ?_
    refine rr_callv hC hR (c6_note l V ad _ (20 * m + q) n1 (nI x - 1) (by omega) hn1 hn13) km_RX6_169 kn_yX6_note ks_yX6_note kz_RX6 kd_yX6_note dn_X6_note rfl hl.1 ⟨by decide, by decide⟩ (Nat.le_of_ble_eq_true rfl) ⟨by decide, by decide⟩ dX6_meet_27 (fun S_27 H locs p_27 hR => ?_)
    subst p_27
    refine lv_aload_n hx hb dX6_meet_30 rfl (lv_at hl 1 rfl) ?_
    refine lv_dup hx hb dX6_meet_31 rfl ?_
    refine rg_26 hC hR dX6_meet_32 ?_
    refine lv_aload_n hx hb dX6_meet_35 rfl (lv_at hl 1 rfl) ?_
    refine lv_iload_n hx hb dX6_meet_36 rfl (lv_at hl 4 rfl) ?_
    refine lv_iload hx hb dX6_meet_37 (lv_at hl 5 rfl) ?_
    refine rr_calli hC hR (c6_length l V ad _ x g nc (s_par_congr f2 hp) hxn hg (by rw [s_upf_congr f2 f3]; exact hsome)) km_RX6_173 kn_yX6_length ks_yX6_length kz_RX6 kd_yX6_length dn_X6_length rfl hl.1 ⟨by decide, by decide⟩ (Nat.le_of_ble_eq_true rfl) ⟨by decide, by decide⟩ dX6_meet_39 (fun r_39 S_39 H locs p_39 hR => ?_)
    obtain ⟨q_39, p_39⟩ := p_39
    rw [p_39] at hR
    rw [s_len_congr f2 f3] at q_39
    refine gq_top (nI (s_len S g 9 x)) q_39 ?_
    refine lv_i2l hx hb dX6_meet_42 rfl ?_
    refine lv_ladd hx hb dX6_meet_43 ?_
    refine rp_26 hC hR dX6_meet_44 (fun H locs hR => ?_)
    refine lv_goto (tgt := 218) hx hb dX6_meet_47 (by decide) ?_
    exact rr_vret hC hz hR (by first | exact (if_pos (Int32.not_le.mp c_20)).symm | exact ((if_neg (Int32.not_lt.mpr c_20)).trans (if_pos c_61)).symm | exact ((if_neg (Int32.not_lt.mpr c_20)).trans ((if_neg (fun z => z c_61)).trans (if_pos c_96))).symm | (refine ((if_neg (Int32.not_lt.mpr c_20)).trans ((if_neg (fun z => z c_61)).trans (if_neg (fun z => z c_96)))).symm.trans ?_; rfl) | exact ((if_neg (Int32.not_lt.mpr c_20)).trans ((if_neg (fun z => z c_61)).trans (if_neg (fun z => z c_96)))).symm) (by decide) (by decide) dX6_meet_218
