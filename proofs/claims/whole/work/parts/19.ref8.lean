def s_res (S : rS) : rS := su (su (su (sl (su (su (su (su S 0 (fun _ => 0)) 23 (fun _ => -1)) 24 (fun _ => 0)) 25 (fun _ => 0)) 26 (fun _ => 0)) 27 (fun _ => 0)) 28 (fun _ => 0)) 17 (fun _ => 0)
def s_run0 (S : rS) (m : Nat) (v : Int32) : rS := sp_begin (s_res S) 0 m (-1) v
/-- what run answers at the end -/
def s_rr (S : rS) : Int32 := if S.1 17 0 = 0 ∨ S.1 25 0 ≠ 0 then (if 0 < S.1 25 0 then 2 else 0) else 1
def sp_run (S : rS) (nc nm : Nat) (x v y : Int32) (r : Int32) (S2 : rS) : Prop :=
  (¬ (¬ x < 0 ∧ x < S.1 4 0) ∧ r = 0 ∧ S2 = su S 0 (fun _ => 1)) ∨
  ((¬ x < 0 ∧ x < S.1 4 0) ∧ (y < 0 ∨ 2000 < y) ∧ r = 0 ∧ S2 = su S 0 (fun _ => 2)) ∨
  ∃ m mo : Nat, m < nm ∧ mo ≤ 2000 ∧ x = nI m ∧ y = nI mo ∧ runR mo (s_run0 S m v) S2 ∧ r = s_rr S2 ∧ rI S2 nc nm
set_option maxHeartbeats 4000000 in
set_option maxRecDepth 100000 in
theorem c6_run (l : Launch) (V : gV) (ad : gA) (S : rS) (nc nm : Nat) (hI : rI S nc nm) (x v y : Int32) : rMi l yX6_run cX6_run 4 (some .int) ({ frames := 5, cells := 0, slots := 0, locals := 128 } : Room) [.int x, .int v, .int y] V ad S (fun r S' => sp_run S nc nm x v y r S') := by
  refine rMi.of (by decide) (Nat.le_of_ble_eq_true rfl) ?_
  intro p e s m_ below meth c ls E sz hC hz hR hl
  have hx := hC.1
  have hb := hC.2.1
  have hl : lv_has ls 4 [(0, .ref (ad 50 0 0)), (1, .int x), (2, .int v), (3, .int y)] := hl
  have hnm := hI.2.2.2.1
  have hI4 := hI.2.2.1
  refine lv_aload_n hx hb dX6_run_0 rfl (lv_at hl 0 rfl) ?_
  refine lv_iconst (v := 0) hx hb dX6_run_1 (by decide) ?_
  refine rp_0 hC hR dX6_run_2 (fun H locs hR => ?_)
  refine lv_aload_n hx hb dX6_run_5 rfl (lv_at hl 0 rfl) ?_
  refine lv_iload_n hx hb dX6_run_6 rfl (lv_at hl 1 rfl) ?_
  refine rr_calli hC hR (c6_isMethod l V ad _ x) km_RX6_103 kn_yX6_isMethod ks_yX6_isMethod kz_RX6 kd_yX6_isMethod dn_X6_isMethod rfl hl.1 ⟨by decide, by decide⟩ (Nat.le_of_ble_eq_true rfl) ⟨by decide, by decide⟩ dX6_run_7 (fun r_7 S_7 H locs p_7 hR => ?_)
  obtain ⟨q_7, p_7⟩ := p_7
  rw [p_7] at hR
  refine gq_top (rb (¬ x < 0 ∧ x < S.1 4 0)) q_7 ?_
  refine lv_if_ne (tgt := 19) hx hb dX6_run_10 (by decide) (fun c_10 => ?_) (fun c_10 => ?_)
  · have hok : ¬ x < 0 ∧ x < S.1 4 0 := Decidable.byContradiction fun z => c_10 (rb_0 z)
    obtain ⟨m, hm31, ex⟩ := nI_of hok.1
    have hmn : m < nm := by have h := hok.2; rw [ex, hI4] at h; exact (nI_ltI hm31 (by omega)).mp h
    refine lv_iload_n hx hb dX6_run_19 rfl (lv_at hl 3 rfl) ?_
    refine lv_if_lt (tgt := 30) hx hb dX6_run_20 (by decide) (fun c_20 => ?_) (fun c_20 => ?_)
    · refine lv_aload_n hx hb dX6_run_30 rfl (lv_at hl 0 rfl) ?_
      refine lv_iconst (v := 2) hx hb dX6_run_31 (by decide) ?_
      refine rr_calli hC hR (c6_fail l V ad _ 2) km_RX6_86 kn_yX6_fail ks_yX6_fail kz_RX6 kd_yX6_fail dn_X6_fail rfl hl.1 ⟨by decide, by decide⟩ (Nat.le_of_ble_eq_true rfl) ⟨by decide, by decide⟩ dX6_run_32 (fun r_32 S_32 H locs p_32 hR => ?_)
      obtain ⟨q_32, p_32⟩ := p_32
      rw [p_32, su_ss] at hR
      rw [q_32]
      exact rr_iret hC hz hR (Or.inr (Or.inl ⟨hok, by first | exact Or.inl c_20 | exact Or.inr (Int32.not_le.mp c_27), rfl, rfl⟩)) (by decide) (by decide) dX6_run_35
    · refine lv_iload_n hx hb dX6_run_23 rfl (lv_at hl 3 rfl) ?_
      refine lv_sipush (v := 2000) hx hb dX6_run_24 (by decide) ?_
      refine lv_icmp_le (tgt := 36) hx hb dX6_run_27 (by decide) (fun c_27 => ?_) (fun c_27 => ?_)
      · obtain ⟨mo, hmo, ey⟩ : ∃ j : Nat, j ≤ 2000 ∧ y = nI j := nI_of2 (M := 2000) (by decide) c_20 c_27
        have hcr : ∀ q, q < 240 → (s_res S).1 15 q = 0 ∨ (s_res S).1 15 q = 1 := fun q h => hI.2.2.2.2.2.2.2 q (by omega)
        have hI0 : rI (s_run0 S m v) nc nm := rI_begin (rI_congr rfl rfl rfl rfl rfl rfl rfl rfl rfl hI) (by omega)
        have hF0 : rF (s_run0 S m v) nc nm 1 := rF_begin (x := 0) (f := 0) ⟨rfl, by omega, fun i hi => by omega, fun i g hi => by omega⟩ (by omega) hmn (Nat.zero_le _) (fun w => absurd rfl w) (fun w => absurd rfl w)
        have hst0 : (s_run0 S m v).1 27 0 = nI 0 := by unfold s_run0; rw [sp_begin_f (by decide) (by decide) (by decide) (by decide) (by decide) (by decide) (by decide) (by decide) (by decide) (by decide) (by decide) (by decide)]; rfl
        refine lv_aload_n hx hb dX6_run_36 rfl (lv_at hl 0 rfl) ?_
        refine lv_iconst (v := (-1)) hx hb dX6_run_37 (by decide) ?_
        refine rp_23 hC hR dX6_run_38 (fun H locs hR => ?_)
        refine lv_aload_n hx hb dX6_run_41 rfl (lv_at hl 0 rfl) ?_
        refine lv_iconst (v := 0) hx hb dX6_run_42 (by decide) ?_
        refine rp_24 hC hR dX6_run_43 (fun H locs hR => ?_)
        refine lv_aload_n hx hb dX6_run_46 rfl (lv_at hl 0 rfl) ?_
        refine lv_iconst (v := 0) hx hb dX6_run_47 (by decide) ?_
        refine rp_25 hC hR dX6_run_48 (fun H locs hR => ?_)
        refine lv_aload_n hx hb dX6_run_51 rfl (lv_at hl 0 rfl) ?_
        refine lv_lconst (v := 0) hx hb dX6_run_52 (by decide) ?_
        refine rp_26 hC hR dX6_run_53 (fun H locs hR => ?_)
        refine lv_aload_n hx hb dX6_run_56 rfl (lv_at hl 0 rfl) ?_
        refine lv_iconst (v := 0) hx hb dX6_run_57 (by decide) ?_
        refine rp_27 hC hR dX6_run_58 (fun H locs hR => ?_)
        refine lv_aload_n hx hb dX6_run_61 rfl (lv_at hl 0 rfl) ?_
        refine lv_iconst (v := 0) hx hb dX6_run_62 (by decide) ?_
        refine rp_28 hC hR dX6_run_63 (fun H locs hR => ?_)
        refine lv_aload_n hx hb dX6_run_66 rfl (lv_at hl 0 rfl) ?_
        refine lv_iconst (v := 0) hx hb dX6_run_67 (by decide) ?_
        refine rp_17 hC hR dX6_run_68 (fun H locs hR => ?_)
        refine lv_aload_n hx hb dX6_run_71 rfl (lv_at hl 0 rfl) ?_
        refine lv_iload_n hx hb dX6_run_72 rfl (lv_at hl 1 rfl) ?_
        refine gq_top (nI m) (ex) ?_
        refine lv_iconst (v := (-1)) hx hb dX6_run_73 (by decide) ?_
        refine lv_iload_n hx hb dX6_run_74 rfl (lv_at hl 2 rfl) ?_
        refine rr_callv hC hR (c6_begin l V ad _ 0 m (by omega) (by omega) rfl hcr (-1) v) km_RX6_185 kn_yX6_begin ks_yX6_begin kz_RX6 kd_yX6_begin dn_X6_begin rfl hl.1 ⟨by decide, by decide⟩ (Nat.le_of_ble_eq_true rfl) ⟨by decide, by decide⟩ dX6_run_75 (fun S_75 H locs p_75 hR => ?_)
        subst p_75
        refine g_loop (T := rS × Nat × Nat) (fun x_ H locs ls => (rI x_.1 nc nm ∧ rF x_.1 nc nm x_.2.1 ∧ (∃ n, sp_loop mo n (s_run0 S m v) = x_.1) ∧ x_.1.1 27 0 = nI x_.2.2 ∧ x_.2.2 ≤ mo) ∧ rfW V (gAd ad E sz) s.heap ad E x_.1 H locs ∧ lv_has ls 4 [(0, .ref (ad 50 0 0)), (1, .int x), (2, .int v), (3, .int y)]) (fun x_ => (mo - x_.2.2) * 22 + x_.2.1) (fun x_ ih H locs ls hI => ?_) ((s_run0 S m v, 1, 0)) ⟨⟨hI0, hF0, ⟨0, rfl⟩, hst0, Nat.zero_le _⟩, hR, lv_sub hl [0, 1, 2, 3] rfl⟩
        obtain ⟨⟨hI, hF, hreach, hst, hsm⟩, hR, hl⟩ := hI
        have hf20 := hF.2.1
        refine lv_aload_n hx hb dX6_run_78 rfl (lv_at hl 0 rfl) ?_
        refine rg_17 hC hR dX6_run_79 ?_
        refine gq_top (nI x_.2.1) (hF.1) ?_
        refine gn_if_le (tgt := 148) hx hb (by omega) dX6_run_82 (by decide) (fun c_82 => ?_) (fun c_82 => ?_)
        · refine lv_aload_n hx hb dX6_run_148 rfl (lv_at hl 0 rfl) ?_
          refine rg_25 hC hR dX6_run_149 ?_
          refine lv_if_le (tgt := 159) hx hb dX6_run_152 (by decide) (fun c_152 => ?_) (fun c_152 => ?_)
          · refine lv_iconst (v := 0) hx hb dX6_run_159 (by decide) ?_
            exact rr_iret hC hz hR (Or.inr (Or.inr ⟨m, mo, hmn, hmo, ex, ey, ⟨hreach, by first | exact Or.inl (by rw [hF.1, c_82]; rfl) | exact Or.inr (Or.inl c_89)⟩, by unfold s_rr; rw [if_pos (by first | exact Or.inl (by rw [hF.1, c_82]; rfl) | exact Or.inr c_89)]; first | rw [if_pos (Int32.not_le.mp c_152)] | rw [if_neg (Int32.not_lt.mpr c_152)], hI⟩)) (by decide) (by decide) dX6_run_160
          · refine lv_iconst (v := 2) hx hb dX6_run_155 (by decide) ?_
            refine lv_goto (tgt := 160) hx hb dX6_run_156 (by decide) ?_
            exact rr_iret hC hz hR (Or.inr (Or.inr ⟨m, mo, hmn, hmo, ex, ey, ⟨hreach, by first | exact Or.inl (by rw [hF.1, c_82]; rfl) | exact Or.inr (Or.inl c_89)⟩, by unfold s_rr; rw [if_pos (by first | exact Or.inl (by rw [hF.1, c_82]; rfl) | exact Or.inr c_89)]; first | rw [if_pos (Int32.not_le.mp c_152)] | rw [if_neg (Int32.not_lt.mpr c_152)], hI⟩)) (by decide) (by decide) dX6_run_160
        · refine lv_aload_n hx hb dX6_run_85 rfl (lv_at hl 0 rfl) ?_
          refine rg_25 hC hR dX6_run_86 ?_
          refine lv_if_ne (tgt := 148) hx hb dX6_run_89 (by decide) (fun c_89 => ?_) (fun c_89 => ?_)
          · refine lv_aload_n hx hb dX6_run_148 rfl (lv_at hl 0 rfl) ?_
            refine rg_25 hC hR dX6_run_149 ?_
            refine lv_if_le (tgt := 159) hx hb dX6_run_152 (by decide) (fun c_152 => ?_) (fun c_152 => ?_)
            · refine lv_iconst (v := 0) hx hb dX6_run_159 (by decide) ?_
              exact rr_iret hC hz hR (Or.inr (Or.inr ⟨m, mo, hmn, hmo, ex, ey, ⟨hreach, by first | exact Or.inl (by rw [hF.1, c_82]; rfl) | exact Or.inr (Or.inl c_89)⟩, by unfold s_rr; rw [if_pos (by first | exact Or.inl (by rw [hF.1, c_82]; rfl) | exact Or.inr c_89)]; first | rw [if_pos (Int32.not_le.mp c_152)] | rw [if_neg (Int32.not_lt.mpr c_152)], hI⟩)) (by decide) (by decide) dX6_run_160
            · refine lv_iconst (v := 2) hx hb dX6_run_155 (by decide) ?_
              refine lv_goto (tgt := 160) hx hb dX6_run_156 (by decide) ?_
              exact rr_iret hC hz hR (Or.inr (Or.inr ⟨m, mo, hmn, hmo, ex, ey, ⟨hreach, by first | exact Or.inl (by rw [hF.1, c_82]; rfl) | exact Or.inr (Or.inl c_89)⟩, by unfold s_rr; rw [if_pos (by first | exact Or.inl (by rw [hF.1, c_82]; rfl) | exact Or.inr c_89)]; first | rw [if_pos (Int32.not_le.mp c_152)] | rw [if_neg (Int32.not_lt.mpr c_152)], hI⟩)) (by decide) (by decide) dX6_run_160
          · refine lv_aload_n hx hb dX6_run_92 rfl (lv_at hl 0 rfl) ?_
            refine rg_27 hC hR dX6_run_93 ?_
            refine lv_iload_n hx hb dX6_run_96 rfl (lv_at hl 3 rfl) ?_
            refine lv_icmp_ne (tgt := 102) hx hb dX6_run_97 (by decide) (fun c_97 => ?_) (fun c_97 => ?_)
            · have hns : ¬ s_stop mo x_.1 := by
                rintro (w | w | w)
                · rw [hF.1] at w
                  have := (nI_eq (by omega) (by decide)).mp (w.trans nl0)
                  omega
                · exact w c_89
                · exact c_97 (by rw [ey]; exact w)
              obtain ⟨f, hf⟩ : ∃ f, x_.2.1 = f + 1 := ⟨x_.2.1 - 1, by omega⟩
              rw [hf] at hF
              obtain ⟨m1, q1, hm1, hq1, h18, h19, hcl⟩ := hF.2.2.1 f (by omega)
              obtain ⟨z, hz20, h5, -, hzi⟩ := hI.2.2.2.2.2.1 m1 (by omega)
              have hone : sp_one x_.1 = if q1 < z then sp_step x_.1 f else sp_finish x_.1 f (-1) 0 := by
                unfold sp_one
                rw [hF.1, tn_nI (by omega), Nat.add_sub_cancel, h18, h19, tn_nI (by omega), tn_nI (by omega), h5, tn_nI (by omega)]
              refine lv_aload_n hx hb dX6_run_102 rfl (lv_at hl 0 rfl) ?_
              refine lv_aload_n hx hb dX6_run_103 rfl (lv_at hl 0 rfl) ?_
              refine rg_18 hC hR dX6_run_104 ?_
              refine lv_aload_n hx hb dX6_run_107 rfl (lv_at hl 0 rfl) ?_
              refine rg_17 hC hR dX6_run_108 ?_
              refine gq_top (nI (f + 1)) (hF.1) ?_
              refine lv_iconst (v := 1) hx hb dX6_run_111 (by decide) ?_
              refine lv_isub hx hb dX6_run_112 ?_
              refine gq_top (nI f) (nI_pred f) ?_
              refine ra_18 hC hR (by omega) dX6_run_113 ?_
              refine gq_top (nI m1) (h18) ?_
              refine lv_aload_n hx hb dX6_run_114 rfl (lv_at hl 0 rfl) ?_
              refine rg_19 hC hR dX6_run_115 ?_
              refine lv_aload_n hx hb dX6_run_118 rfl (lv_at hl 0 rfl) ?_
              refine rg_17 hC hR dX6_run_119 ?_
              refine gq_top (nI (f + 1)) (hF.1) ?_
              refine lv_iconst (v := 1) hx hb dX6_run_122 (by decide) ?_
              refine lv_isub hx hb dX6_run_123 ?_
              refine gq_top (nI f) (nI_pred f) ?_
              refine ra_19 hC hR (by omega) dX6_run_124 ?_
              refine gq_top (nI q1) (h19) ?_
              refine rr_calli hC hR (c6_kindAt l V ad _ m1 q1 z (by omega) (by omega) h5 hz20) km_RX6_124 kn_yX6_kindAt ks_yX6_kindAt kz_RX6 kd_yX6_kindAt dn_X6_kindAt rfl hl.1 ⟨by decide, by decide⟩ (Nat.le_of_ble_eq_true rfl) ⟨by decide, by decide⟩ dX6_run_125 (fun r_125 S_125 H locs p_125 hR => ?_)
              obtain ⟨q_125, p_125⟩ := p_125
              rw [p_125] at hR
              rw [q_125]
              refine lv_iconst (v := (-1)) hx hb dX6_run_128 (by decide) ?_
              refine lv_icmp_ne (tgt := 141) hx hb dX6_run_129 (by decide) (fun c_129 => ?_) (fun c_129 => ?_)
              · have hqz : q1 < z := Decidable.byContradiction fun w => c_129 (if_neg w)
                refine lv_aload_n hx hb dX6_run_141 rfl (lv_at hl 0 rfl) ?_
                refine rr_callv hC hR (c6_doStep l V ad _ f m1 q1 z nc nm (by omega) hI hF (by omega) h18 h19 h5 hz20 hqz) km_RX6_209 kn_yX6_doStep ks_yX6_doStep kz_RX6 kd_yX6_doStep dn_X6_doStep rfl hl.1 ⟨by decide, by decide⟩ (Nat.le_of_ble_eq_true rfl) ⟨by decide, by decide⟩ dX6_run_142 (fun S_142 H locs p_142 hR => ?_)
                subst p_142
                refine lv_goto (tgt := 78) hx hb dX6_run_145 (by decide) ?_
                first
                | (have h9 : sp_one x_.1 = sp_finish x_.1 f (-1) 0 := hone.trans (if_neg hqz)
                   refine ih (sp_finish x_.1 f (-1) 0, f, x_.2.2) (by show (mo - x_.2.2) * 22 + f < (mo - x_.2.2) * 22 + x_.2.1; omega) _ _ _ ⟨⟨rI_finish hI, rF_finish (x := 0) hI hF (Nat.zero_le _) (fun w => absurd rfl w), by rw [← h9]; exact sp_loop_more hreach hns, ?_, hsm⟩, hR, lv_sub hl [0, 1, 2, 3] rfl⟩
                   show (sp_finish x_.1 f (-1) 0).1 27 0 = nI x_.2.2
                   rw [sp_finish_f (by decide) (by decide) (by decide) (by decide) (by decide) (by decide)]
                   exact hst)
                | (have h9 : sp_one x_.1 = sp_step x_.1 f := hone.trans (if_pos hqz)
                   obtain ⟨f2, g1, g2⟩ := rJ_step hI hF hm1 h18 h19 h5 hz20 hqz
                   have hlt : x_.2.2 ≠ mo := fun w => hns (Or.inr (Or.inr (by rw [hst, w])))
                   have hf2 := g2.2.1
                   refine ih (sp_step x_.1 f, f2, x_.2.2 + 1) (by show (mo - (x_.2.2 + 1)) * 22 + f2 < (mo - x_.2.2) * 22 + x_.2.1; omega) _ _ _ ⟨⟨g1, g2, by rw [← h9]; exact sp_loop_more hreach hns, ?_, by show x_.2.2 + 1 ≤ mo; omega⟩, hR, lv_sub hl [0, 1, 2, 3] rfl⟩
                   show (sp_step x_.1 f).1 27 0 = nI (x_.2.2 + 1)
                   rw [s27_step, hst]
                   exact nI_1 _)
              · have hqz : ¬ q1 < z := fun w => by
                  rw [if_pos w] at c_129
                  obtain ⟨k, hk8, e0, -⟩ := hzi q1 w
                  rw [e0] at c_129
                  exact nI_ne1 (by omega) c_129
                have hcall : f ≠ 0 → ∃ m q a : Nat, m < 12 ∧ q < 20 ∧ a < 4 ∧ x_.1.1 18 (f - 1) = nI m ∧ x_.1.1 19 (f - 1) = nI q ∧ x_.1.1 6 (5 * (20 * m + q) + 1) = nI a := by
                  intro hf0
                  obtain ⟨m1, q1, g1, g2, g3, g4, g5⟩ := hF.2.2.1 (f - 1) (by omega)
                  obtain ⟨g6, g7⟩ := g5 (by omega)
                  obtain ⟨z1, k1, k2, -, k4⟩ := hI.2.2.2.2.2.1 m1 (by omega)
                  rw [k2, tn_nI (by omega)] at g6
                  obtain ⟨kk, j1, j2, ⟨a1, j3, j4, j5⟩, -⟩ := k4 q1 g6
                  have j6 : kk = 5 := (nI_eq (by omega) (by decide)).mp (j2.symm.trans g7)
                  exact ⟨m1, q1, a1, by omega, by omega, j5 (by omega), g3, g4, j3⟩
                refine lv_aload_n hx hb dX6_run_132 rfl (lv_at hl 0 rfl) ?_
                refine lv_iconst (v := (-1)) hx hb dX6_run_133 (by decide) ?_
                refine lv_iconst (v := 0) hx hb dX6_run_134 (by decide) ?_
                refine rr_callv hC hR (c6_finish l V ad _ f (by omega) hF.1 hcall (-1) 0) km_RX6_202 kn_yX6_finish ks_yX6_finish kz_RX6 kd_yX6_finish dn_X6_finish rfl hl.1 ⟨by decide, by decide⟩ (Nat.le_of_ble_eq_true rfl) ⟨by decide, by decide⟩ dX6_run_135 (fun S_135 H locs p_135 hR => ?_)
                subst p_135
                refine lv_goto (tgt := 78) hx hb dX6_run_138 (by decide) ?_
                first
                | (have h9 : sp_one x_.1 = sp_finish x_.1 f (-1) 0 := hone.trans (if_neg hqz)
                   refine ih (sp_finish x_.1 f (-1) 0, f, x_.2.2) (by show (mo - x_.2.2) * 22 + f < (mo - x_.2.2) * 22 + x_.2.1; omega) _ _ _ ⟨⟨rI_finish hI, rF_finish (x := 0) hI hF (Nat.zero_le _) (fun w => absurd rfl w), by rw [← h9]; exact sp_loop_more hreach hns, ?_, hsm⟩, hR, lv_sub hl [0, 1, 2, 3] rfl⟩
                   show (sp_finish x_.1 f (-1) 0).1 27 0 = nI x_.2.2
                   rw [sp_finish_f (by decide) (by decide) (by decide) (by decide) (by decide) (by decide)]
                   exact hst)
                | (have h9 : sp_one x_.1 = sp_step x_.1 f := hone.trans (if_pos hqz)
                   obtain ⟨f2, g1, g2⟩ := rJ_step hI hF hm1 h18 h19 h5 hz20 hqz
                   have hlt : x_.2.2 ≠ mo := fun w => hns (Or.inr (Or.inr (by rw [hst, w])))
                   have hf2 := g2.2.1
                   refine ih (sp_step x_.1 f, f2, x_.2.2 + 1) (by show (mo - (x_.2.2 + 1)) * 22 + f2 < (mo - x_.2.2) * 22 + x_.2.1; omega) _ _ _ ⟨⟨g1, g2, by rw [← h9]; exact sp_loop_more hreach hns, ?_, by show x_.2.2 + 1 ≤ mo; omega⟩, hR, lv_sub hl [0, 1, 2, 3] rfl⟩
                   show (sp_step x_.1 f).1 27 0 = nI (x_.2.2 + 1)
                   rw [s27_step, hst]
                   exact nI_1 _)
            · refine lv_iconst (v := 1) hx hb dX6_run_100 (by decide) ?_
              exact rr_iret hC hz hR (Or.inr (Or.inr ⟨m, mo, hmn, hmo, ex, ey, ⟨hreach, Or.inr (Or.inr (by rw [← ey]; exact c_97))⟩, by unfold s_rr; rw [if_neg (fun w => by rcases w with w | w; (rw [hF.1] at w; have := (nI_eq (by omega) (by decide)).mp (w.trans nl0); omega); exact w c_89)], hI⟩)) (by decide) (by decide) dX6_run_101
      · refine lv_aload_n hx hb dX6_run_30 rfl (lv_at hl 0 rfl) ?_
        refine lv_iconst (v := 2) hx hb dX6_run_31 (by decide) ?_
        refine rr_calli hC hR (c6_fail l V ad _ 2) km_RX6_86 kn_yX6_fail ks_yX6_fail kz_RX6 kd_yX6_fail dn_X6_fail rfl hl.1 ⟨by decide, by decide⟩ (Nat.le_of_ble_eq_true rfl) ⟨by decide, by decide⟩ dX6_run_32 (fun r_32 S_32 H locs p_32 hR => ?_)
        obtain ⟨q_32, p_32⟩ := p_32
        rw [p_32, su_ss] at hR
        rw [q_32]
        exact rr_iret hC hz hR (Or.inr (Or.inl ⟨hok, by first | exact Or.inl c_20 | exact Or.inr (Int32.not_le.mp c_27), rfl, rfl⟩)) (by decide) (by decide) dX6_run_35
  · have hno : ¬ (¬ x < 0 ∧ x < S.1 4 0) := fun z => absurd (rb_1 z) (by rw [c_10]; decide)
    refine lv_aload_n hx hb dX6_run_13 rfl (lv_at hl 0 rfl) ?_
    refine lv_iconst (v := 1) hx hb dX6_run_14 (by decide) ?_
    refine rr_calli hC hR (c6_fail l V ad _ 1) km_RX6_86 kn_yX6_fail ks_yX6_fail kz_RX6 kd_yX6_fail dn_X6_fail rfl hl.1 ⟨by decide, by decide⟩ (Nat.le_of_ble_eq_true rfl) ⟨by decide, by decide⟩ dX6_run_15 (fun r_15 S_15 H locs p_15 hR => ?_)
    obtain ⟨q_15, p_15⟩ := p_15
    rw [p_15, su_ss] at hR
    rw [q_15]
    exact rr_iret hC hz hR (Or.inl ⟨hno, rfl, rfl⟩) (by decide) (by decide) dX6_run_18
