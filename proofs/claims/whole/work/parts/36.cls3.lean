set_option maxHeartbeats 4000000 in
set_option maxRecDepth 100000 in
theorem c3_find_rm (l : Launch) (V : gV) (ad : gA) (T : rS) (m q : Nat) (hm : m < cnm T) (hq : q < csz T m) (n : Nat) (hn : T.1 13 (20 * m + q) = nI n) (hn3 : n ≤ 3) (t : Int32) : kMi l yX3_find cX3_find 3 (some .int) ({ frames := 0, cells := 0, slots := 0, locals := 0 } : Room) [.ref (ad 17 m q), .int t] V ad T (fun r T' => r = s_idx (fun k => T.1 14 (3 * (20 * m + q) + k)) t n 0 ∧ T' = T) := by
  refine kMi.of (by decide) (Nat.le_of_ble_eq_true rfl) ?_
  intro p e s m_ below meth c ls E sz hC hz hW hl
  have hx := hC.1
  have hb := hC.2.1
  have hl : lv_has ls 3 [(0, .ref (ad 17 m q)), (1, .int t)] := hl
  refine lv_iconst (v := (nI 0)) hx hb dX3_find_0 (by decide) ?_
  refine lv_istore_n (lv' := [(2, .int ((nI 0))), (0, .ref (ad 17 m q)), (1, .int t)]) hx hb dX3_find_1 rfl hl (by decide) rfl (fun ls hl => ?_)
  refine g_loop (T := Nat) (fun xx H locs ls => (xx ≤ n ∧ ∀ k, k < xx → T.1 14 (3 * (20 * m + q) + k) ≠ t) ∧ cmW V (gAd ad E sz) s.heap ad E T H locs ∧ lv_has ls 3 [(2, .int (nI xx)), (0, .ref (ad 17 m q)), (1, .int t)]) (fun xx => n - xx) (fun xx ih H locs ls hI => ?_) (0) ⟨⟨by omega, fun k hk => by omega⟩, hW, lv_sub hl [0, 1, 2] rfl⟩
  obtain ⟨⟨hxn, hno⟩, hW, hl⟩ := hI
  refine lv_iload_n hx hb dX3_find_2 rfl (lv_at hl 0 rfl) ?_
  refine lv_aload_n hx hb dX3_find_3 rfl (lv_at hl 1 rfl) ?_
  refine kg_rm_1 hC hW hm hq kf_RX3_15 dX3_find_4 ?_
  refine gq_top (nI n) (hn) ?_
  refine gn_icmp_ge (tgt := 28) hx hb (by omega) (by omega) dX3_find_7 (by decide) (fun c_7 => ?_) (fun c_7 => ?_)
  · refine lv_iconst (v := (-1)) hx hb dX3_find_28 (by decide) ?_
    exact kr_iret hC hz hW (⟨(s_idx_no n 0 (fun k _ hk => hno k (by omega))).symm, rfl⟩) (by decide) (by decide) dX3_find_29
  · refine lv_aload_n hx hb dX3_find_10 rfl (lv_at hl 1 rfl) ?_
    refine kg_rm_0 hC hW hm hq kf_RX3_9 dX3_find_11 ?_
    refine lv_iload_n hx hb dX3_find_14 rfl (lv_at hl 0 rfl) ?_
    refine ka_rmt hC hW hm hq (by omega) dX3_find_15 ?_
    refine lv_iload_n hx hb dX3_find_16 rfl (lv_at hl 2 rfl) ?_
    refine lv_icmp_ne (tgt := 22) hx hb dX3_find_17 (by decide) (fun c_17 => ?_) (fun c_17 => ?_)
    · refine lv_iinc (v := (nI (xx + 1))) (lv' := [(2, .int ((nI (xx + 1)))), (0, .ref (ad 17 m q)), (1, .int t)]) hx hb dX3_find_22 hl (k := 0) rfl (nI_1 xx) (by decide) rfl (fun ls hl => ?_)
      refine lv_goto (tgt := 2) hx hb dX3_find_25 (by decide) ?_
      refine ih (xx + 1) (by omega) _ _ _ ⟨⟨by omega, fun k hk => ?_⟩, hW, lv_sub hl [0, 1, 2] rfl⟩
      by_cases e : k = xx
      · rw [e]; exact c_17
      · exact hno k (by omega)
    · refine lv_iload_n hx hb dX3_find_20 rfl (lv_at hl 0 rfl) ?_
      exact kr_iret hC hz hW (⟨(s_idx_at (i := xx) c_17 n 0 (fun j _ h => hno j h) (by omega) (by omega)).symm, rfl⟩) (by decide) (by decide) dX3_find_21
set_option maxHeartbeats 4000000 in
set_option maxRecDepth 100000 in
theorem c3_find_rt (l : Launch) (V : gV) (ad : gA) (T : rS) (m q : Nat) (hm : m < cnm T) (hq : q < csz T m) (n : Nat) (hn : T.1 13 (240 + (20 * m + q)) = nI n) (hn3 : n ≤ 3) (t : Int32) : kMi l yX3_find cX3_find 3 (some .int) ({ frames := 0, cells := 0, slots := 0, locals := 0 } : Room) [.ref (ad 19 m q), .int t] V ad T (fun r T' => r = s_idx (fun k => T.1 14 (3 * (240 + (20 * m + q)) + k)) t n 0 ∧ T' = T) := by
  refine kMi.of (by decide) (Nat.le_of_ble_eq_true rfl) ?_
  intro p e s m_ below meth c ls E sz hC hz hW hl
  have hx := hC.1
  have hb := hC.2.1
  have hl : lv_has ls 3 [(0, .ref (ad 19 m q)), (1, .int t)] := hl
  refine lv_iconst (v := (nI 0)) hx hb dX3_find_0 (by decide) ?_
  refine lv_istore_n (lv' := [(2, .int ((nI 0))), (0, .ref (ad 19 m q)), (1, .int t)]) hx hb dX3_find_1 rfl hl (by decide) rfl (fun ls hl => ?_)
  refine g_loop (T := Nat) (fun xx H locs ls => (xx ≤ n ∧ ∀ k, k < xx → T.1 14 (3 * (240 + (20 * m + q)) + k) ≠ t) ∧ cmW V (gAd ad E sz) s.heap ad E T H locs ∧ lv_has ls 3 [(2, .int (nI xx)), (0, .ref (ad 19 m q)), (1, .int t)]) (fun xx => n - xx) (fun xx ih H locs ls hI => ?_) (0) ⟨⟨by omega, fun k hk => by omega⟩, hW, lv_sub hl [0, 1, 2] rfl⟩
  obtain ⟨⟨hxn, hno⟩, hW, hl⟩ := hI
  refine lv_iload_n hx hb dX3_find_2 rfl (lv_at hl 0 rfl) ?_
  refine lv_aload_n hx hb dX3_find_3 rfl (lv_at hl 1 rfl) ?_
  refine kg_rt_1 hC hW hm hq kf_RX3_15 dX3_find_4 ?_
  refine gq_top (nI n) (hn) ?_
  refine gn_icmp_ge (tgt := 28) hx hb (by omega) (by omega) dX3_find_7 (by decide) (fun c_7 => ?_) (fun c_7 => ?_)
  · refine lv_iconst (v := (-1)) hx hb dX3_find_28 (by decide) ?_
    exact kr_iret hC hz hW (⟨(s_idx_no n 0 (fun k _ hk => hno k (by omega))).symm, rfl⟩) (by decide) (by decide) dX3_find_29
  · refine lv_aload_n hx hb dX3_find_10 rfl (lv_at hl 1 rfl) ?_
    refine kg_rt_0 hC hW hm hq kf_RX3_9 dX3_find_11 ?_
    refine lv_iload_n hx hb dX3_find_14 rfl (lv_at hl 0 rfl) ?_
    refine ka_rtt hC hW hm hq (by omega) dX3_find_15 ?_
    refine lv_iload_n hx hb dX3_find_16 rfl (lv_at hl 2 rfl) ?_
    refine lv_icmp_ne (tgt := 22) hx hb dX3_find_17 (by decide) (fun c_17 => ?_) (fun c_17 => ?_)
    · refine lv_iinc (v := (nI (xx + 1))) (lv' := [(2, .int ((nI (xx + 1)))), (0, .ref (ad 19 m q)), (1, .int t)]) hx hb dX3_find_22 hl (k := 0) rfl (nI_1 xx) (by decide) rfl (fun ls hl => ?_)
      refine lv_goto (tgt := 2) hx hb dX3_find_25 (by decide) ?_
      refine ih (xx + 1) (by omega) _ _ _ ⟨⟨by omega, fun k hk => ?_⟩, hW, lv_sub hl [0, 1, 2] rfl⟩
      by_cases e : k = xx
      · rw [e]; exact c_17
      · exact hno k (by omega)
    · refine lv_iload_n hx hb dX3_find_20 rfl (lv_at hl 0 rfl) ?_
      exact kr_iret hC hz hW (⟨(s_idx_at (i := xx) c_17 n 0 (fun j _ h => hno j h) (by omega) (by omega)).symm, rfl⟩) (by decide) (by decide) dX3_find_21
set_option maxHeartbeats 4000000 in
set_option maxRecDepth 100000 in
theorem c3_clear (l : Launch) (V : gV) (ad : gA) (T : rS) (m q : Nat) (hm : m < cnm T) (hq : q < csz T m) : kMv l yX3_clear cX3_clear 1 none ({ frames := 0, cells := 0, slots := 0, locals := 0 } : Room) [.ref (ad 17 m q)] V ad T (fun T' => T' = su (su T 13 (va_up (T.1 13) (20 * m + q) 0)) 15 (va_up (T.1 15) (20 * m + q) 0)) := by
  refine kMv.of (by decide) (Nat.le_of_ble_eq_true rfl) ?_
  intro p e s m_ below meth c ls E sz hC hz hW hl
  have hx := hC.1
  have hb := hC.2.1
  have hl : lv_has ls 1 [(0, .ref (ad 17 m q))] := hl
  refine lv_aload_n hx hb dX3_clear_0 rfl (lv_at hl 0 rfl) ?_
  refine lv_iconst (v := 0) hx hb dX3_clear_1 (by decide) ?_
  refine kp_rm_1 hC hW hm hq kf_RX3_15 dX3_clear_2 (fun H locs hW => ?_)
  refine lv_aload_n hx hb dX3_clear_5 rfl (lv_at hl 0 rfl) ?_
  refine lv_iconst (v := 0) hx hb dX3_clear_6 (by decide) ?_
  refine kp_rm_2 hC hW hm hq (by decide) kf_RX3_19 dX3_clear_7 (fun H locs hW => ?_)
  exact kr_vret hC hz hW (rfl) (by decide) (by decide) dX3_clear_10
set_option maxHeartbeats 4000000 in
set_option maxRecDepth 100000 in
theorem c3_told (l : Launch) (V : gV) (ad : gA) (T : rS) (m q : Nat) (hm : m < cnm T) (hq : q < csz T m) : kMi l yX3_told cX3_told 1 (some .int) ({ frames := 0, cells := 0, slots := 0, locals := 0 } : Room) [.ref (ad 17 m q)] V ad T (fun r T' => r = s_mat T m q ∧ T' = T) := by
  refine kMi.of (by decide) (Nat.le_of_ble_eq_true rfl) ?_
  intro p e s m_ below meth c ls E sz hC hz hW hl
  have hx := hC.1
  have hb := hC.2.1
  have hl : lv_has ls 1 [(0, .ref (ad 17 m q))] := hl
  refine lv_aload_n hx hb dX3_told_0 rfl (lv_at hl 0 rfl) ?_
  refine kg_rm_2 hC hW hm hq kf_RX3_19 dX3_told_1 ?_
  refine lv_if_eq (tgt := 11) hx hb dX3_told_4 (by decide) (fun c_4 => ?_) (fun c_4 => ?_)
  · refine lv_aload_n hx hb dX3_told_11 rfl (lv_at hl 0 rfl) ?_
    refine kg_rm_1 hC hW hm hq kf_RX3_15 dX3_told_12 ?_
    exact kr_iret hC hz hW (⟨(if_pos c_4).symm, rfl⟩) (by decide) (by decide) dX3_told_15
  · refine lv_iconst (v := 4) hx hb dX3_told_7 (by decide) ?_
    refine lv_goto (tgt := 15) hx hb dX3_told_8 (by decide) ?_
    exact kr_iret hC hz hW (⟨(if_neg c_4).symm, rfl⟩) (by decide) (by decide) dX3_told_15
set_option maxHeartbeats 4000000 in
set_option maxRecDepth 100000 in
theorem c3_note (l : Launch) (V : gV) (ad : gA) (T : rS) (m q : Nat) (hm : m < cnm T) (hq : q < csz T m) (n : Nat) (hn : T.1 13 (20 * m + q) = nI n) (hn3 : n ≤ 3) (t : Int32) : kMv l yX3_note cX3_note 2 none ({ frames := 1, cells := 0, slots := 0, locals := 22 } : Room) [.ref (ad 17 m q), .int t] V ad T (fun T' => T' = sp_note T (20 * m + q) t) := by
  refine kMv.of (by decide) (Nat.le_of_ble_eq_true rfl) ?_
  intro p e s m_ below meth c ls E sz hC hz hW hl
  have hx := hC.1
  have hb := hC.2.1
  have hl : lv_has ls 2 [(0, .ref (ad 17 m q)), (1, .int t)] := hl
  have htn : tn (T.1 13 (20 * m + q)) = n := by rw [hn]; exact tn_nI (by omega)
  refine lv_aload_n hx hb dX3_note_0 rfl (lv_at hl 0 rfl) ?_
  refine lv_iload_n hx hb dX3_note_1 rfl (lv_at hl 1 rfl) ?_
  refine kc_Vi hC hW (kv_rm hm hq) rfl (c3_find_rm l V ad _ m q hm hq n hn hn3 t) km_RX3_23 kn_yX3_find ks_yX3_find kz_RX3 kd_yX3_find dn_X3_find rfl hl.1 ⟨by decide, by decide⟩ (Nat.le_of_ble_eq_true rfl) ⟨by decide, by decide⟩ dX3_note_2 (fun r_2 T_2 H locs p_2 hW => ?_)
  obtain ⟨q_2, p_2⟩ := p_2
  rw [p_2] at hW
  refine gq_top (s_idx (fun k => T.1 14 (3 * (20 * m + q) + k)) t n 0) (q_2) ?_
  refine lv_iconst (v := (-1)) hx hb dX3_note_5 (by decide) ?_
  refine lv_icmp_eq (tgt := 10) hx hb dX3_note_6 (by decide) (fun c_6 => ?_) (fun c_6 => ?_)
  · refine lv_aload_n hx hb dX3_note_10 rfl (lv_at hl 0 rfl) ?_
    refine kg_rm_1 hC hW hm hq kf_RX3_15 dX3_note_11 ?_
    refine gq_top (nI n) (hn) ?_
    refine lv_iconst (v := (nI 3)) hx hb dX3_note_14 (by decide) ?_
    refine gn_icmp_ge (tgt := 41) hx hb (by omega) (by omega) dX3_note_15 (by decide) (fun c_15 => ?_) (fun c_15 => ?_)
    · refine lv_aload_n hx hb dX3_note_41 rfl (lv_at hl 0 rfl) ?_
      refine lv_iconst (v := 1) hx hb dX3_note_42 (by decide) ?_
      refine kp_rm_2 hC hW hm hq (by decide) kf_RX3_19 dX3_note_43 (fun H locs hW => ?_)
      exact kr_vret hC hz hW (by unfold sp_note; rw [htn, if_neg (fun z => z c_6), if_pos (by rw [hn, show n = 3 by omega]; rfl)]) (by decide) (by decide) dX3_note_46
    · refine lv_aload_n hx hb dX3_note_18 rfl (lv_at hl 0 rfl) ?_
      refine kg_rm_0 hC hW hm hq kf_RX3_9 dX3_note_19 ?_
      refine lv_aload_n hx hb dX3_note_22 rfl (lv_at hl 0 rfl) ?_
      refine kg_rm_1 hC hW hm hq kf_RX3_15 dX3_note_23 ?_
      refine gq_top (nI n) (hn) ?_
      refine lv_iload_n hx hb dX3_note_26 rfl (lv_at hl 1 rfl) ?_
      refine ks_rmt hC hW hm hq (by omega) dX3_note_27 (fun H locs hW => ?_)
      refine lv_aload_n hx hb dX3_note_28 rfl (lv_at hl 0 rfl) ?_
      refine lv_dup hx hb dX3_note_29 rfl ?_
      refine kg_rm_1 hC hW hm hq kf_RX3_15 dX3_note_30 ?_
      refine gq_top (nI n) (hn) ?_
      refine lv_iconst (v := 1) hx hb dX3_note_33 (by decide) ?_
      refine lv_iadd hx hb dX3_note_34 ?_
      refine gq_top (nI (n + 1)) (nI_1 n) ?_
      refine kp_rm_1 hC hW hm hq kf_RX3_15 dX3_note_35 (fun H locs hW => ?_)
      refine lv_goto (tgt := 46) hx hb dX3_note_38 (by decide) ?_
      exact kr_vret hC hz hW (by unfold sp_note; rw [htn, if_neg (fun z => z c_6), if_neg (fun z => by rw [hn, nl3] at z; have := (nI_eq (by omega) (by decide)).mp z; omega), hn, nI_1]; rfl) (by decide) (by decide) dX3_note_46
  · exact kr_vret hC hz hW (by unfold sp_note; rw [htn, if_pos c_6]) (by decide) (by decide) dX3_note_9
set_option maxHeartbeats 4000000 in
set_option maxRecDepth 100000 in
theorem c3_copyFrom (l : Launch) (V : gV) (ad : gA) (T : rS) (m q : Nat) (hm : m < cnm T) (hq : q < csz T m) (hz15 : T.1 15 (20 * m + q) = 0 ∨ T.1 15 (20 * m + q) = 1) : kMv l yX3_copyFrom cX3_copyFrom 2 none ({ frames := 1, cells := 0, slots := 0, locals := 40 } : Room) [.ref (ad 19 m q), .ref (ad 17 m q)] V ad T (fun T' => T' = s_tr T (20 * m + q) 3) := by
  refine kMv.of (by decide) (Nat.le_of_ble_eq_true rfl) ?_
  intro p e s m_ below meth c ls E sz hC hz hW hl
  have hx := hC.1
  have hb := hC.2.1
  have hl : lv_has ls 2 [(0, .ref (ad 19 m q)), (1, .ref (ad 17 m q))] := hl
  refine lv_aload_n hx hb dX3_copyFrom_0 rfl (lv_at hl 1 rfl) ?_
  refine kg_rm_0 hC hW hm hq kf_RX3_9 dX3_copyFrom_1 ?_
  refine lv_iconst (v := (nI 0)) hx hb dX3_copyFrom_4 (by decide) ?_
  refine lv_aload_n hx hb dX3_copyFrom_5 rfl (lv_at hl 0 rfl) ?_
  refine kg_rt_0 hC hW hm hq kf_RX3_9 dX3_copyFrom_6 ?_
  refine lv_iconst (v := (nI 0)) hx hb dX3_copyFrom_9 (by decide) ?_
  refine lv_iconst (v := (nI 3)) hx hb dX3_copyFrom_10 (by decide) ?_
  refine k_copy hC hW hm hq km_RX3_27 kw_9_13 kst_arraycopyName kz_java_lang_System hl.1 (by decide) (Nat.le_of_ble_eq_true rfl) dX3_copyFrom_11 (fun H locs hW => ?_)
  refine lv_aload_n hx hb dX3_copyFrom_14 rfl (lv_at hl 0 rfl) ?_
  refine lv_aload_n hx hb dX3_copyFrom_15 rfl (lv_at hl 1 rfl) ?_
  refine kg_rm_1 hC hW hm hq kf_RX3_15 dX3_copyFrom_16 ?_
  refine kp_rt_1 hC hW hm hq kf_RX3_15 dX3_copyFrom_19 (fun H locs hW => ?_)
  refine lv_aload_n hx hb dX3_copyFrom_22 rfl (lv_at hl 0 rfl) ?_
  refine lv_aload_n hx hb dX3_copyFrom_23 rfl (lv_at hl 1 rfl) ?_
  refine kg_rm_2 hC hW hm hq kf_RX3_19 dX3_copyFrom_24 ?_
  refine kp_rt_2 hC hW hm hq (hz15) kf_RX3_19 dX3_copyFrom_27 (fun H locs hW => ?_)
  exact kr_vret hC hz hW (by unfold s_tr; rw [su_c _ _ _ (show (14 : Nat) ≠ 13 by decide), su_c _ _ _ (show (14 : Nat) ≠ 15 by decide)]; rfl) (by decide) (by decide) dX3_copyFrom_30
def s_fill (T : rS) (F i : Nat) (v : Int32) : rS := su T F (fun j => if 4 * i ≤ j ∧ j < 4 * i + 4 then v else T.1 F j)
set_option maxHeartbeats 4000000 in
set_option maxRecDepth 100000 in
theorem c0_start (l : Launch) (V : gV) (ad : gA) (T : rS) (i : Nat) (hi : i < 20) (a b : Int32) : kMv l yX0_start cX0_start 3 none ({ frames := 1, cells := 0, slots := 0, locals := 23 } : Room) [.ref (ad 10 i 0), .int a, .int b] V ad T (fun T' => T' = s_fill (s_fill (su (su (su T 18 (va_up (T.1 18) i a)) 20 (va_up (T.1 20) i b)) 19 (va_up (T.1 19) i 0)) 22 i 0) 21 i (-1)) := by
  refine kMv.of (by decide) (Nat.le_of_ble_eq_true rfl) ?_
  intro p e s m_ below meth c ls E sz hC hz hW hl
  have hx := hC.1
  have hb := hC.2.1
  have hl : lv_has ls 3 [(0, .ref (ad 10 i 0)), (1, .int a), (2, .int b)] := hl
  refine lv_aload_n hx hb dX0_start_0 rfl (lv_at hl 0 rfl) ?_
  refine lv_iload_n hx hb dX0_start_1 rfl (lv_at hl 1 rfl) ?_
  refine kp_fr_2 hC hW hi kf_RX0_18 dX0_start_2 (fun H locs hW => ?_)
  refine lv_aload_n hx hb dX0_start_5 rfl (lv_at hl 0 rfl) ?_
  refine lv_iload_n hx hb dX0_start_6 rfl (lv_at hl 2 rfl) ?_
  refine kp_fr_3 hC hW hi kf_RX0_22 dX0_start_7 (fun H locs hW => ?_)
  refine lv_aload_n hx hb dX0_start_10 rfl (lv_at hl 0 rfl) ?_
  refine lv_iconst (v := 0) hx hb dX0_start_11 (by decide) ?_
  refine kp_fr_4 hC hW hi kf_RX0_25 dX0_start_12 (fun H locs hW => ?_)
  refine lv_aload_n hx hb dX0_start_15 rfl (lv_at hl 0 rfl) ?_
  refine kg_fr_0 hC hW hi kf_RX0_9 dX0_start_16 ?_
  refine lv_iconst (v := 0) hx hb dX0_start_19 (by decide) ?_
  refine kc_Sv hC hW (kc_fill_val l V ad _ hi 0) km_RX0_31 kst_yJ7_fill_53178 kz_RJ7 kd_yJ7_fill_53178 dn_J7_fill_53178.2 rfl hl.1 ⟨by decide, by decide⟩ (Nat.le_of_ble_eq_true rfl) ⟨by decide, by decide⟩ dX0_start_20 (fun T_20 H locs p_20 hW => ?_)
  subst p_20
  refine lv_aload_n hx hb dX0_start_23 rfl (lv_at hl 0 rfl) ?_
  refine kg_fr_1 hC hW hi kf_RX0_15 dX0_start_24 ?_
  refine lv_iconst (v := (-1)) hx hb dX0_start_27 (by decide) ?_
  refine kc_Sv hC hW (kc_fill_typ l V ad _ hi (-1)) km_RX0_31 kst_yJ7_fill_53178 kz_RJ7 kd_yJ7_fill_53178 dn_J7_fill_53178.2 rfl hl.1 ⟨by decide, by decide⟩ (Nat.le_of_ble_eq_true rfl) ⟨by decide, by decide⟩ dX0_start_28 (fun T_28 H locs p_28 hW => ?_)
  subst p_28
  exact kr_vret hC hz hW (rfl) (by decide) (by decide) dX0_start_31
set_option maxHeartbeats 4000000 in
set_option maxRecDepth 100000 in
theorem c0_isInt (l : Launch) (V : gV) (ad : gA) (T : rS) (i : Nat) (hi : i < 20) (g : Nat) (hg : g < 4) : kMi l yX0_isInt cX0_isInt 2 (some .boolean) ({ frames := 0, cells := 0, slots := 0, locals := 0 } : Room) [.ref (ad 10 i 0), .int (nI g)] V ad T (fun r T' => r = rb (T.1 21 (4 * i + g) = -1) ∧ T' = T) := by
  refine kMi.of (by decide) (Nat.le_of_ble_eq_true rfl) ?_
  intro p e s m_ below meth c ls E sz hC hz hW hl
  have hx := hC.1
  have hb := hC.2.1
  have hl : lv_has ls 2 [(0, .ref (ad 10 i 0)), (1, .int (nI g))] := hl
  refine lv_aload_n hx hb dX0_isInt_0 rfl (lv_at hl 0 rfl) ?_
  refine kg_fr_1 hC hW hi kf_RX0_15 dX0_isInt_1 ?_
  refine lv_iload_n hx hb dX0_isInt_4 rfl (lv_at hl 1 rfl) ?_
  refine ka_typ hC hW hi (by omega) dX0_isInt_5 ?_
  refine lv_iconst (v := (-1)) hx hb dX0_isInt_6 (by decide) ?_
  refine lv_icmp_ne (tgt := 14) hx hb dX0_isInt_7 (by decide) (fun c_7 => ?_) (fun c_7 => ?_)
  · refine lv_iconst (v := 0) hx hb dX0_isInt_14 (by decide) ?_
    exact kr_zret hC hz hW (by decide) (⟨(rb_0 c_7).symm, rfl⟩) (by decide) (by decide) dX0_isInt_15
  · refine lv_iconst (v := 1) hx hb dX0_isInt_10 (by decide) ?_
    refine lv_goto (tgt := 15) hx hb dX0_isInt_11 (by decide) ?_
    exact kr_zret hC hz hW (by decide) (⟨(rb_1 c_7).symm, rfl⟩) (by decide) (by decide) dX0_isInt_15
set_option maxHeartbeats 4000000 in
set_option maxRecDepth 100000 in
theorem c0_put (l : Launch) (V : gV) (ad : gA) (T : rS) (i : Nat) (hi : i < 20) (g : Nat) (hg : g < 4) (v k : Int32) : kMv l yX0_put cX0_put 4 none ({ frames := 0, cells := 0, slots := 0, locals := 0 } : Room) [.ref (ad 10 i 0), .int (nI g), .int v, .int k] V ad T (fun T' => T' = sp_put T i g k v) := by
  refine kMv.of (by decide) (Nat.le_of_ble_eq_true rfl) ?_
  intro p e s m_ below meth c ls E sz hC hz hW hl
  have hx := hC.1
  have hb := hC.2.1
  have hl : lv_has ls 4 [(0, .ref (ad 10 i 0)), (1, .int (nI g)), (2, .int v), (3, .int k)] := hl
  refine lv_aload_n hx hb dX0_put_0 rfl (lv_at hl 0 rfl) ?_
  refine kg_fr_0 hC hW hi kf_RX0_9 dX0_put_1 ?_
  refine lv_iload_n hx hb dX0_put_4 rfl (lv_at hl 1 rfl) ?_
  refine lv_iload_n hx hb dX0_put_5 rfl (lv_at hl 2 rfl) ?_
  refine ks_val hC hW hi (by omega) dX0_put_6 (fun H locs hW => ?_)
  refine lv_aload_n hx hb dX0_put_7 rfl (lv_at hl 0 rfl) ?_
  refine kg_fr_1 hC hW hi kf_RX0_15 dX0_put_8 ?_
  refine lv_iload_n hx hb dX0_put_11 rfl (lv_at hl 1 rfl) ?_
  refine lv_iload_n hx hb dX0_put_12 rfl (lv_at hl 3 rfl) ?_
  refine ks_typ hC hW hi (by omega) dX0_put_13 (fun H locs hW => ?_)
  exact kr_vret hC hz hW (by unfold sp_put; rw [su_c _ _ _ (show (22 : Nat) ≠ 21 by decide)]; rfl) (by decide) (by decide) dX0_put_14
set_option maxHeartbeats 4000000 in
set_option maxRecDepth 100000 in
theorem c0_setInt (l : Launch) (V : gV) (ad : gA) (T : rS) (i : Nat) (hi : i < 20) (g : Nat) (hg : g < 4) (v : Int32) : kMv l yX0_setInt cX0_setInt 3 none ({ frames := 1, cells := 0, slots := 0, locals := 23 } : Room) [.ref (ad 10 i 0), .int (nI g), .int v] V ad T (fun T' => T' = sp_put T i g (-1) v) := by
  refine kMv.of (by decide) (Nat.le_of_ble_eq_true rfl) ?_
  intro p e s m_ below meth c ls E sz hC hz hW hl
  have hx := hC.1
  have hb := hC.2.1
  have hl : lv_has ls 3 [(0, .ref (ad 10 i 0)), (1, .int (nI g)), (2, .int v)] := hl
  refine lv_aload_n hx hb dX0_setInt_0 rfl (lv_at hl 0 rfl) ?_
  refine lv_iload_n hx hb dX0_setInt_1 rfl (lv_at hl 1 rfl) ?_
  refine lv_iload_n hx hb dX0_setInt_2 rfl (lv_at hl 2 rfl) ?_
  refine lv_iconst (v := (-1)) hx hb dX0_setInt_3 (by decide) ?_
  refine kc_Vv hC hW (kv_fr hi) rfl (c0_put l V ad _ i hi g hg v (-1)) km_RX0_37 kn_yX0_put ks_yX0_put kz_RX0 kd_yX0_put dn_X0_put rfl hl.1 ⟨by decide, by decide⟩ (Nat.le_of_ble_eq_true rfl) ⟨by decide, by decide⟩ dX0_setInt_4 (fun T_4 H locs p_4 hW => ?_)
  subst p_4
  exact kr_vret hC hz hW (rfl) (by decide) (by decide) dX0_setInt_7
