theorem su_ss (S : rS) (f : Nat) (g g2 : Nat → Int32) : su (su S f g) f g2 = su S f g2 := by
  refine Prod.ext (funext fun f' => ?_) rfl
  by_cases h : f' = f <;> simp [su, h]
theorem su_c (S : rS) {f f2 : Nat} (g g2 : Nat → Int32) (h : f ≠ f2) : su (su S f g) f2 g2 = su (su S f2 g2) f g := by
  refine Prod.ext (funext fun f' => ?_) rfl
  by_cases h1 : f' = f
  · subst h1
    simp [su, h]
  · by_cases h2 : f' = f2 <;> simp [su, h1, h2, Ne.symm h]
theorem sl_ss (S : rS) (f : Nat) (g g2 : Nat → Int64) : sl (sl S f g) f g2 = sl S f g2 := by
  refine Prod.ext rfl (funext fun f' => ?_)
  by_cases h : f' = f <;> simp [sl, h]
theorem sl_c (S : rS) {f f2 : Nat} (g g2 : Nat → Int64) (h : f ≠ f2) : sl (sl S f g) f2 g2 = sl (sl S f2 g2) f g := by
  refine Prod.ext rfl (funext fun f' => ?_)
  by_cases h1 : f' = f
  · subst h1
    simp [sl, h]
  · by_cases h2 : f' = f2 <;> simp [sl, h1, h2, Ne.symm h]
theorem su_sl (S : rS) (f f2 : Nat) (g : Nat → Int32) (g2 : Nat → Int64) : sl (su S f g) f2 g2 = su (sl S f2 g2) f g := rfl
theorem su_id (S : rS) (f : Nat) : su S f (S.1 f) = S := by
  refine Prod.ext (funext fun f' => ?_) rfl
  by_cases h : f' = f <;> simp [su, h]
theorem up_rng {α : Type} (f : Nat → α) (a k : Nat) (v : α) : va_up (fun i => if a ≤ i ∧ i < a + k then v else f i) (a + k) v = (fun i => if a ≤ i ∧ i < a + (k + 1) then v else f i) := by
  funext i
  simp only [va_up]
  by_cases h : i = a + k
  · rw [if_pos h, if_pos (by omega)]
  · rw [if_neg h]
    by_cases h2 : a ≤ i ∧ i < a + k
    · rw [if_pos h2, if_pos (by omega)]
    · rw [if_neg h2, if_neg (by omega)]
theorem up_rng0 {α : Type} (f : Nat → α) (a : Nat) (v : Nat → α) : (fun i => if a ≤ i ∧ i < a + 0 then v i else f i) = f := by
  funext i
  rw [if_neg (by omega)]
theorem up_cpy {α : Type} (f : Nat → α) (a d k : Nat) : va_up (fun i => if a ≤ i ∧ i < a + k then f (i - d) else f i) (a + k) (f (a + k - d)) = (fun i => if a ≤ i ∧ i < a + (k + 1) then f (i - d) else f i) := by
  funext i
  simp only [va_up]
  by_cases h : i = a + k
  · rw [if_pos h, if_pos (by omega), h]
  · rw [if_neg h]
    by_cases h2 : a ≤ i ∧ i < a + k
    · rw [if_pos h2, if_pos (by omega)]
    · rw [if_neg h2, if_neg (by omega)]
/-- the records of method m, the first k of them, empty -/
def s_clr (S : rS) (m k : Nat) : rS := su (su S 13 (fun i => if 20 * m ≤ i ∧ i < 20 * m + k then 0 else S.1 13 i)) 15 (fun i => if 20 * m ≤ i ∧ i < 20 * m + k then 0 else S.1 15 i)
theorem s_clr_0 (S : rS) (m : Nat) : s_clr S m 0 = S := by
  unfold s_clr
  rw [up_rng0 (S.1 13) (20 * m) (fun _ => 0), up_rng0 (S.1 15) (20 * m) (fun _ => 0), su_id]
  exact su_id S 15
theorem s_clr_1 (S : rS) (m k : Nat) : su (su (s_clr S m k) 13 (va_up ((s_clr S m k).1 13) (20 * m + k) 0)) 15 (va_up ((s_clr S m k).1 15) (20 * m + k) 0) = s_clr S m (k + 1) := by
  have e1 : va_up ((s_clr S m k).1 13) (20 * m + k) 0 = _ := up_rng (S.1 13) (20 * m) k 0
  have e2 : va_up ((s_clr S m k).1 15) (20 * m + k) 0 = _ := up_rng (S.1 15) (20 * m) k 0
  rw [e1, e2]
  unfold s_clr
  rw [su_c _ _ _ (show (15 : Nat) ≠ 13 by decide), su_ss, su_ss]
def sp_unlearn (S : rS) (m : Nat) : rS := s_clr (su (su (su S 10 (va_up (S.1 10) m 0)) 11 (va_up (S.1 11) m 0)) 12 (va_up (S.1 12) m 0)) m 20
set_option maxHeartbeats 4000000 in
set_option maxRecDepth 100000 in
theorem c6_unlearn (l : Launch) (V : gV) (ad : gA) (S : rS) (m : Nat) (hm : m < 12) : rMv l yX6_unlearn cX6_unlearn 3 none ({ frames := 1, cells := 0, slots := 0, locals := 21 } : Room) [.int (nI m)] V ad S (fun S' => S' = sp_unlearn S m) := by
  refine rMv.of (by decide) (Nat.le_of_ble_eq_true rfl) ?_
  intro p e s m_ below meth c ls E sz hC hz hR hl
  have hx := hC.1
  have hb := hC.2.1
  have hl : lv_has ls 3 [(0, .ref (ad 50 0 0)), (1, .int (nI m))] := hl
  refine lv_aload_n hx hb dX6_unlearn_0 rfl (lv_at hl 0 rfl) ?_
  refine rg_10 hC hR dX6_unlearn_1 ?_
  refine lv_iload_n hx hb dX6_unlearn_4 rfl (lv_at hl 1 rfl) ?_
  refine lv_iconst (v := 0) hx hb dX6_unlearn_5 (by decide) ?_
  refine rs_10 hC hR (by omega) dX6_unlearn_6 (fun H locs hR => ?_)
  refine lv_aload_n hx hb dX6_unlearn_7 rfl (lv_at hl 0 rfl) ?_
  refine rg_11 hC hR dX6_unlearn_8 ?_
  refine lv_iload_n hx hb dX6_unlearn_11 rfl (lv_at hl 1 rfl) ?_
  refine lv_iconst (v := 0) hx hb dX6_unlearn_12 (by decide) ?_
  refine rs_11 hC hR (by omega) dX6_unlearn_13 (fun H locs hR => ?_)
  refine lv_aload_n hx hb dX6_unlearn_14 rfl (lv_at hl 0 rfl) ?_
  refine rg_12 hC hR dX6_unlearn_15 ?_
  refine lv_iload_n hx hb dX6_unlearn_18 rfl (lv_at hl 1 rfl) ?_
  refine lv_iconst (v := 0) hx hb dX6_unlearn_19 (by decide) ?_
  refine rs_12 hC hR (by omega) dX6_unlearn_20 (fun H locs hR => ?_)
  refine lv_iconst (v := (nI 0)) hx hb dX6_unlearn_21 (by decide) ?_
  refine lv_istore_n (lv' := [(2, .int ((nI 0))), (0, .ref (ad 50 0 0)), (1, .int (nI m))]) hx hb dX6_unlearn_22 rfl hl (by decide) rfl (fun ls hl => ?_)
  refine g_loop (T := Nat) (fun x H locs ls => x ≤ 20 ∧ rfW V (gAd ad E sz) s.heap ad E (s_clr (su (su (su S 10 (va_up (S.1 10) m 0)) 11 (va_up (S.1 11) m 0)) 12 (va_up (S.1 12) m 0)) m x) H locs ∧ lv_has ls 3 [(2, .int (nI x)), (0, .ref (ad 50 0 0)), (1, .int (nI m))]) (fun x => 20 - x) (fun x ih H locs ls hI => ?_) (0) ⟨by omega, by rw [s_clr_0]; exact hR, lv_sub hl [0, 1, 2] rfl⟩
  obtain ⟨hx20, hR, hl⟩ := hI
  refine lv_iload_n hx hb dX6_unlearn_23 rfl (lv_at hl 0 rfl) ?_
  refine lv_bipush (v := (nI 20)) hx hb dX6_unlearn_24 (by decide) ?_
  refine gn_icmp_ge (tgt := 45) hx hb (by omega) (by omega) dX6_unlearn_26 (by decide) (fun c_26 => ?_) (fun c_26 => ?_)
  · exact rr_vret hC hz hR (by rw [show x = 20 by omega]; rfl) (by decide) (by decide) dX6_unlearn_45
  · refine lv_aload_n hx hb dX6_unlearn_29 rfl (lv_at hl 1 rfl) ?_
    refine lv_bipush (v := 20) hx hb dX6_unlearn_30 (by decide) ?_
    refine lv_iload_n hx hb dX6_unlearn_32 rfl (lv_at hl 2 rfl) ?_
    refine lv_imul hx hb dX6_unlearn_33 ?_
    refine lv_iload_n hx hb dX6_unlearn_34 rfl (lv_at hl 0 rfl) ?_
    refine lv_iadd hx hb dX6_unlearn_35 ?_
    refine gq_top (nI (20 * m + x)) (by simp only [nl3, nl4, nl5, nl6, nl20, nl240, nI_mul, nI_add]) ?_
    refine rr_callv hC hR (c6_empty l V ad _ (20 * m + x) (by omega)) km_RX6_90 kn_yX6_empty ks_yX6_empty kz_RX6 kd_yX6_empty dn_X6_empty rfl hl.1 ⟨by decide, by decide⟩ (Nat.le_of_ble_eq_true rfl) ⟨by decide, by decide⟩ dX6_unlearn_36 (fun S_36 H locs p_36 hR => ?_)
    subst p_36
    refine lv_iinc (v := (nI (x + 1))) (lv' := [(2, .int ((nI (x + 1)))), (0, .ref (ad 50 0 0)), (1, .int (nI m))]) hx hb dX6_unlearn_39 hl (k := 0) rfl (nI_1 x) (by decide) rfl (fun ls hl => ?_)
    refine lv_goto (tgt := 23) hx hb dX6_unlearn_42 (by decide) ?_
    exact ih (x + 1) (by omega) _ _ _ ⟨by omega, by rw [← s_clr_1]; exact hR, lv_sub hl [0, 1, 2] rfl⟩
def s_tr (S : rS) (r k : Nat) : rS := su (su (su S 13 (va_up (S.1 13) (240 + r) (S.1 13 r))) 15 (va_up (S.1 15) (240 + r) (S.1 15 r))) 14 (fun i => if 3 * (240 + r) ≤ i ∧ i < 3 * (240 + r) + k then S.1 14 (i - 720) else S.1 14 i)
theorem s_tr_0 (S : rS) (r : Nat) : s_tr S r 0 = su (su S 13 (va_up (S.1 13) (240 + r) (S.1 13 r))) 15 (va_up (S.1 15) (240 + r) (S.1 15 r)) := by
  unfold s_tr
  rw [up_rng0 (S.1 14) (3 * (240 + r)) (fun i => S.1 14 (i - 720))]
  exact su_id (su (su S 13 (va_up (S.1 13) (240 + r) (S.1 13 r))) 15 (va_up (S.1 15) (240 + r) (S.1 15 r))) 14
theorem s_tr_1 (S : rS) (r k : Nat) (hr : r < 240) (hk : k < 3) : su (s_tr S r k) 14 (va_up ((s_tr S r k).1 14) (3 * (240 + r) + k) ((s_tr S r k).1 14 (3 * r + k))) = s_tr S r (k + 1) := by
  have e1 : (s_tr S r k).1 14 (3 * r + k) = S.1 14 (3 * (240 + r) + k - 720) := by
    show (if 3 * (240 + r) ≤ 3 * r + k ∧ 3 * r + k < 3 * (240 + r) + k then S.1 14 (3 * r + k - 720) else S.1 14 (3 * r + k)) = _
    rw [if_neg (by omega), show 3 * (240 + r) + k - 720 = 3 * r + k by omega]
  have e2 : va_up ((s_tr S r k).1 14) (3 * (240 + r) + k) (S.1 14 (3 * (240 + r) + k - 720)) = _ := up_cpy (S.1 14) (3 * (240 + r)) 720 k
  rw [e1, e2]
  unfold s_tr
  rw [su_ss]
set_option maxHeartbeats 4000000 in
set_option maxRecDepth 100000 in
theorem c6_trust (l : Launch) (V : gV) (ad : gA) (S : rS) (r : Nat) (hr : r < 240) (hz15 : S.1 15 r = 0 ∨ S.1 15 r = 1) : rMv l yX6_trust cX6_trust 3 none ({ frames := 0, cells := 0, slots := 0, locals := 0 } : Room) [.int (nI r)] V ad S (fun S' => S' = s_tr S r 3) := by
  refine rMv.of (by decide) (Nat.le_of_ble_eq_true rfl) ?_
  intro p e s m_ below meth c ls E sz hC hz hR hl
  have hx := hC.1
  have hb := hC.2.1
  have hl : lv_has ls 3 [(0, .ref (ad 50 0 0)), (1, .int (nI r))] := hl
  refine lv_aload_n hx hb dX6_trust_0 rfl (lv_at hl 0 rfl) ?_
  refine rg_13 hC hR dX6_trust_1 ?_
  refine lv_sipush (v := 240) hx hb dX6_trust_4 (by decide) ?_
  refine lv_iload_n hx hb dX6_trust_7 rfl (lv_at hl 1 rfl) ?_
  refine lv_iadd hx hb dX6_trust_8 ?_
  refine gq_top (nI (240 + r)) (by simp only [nl3, nl4, nl5, nl6, nl20, nl240, nI_mul, nI_add]) ?_
  refine lv_aload_n hx hb dX6_trust_9 rfl (lv_at hl 0 rfl) ?_
  refine rg_13 hC hR dX6_trust_10 ?_
  refine lv_iload_n hx hb dX6_trust_13 rfl (lv_at hl 1 rfl) ?_
  refine ra_13 hC hR (by omega) dX6_trust_14 ?_
  refine rs_13 hC hR (by omega) dX6_trust_15 (fun H locs hR => ?_)
  refine lv_aload_n hx hb dX6_trust_16 rfl (lv_at hl 0 rfl) ?_
  refine rg_15 hC hR dX6_trust_17 ?_
  refine lv_sipush (v := 240) hx hb dX6_trust_20 (by decide) ?_
  refine lv_iload_n hx hb dX6_trust_23 rfl (lv_at hl 1 rfl) ?_
  refine lv_iadd hx hb dX6_trust_24 ?_
  refine gq_top (nI (240 + r)) (by simp only [nl3, nl4, nl5, nl6, nl20, nl240, nI_mul, nI_add]) ?_
  refine lv_aload_n hx hb dX6_trust_25 rfl (lv_at hl 0 rfl) ?_
  refine rg_15 hC hR dX6_trust_26 ?_
  refine lv_iload_n hx hb dX6_trust_29 rfl (lv_at hl 1 rfl) ?_
  refine ra_15 hC hR (by omega) dX6_trust_30 ?_
  refine rs_15 hC hR (hz15) (by omega) dX6_trust_31 (fun H locs hR => ?_)
  refine lv_iconst (v := (nI 0)) hx hb dX6_trust_32 (by decide) ?_
  refine lv_istore_n (lv' := [(2, .int ((nI 0))), (0, .ref (ad 50 0 0)), (1, .int (nI r))]) hx hb dX6_trust_33 rfl hl (by decide) rfl (fun ls hl => ?_)
  refine g_loop (T := Nat) (fun x H locs ls => x ≤ 3 ∧ rfW V (gAd ad E sz) s.heap ad E (s_tr S r x) H locs ∧ lv_has ls 3 [(2, .int (nI x)), (0, .ref (ad 50 0 0)), (1, .int (nI r))]) (fun x => 3 - x) (fun x ih H locs ls hI => ?_) (0) ⟨by omega, by rw [s_tr_0]; exact hR, lv_sub hl [0, 1, 2] rfl⟩
  obtain ⟨hx3, hR, hl⟩ := hI
  refine lv_iload_n hx hb dX6_trust_34 rfl (lv_at hl 0 rfl) ?_
  refine lv_iconst (v := (nI 3)) hx hb dX6_trust_35 (by decide) ?_
  refine gn_icmp_ge (tgt := 69) hx hb (by omega) (by omega) dX6_trust_36 (by decide) (fun c_36 => ?_) (fun c_36 => ?_)
  · exact rr_vret hC hz hR (by rw [show x = 3 by omega]) (by decide) (by decide) dX6_trust_69
  · refine lv_aload_n hx hb dX6_trust_39 rfl (lv_at hl 1 rfl) ?_
    refine rg_14 hC hR dX6_trust_40 ?_
    refine lv_iconst (v := 3) hx hb dX6_trust_43 (by decide) ?_
    refine lv_sipush (v := 240) hx hb dX6_trust_44 (by decide) ?_
    refine lv_iload_n hx hb dX6_trust_47 rfl (lv_at hl 2 rfl) ?_
    refine lv_iadd hx hb dX6_trust_48 ?_
    refine lv_imul hx hb dX6_trust_49 ?_
    refine lv_iload_n hx hb dX6_trust_50 rfl (lv_at hl 0 rfl) ?_
    refine lv_iadd hx hb dX6_trust_51 ?_
    refine gq_top (nI (3 * (240 + r) + x)) (by simp only [nl3, nl4, nl5, nl6, nl20, nl240, nI_mul, nI_add]) ?_
    refine lv_aload_n hx hb dX6_trust_52 rfl (lv_at hl 1 rfl) ?_
    refine rg_14 hC hR dX6_trust_53 ?_
    refine lv_iconst (v := 3) hx hb dX6_trust_56 (by decide) ?_
    refine lv_iload_n hx hb dX6_trust_57 rfl (lv_at hl 2 rfl) ?_
    refine lv_imul hx hb dX6_trust_58 ?_
    refine lv_iload_n hx hb dX6_trust_59 rfl (lv_at hl 0 rfl) ?_
    refine lv_iadd hx hb dX6_trust_60 ?_
    refine gq_top (nI (3 * r + x)) (by simp only [nl3, nl4, nl5, nl6, nl20, nl240, nI_mul, nI_add]) ?_
    refine ra_14 hC hR (by omega) dX6_trust_61 ?_
    refine rs_14 hC hR (by omega) dX6_trust_62 (fun H locs hR => ?_)
    refine lv_iinc (v := (nI (x + 1))) (lv' := [(2, .int ((nI (x + 1)))), (0, .ref (ad 50 0 0)), (1, .int (nI r))]) hx hb dX6_trust_63 hl (k := 0) rfl (nI_1 x) (by decide) rfl (fun ls hl => ?_)
    refine lv_goto (tgt := 34) hx hb dX6_trust_66 (by decide) ?_
    exact ih (x + 1) (by omega) _ _ _ ⟨by omega, by rw [← s_tr_1 S r x hr (by omega)]; exact hR, lv_sub hl [0, 1, 2] rfl⟩
/-- the first place from k on, n places, where a row holds t; -1 -/
def s_idx (f : Nat → Int32) (t : Int32) : Nat → Nat → Int32
  | 0, _ => -1
  | n + 1, k => if f k = t then nI k else s_idx f t n (k + 1)
theorem s_idx_no {f : Nat → Int32} {t : Int32} : ∀ n k : Nat, (∀ j, k ≤ j → j < k + n → f j ≠ t) → s_idx f t n k = -1
  | 0, _, _ => rfl
  | n + 1, k, h => by
    unfold s_idx
    rw [if_neg (h k (by omega) (by omega))]
    exact s_idx_no n (k + 1) (fun j h1 h2 => h j (by omega) (by omega))
theorem s_idx_at {f : Nat → Int32} {t : Int32} {i : Nat} (h2 : f i = t) : ∀ n k : Nat, (∀ j, k ≤ j → j < i → f j ≠ t) → k ≤ i → i < k + n → s_idx f t n k = nI i
  | 0, k, _, _, h => by omega
  | n + 1, k, h1, h3, h => by
    unfold s_idx
    by_cases e : k = i
    · subst e
      rw [if_pos h2]
    · rw [if_neg (h1 k (by omega) (by omega))]
      exact s_idx_at h2 n (k + 1) (fun j g1 g2 => h1 j (by omega) g2) (by omega) (by omega)
set_option maxHeartbeats 4000000 in
set_option maxRecDepth 100000 in
theorem c6_indexOf (l : Launch) (V : gV) (ad : gA) (S : rS) (r n : Nat) (t : Int32) (hr : r < 480) (hn : S.1 13 r = nI n) (hn3 : n ≤ 3) : rMi l yX6_indexOf cX6_indexOf 4 (some .int) ({ frames := 0, cells := 0, slots := 0, locals := 0 } : Room) [.int (nI r), .int t] V ad S (fun r_ S' => r_ = s_idx (fun k => S.1 14 (3 * r + k)) t n 0 ∧ S' = S) := by
  refine rMi.of (by decide) (Nat.le_of_ble_eq_true rfl) ?_
  intro p e s m_ below meth c ls E sz hC hz hR hl
  have hx := hC.1
  have hb := hC.2.1
  have hl : lv_has ls 4 [(0, .ref (ad 50 0 0)), (1, .int (nI r)), (2, .int t)] := hl
  refine lv_iconst (v := (nI 0)) hx hb dX6_indexOf_0 (by decide) ?_
  refine lv_istore_n (lv' := [(3, .int ((nI 0))), (0, .ref (ad 50 0 0)), (1, .int (nI r)), (2, .int t)]) hx hb dX6_indexOf_1 rfl hl (by decide) rfl (fun ls hl => ?_)
  refine g_loop (T := Nat) (fun x H locs ls => (x ≤ n ∧ ∀ k, k < x → S.1 14 (3 * r + k) ≠ t) ∧ rfW V (gAd ad E sz) s.heap ad E S H locs ∧ lv_has ls 4 [(3, .int (nI x)), (0, .ref (ad 50 0 0)), (1, .int (nI r)), (2, .int t)]) (fun x => n - x) (fun x ih H locs ls hI => ?_) (0) ⟨⟨by omega, fun k hk => by omega⟩, hR, lv_sub hl [0, 1, 2, 3] rfl⟩
  obtain ⟨⟨hxn, hno⟩, hR, hl⟩ := hI
  refine lv_iload_n hx hb dX6_indexOf_2 rfl (lv_at hl 0 rfl) ?_
  refine lv_aload_n hx hb dX6_indexOf_3 rfl (lv_at hl 1 rfl) ?_
  refine rg_13 hC hR dX6_indexOf_4 ?_
  refine lv_iload_n hx hb dX6_indexOf_7 rfl (lv_at hl 2 rfl) ?_
  refine ra_13 hC hR (by omega) dX6_indexOf_8 ?_
  refine gq_top (nI n) (hn) ?_
  refine gn_icmp_ge (tgt := 34) hx hb (by omega) (by omega) dX6_indexOf_9 (by decide) (fun c_9 => ?_) (fun c_9 => ?_)
  · refine lv_iconst (v := (-1)) hx hb dX6_indexOf_34 (by decide) ?_
    exact rr_iret hC hz hR (⟨(s_idx_no n 0 (fun k _ hk => hno k (by omega))).symm, rfl⟩) (by decide) (by decide) dX6_indexOf_35
  · refine lv_aload_n hx hb dX6_indexOf_12 rfl (lv_at hl 1 rfl) ?_
    refine rg_14 hC hR dX6_indexOf_13 ?_
    refine lv_iconst (v := 3) hx hb dX6_indexOf_16 (by decide) ?_
    refine lv_iload_n hx hb dX6_indexOf_17 rfl (lv_at hl 2 rfl) ?_
    refine lv_imul hx hb dX6_indexOf_18 ?_
    refine lv_iload_n hx hb dX6_indexOf_19 rfl (lv_at hl 0 rfl) ?_
    refine lv_iadd hx hb dX6_indexOf_20 ?_
    refine gq_top (nI (3 * r + x)) (by simp only [nl3, nl4, nl5, nl6, nl20, nl240, nI_mul, nI_add]) ?_
    refine ra_14 hC hR (by omega) dX6_indexOf_21 ?_
    refine lv_iload_n hx hb dX6_indexOf_22 rfl (lv_at hl 3 rfl) ?_
    refine lv_icmp_ne (tgt := 28) hx hb dX6_indexOf_23 (by decide) (fun c_23 => ?_) (fun c_23 => ?_)
    · refine lv_iinc (v := (nI (x + 1))) (lv' := [(3, .int ((nI (x + 1)))), (0, .ref (ad 50 0 0)), (1, .int (nI r)), (2, .int t)]) hx hb dX6_indexOf_28 hl (k := 0) rfl (nI_1 x) (by decide) rfl (fun ls hl => ?_)
      refine lv_goto (tgt := 2) hx hb dX6_indexOf_31 (by decide) ?_
      refine ih (x + 1) (by omega) _ _ _ ⟨⟨by omega, fun k hk => ?_⟩, hR, lv_sub hl [0, 1, 2, 3] rfl⟩
      by_cases e : k = x
      · rw [e]; exact c_23
      · exact hno k (by omega)
    · refine lv_iload_n hx hb dX6_indexOf_26 rfl (lv_at hl 0 rfl) ?_
      exact rr_iret hC hz hR (⟨(s_idx_at (i := x) c_23 n 0 (fun j _ h => hno j h) (by omega) (by omega)).symm, rfl⟩) (by decide) (by decide) dX6_indexOf_27
