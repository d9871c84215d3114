theorem rJ_send {S : rS} {nc nm f m q z g oc od x : Nat} (hI : rI S nc nm) (hF : rF S nc nm (f + 1)) (hm : m < nm) (h18 : S.1 18 f = nI m) (h19 : S.1 19 f = nI q) (h5 : S.1 5 m = nI z) (hz : z ≤ 20) (hqz : q < z) (hk : S.1 6 (5 * (20 * m + q)) = nI 5) (hg : g < 6) (hoc : oc < 4) (hod : od < 4) (e2 : s_op S m q 2 = nI g) (e3 : s_op S m q 3 = nI oc) (e4 : s_op S m q 4 = nI od) (hxn : x ≤ nc) (ex : S.1 21 (4 * f + oc) = nI x - 1) :
    ∃ f', rI (sp_send S f m q) nc nm ∧ rF (sp_send S f m q) nc nm f' := by
  have hnm := hI.2.2.2.1
  have hp := hI.2.1
  have hnc := hp.1
  have hf := hF.2.1
  have t2 : tn (s_op S m q 2) = g := by rw [e2]; exact tn_nI (by omega)
  have t3 : tn (s_op S m q 3) = oc := by rw [e3]; exact tn_nI (by omega)
  have t4 : tn (s_op S m q 4) = od := by rw [e4]; exact tn_nI (by omega)
  have tx : tn (S.1 21 (4 * f + oc) + 1) = x := by rw [ex, nI_m1]; exact tn_nI (by omega)
  unfold sp_send
  rw [t3, t2, t4, tx]
  split
  · exact ⟨f + 1, rI_congr rfl rfl rfl rfl rfl rfl rfl rfl rfl hI, rF_congr rfl rfl rfl rfl rfl rfl rfl hF⟩
  · rename_i hne
    have hx0 : x ≠ 0 := fun w => hne (by rw [ex, w]; rfl)
    split
    · exact ⟨f + 1, rI_congr rfl rfl rfl rfl rfl rfl rfl rfl rfl hI, rF_congr rfl rfl rfl rfl rfl rfl rfl hF⟩
    · rename_i hund
      obtain ⟨mt, hmt, emt⟩ := s_und_m (g := g) hp hI.2.2.2.2.1 hxn hg
      have hmt0 : mt ≠ 0 := fun w => hund (by rw [emt, w]; rfl)
      have emt2 : s_und S x g = nI (mt - 1) := by rw [emt, ← nI_sub (b := 1) (by omega)]; rfl
      have hI1 := rI_meet (f := f) (g := g) hI (show m < 12 by omega) (show q < 20 by omega) hxn hx0
      have hF1 := rF_meet (f := f) (m := m) (q := q) (x := x) (g := g) hF
      rw [emt2, tn_nI (by omega)]
      unfold sp_sen2
      split
      · exact ⟨f + 1, rI_congr rfl rfl rfl rfl rfl rfl rfl rfl rfl hI1, rF_congr rfl rfl rfl rfl rfl rfl rfl hF1⟩
      · obtain ⟨xd, hxd, exd, hxv⟩ := hF.2.2.2 f od (by omega) hod
        have fm : ∀ {k : Nat}, k ≠ 10 → k ≠ 11 → k ≠ 12 → k ≠ 13 → k ≠ 14 → k ≠ 15 → k ≠ 20 → (sp_meet S f m q x g).1 k = S.1 k := fun h1 h2 h3 h4 h5 h6 h7 => sp_meet_f h1 h2 h3 h4 h5 h6 h7
        rw [exd]
        have hF2 := rF_begin (m := mt - 1) (v := S.1 22 (4 * f + od)) hF1 (by omega) (show mt - 1 < nm by omega) hxd hxv (fun _ m1 q1 hm1 hq1 g1 g2 => by
          rw [Nat.add_sub_cancel, fm (by decide) (by decide) (by decide) (by decide) (by decide) (by decide) (by decide), h18] at g1
          rw [Nat.add_sub_cancel, fm (by decide) (by decide) (by decide) (by decide) (by decide) (by decide) (by decide), h19] at g2
          have k1 := (nI_eq (by omega) (by omega)).mp g1
          have k2 := (nI_eq (by omega) (by omega)).mp g2
          subst k1
          subst k2
          rw [fm (by decide) (by decide) (by decide) (by decide) (by decide) (by decide) (by decide), fm (by decide) (by decide) (by decide) (by decide) (by decide) (by decide) (by decide), h5, tn_nI (by omega)]
          exact ⟨hqz, hk⟩)
        exact ⟨f + 1 + 1, rI_congr rfl rfl rfl rfl rfl rfl rfl rfl rfl (rI_begin hI1 (by omega)), rF_put hF2 (by decide) hxn (fun _ => rfl)⟩
theorem rJ_step {S : rS} {nc nm f m q z : Nat} (hI : rI S nc nm) (hF : rF S nc nm (f + 1)) (hm : m < nm) (h18 : S.1 18 f = nI m) (h19 : S.1 19 f = nI q) (h5 : S.1 5 m = nI z) (hz : z ≤ 20) (hqz : q < z) : ∃ f', rI (sp_step S f) nc nm ∧ rF (sp_step S f) nc nm f' := by
  have hnm := hI.2.2.2.1
  have hp := hI.2.1
  have hnc := hp.1
  have hf := hF.2.1
  obtain ⟨k, hk8, e0, ⟨a, ea, ha20, ha4⟩, hb_, hb4_, hb5, hc_, hc6, hd_⟩ : s_ins S nc (20 * m + q) := by
    obtain ⟨z1, k1, k2, -, k4⟩ := hI.2.2.2.2.2.1 m (by omega)
    exact k4 q (by have := (nI_eq (by omega) (by omega)).mp (k2.symm.trans h5); omega)
  have e18 : tn (S.1 18 f) = m := by rw [h18]; exact tn_nI (by omega)
  have e19 : tn (S.1 19 f) = q := by rw [h19]; exact tn_nI (by omega)
  unfold sp_step
  rw [e18, e19, show tn (s_op S m q 0) = k by rw [show s_op S m q 0 = nI k from e0]; exact tn_nI (by omega)]
  obtain ⟨S1, hS1⟩ : ∃ S1, S1 = sp_pay S f := ⟨_, rfl⟩
  have hI1 : rI S1 nc nm := by rw [hS1]; exact rI_congr rfl rfl rfl rfl rfl rfl rfl rfl rfl hI
  have hF1 : rF S1 nc nm (f + 1) := by rw [hS1]; exact rF_congr rfl rfl rfl rfl rfl rfl rfl hF
  have h18 : S1.1 18 f = nI m := by rw [hS1]; exact h18
  have h19 : S1.1 19 f = nI q := by rw [hS1]; exact h19
  have h5 : S1.1 5 m = nI z := by rw [hS1]; exact h5
  have eop : ∀ j, s_op S1 m q j = s_op S m q j := fun j => by rw [hS1]; rfl
  have ta : tn (s_op S1 m q 1) = a := by rw [eop, show s_op S m q 1 = nI a from ea]; exact tn_nI (by omega)
  rw [← hS1]
  have hcalc : ∀ v : Int32, a < 4 → ∃ f', rI (sp_calc S1 f m q v) nc nm ∧ rF (sp_calc S1 f m q v) nc nm f' := fun v ha => by
    unfold sp_calc
    split
    · rw [ta]
      refine ⟨f + 1, rI_congr rfl rfl rfl rfl rfl rfl rfl rfl rfl hI1, rF_nxt (q := q) (rF_put (x := 0) hF1 ha (Nat.zero_le _) (fun w => absurd rfl w)) h19 (by omega)⟩
    · exact ⟨f + 1, rI_congr rfl rfl rfl rfl rfl rfl rfl rfl rfl hI1, rF_congr rfl rfl rfl rfl rfl rfl rfl hF1⟩
  have hkk : k = 0 ∨ k = 1 ∨ k = 2 ∨ k = 3 ∨ k = 4 ∨ k = 5 ∨ k = 6 ∨ k = 7 ∨ k = 8 := by omega
  rcases hkk with hkk | hkk | hkk | hkk | hkk | hkk | hkk | hkk | hkk <;> subst hkk
  · show ∃ f', rI (s_nxt (sp_put S1 f (tn (s_op S1 m q 1)) (-1) (s_op S1 m q 2)) f) nc nm ∧ rF (s_nxt (sp_put S1 f (tn (s_op S1 m q 1)) (-1) (s_op S1 m q 2)) f) nc nm f'
    rw [ta]
    exact ⟨f + 1, rI_congr rfl rfl rfl rfl rfl rfl rfl rfl rfl hI1, rF_nxt (q := q) (rF_put (x := 0) hF1 (ha4 (by decide)) (Nat.zero_le _) (fun w => absurd rfl w)) h19 (by omega)⟩
  · exact hcalc _ (ha4 (by decide))
  · exact hcalc _ (ha4 (by decide))
  · exact hcalc _ (ha4 (by decide))
  · show ∃ f', rI (s_nxt (sp_put S1 f (tn (s_op S1 m q 1)) (s_op S1 m q 2) 0) f) nc nm ∧ rF (s_nxt (sp_put S1 f (tn (s_op S1 m q 1)) (s_op S1 m q 2) 0) f) nc nm f'
    obtain ⟨b, hb, eb⟩ := hb4_ rfl
    rw [ta, eop, show s_op S m q 2 = nI (b + 1) - 1 by rw [nI_m1s]; exact eb]
    exact ⟨f + 1, rI_congr rfl rfl rfl rfl rfl rfl rfl rfl rfl hI1, rF_nxt (q := q) (rF_put (x := b + 1) hF1 (ha4 (by decide)) (by omega) (fun _ => rfl)) h19 (by omega)⟩
  · obtain ⟨g, hg, e2⟩ := hb5 rfl
    obtain ⟨oc, hoc, e3⟩ := hc_ (by decide)
    obtain ⟨od, hod, e4⟩ := hd_ rfl
    obtain ⟨x, hxn, ex, -⟩ := hF1.2.2.2 f oc (by omega) hoc
    exact rJ_send hI1 hF1 hm h18 h19 h5 hz hqz (by rw [hS1]; exact e0) hg hoc hod ((eop 2).trans e2) ((eop 3).trans e3) ((eop 4).trans e4) hxn ex
  · show ∃ f', rI (sp_less S1 f m q) nc nm ∧ rF (sp_less S1 f m q) nc nm f'
    unfold sp_less
    obtain ⟨c, hc, ec⟩ := hc6 rfl
    split
    · split
      · rw [eop 3, show s_op S m q 3 = nI c from ec]
        exact ⟨f + 1, rJ_goTo hI1 hF1 (by omega) h18 hc⟩
      · exact ⟨f + 1, rI_congr rfl rfl rfl rfl rfl rfl rfl rfl rfl hI1, rF_nxt hF1 h19 (by omega)⟩
    · exact ⟨f + 1, rI_congr rfl rfl rfl rfl rfl rfl rfl rfl rfl hI1, rF_congr rfl rfl rfl rfl rfl rfl rfl hF1⟩
  · show ∃ f', rI (sp_goTo S1 f (s_op S1 m q 1)) nc nm ∧ rF (sp_goTo S1 f (s_op S1 m q 1)) nc nm f'
    rw [eop, show s_op S m q 1 = nI a from ea]
    exact ⟨f + 1, rJ_goTo hI1 hF1 (by omega) h18 ha20⟩
  · show ∃ f', rI (sp_finish S1 f (S1.1 21 (4 * f + tn (s_op S1 m q 1))) (S1.1 22 (4 * f + tn (s_op S1 m q 1)))) nc nm ∧ rF (sp_finish S1 f (S1.1 21 (4 * f + tn (s_op S1 m q 1))) (S1.1 22 (4 * f + tn (s_op S1 m q 1)))) nc nm f'
    rw [ta]
    obtain ⟨x, hxn, ex, hxv⟩ := hF1.2.2.2 f a (by omega) (ha4 (by decide))
    rw [ex]
    exact ⟨f, rI_finish hI1, rF_finish hI1 hF1 hxn hxv⟩
/-- the count of instructions -/
theorem sp_begin_f {S : rS} {f m k : Nat} {x v : Int32} (h1 : k ≠ 10) (h2 : k ≠ 11) (h3 : k ≠ 13) (h4 : k ≠ 14) (h5 : k ≠ 15) (h6 : k ≠ 20) (h7 : k ≠ 17) (h8 : k ≠ 18) (h9 : k ≠ 19) (h10 : k ≠ 21) (h11 : k ≠ 22) (h12 : k ≠ 28) : (sp_begin S f m x v).1 k = S.1 k := by
  unfold sp_begin
  show (if k = 20 then _ else (sp_warm (sp_beg0 S f m x v) m).1 k) = _
  rw [if_neg h6, sp_warm_f h1 h2 h3 h4 h5]
  simp [sp_beg0, sp_put, s_reg, su, h7, h8, h9, h10, h11, h12]
theorem sp_goTo_f {S : rS} {f k : Nat} {p : Int32} (h1 : k ≠ 10) (h2 : k ≠ 11) (h3 : k ≠ 13) (h4 : k ≠ 14) (h5 : k ≠ 15) (h6 : k ≠ 20) (h7 : k ≠ 19) : (sp_goTo S f p).1 k = S.1 k := by
  unfold sp_goTo
  split
  · simp [su, h7]
  · unfold sp_go2
    split
    · show (if k = 20 then _ else (sp_warm _ _).1 k) = _
      rw [if_neg h6, sp_warm_f h1 h2 h3 h4 h5]
      simp [su, h7]
    · rw [sp_warm_f h1 h2 h3 h4 h5]
      simp [su, h7]
theorem sp_finish_f {S : rS} {f k : Nat} {x v : Int32} (h1 : k ≠ 17) (h2 : k ≠ 23) (h3 : k ≠ 24) (h4 : k ≠ 19) (h5 : k ≠ 21) (h6 : k ≠ 22) : (sp_finish S f x v).1 k = S.1 k := by
  unfold sp_finish
  split <;> simp [sp_put, su, h1, h2, h3, h4, h5, h6]
theorem s27_send {S : rS} {f m q : Nat} : (sp_send S f m q).1 27 = S.1 27 := by
  unfold sp_send
  split
  · rfl
  · split
    · rfl
    · unfold sp_sen2
      split
      · exact sp_meet_f (by decide) (by decide) (by decide) (by decide) (by decide) (by decide) (by decide)
      · refine Eq.trans (b := (sp_begin _ _ _ _ _).1 27) rfl ?_
        rw [sp_begin_f (by decide) (by decide) (by decide) (by decide) (by decide) (by decide) (by decide) (by decide) (by decide) (by decide) (by decide) (by decide)]
        exact sp_meet_f (by decide) (by decide) (by decide) (by decide) (by decide) (by decide) (by decide)
theorem s27_ex {S : rS} {f m q k : Nat} : (sp_ex S f m q k).1 27 = S.1 27 := by
  unfold sp_ex
  split
  · rfl
  · unfold sp_calc; split <;> rfl
  · unfold sp_calc; split <;> rfl
  · unfold sp_calc; split <;> rfl
  · rfl
  · exact s27_send
  · unfold sp_less
    split
    · split
      · exact sp_goTo_f (by decide) (by decide) (by decide) (by decide) (by decide) (by decide) (by decide)
      · rfl
    · rfl
  · exact sp_goTo_f (by decide) (by decide) (by decide) (by decide) (by decide) (by decide) (by decide)
  · exact sp_finish_f (by decide) (by decide) (by decide) (by decide) (by decide) (by decide)
theorem s27_step {S : rS} {f : Nat} : (sp_step S f).1 27 0 = S.1 27 0 + 1 := by
  unfold sp_step
  rw [s27_ex]
  rfl
/-- one round of an execution -/
def sp_one (S : rS) : rS := if tn (S.1 19 (tn (S.1 17 0) - 1)) < tn (S.1 5 (tn (S.1 18 (tn (S.1 17 0) - 1)))) then sp_step S (tn (S.1 17 0) - 1) else sp_finish S (tn (S.1 17 0) - 1) (-1) 0
abbrev s_stop (mo : Nat) (S : rS) : Prop := S.1 17 0 = 0 ∨ S.1 25 0 ≠ 0 ∨ S.1 27 0 = nI mo
def sp_loop (mo : Nat) : Nat → rS → rS
  | 0, S => S
  | n + 1, S => if s_stop mo S then S else sp_loop mo n (sp_one S)
theorem sp_loop_snoc (mo : Nat) : ∀ (n : Nat) (S : rS), sp_loop mo (n + 1) S = if s_stop mo (sp_loop mo n S) then sp_loop mo n S else sp_one (sp_loop mo n S)
  | 0, S => rfl
  | n + 1, S => by
    by_cases h : s_stop mo S
    · have e1 : ∀ k, sp_loop mo k S = S := fun k => by
        cases k with
        | zero => rfl
        | succ k => exact if_pos h
      rw [e1, e1, if_pos h]
    · have e1 : ∀ k, sp_loop mo (k + 1) S = sp_loop mo k (sp_one S) := fun k => if_neg h
      rw [e1, e1, sp_loop_snoc mo n]
theorem sp_loop_stay {mo n : Nat} {S : rS} (h : s_stop mo (sp_loop mo n S)) : ∀ k, sp_loop mo (n + k) S = sp_loop mo n S
  | 0 => rfl
  | k + 1 => by
    show sp_loop mo (n + k + 1) S = _
    rw [sp_loop_snoc, sp_loop_stay h k, if_pos h]
def runR (mo : Nat) (S0 S : rS) : Prop := (∃ n, sp_loop mo n S0 = S) ∧ s_stop mo S
theorem runR_det {mo : Nat} {S0 S S2 : rS} (h1 : runR mo S0 S) (h2 : runR mo S0 S2) : S = S2 := by
  obtain ⟨⟨n, hn⟩, hs⟩ := h1
  obtain ⟨⟨k, hk⟩, ht⟩ := h2
  rw [← hn] at hs
  rw [← hk] at ht
  rcases Nat.le_total n k with h | h
  · obtain ⟨d, rfl⟩ := Nat.exists_eq_add_of_le h
    rw [← hn, ← hk, sp_loop_stay hs]
  · obtain ⟨d, rfl⟩ := Nat.exists_eq_add_of_le h
    rw [← hn, ← hk, sp_loop_stay ht]
theorem sp_loop_more {mo : Nat} {S0 S : rS} (h : ∃ n, sp_loop mo n S0 = S) (hs : ¬ s_stop mo S) : ∃ n, sp_loop mo n S0 = sp_one S := by
  obtain ⟨n, hn⟩ := h
  refine ⟨n + 1, ?_⟩
  rw [sp_loop_snoc, hn, if_neg hs]
