/-- a result that is an object has the value 0; methods that aren't there have learned nothing -/
def rR (S : rS) : Prop := S.1 23 0 = -1 ∨ S.1 24 0 = 0
def rM (S : rS) (nm : Nat) : Prop := ∀ m : Nat, nm ≤ m → S.1 10 m = 0 ∧ S.1 11 m = 0 ∧ S.1 12 m = 0
theorem rR_congr {S S2 : rS} (h1 : S2.1 23 = S.1 23) (h2 : S2.1 24 = S.1 24) (h : rR S) : rR S2 := by
  unfold rR
  rw [h1, h2]
  exact h
theorem rM_congr {S S2 : rS} {nm : Nat} (h1 : S2.1 10 = S.1 10) (h2 : S2.1 11 = S.1 11) (h3 : S2.1 12 = S.1 12) (h : rM S nm) : rM S2 nm := by
  unfold rM
  rw [h1, h2, h3]
  exact h
theorem rM_up {S S2 : rS} {nm m : Nat} {a b c : Int32} (hm : m < nm) (h1 : S2.1 10 = S.1 10 ∨ S2.1 10 = va_up (S.1 10) m a) (h2 : S2.1 11 = S.1 11 ∨ S2.1 11 = va_up (S.1 11) m b) (h3 : S2.1 12 = S.1 12 ∨ S2.1 12 = va_up (S.1 12) m c) (h : rM S nm) : rM S2 nm := by
  intro m2 hm2
  obtain ⟨k1, k2, k3⟩ := h m2 hm2
  refine ⟨?_, ?_, ?_⟩
  · rcases h1 with e | e
    · rw [e]; exact k1
    · rw [e, va_up_ne _ _ (by omega)]; exact k1
  · rcases h2 with e | e
    · rw [e]; exact k2
    · rw [e, va_up_ne _ _ (by omega)]; exact k2
  · rcases h3 with e | e
    · rw [e]; exact k3
    · rw [e, va_up_ne _ _ (by omega)]; exact k3
theorem rM_warm {S : rS} {nm m : Nat} (hm : m < nm) (h : rM S nm) : rM (sp_warm S m) nm := by
  have h1 : rM (sp_w1 S m) nm := by
    unfold sp_w1
    split
    · exact rM_up (S := S) hm (Or.inr rfl) (Or.inr rfl) (Or.inl rfl) (c := 0) h
    · exact rM_up (S := S) hm (Or.inl rfl) (Or.inr rfl) (Or.inl rfl) (a := 0) (c := 0) h
  unfold sp_warm
  generalize sp_w1 S m = S1 at h1
  unfold sp_w2
  split
  · exact rM_up (S := S1) hm (Or.inr rfl) (Or.inl rfl) (Or.inl rfl) (b := 0) (c := 0) h1
  · exact h1
theorem rM_meet {S : rS} {nm f m q x g : Nat} (hm : m < nm) (h : rM S nm) : rM (sp_meet S f m q x g) nm := by
  have hn : rM (sp_note S (20 * m + q) (nI x - 1)) nm := rM_congr (sp_note_f (by decide) (by decide) (by decide)) (sp_note_f (by decide) (by decide) (by decide)) (sp_note_f (by decide) (by decide) (by decide)) h
  unfold sp_meet
  split
  · exact rM_congr (S := sp_note S (20 * m + q) (nI x - 1)) rfl rfl rfl hn
  · split
    · exact rM_congr (S := S) rfl rfl rfl h
    · split
      · exact rM_congr (S := S) rfl rfl rfl h
      · exact rM_up (S := sp_note S (20 * m + q) (nI x - 1)) hm (Or.inr rfl) (Or.inr rfl) (Or.inr rfl) hn
theorem rM_begin {S : rS} {nm f m : Nat} {k v : Int32} (hm : m < nm) (h : rM S nm) : rM (sp_begin S f m k v) nm := by
  have hw := rM_warm hm h
  rw [begin_w]
  exact rM_congr (S := sp_warm S m) rfl rfl rfl hw
theorem rM_goTo {S : rS} {nm f m : Nat} {p : Int32} (hm : m < nm) (h18 : tn (S.1 18 f) = m) (h : rM S nm) : rM (sp_goTo S f p) nm := by
  have h0 : rM (su S 19 (va_up (S.1 19) f p)) nm := rM_congr (S := S) rfl rfl rfl h
  unfold sp_goTo
  rw [h18]
  split
  · exact h0
  · have h1 := rM_warm hm h0
    exact rM_congr (go2_f (by decide)) (go2_f (by decide)) (go2_f (by decide)) h1
theorem rM_finish {S : rS} {nm f : Nat} {k v : Int32} (h : rM S nm) : rM (sp_finish S f k v) nm := rM_congr (sp_finish_f (by decide) (by decide) (by decide) (by decide) (by decide) (by decide)) (sp_finish_f (by decide) (by decide) (by decide) (by decide) (by decide) (by decide)) (sp_finish_f (by decide) (by decide) (by decide) (by decide) (by decide) (by decide)) h
theorem rX_step {S : rS} {nc nm f m q : Nat} (hI : rI S nc nm) (hF : rF S nc nm (f + 1)) (hm : m < nm) (h18 : tn (S.1 18 f) = m) (h19 : tn (S.1 19 f) = q) (hq : q < tn (S.1 5 m)) (hR : rR S) (hM : rM S nm) : rR (sp_step S f) ∧ rM (sp_step S f) nm := by
  have hnm := hI.2.2.2.1
  obtain ⟨z, hz, ez, -, hins⟩ := hI.2.2.2.2.2.1 m (by omega)
  have etz : tn (S.1 5 m) = z := by rw [ez]; exact tn_nI (by omega)
  obtain ⟨k, hk8, e0, ⟨a, ea, ha20, ha4⟩, -, -, hb5, hc_, -, -⟩ := hins q (by omega)
  have tk0 : tn (s_op S m q 0) = k := by rw [show s_op S m q 0 = nI k from e0]; exact tn_nI (by omega)
  unfold sp_step
  rw [h18, h19, tk0]
  have hp : rR (sp_pay S f) := rR_congr (S := S) rfl rfl hR
  have hp2 : rM (sp_pay S f) nm := rM_congr (S := S) rfl rfl rfl hM
  have hI1 : rI (sp_pay S f) nc nm := rI_congr rfl rfl rfl rfl rfl rfl rfl rfl rfl hI
  have p18 : tn ((sp_pay S f).1 18 f) = m := h18
  have pop : ∀ j, s_op (sp_pay S f) m q j = s_op S m q j := fun j => rfl
  have p21 : ∀ g, g < 4 → ∃ x : Nat, x ≤ nc ∧ (sp_pay S f).1 21 (4 * f + g) = nI x - 1 ∧ (x ≠ 0 → (sp_pay S f).1 22 (4 * f + g) = 0) := fun g hg => hF.2.2.2 f g (by omega) hg
  generalize sp_pay S f = S1 at *
  have hcalc : ∀ v, rR (sp_calc S1 f m q v) ∧ rM (sp_calc S1 f m q v) nm := fun v => by
    unfold sp_calc
    split <;> exact ⟨rR_congr (S := S1) rfl rfl hp, rM_congr (S := S1) rfl rfl rfl hp2⟩
  have hgo : ∀ p, rR (sp_goTo S1 f p) ∧ rM (sp_goTo S1 f p) nm := fun p => ⟨rR_congr (sp_goTo_f (by decide) (by decide) (by decide) (by decide) (by decide) (by decide) (by decide)) (sp_goTo_f (by decide) (by decide) (by decide) (by decide) (by decide) (by decide) (by decide)) hp, rM_goTo hm p18 hp2⟩
  have hk5 : k = 5 → rR (sp_send S1 f m q) ∧ rM (sp_send S1 f m q) nm := fun hk => by
    obtain ⟨g, hg, e2⟩ := hb5 hk
    obtain ⟨oc, hoc, e3⟩ := hc_ (by omega)
    have t2 : tn (s_op S1 m q 2) = g := by rw [pop, show s_op S m q 2 = nI g from e2]; exact tn_nI (by omega)
    have t3 : tn (s_op S1 m q 3) = oc := by rw [pop, show s_op S m q 3 = nI oc from e3]; exact tn_nI (by omega)
    obtain ⟨x, hxn, ex, -⟩ := p21 oc hoc
    have hnc := hI.2.1.1
    have tx : tn (S1.1 21 (4 * f + oc) + 1) = x := by rw [ex, nI_m1]; exact tn_nI (by omega)
    unfold sp_send
    rw [t3, t2, tx]
    split
    · exact ⟨rR_congr (S := S1) rfl rfl hp, rM_congr (S := S1) rfl rfl rfl hp2⟩
    · split
      · exact ⟨rR_congr (S := S1) rfl rfl hp, rM_congr (S := S1) rfl rfl rfl hp2⟩
      · rename_i hund
        obtain ⟨mt, hmt, emt⟩ := s_und_m (g := g) hI1.2.1 hI1.2.2.2.2.1 hxn hg
        have hmt0 : mt ≠ 0 := fun w => hund (by rw [emt, w]; rfl)
        rw [emt, show nI mt - 1 = nI (mt - 1) by rw [← nI_sub (b := 1) (by omega)]; rfl, tn_nI (by omega)]
        have hm1 : rR (sp_meet S1 f m q x g) := rR_congr (sp_meet_f (by decide) (by decide) (by decide) (by decide) (by decide) (by decide) (by decide)) (sp_meet_f (by decide) (by decide) (by decide) (by decide) (by decide) (by decide) (by decide)) hp
        have hm2 := rM_meet (f := f) (q := q) (x := x) (g := g) hm hp2
        unfold sp_sen2
        split
        · exact ⟨rR_congr (S := sp_meet S1 f m q x g) rfl rfl hm1, rM_congr (S := sp_meet S1 f m q x g) rfl rfl rfl hm2⟩
        · have hb := rM_begin (f := f + 1) (m := mt - 1) (k := S1.1 21 (4 * f + tn (s_op S1 m q 4))) (v := S1.1 22 (4 * f + tn (s_op S1 m q 4))) (show mt - 1 < nm by omega) hm2
          have hb1 : rR (sp_begin (sp_meet S1 f m q x g) (f + 1) (mt - 1) (S1.1 21 (4 * f + tn (s_op S1 m q 4))) (S1.1 22 (4 * f + tn (s_op S1 m q 4)))) := rR_congr (sp_begin_f (by decide) (by decide) (by decide) (by decide) (by decide) (by decide) (by decide) (by decide) (by decide) (by decide) (by decide) (by decide)) (sp_begin_f (by decide) (by decide) (by decide) (by decide) (by decide) (by decide) (by decide) (by decide) (by decide) (by decide) (by decide) (by decide)) hm1
          exact ⟨rR_congr (S := sp_begin (sp_meet S1 f m q x g) (f + 1) (mt - 1) _ _) rfl rfl hb1, rM_congr (S := sp_begin (sp_meet S1 f m q x g) (f + 1) (mt - 1) _ _) rfl rfl rfl hb⟩
  have hk8' : k = 8 → rR (sp_finish S1 f (S1.1 21 (4 * f + tn (s_op S1 m q 1))) (S1.1 22 (4 * f + tn (s_op S1 m q 1)))) := fun hk => by
    have ta : tn (s_op S1 m q 1) = a := by rw [pop, show s_op S m q 1 = nI a from ea]; exact tn_nI (by omega)
    obtain ⟨x, hxn, ex, hv⟩ := p21 a (ha4 (by omega))
    rw [ta]
    unfold sp_finish
    split
    · by_cases e : x = 0
      · exact Or.inl (by show S1.1 21 (4 * f + a) = -1; rw [ex, e]; rfl)
      · exact Or.inr (hv e)
    · exact rR_congr (S := S1) rfl rfl hp
  have hkk : k = 0 ∨ k = 1 ∨ k = 2 ∨ k = 3 ∨ k = 4 ∨ k = 5 ∨ k = 6 ∨ k = 7 ∨ k = 8 := by omega
  rcases hkk with hkk | hkk | hkk | hkk | hkk | hkk | hkk | hkk | hkk <;> subst hkk
  · exact ⟨rR_congr (S := S1) rfl rfl hp, rM_congr (S := S1) rfl rfl rfl hp2⟩
  · exact hcalc _
  · exact hcalc _
  · exact hcalc _
  · exact ⟨rR_congr (S := S1) rfl rfl hp, rM_congr (S := S1) rfl rfl rfl hp2⟩
  · exact hk5 rfl
  · show rR (sp_less S1 f m q) ∧ rM (sp_less S1 f m q) nm
    unfold sp_less
    split
    · split
      · exact hgo _
      · exact ⟨rR_congr (S := S1) rfl rfl hp, rM_congr (S := S1) rfl rfl rfl hp2⟩
    · exact ⟨rR_congr (S := S1) rfl rfl hp, rM_congr (S := S1) rfl rfl rfl hp2⟩
  · exact hgo _
  · exact ⟨hk8' rfl, rM_finish hp2⟩
theorem rX_one {mo : Nat} {S : rS} {nc nm f : Nat} (hs : ¬ s_stop mo S) (hI : rI S nc nm) (hF : rF S nc nm f) (hR : rR S) (hM : rM S nm) : ∃ f', rI (sp_one S) nc nm ∧ rF (sp_one S) nc nm f' ∧ rR (sp_one S) ∧ rM (sp_one S) nm := by
  have hf0 : f ≠ 0 := fun z => hs (Or.inl (by rw [hF.1, z]; rfl))
  obtain ⟨f0, rfl⟩ : ∃ f0, f = f0 + 1 := ⟨f - 1, by omega⟩
  have hf := hF.2.1
  have hnm := hI.2.2.2.1
  obtain ⟨m, q, g1, g2, g3, g4, -⟩ := hF.2.2.1 f0 (by omega)
  obtain ⟨z, hz, ez, -, hins⟩ := hI.2.2.2.2.2.1 m (by omega)
  have e18 : tn (S.1 18 f0) = m := by rw [g3]; exact tn_nI (by omega)
  have e19 : tn (S.1 19 f0) = q := by rw [g4]; exact tn_nI (by omega)
  have etz : tn (S.1 5 m) = z := by rw [ez]; exact tn_nI (by omega)
  unfold sp_one
  rw [hF.1, tn_nI (by omega), Nat.add_sub_cancel, e18, e19]
  split
  · rename_i hq
    obtain ⟨f1, k1, k2⟩ := rJ_step hI hF g1 g3 g4 ez hz (by omega)
    obtain ⟨k3, k4⟩ := rX_step hI hF g1 e18 e19 hq hR hM
    exact ⟨f1, k1, k2, k3, k4⟩
  · refine ⟨f0, rI_finish hI, rF_finish (x := 0) hI hF (Nat.zero_le _) (fun z => absurd rfl z), ?_, rM_finish hM⟩
    unfold sp_finish
    split
    · exact Or.inl rfl
    · exact rR_congr (S := S) rfl rfl hR
theorem rX_loop {mo nc nm : Nat} : ∀ (n : Nat) {S : rS} {f : Nat}, rI S nc nm → rF S nc nm f → rR S → rM S nm → rR (sp_loop mo n S) ∧ rM (sp_loop mo n S) nm
  | 0, S, f, _, _, hR, hM => ⟨hR, hM⟩
  | n + 1, S, f, hI, hF, hR, hM => by
    unfold sp_loop
    split
    · exact ⟨hR, hM⟩
    · rename_i hs
      obtain ⟨f', k1, k2, k3, k4⟩ := rX_one hs hI hF hR hM
      exact rX_loop n k1 k2 k3 k4
theorem rX_run {mo nc nm m : Nat} {S S2 : rS} {v : Int32} (hI : rI S nc nm) (hm : m < nm) (hM : rM S nm) (h : runR mo (s_run0 S m v) S2) : rR S2 ∧ rM S2 nm := by
  have hnm := hI.2.2.2.1
  have hI1 : rI (s_res S) nc nm := rI_congr rfl rfl rfl rfl rfl rfl rfl rfl rfl hI
  have hF1 : rF (s_res S) nc nm 0 := ⟨rfl, by omega, fun i hi => by omega, fun i g hi => by omega⟩
  have hR1 : rR (s_run0 S m v) := Or.inl (by unfold s_run0; rw [sp_begin_f (by decide) (by decide) (by decide) (by decide) (by decide) (by decide) (by decide) (by decide) (by decide) (by decide) (by decide) (by decide)]; rfl)
  have hM1 : rM (s_run0 S m v) nm := rM_begin hm (rM_congr (S := S) rfl rfl rfl hM)
  obtain ⟨⟨n, hn⟩, -⟩ := h
  rw [← hn]
  exact rX_loop n (rI_begin hI1 (by omega)) (rF_begin (x := 0) hF1 (by omega) hm (Nat.zero_le _) (fun z => absurd rfl z) (fun z => absurd rfl z)) hR1 hM1
