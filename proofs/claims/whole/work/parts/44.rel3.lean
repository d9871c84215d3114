/-- tiers are 0, 1, 2; what no instruction lies at has an empty record -/
abbrev tk (t : Int32) : Prop := t < 2 ∨ t = 2
def rT (S : rS) : Prop := (∀ m : Nat, tk (S.1 10 m)) ∧ ∀ i : Nat, tk (S.1 20 i)
def rUp (S : rS) (r : Nat) : Prop := S.1 13 r = 0 ∧ S.1 15 r = 0 ∧ ∀ k : Nat, k < 3 → S.1 14 (3 * r + k) = 0
def rU (S : rS) : Prop := ∀ m q h : Nat, m < 12 → tn (S.1 5 m) ≤ q → q < 20 → (h = 0 ∨ h = 240) → rUp S (h + (20 * m + q))
def rQ (S : rS) : Prop := rT S ∧ rU S
theorem tk_up {g : Nat → Int32} {m : Nat} {v : Int32} (h : ∀ i, tk (g i)) (hv : tk v) : ∀ i, tk (va_up g m v i) := fun i => by
  simp only [va_up]
  split
  · exact hv
  · exact h i
theorem rT_congr {S S2 : rS} (h10 : S2.1 10 = S.1 10) (h20 : S2.1 20 = S.1 20) (h : rT S) : rT S2 := by
  unfold rT
  rw [h10, h20]
  exact h
theorem rU_congr {S S2 : rS} (h5 : S2.1 5 = S.1 5) (h13 : S2.1 13 = S.1 13) (h14 : S2.1 14 = S.1 14) (h15 : S2.1 15 = S.1 15) (h : rU S) : rU S2 := by
  unfold rU rUp
  rw [h5, h13, h14, h15]
  exact h
theorem rQ_congr {S S2 : rS} (h5 : S2.1 5 = S.1 5) (h10 : S2.1 10 = S.1 10) (h13 : S2.1 13 = S.1 13) (h14 : S2.1 14 = S.1 14) (h15 : S2.1 15 = S.1 15) (h20 : S2.1 20 = S.1 20) (h : rQ S) : rQ S2 := ⟨rT_congr h10 h20 h.1, rU_congr h5 h13 h14 h15 h.2⟩
theorem rT_warm {S : rS} {m : Nat} (h : rT S) : rT (sp_warm S m) := by
  have h1 : rT (sp_w1 S m) := by
    unfold sp_w1
    split
    · exact ⟨tk_up h.1 (by decide), h.2⟩
    · exact rT_congr rfl rfl h
  unfold sp_warm
  generalize sp_w1 S m = S1 at h1
  unfold sp_w2
  split
  · exact ⟨tk_up h1.1 (by decide), h1.2⟩
  · exact h1
theorem rU_ta {S : rS} {m : Nat} (hm : m < 12) (h : rU S) : rU (s_ta S m 20) := by
  intro m2 q x hm2 hq hq20 hx
  have hq : tn (S.1 5 m2) ≤ q := hq
  show (if 240 + 20 * m ≤ x + (20 * m2 + q) ∧ x + (20 * m2 + q) < 240 + 20 * m + 20 then S.1 13 (x + (20 * m2 + q) - 240) else S.1 13 (x + (20 * m2 + q))) = 0 ∧ (if 240 + 20 * m ≤ x + (20 * m2 + q) ∧ x + (20 * m2 + q) < 240 + 20 * m + 20 then S.1 15 (x + (20 * m2 + q) - 240) else S.1 15 (x + (20 * m2 + q))) = 0 ∧ ∀ k : Nat, k < 3 → (if 720 + 60 * m ≤ 3 * (x + (20 * m2 + q)) + k ∧ 3 * (x + (20 * m2 + q)) + k < 720 + 60 * m + 3 * 20 then S.1 14 (3 * (x + (20 * m2 + q)) + k - 720) else S.1 14 (3 * (x + (20 * m2 + q)) + k)) = 0
  obtain ⟨a1, a2, a3⟩ := h m2 q x hm2 hq hq20 hx
  by_cases e : 240 + 20 * m ≤ x + (20 * m2 + q) ∧ x + (20 * m2 + q) < 240 + 20 * m + 20
  · obtain ⟨b1, b2, b3⟩ := h m2 q 0 hm2 hq hq20 (Or.inl rfl)
    have e1 : x + (20 * m2 + q) - 240 = 0 + (20 * m2 + q) := by omega
    rw [if_pos e, if_pos e, e1]
    refine ⟨b1, b2, fun k hk => ?_⟩
    rw [if_pos (by omega), show 3 * (x + (20 * m2 + q)) + k - 720 = 3 * (0 + (20 * m2 + q)) + k by omega]
    exact b3 k hk
  · rw [if_neg e, if_neg e]
    refine ⟨a1, a2, fun k hk => ?_⟩
    rw [if_neg (by omega)]
    exact a3 k hk
theorem rU_warm {S : rS} {m : Nat} (hm : m < 12) (h : rU S) : rU (sp_warm S m) := by
  have h1 : rU (sp_w1 S m) := by
    unfold sp_w1
    split <;> exact rU_congr rfl rfl rfl rfl h
  unfold sp_warm
  generalize sp_w1 S m = S1 at h1
  unfold sp_w2
  split
  · exact rU_ta hm (rU_congr (S := S1) rfl rfl rfl rfl h1)
  · exact h1
theorem rQ_warm {S : rS} {m : Nat} (hm : m < 12) (h : rQ S) : rQ (sp_warm S m) := ⟨rT_warm h.1, rU_warm hm h.2⟩
theorem rQ_note {S : rS} {nc nm m q : Nat} {t : Int32} (hI : rI S nc nm) (hm : m < 12) (hq : q < tn (S.1 5 m)) (hq20 : q < 20) (h : rQ S) : rQ (sp_note S (20 * m + q) t) := by
  refine ⟨rT_congr (sp_note_f (by decide) (by decide) (by decide)) (sp_note_f (by decide) (by decide) (by decide)) h.1, ?_⟩
  obtain ⟨n, hn3, hn, -⟩ := hI.2.2.2.2.2.2.1 (20 * m + q) (by omega)
  have tnn : tn (S.1 13 (20 * m + q)) = n := by rw [hn]; exact tn_nI (by omega)
  unfold sp_note
  split
  · exact h.2
  · split
    · intro m2 q2 x hm2 hq2 hq3 hx
      have hq2 : tn (S.1 5 m2) ≤ q2 := hq2
      obtain ⟨a1, a2, a3⟩ := h.2 m2 q2 x hm2 hq2 hq3 hx
      refine ⟨a1, ?_, a3⟩
      show va_up (S.1 15) (20 * m + q) 1 (x + (20 * m2 + q2)) = 0
      rw [va_up_ne _ _ (fun z => ?_)]
      · exact a2
      · have : m2 = m := by omega
        subst this
        omega
    · rename_i hne
      have hn9 : n ≠ 3 := fun z => hne (by rw [hn, z]; rfl)
      intro m2 q2 x hm2 hq2 hq3 hx
      have hq2 : tn (S.1 5 m2) ≤ q2 := hq2
      obtain ⟨a1, a2, a3⟩ := h.2 m2 q2 x hm2 hq2 hq3 hx
      have hno : x + (20 * m2 + q2) ≠ 20 * m + q := fun z => by
        have : m2 = m := by omega
        subst this
        omega
      refine ⟨?_, a2, fun k hk => ?_⟩
      · show va_up (S.1 13) (20 * m + q) _ (x + (20 * m2 + q2)) = 0
        rw [va_up_ne _ _ hno]
        exact a1
      · show va_up (S.1 14) (3 * (20 * m + q) + tn (S.1 13 (20 * m + q))) t (3 * (x + (20 * m2 + q2)) + k) = 0
        rw [tnn, va_up_ne _ _ (by omega)]
        exact a3 k hk
theorem rQ_dis {S : rS} {f m : Nat} (h : rQ S) : rQ (sp_dis S f m) := by
  refine ⟨⟨tk_up h.1.1 (by decide), fun i => ?_⟩, rU_congr (S := S) rfl rfl rfl rfl h.2⟩
  show tk (if i < f + 1 ∧ S.1 18 i = nI m then 0 else S.1 20 i)
  split
  · decide
  · exact h.1.2 i
theorem rQ_meet {S : rS} {nc nm f m q x g : Nat} (hI : rI S nc nm) (hm : m < 12) (hq : q < tn (S.1 5 m)) (hq20 : q < 20) (h : rQ S) : rQ (sp_meet S f m q x g) := by
  have hn := rQ_note (t := nI x - 1) hI hm hq hq20 h
  unfold sp_meet
  split
  · exact rQ_congr (S := sp_note S (20 * m + q) (nI x - 1)) rfl rfl rfl rfl rfl rfl hn
  · split
    · exact rQ_congr (S := S) rfl rfl rfl rfl rfl rfl h
    · split
      · exact rQ_congr (S := S) rfl rfl rfl rfl rfl rfl h
      · exact rQ_congr (S := sp_dis (sp_note S (20 * m + q) (nI x - 1)) f m) rfl rfl rfl rfl rfl rfl (rQ_dis hn)
theorem rQ_begin {S : rS} {f m : Nat} {k v : Int32} (hm : m < 12) (h : rQ S) : rQ (sp_begin S f m k v) := by
  have hw := rQ_warm hm h
  rw [begin_w]
  generalize sp_warm S m = W at hw
  exact ⟨⟨hw.1.1, tk_up hw.1.2 (hw.1.1 m)⟩, rU_congr (S := W) rfl rfl rfl rfl hw.2⟩
theorem rQ_goTo {S : rS} {f m : Nat} {p : Int32} (hm : m < 12) (h18 : tn (S.1 18 f) = m) (h : rQ S) : rQ (sp_goTo S f p) := by
  have h0 : rQ (su S 19 (va_up (S.1 19) f p)) := rQ_congr (S := S) rfl rfl rfl rfl rfl rfl h
  unfold sp_goTo
  rw [h18]
  split
  · exact h0
  · have h1 := rQ_warm hm h0
    generalize sp_warm _ _ = W at h1
    unfold sp_go2
    split
    · exact ⟨⟨h1.1.1, tk_up h1.1.2 (h1.1.1 m)⟩, rU_congr (S := W) rfl rfl rfl rfl h1.2⟩
    · exact h1
theorem rQ_finish {S : rS} {f : Nat} {k v : Int32} (h : rQ S) : rQ (sp_finish S f k v) := by
  unfold sp_finish
  split <;> exact rQ_congr (S := S) rfl rfl rfl rfl rfl rfl h
theorem rQ_step {S : rS} {nc nm f m q : Nat} (hI : rI S nc nm) (hF : rF S nc nm (f + 1)) (hm : m < 12) (h18 : tn (S.1 18 f) = m) (h19 : tn (S.1 19 f) = q) (hq : q < tn (S.1 5 m)) (h : rQ S) : rQ (sp_step S f) := by
  have hnm := hI.2.2.2.1
  obtain ⟨z, hz, ez, -, hins⟩ := hI.2.2.2.2.2.1 m hm
  have etz : tn (S.1 5 m) = z := by rw [ez]; exact tn_nI (by omega)
  unfold sp_step
  rw [h18, h19]
  have hp : rQ (sp_pay S f) := rQ_congr (S := S) rfl rfl rfl rfl rfl rfl h
  have hI1 : rI (sp_pay S f) nc nm := rI_congr rfl rfl rfl rfl rfl rfl rfl rfl rfl hI
  have p18 : tn ((sp_pay S f).1 18 f) = m := h18
  have pq : q < tn ((sp_pay S f).1 5 m) := hq
  have pop : ∀ j, s_op (sp_pay S f) m q j = s_op S m q j := fun j => rfl
  have p21 : ∀ g, g < 4 → ∃ x : Nat, x ≤ nc ∧ (sp_pay S f).1 21 (4 * f + g) = nI x - 1 := fun g hg => by
    obtain ⟨x, a1, a2, -⟩ := hF.2.2.2 f g (by omega) hg
    exact ⟨x, a1, a2⟩
  generalize sp_pay S f = S1 at *
  have hk5 : tn (s_op S m q 0) = 5 → rQ (sp_send S1 f m q) := fun hk => by
    obtain ⟨k, hk8, e0, -, -, -, hb5, hc_, -, -⟩ := hins q (by omega)
    have hk5 : k = 5 := by
      have : tn (s_op S m q 0) = k := by rw [show s_op S m q 0 = nI k from e0]; exact tn_nI (by omega)
      omega
    obtain ⟨g, hg, e2⟩ := hb5 hk5
    obtain ⟨oc, hoc, e3⟩ := hc_ (by omega)
    have t2 : tn (s_op S1 m q 2) = g := by rw [pop, show s_op S m q 2 = nI g from e2]; exact tn_nI (by omega)
    have t3 : tn (s_op S1 m q 3) = oc := by rw [pop, show s_op S m q 3 = nI oc from e3]; exact tn_nI (by omega)
    obtain ⟨x, hxn, ex⟩ := p21 oc hoc
    have hnc := hI.2.1.1
    have tx : tn (S1.1 21 (4 * f + oc) + 1) = x := by rw [ex, nI_m1]; exact tn_nI (by omega)
    unfold sp_send
    rw [t3, t2, tx]
    split
    · exact rQ_congr (S := S1) rfl rfl rfl rfl rfl rfl hp
    · split
      · exact rQ_congr (S := S1) rfl rfl rfl rfl rfl rfl hp
      · rename_i hund
        obtain ⟨mt, hmt, emt⟩ := s_und_m (g := g) hI1.2.1 hI1.2.2.2.2.1 hxn hg
        have hmt0 : mt ≠ 0 := fun w => hund (by rw [emt, w]; rfl)
        rw [emt, show nI mt - 1 = nI (mt - 1) by rw [← nI_sub (b := 1) (by omega)]; rfl, tn_nI (by omega)]
        have hm2 := rQ_meet (f := f) (x := x) (g := g) hI1 hm pq (by omega) hp
        unfold sp_sen2
        split
        · exact rQ_congr (S := sp_meet S1 f m q x g) rfl rfl rfl rfl rfl rfl hm2
        · exact rQ_congr (S := sp_begin (sp_meet S1 f m q x g) (f + 1) (mt - 1) (S1.1 21 (4 * f + tn (s_op S1 m q 4))) (S1.1 22 (4 * f + tn (s_op S1 m q 4)))) rfl rfl rfl rfl rfl rfl (rQ_begin (by omega) hm2)
  have hcalc : ∀ v, rQ (sp_calc S1 f m q v) := fun v => by
    unfold sp_calc
    split <;> exact rQ_congr (S := S1) rfl rfl rfl rfl rfl rfl hp
  generalize tn (s_op S m q 0) = kk at *
  match kk with
  | 0 => exact rQ_congr (S := S1) rfl rfl rfl rfl rfl rfl hp
  | 1 => exact hcalc _
  | 2 => exact hcalc _
  | 3 => exact hcalc _
  | 4 => exact rQ_congr (S := S1) rfl rfl rfl rfl rfl rfl hp
  | 5 => exact hk5 rfl
  | 6 =>
    show rQ (sp_less S1 f m q)
    unfold sp_less
    split
    · split
      · exact rQ_goTo hm p18 hp
      · exact rQ_congr (S := S1) rfl rfl rfl rfl rfl rfl hp
    · exact rQ_congr (S := S1) rfl rfl rfl rfl rfl rfl hp
  | 7 => exact rQ_goTo hm p18 hp
  | n + 8 => exact rQ_finish hp
