/-! What every state has stays: pure rows. -/
theorem rI_congr {S S2 : rS} {nc nm : Nat} (h1 : S2.1 1 = S.1 1) (h2 : S2.1 2 = S.1 2) (h3 : S2.1 3 = S.1 3) (h4 : S2.1 4 = S.1 4) (h5 : S2.1 5 = S.1 5) (h6 : S2.1 6 = S.1 6) (h13 : S2.1 13 = S.1 13) (h14 : S2.1 14 = S.1 14) (h15 : S2.1 15 = S.1 15) (h : rI S nc nm) : rI S2 nc nm := by
  unfold rI s_par s_ins at *
  rw [h1, h2, h3, h4, h5, h6, h13, h14, h15]
  exact h
theorem rF_congr {S S2 : rS} {nc nm f : Nat} (h5 : S2.1 5 = S.1 5) (h6 : S2.1 6 = S.1 6) (h17 : S2.1 17 = S.1 17) (h18 : S2.1 18 = S.1 18) (h19 : S2.1 19 = S.1 19) (h21 : S2.1 21 = S.1 21) (h22 : S2.1 22 = S.1 22) (h : rF S nc nm f) : rF S2 nc nm f := by
  unfold rF at *
  rw [h5, h6, h17, h18, h19, h21, h22]
  exact h
theorem rI_rec {S S2 : rS} {nc nm : Nat} (h1 : S2.1 1 = S.1 1) (h2 : S2.1 2 = S.1 2) (h3 : S2.1 3 = S.1 3) (h4 : S2.1 4 = S.1 4) (h5 : S2.1 5 = S.1 5) (h6 : S2.1 6 = S.1 6) (hr : ∀ r : Nat, r < 480 → ∃ n : Nat, n ≤ 3 ∧ S2.1 13 r = nI n ∧ ∀ k : Nat, k < n → ∃ d : Nat, d < nc ∧ S2.1 14 (3 * r + k) = nI d) (hc : ∀ r : Nat, r < 480 → S2.1 15 r = 0 ∨ S2.1 15 r = 1) (h : rI S nc nm) : rI S2 nc nm := by
  obtain ⟨g1, g2, g3, g4, g5, g6, -, -⟩ := h
  refine ⟨by rw [h1]; exact g1, s_par_congr h2 g2, by rw [h4]; exact g3, g4, by rw [h3]; exact g5, ?_, hr, hc⟩
  unfold s_ins at *
  rw [h5, h6]
  exact g6
theorem rI_note {S : rS} {nc nm r d : Nat} (h : rI S nc nm) (hr : r < 480) (hd : d < nc) : rI (sp_note S r (nI d)) nc nm := by
  have hrec := h.2.2.2.2.2.2.1
  have hcrd := h.2.2.2.2.2.2.2
  obtain ⟨n, hn3, hn, hk⟩ := hrec r hr
  have tnn : tn (S.1 13 r) = n := by rw [hn]; exact tn_nI (by omega)
  unfold sp_note
  split
  · exact h
  · split
    · refine rI_rec (S := S) rfl rfl rfl rfl rfl rfl hrec (fun q hq => ?_) h
      show va_up (S.1 15) r 1 q = 0 ∨ va_up (S.1 15) r 1 q = 1
      simp only [va_up]
      split
      · exact Or.inr rfl
      · exact hcrd q hq
    · rename_i hne
      have hn9 : n ≠ 3 := fun z => hne (by rw [hn, z]; rfl)
      refine rI_rec (S := S) rfl rfl rfl rfl rfl rfl (fun q hq => ?_) hcrd h
      show ∃ n1 : Nat, n1 ≤ 3 ∧ va_up (S.1 13) r (S.1 13 r + 1) q = nI n1 ∧ ∀ k : Nat, k < n1 → ∃ d1 : Nat, d1 < nc ∧ va_up (S.1 14) (3 * r + tn (S.1 13 r)) (nI d) (3 * q + k) = nI d1
      rw [tnn]
      by_cases e : q = r
      · subst e
        refine ⟨n + 1, by omega, by rw [va_up_self, hn]; exact nI_1 n, fun k hk1 => ?_⟩
        by_cases e2 : k = n
        · subst e2
          exact ⟨d, hd, va_up_self _ _ _⟩
        · rw [va_up_ne _ _ (by omega)]
          exact hk k (by omega)
      · obtain ⟨n2, g1, g2, g3⟩ := hrec q hq
        refine ⟨n2, g1, by rw [va_up_ne _ _ e]; exact g2, fun k hk1 => ?_⟩
        rw [va_up_ne _ _ (by omega)]
        exact g3 k hk1
theorem rI_ta {S : rS} {nc nm m : Nat} (h : rI S nc nm) (hm : m < 12) : rI (s_ta S m 20) nc nm := by
  have hrec := h.2.2.2.2.2.2.1
  have hcrd := h.2.2.2.2.2.2.2
  refine rI_rec (S := S) rfl rfl rfl rfl rfl rfl (fun r hr => ?_) (fun r hr => ?_) h
  · show ∃ n : Nat, n ≤ 3 ∧ (if 240 + 20 * m ≤ r ∧ r < 240 + 20 * m + 20 then S.1 13 (r - 240) else S.1 13 r) = nI n ∧ ∀ k : Nat, k < n → ∃ d : Nat, d < nc ∧ (if 720 + 60 * m ≤ 3 * r + k ∧ 3 * r + k < 720 + 60 * m + 3 * 20 then S.1 14 (3 * r + k - 720) else S.1 14 (3 * r + k)) = nI d
    by_cases e : 240 + 20 * m ≤ r ∧ r < 240 + 20 * m + 20
    · obtain ⟨n, g1, g2, g3⟩ := hrec (r - 240) (by omega)
      refine ⟨n, g1, by rw [if_pos e]; exact g2, fun k hk => ?_⟩
      rw [if_pos (by omega), show 3 * r + k - 720 = 3 * (r - 240) + k by omega]
      exact g3 k hk
    · obtain ⟨n, g1, g2, g3⟩ := hrec r hr
      refine ⟨n, g1, by rw [if_neg e]; exact g2, fun k hk => ?_⟩
      rw [if_neg (by omega)]
      exact g3 k hk
  · show (if 240 + 20 * m ≤ r ∧ r < 240 + 20 * m + 20 then S.1 15 (r - 240) else S.1 15 r) = 0 ∨ (if 240 + 20 * m ≤ r ∧ r < 240 + 20 * m + 20 then S.1 15 (r - 240) else S.1 15 r) = 1
    split
    · exact hcrd _ (by omega)
    · exact hcrd _ hr
theorem rI_warm {S : rS} {nc nm m : Nat} (h : rI S nc nm) (hm : m < 12) : rI (sp_warm S m) nc nm := by
  have h1 : rI (sp_w1 S m) nc nm := by
    unfold sp_w1
    split <;> exact rI_congr rfl rfl rfl rfl rfl rfl rfl rfl rfl h
  unfold sp_warm
  generalize sp_w1 S m = S1 at h1
  unfold sp_w2
  split
  · exact rI_ta (rI_congr rfl rfl rfl rfl rfl rfl rfl rfl rfl h1) hm
  · exact h1
theorem rF_warm {S : rS} {nc nm m f : Nat} (h : rF S nc nm f) : rF (sp_warm S m) nc nm f :=
  rF_congr (sp_warm_f (by decide) (by decide) (by decide) (by decide) (by decide)) (sp_warm_f (by decide) (by decide) (by decide) (by decide) (by decide)) (sp_warm_f (by decide) (by decide) (by decide) (by decide) (by decide)) (sp_warm_f (by decide) (by decide) (by decide) (by decide) (by decide)) (sp_warm_f (by decide) (by decide) (by decide) (by decide) (by decide)) (sp_warm_f (by decide) (by decide) (by decide) (by decide) (by decide)) (sp_warm_f (by decide) (by decide) (by decide) (by decide) (by decide)) h
theorem rF_put {S : rS} {nc nm f i g x : Nat} {v : Int32} (hF : rF S nc nm f) (hg : g < 4) (hx : x ≤ nc) (hv : x ≠ 0 → v = 0) : rF (sp_put S i g (nI x - 1) v) nc nm f := by
  refine ⟨hF.1, hF.2.1, hF.2.2.1, fun i' g' h1 h2 => ?_⟩
  show ∃ x' : Nat, x' ≤ nc ∧ va_up (S.1 21) (4 * i + g) (nI x - 1) (4 * i' + g') = nI x' - 1 ∧ (x' ≠ 0 → va_up (S.1 22) (4 * i + g) v (4 * i' + g') = 0)
  by_cases e : 4 * i' + g' = 4 * i + g
  · rw [e, va_up_self, va_up_self]
    exact ⟨x, hx, rfl, hv⟩
  · rw [va_up_ne _ _ e, va_up_ne _ _ e]
    exact hF.2.2.2 i' g' h1 h2
theorem rF_place {S : rS} {nc nm f p : Nat} (hF : rF S nc nm (f + 1)) (hp : p ≤ 20) : rF (su S 19 (va_up (S.1 19) f (nI p))) nc nm (f + 1) := by
  refine ⟨hF.1, hF.2.1, fun i hi => ?_, hF.2.2.2⟩
  obtain ⟨m, q, g1, g2, g3, g4, g5⟩ := hF.2.2.1 i hi
  show ∃ m q : Nat, m < nm ∧ q ≤ 20 ∧ S.1 18 i = nI m ∧ va_up (S.1 19) f (nI p) i = nI q ∧ (i + 1 < f + 1 → q < tn (S.1 5 m) ∧ S.1 6 (5 * (20 * m + q)) = nI 5)
  by_cases e : i = f
  · subst e
    exact ⟨m, p, g1, hp, g3, va_up_self _ _ _, fun z => by omega⟩
  · exact ⟨m, q, g1, g2, g3, by rw [va_up_ne _ _ e]; exact g4, g5⟩
theorem rF_nxt {S : rS} {nc nm f q : Nat} (hF : rF S nc nm (f + 1)) (h19 : S.1 19 f = nI q) (hq : q < 20) : rF (s_nxt S f) nc nm (f + 1) := by
  unfold s_nxt
  rw [h19, nI_1]
  exact rF_place hF (by omega)
theorem rF_finish {S : rS} {nc nm f x : Nat} {v : Int32} (hI : rI S nc nm) (hF : rF S nc nm (f + 1)) (hx : x ≤ nc) (hv : x ≠ 0 → v = 0) : rF (sp_finish S f (nI x - 1) v) nc nm f := by
  have hf := hF.2.1
  unfold sp_finish
  by_cases e : f = 0
  · subst e
    rw [if_pos rfl]
    exact ⟨rfl, by omega, fun i hi => by omega, fun i g hi => by omega⟩
  · rw [if_neg e]
    obtain ⟨m1, q1, g1, g2, g3, g4, g5⟩ := hF.2.2.1 (f - 1) (by omega)
    obtain ⟨g6, g7⟩ := g5 (by omega)
    obtain ⟨z1, k1, k2, -, k4⟩ := hI.2.2.2.2.2.1 m1 (by have := hI.2.2.2.1; omega)
    rw [k2, tn_nI (by omega)] at g6
    obtain ⟨kk, j1, j2, ⟨a1, j3, j4, j5⟩, -⟩ := k4 q1 g6
    have j6 : kk = 5 := (nI_eq (by omega) (by decide)).mp (j2.symm.trans g7)
    have ha : a1 < 4 := j5 (by omega)
    have hnm := hI.2.2.2.1
    have e1 : tn (S.1 18 (f - 1)) = m1 := by rw [g3]; exact tn_nI (by omega)
    have e2 : tn (S.1 19 (f - 1)) = q1 := by rw [g4]; exact tn_nI (by omega)
    rw [e1, e2, show tn (S.1 6 (5 * (20 * m1 + q1) + 1)) = a1 by rw [j3]; exact tn_nI (by omega)]
    have h0 : rF (su S 17 (fun _ => nI f)) nc nm f := by
      refine ⟨rfl, by omega, fun i hi => ?_, fun i g hi hg => hF.2.2.2 i g (by omega) hg⟩
      obtain ⟨m, q, l1, l2, l3, l4, l5⟩ := hF.2.2.1 i (by omega)
      exact ⟨m, q, l1, l2, l3, l4, fun z => l5 (by omega)⟩
    have h1 := rF_put (i := f - 1) (v := v) h0 ha hx hv
    obtain ⟨f', hf'⟩ : ∃ f', f = f' + 1 := ⟨f - 1, by omega⟩
    subst hf'
    rw [Nat.add_sub_cancel] at h1 g4 ⊢
    rw [g4, nI_1]
    exact rF_place h1 (by omega)
theorem rI_finish {S : rS} {nc nm f : Nat} {k v : Int32} (hI : rI S nc nm) : rI (sp_finish S f k v) nc nm := by
  unfold sp_finish
  split <;> exact rI_congr rfl rfl rfl rfl rfl rfl rfl rfl rfl hI
theorem rI_begin {S : rS} {nc nm f m : Nat} {k v : Int32} (hI : rI S nc nm) (hm : m < 12) : rI (sp_begin S f m k v) nc nm := by
  have h0 : rI (sp_beg0 S f m k v) nc nm := rI_congr rfl rfl rfl rfl rfl rfl rfl rfl rfl hI
  exact rI_congr rfl rfl rfl rfl rfl rfl rfl rfl rfl (rI_warm h0 hm)
theorem rF_begin {S : rS} {nc nm f m x : Nat} {v : Int32} (hF : rF S nc nm f) (hf : f < 20) (hm : m < nm) (hx : x ≤ nc) (hv : x ≠ 0 → v = 0) (hcall : f ≠ 0 → ∀ m q : Nat, m < nm → q ≤ 20 → S.1 18 (f - 1) = nI m → S.1 19 (f - 1) = nI q → q < tn (S.1 5 m) ∧ S.1 6 (5 * (20 * m + q)) = nI 5) : rF (sp_begin S f m (nI x - 1) v) nc nm (f + 1) := by
  have h0 : rF (sp_beg0 S f m (nI x - 1) v) nc nm (f + 1) := by
    refine ⟨rfl, by omega, fun i hi => ?_, fun i g hi hg => ?_⟩
    · show ∃ m1 q : Nat, m1 < nm ∧ q ≤ 20 ∧ va_up (S.1 18) f (nI m) i = nI m1 ∧ va_up (S.1 19) f 0 i = nI q ∧ (i + 1 < f + 1 → q < tn (S.1 5 m1) ∧ S.1 6 (5 * (20 * m1 + q)) = nI 5)
      by_cases e : i = f
      · subst e
        exact ⟨m, 0, hm, by omega, va_up_self _ _ _, va_up_self _ _ _, fun z => by omega⟩
      · obtain ⟨m1, q, g1, g2, g3, g4, g5⟩ := hF.2.2.1 i (by omega)
        refine ⟨m1, q, g1, g2, by rw [va_up_ne _ _ e]; exact g3, by rw [va_up_ne _ _ e]; exact g4, fun _ => ?_⟩
        by_cases e2 : i + 1 < f
        · exact g5 e2
        · have e3 : i = f - 1 := by omega
          subst e3
          exact hcall (by omega) m1 q g1 g2 g3 g4
    · show ∃ x' : Nat, x' ≤ nc ∧ va_up (fun j => if 4 * f ≤ j ∧ j < 4 * f + 4 then -1 else S.1 21 j) (4 * f + 0) (nI x - 1) (4 * i + g) = nI x' - 1 ∧ (x' ≠ 0 → va_up (fun j => if 4 * f ≤ j ∧ j < 4 * f + 4 then 0 else S.1 22 j) (4 * f + 0) v (4 * i + g) = 0)
      by_cases e : 4 * i + g = 4 * f + 0
      · rw [e, va_up_self, va_up_self]
        exact ⟨x, hx, rfl, hv⟩
      · rw [va_up_ne _ _ e, va_up_ne _ _ e]
        by_cases e2 : i = f
        · subst e2
          refine ⟨0, by omega, ?_, fun z => absurd rfl z⟩
          rw [if_pos (by omega)]
          rfl
        · rw [if_neg (by omega), if_neg (by omega)]
          exact hF.2.2.2 i g (by omega) hg
  exact rF_congr rfl rfl rfl rfl rfl rfl rfl (rF_warm (m := m) h0)
theorem rI_meet {S : rS} {nc nm f m q x g : Nat} (h : rI S nc nm) (hm : m < 12) (hq : q < 20) (hx : x ≤ nc) (hx0 : x ≠ 0) : rI (sp_meet S f m q x g) nc nm := by
  have hn : rI (sp_note S (20 * m + q) (nI x - 1)) nc nm := by
    rw [show nI x - 1 = nI (x - 1) by rw [← nI_sub (b := 1) (by omega)]; rfl]
    exact rI_note h (by omega) (by omega)
  unfold sp_meet
  split
  · exact rI_congr rfl rfl rfl rfl rfl rfl rfl rfl rfl hn
  · split
    · exact rI_congr rfl rfl rfl rfl rfl rfl rfl rfl rfl h
    · split
      · exact rI_congr rfl rfl rfl rfl rfl rfl rfl rfl rfl h
      · exact rI_congr rfl rfl rfl rfl rfl rfl rfl rfl rfl hn
theorem rF_meet {S : rS} {nc nm f m q x g k : Nat} (h : rF S nc nm k) : rF (sp_meet S f m q x g) nc nm k :=
  rF_congr (sp_meet_f (by decide) (by decide) (by decide) (by decide) (by decide) (by decide) (by decide)) (sp_meet_f (by decide) (by decide) (by decide) (by decide) (by decide) (by decide) (by decide)) (sp_meet_f (by decide) (by decide) (by decide) (by decide) (by decide) (by decide) (by decide)) (sp_meet_f (by decide) (by decide) (by decide) (by decide) (by decide) (by decide) (by decide)) (sp_meet_f (by decide) (by decide) (by decide) (by decide) (by decide) (by decide) (by decide)) (sp_meet_f (by decide) (by decide) (by decide) (by decide) (by decide) (by decide) (by decide)) (sp_meet_f (by decide) (by decide) (by decide) (by decide) (by decide) (by decide) (by decide)) h
theorem rJ_goTo {S : rS} {nc nm f m a : Nat} (hI : rI S nc nm) (hF : rF S nc nm (f + 1)) (hm : m < 12) (h18 : S.1 18 f = nI m) (ha : a ≤ 20) : rI (sp_goTo S f (nI a)) nc nm ∧ rF (sp_goTo S f (nI a)) nc nm (f + 1) := by
  have hI0 : rI (su S 19 (va_up (S.1 19) f (nI a))) nc nm := rI_congr rfl rfl rfl rfl rfl rfl rfl rfl rfl hI
  have hF0 := rF_place hF ha
  unfold sp_goTo
  rw [show tn (S.1 18 f) = m by rw [h18]; exact tn_nI (by omega)]
  split
  · exact ⟨hI0, hF0⟩
  · have h1 := rI_warm hI0 hm
    have h2 := rF_warm (m := m) hF0
    unfold sp_go2
    split
    · exact ⟨rI_congr rfl rfl rfl rfl rfl rfl rfl rfl rfl h1, rF_congr rfl rfl rfl rfl rfl rfl rfl h2⟩
    · exact ⟨h1, h2⟩
