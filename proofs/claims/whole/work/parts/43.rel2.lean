/-- frames: the class has stepped on before the call, and keeps where the answer goes -/
def gF (S T : rS) (f : Nat) : Prop := ∀ i : Nat, i < f → (i + 1 < f → T.1 19 i = S.1 19 i + 1 ∧ T.1 29 i = s_op S (tn (S.1 18 i)) (tn (S.1 19 i)) 1) ∧ (i + 1 = f → T.1 19 i = S.1 19 i)
theorem gF_congr {S T S2 T2 : rS} {f : Nat} (h6 : S2.1 6 = S.1 6) (h18 : S2.1 18 = S.1 18) (h19 : S2.1 19 = S.1 19) (t19 : T2.1 19 = T.1 19) (t29 : T2.1 29 = T.1 29) (h : gF S T f) : gF S2 T2 f := by
  unfold gF s_op at *
  rw [h6, h18, h19, t19, t29]
  exact h
theorem gF_top {S T S2 T2 : rS} {f : Nat} {y : Int32} (h6 : S2.1 6 = S.1 6) (h18 : S2.1 18 = S.1 18) (h19 : S2.1 19 = va_up (S.1 19) f y) (t19 : T2.1 19 = va_up (T.1 19) f y) (t29 : T2.1 29 = T.1 29) (h : gF S T (f + 1)) : gF S2 T2 (f + 1) := by
  intro i hi
  obtain ⟨a, b⟩ := h i hi
  unfold s_op at *
  rw [h6, h18, h19, t19, t29]
  by_cases e : i = f
  · subst e
    exact ⟨fun z => by omega, fun _ => by rw [va_up_self, va_up_self]⟩
  · rw [va_up_ne _ _ e, va_up_ne _ _ e]
    exact ⟨a, fun z => by omega⟩
theorem go2_f {S : rS} {f m k : Nat} (h : k ≠ 20) : (sp_go2 S f m).1 k = S.1 k := by
  unfold sp_go2
  split
  · exact if_neg h
  · rfl
theorem goTo_19 {S : rS} {f : Nat} {p : Int32} : (sp_goTo S f p).1 19 = va_up (S.1 19) f p := by
  unfold sp_goTo
  split
  · rfl
  · rw [go2_f (by decide), sp_warm_f (by decide) (by decide) (by decide) (by decide) (by decide)]
    rfl
theorem rel_goTo {S T : rS} {f : Nat} {p : Int32} (he : er T = er S) (h19 : T.1 19 f = S.1 19 f) (hg : gF S T (f + 1)) : er (sp_goTo T f p) = er (sp_goTo S f p) ∧ gF (sp_goTo S f p) (sp_goTo T f p) (f + 1) := by
  refine ⟨?_, gF_top (sp_goTo_f (by decide) (by decide) (by decide) (by decide) (by decide) (by decide) (by decide)) (sp_goTo_f (by decide) (by decide) (by decide) (by decide) (by decide) (by decide) (by decide)) goTo_19 goTo_19 (sp_goTo_f (by decide) (by decide) (by decide) (by decide) (by decide) (by decide) (by decide)) hg⟩
  unfold sp_goTo
  rw [h19, er_f (k := 18) he (by decide) (by decide) (by decide) (by decide)]
  split
  · rw [er_19, er_19, he]
  · rw [er_go2, er_go2, er_warm, er_warm, er_19, er_19, he]
theorem rel_nxt {S T : rS} {f : Nat} (he : er T = er S) (h19 : T.1 19 f = S.1 19 f) (hg : gF S T (f + 1)) : er (s_nxt T f) = er (s_nxt S f) ∧ gF (s_nxt S f) (s_nxt T f) (f + 1) := by
  unfold s_nxt
  rw [h19]
  exact ⟨by rw [er_19, er_19, he], gF_top (S := S) (T := T) rfl rfl rfl rfl rfl hg⟩
theorem rel_put {S T : rS} {f g i : Nat} {k v : Int32} (he : er T = er S) (hg : gF S T f) : er (sp_put T i g k v) = er (sp_put S i g k v) ∧ gF (sp_put S i g k v) (sp_put T i g k v) f := ⟨by rw [er_put, er_put, he], gF_congr rfl rfl rfl rfl rfl hg⟩
theorem rel_err {S T : rS} {f : Nat} {k : Int32} (he : er T = er S) (hg : gF S T f) : er (s_err T k) = er (s_err S k) ∧ gF (s_err S k) (s_err T k) f := ⟨by rw [er_err, er_err, he], gF_congr rfl rfl rfl rfl rfl hg⟩
theorem rel_calc {S T : rS} {f m q : Nat} {v : Int32} (he : er T = er S) (h19 : T.1 19 f = S.1 19 f) (hg : gF S T (f + 1)) : er (sp_calc T f m q v) = er (sp_calc S f m q v) ∧ gF (sp_calc S f m q v) (sp_calc T f m q v) (f + 1) := by
  unfold sp_calc s_op
  rw [er_f (k := 6) he (by decide) (by decide) (by decide) (by decide), er_f (k := 21) he (by decide) (by decide) (by decide) (by decide)]
  split
  · have h := rel_put (i := f) (g := tn (S.1 6 (5 * (20 * m + q) + 1))) (k := -1) (v := v) he hg
    exact rel_nxt h.1 h19 h.2
  · exact rel_err he hg
theorem rel_less {S T : rS} {f m q : Nat} (he : er T = er S) (h19 : T.1 19 f = S.1 19 f) (hg : gF S T (f + 1)) : er (sp_less T f m q) = er (sp_less S f m q) ∧ gF (sp_less S f m q) (sp_less T f m q) (f + 1) := by
  unfold sp_less s_op
  rw [er_f (k := 6) he (by decide) (by decide) (by decide) (by decide), er_f (k := 21) he (by decide) (by decide) (by decide) (by decide), er_f (k := 22) he (by decide) (by decide) (by decide) (by decide)]
  split
  · split
    · exact rel_goTo he h19 hg
    · exact rel_nxt he h19 hg
  · exact rel_err he hg
theorem rel_fin {S T : rS} {f : Nat} {k v : Int32} (he : er T = er S) (hg : gF S T (f + 1)) : er (c_end T f k v) = er (sp_finish S f k v) ∧ gF (sp_finish S f k v) (c_end T f k v) f := by
  unfold c_end sp_finish
  by_cases e : f = 0
  · rw [if_pos e, if_pos e]
    refine ⟨?_, fun i hi => by omega⟩
    rw [er_su (by decide) (by decide) (by decide) (by decide), er_su (by decide) (by decide) (by decide) (by decide), er_su (by decide) (by decide) (by decide) (by decide), er_su (by decide) (by decide) (by decide) (by decide), er_su (by decide) (by decide) (by decide) (by decide), er_su (by decide) (by decide) (by decide) (by decide), he, su_c _ _ _ (show (24 : Nat) ≠ 23 by decide)]
  · rw [if_neg e, if_neg e]
    obtain ⟨f', hf'⟩ : ∃ f', f = f' + 1 := ⟨f - 1, by omega⟩
    subst hf'
    rw [Nat.add_sub_cancel]
    obtain ⟨a1, a2⟩ := (hg f' (by omega)).1 (by omega)
    rw [a2]
    refine ⟨?_, fun i hi => ?_⟩
    · rw [er_19, er_put, er_put, er_su (by decide) (by decide) (by decide) (by decide), er_su (by decide) (by decide) (by decide) (by decide), he]
      rfl
    · show (i + 1 < f' + 1 → T.1 19 i = va_up (S.1 19) f' (S.1 19 f' + 1) i + 1 ∧ T.1 29 i = S.1 6 (5 * (20 * tn (S.1 18 i) + tn (va_up (S.1 19) f' (S.1 19 f' + 1) i)) + 1)) ∧ (i + 1 = f' + 1 → T.1 19 i = va_up (S.1 19) f' (S.1 19 f' + 1) i)
      by_cases e2 : i = f'
      · subst e2
        exact ⟨fun z => by omega, fun _ => by rw [va_up_self]; exact a1⟩
      · rw [va_up_ne _ _ e2]
        exact ⟨fun z => (hg i (by omega)).1 (by omega), fun z => by omega⟩
theorem begin_19 {S : rS} {f m : Nat} {k v : Int32} : (sp_begin S f m k v).1 19 = va_up (S.1 19) f 0 := by
  rw [begin_w]
  show va_up ((sp_warm S m).1 19) f 0 = _
  rw [sp_warm_f (by decide) (by decide) (by decide) (by decide) (by decide)]
theorem begin_18 {S : rS} {f m : Nat} {k v : Int32} : (sp_begin S f m k v).1 18 = va_up (S.1 18) f (nI m) := by
  rw [begin_w]
  show va_up ((sp_warm S m).1 18) f (nI m) = _
  rw [sp_warm_f (by decide) (by decide) (by decide) (by decide) (by decide)]
theorem begin_17 {S : rS} {f m : Nat} {k v : Int32} : (sp_begin S f m k v).1 17 0 = nI (f + 1) := by
  rw [begin_w]
  rfl
theorem rel_send {S T : rS} {f m q : Nat} (he : er T = er S) (h18 : tn (S.1 18 f) = m) (hq : tn (S.1 19 f) = q) (h19 : T.1 19 f = S.1 19 f) (hr : S.1 17 0 = nI (f + 1)) (hf : f < 20) (hg : gF S T (f + 1)) : er (c_send T f m q) = er (sp_send S f m q) ∧ ∃ f', (sp_send S f m q).1 17 0 = nI f' ∧ f' ≤ 20 ∧ gF (sp_send S f m q) (c_send T f m q) f' := by
  have h6 := er_f (k := 6) he (by decide) (by decide) (by decide) (by decide)
  have h21 := er_f (k := 21) he (by decide) (by decide) (by decide) (by decide)
  have h22 := er_f (k := 22) he (by decide) (by decide) (by decide) (by decide)
  have hu : ∀ x g, s_und T x g = s_und S x g := s_und_congr (er_f (k := 2) he (by decide) (by decide) (by decide) (by decide)) (er_f (k := 3) he (by decide) (by decide) (by decide) (by decide))
  have ho : ∀ j, s_op T m q j = s_op S m q j := fun j => by unfold s_op; rw [h6]
  unfold c_send sp_send
  rw [ho 1, ho 2, ho 3, ho 4, h21, h22, hu]
  split
  · exact ⟨(rel_err he hg).1, f + 1, hr, by omega, (rel_err he hg).2⟩
  · split
    · exact ⟨(rel_err he hg).1, f + 1, hr, by omega, (rel_err he hg).2⟩
    · rw [c_snd_eq]
      unfold sp_sen2
      generalize tn (S.1 21 (4 * f + tn (s_op S m q 3)) + 1) = x
      generalize tn (s_op S m q 2) = g
      generalize tn (s_und S x g) = mt
      generalize S.1 21 (4 * f + tn (s_op S m q 4)) = k
      generalize S.1 22 (4 * f + tn (s_op S m q 4)) = v
      have em : er (sp_meet T f m q x g) = er (sp_meet S f m q x g) := by rw [er_meet, er_meet, he]
      have fs : ∀ {k : Nat}, k ≠ 10 → k ≠ 11 → k ≠ 12 → k ≠ 13 → k ≠ 14 → k ≠ 15 → k ≠ 20 → (sp_meet S f m q x g).1 k = S.1 k := fun h1 h2 h3 h4 h5 h6 h7 => sp_meet_f h1 h2 h3 h4 h5 h6 h7
      have ft : ∀ {k : Nat}, k ≠ 10 → k ≠ 11 → k ≠ 12 → k ≠ 13 → k ≠ 14 → k ≠ 15 → k ≠ 20 → (sp_meet T f m q x g).1 k = T.1 k := fun h1 h2 h3 h4 h5 h6 h7 => sp_meet_f h1 h2 h3 h4 h5 h6 h7
      have s6 : (sp_meet S f m q x g).1 6 = S.1 6 := fs (by decide) (by decide) (by decide) (by decide) (by decide) (by decide) (by decide)
      have s17 : (sp_meet S f m q x g).1 17 = S.1 17 := fs (by decide) (by decide) (by decide) (by decide) (by decide) (by decide) (by decide)
      have s18 : (sp_meet S f m q x g).1 18 = S.1 18 := fs (by decide) (by decide) (by decide) (by decide) (by decide) (by decide) (by decide)
      have s19 : (sp_meet S f m q x g).1 19 = S.1 19 := fs (by decide) (by decide) (by decide) (by decide) (by decide) (by decide) (by decide)
      have t19 : (sp_meet T f m q x g).1 19 = T.1 19 := ft (by decide) (by decide) (by decide) (by decide) (by decide) (by decide) (by decide)
      have t29 : (sp_meet T f m q x g).1 29 = T.1 29 := ft (by decide) (by decide) (by decide) (by decide) (by decide) (by decide) (by decide)
      generalize sp_meet S f m q x g = S1 at *
      generalize sp_meet T f m q x g = T1 at *
      have g1 : gF S1 T1 (f + 1) := gF_congr s6 s18 s19 t19 t29 hg
      split
      · exact ⟨(rel_err em g1).1, f + 1, by show S1.1 17 0 = _; rw [s17]; exact hr, by omega, (rel_err em g1).2⟩
      · refine ⟨?_, f + 2, begin_17, by omega, fun i hi => ?_⟩
        · rw [er_put, er_put, er_begin (S := S1)]
          unfold s_nxt
          rw [er_29, er_19, em]
        · show (i + 1 < f + 2 → (sp_begin (su (s_nxt T1 f) 29 (va_up ((s_nxt T1 f).1 29) f (s_op S m q 1))) (f + 1) mt k v).1 19 i = (sp_begin S1 (f + 1) mt k v).1 19 i + 1 ∧ (sp_begin (su (s_nxt T1 f) 29 (va_up ((s_nxt T1 f).1 29) f (s_op S m q 1))) (f + 1) mt k v).1 29 i = (sp_begin S1 (f + 1) mt k v).1 6 (5 * (20 * tn ((sp_begin S1 (f + 1) mt k v).1 18 i) + tn ((sp_begin S1 (f + 1) mt k v).1 19 i)) + 1)) ∧ (i + 1 = f + 2 → (sp_begin (su (s_nxt T1 f) 29 (va_up ((s_nxt T1 f).1 29) f (s_op S m q 1))) (f + 1) mt k v).1 19 i = (sp_begin S1 (f + 1) mt k v).1 19 i)
          rw [begin_19, begin_19, begin_18, sp_begin_f (k := 29) (by decide) (by decide) (by decide) (by decide) (by decide) (by decide) (by decide) (by decide) (by decide) (by decide) (by decide) (by decide), sp_begin_f (k := 6) (by decide) (by decide) (by decide) (by decide) (by decide) (by decide) (by decide) (by decide) (by decide) (by decide) (by decide) (by decide)]
          show (i + 1 < f + 2 → va_up (va_up (T1.1 19) f (T1.1 19 f + 1)) (f + 1) 0 i = va_up (S1.1 19) (f + 1) 0 i + 1 ∧ va_up (T1.1 29) f (s_op S m q 1) i = S1.1 6 (5 * (20 * tn (va_up (S1.1 18) (f + 1) (nI mt) i) + tn (va_up (S1.1 19) (f + 1) 0 i)) + 1)) ∧ (i + 1 = f + 2 → va_up (va_up (T1.1 19) f (T1.1 19 f + 1)) (f + 1) 0 i = va_up (S1.1 19) (f + 1) 0 i)
          by_cases e1 : i = f + 1
          · subst e1
            exact ⟨fun z => by omega, fun _ => by rw [va_up_self, va_up_self]⟩
          · rw [va_up_ne _ _ e1, va_up_ne _ _ e1, va_up_ne _ _ e1]
            refine ⟨fun _ => ?_, fun z => by omega⟩
            by_cases e2 : i = f
            · subst e2
              rw [va_up_self, va_up_self, t19, s19, s18, s6, h19, h18, hq]
              exact ⟨rfl, rfl⟩
            · rw [va_up_ne _ _ e2, va_up_ne _ _ e2]
              exact (g1 i (by omega)).1 (by omega)
theorem rel_step {S T : rS} {f m q : Nat} (hm : tn (S.1 18 f) = m) (hq : tn (S.1 19 f) = q) (hr : S.1 17 0 = nI (f + 1)) (hf : f < 20) (he : er T = er S) (hg : gF S T (f + 1)) : er (c_step T f) = er (sp_step S f) ∧ ∃ f', (sp_step S f).1 17 0 = nI f' ∧ f' ≤ 20 ∧ gF (sp_step S f) (c_step T f) f' := by
  have h19 : T.1 19 f = S.1 19 f := (hg f (by omega)).2 rfl
  have e6 := er_f (k := 6) he (by decide) (by decide) (by decide) (by decide)
  unfold c_step sp_step
  rw [er_f (k := 18) he (by decide) (by decide) (by decide) (by decide), h19, hm, hq, show s_op T m q 0 = s_op S m q 0 by unfold s_op; rw [e6]]
  have hp : er (sp_pay T f) = er (sp_pay S f) := by rw [er_pay, er_pay, he]
  have gp : gF (sp_pay S f) (sp_pay T f) (f + 1) := gF_congr rfl rfl rfl rfl rfl hg
  have p19 : (sp_pay T f).1 19 f = (sp_pay S f).1 19 f := h19
  have p18 : tn ((sp_pay S f).1 18 f) = m := hm
  have pq : tn ((sp_pay S f).1 19 f) = q := hq
  have pr : (sp_pay S f).1 17 0 = nI (f + 1) := hr
  generalize sp_pay S f = S1 at *
  generalize sp_pay T f = T1 at *
  have ho : ∀ j, s_op T1 m q j = s_op S1 m q j := fun j => by unfold s_op; rw [er_f (k := 6) hp (by decide) (by decide) (by decide) (by decide)]
  have h21 := er_f (k := 21) hp (by decide) (by decide) (by decide) (by decide)
  have h22 := er_f (k := 22) hp (by decide) (by decide) (by decide) (by decide)
  generalize tn (s_op S m q 0) = kk
  match kk with
  | 0 =>
    show er (s_nxt (sp_put T1 f (tn (s_op T1 m q 1)) (-1) (s_op T1 m q 2)) f) = er (s_nxt (sp_put S1 f (tn (s_op S1 m q 1)) (-1) (s_op S1 m q 2)) f) ∧ ∃ f', (s_nxt (sp_put S1 f (tn (s_op S1 m q 1)) (-1) (s_op S1 m q 2)) f).1 17 0 = nI f' ∧ f' ≤ 20 ∧ gF (s_nxt (sp_put S1 f (tn (s_op S1 m q 1)) (-1) (s_op S1 m q 2)) f) (s_nxt (sp_put T1 f (tn (s_op T1 m q 1)) (-1) (s_op T1 m q 2)) f) f'
    rw [ho, ho]
    have h := rel_put (i := f) (g := tn (s_op S1 m q 1)) (k := -1) (v := s_op S1 m q 2) hp gp
    have h2 := rel_nxt h.1 p19 h.2
    exact ⟨h2.1, f + 1, pr, by omega, h2.2⟩
  | 1 =>
    show er (sp_calc T1 f m q (T1.1 22 (4 * f + tn (s_op T1 m q 2)) + T1.1 22 (4 * f + tn (s_op T1 m q 3)))) = er (sp_calc S1 f m q (S1.1 22 (4 * f + tn (s_op S1 m q 2)) + S1.1 22 (4 * f + tn (s_op S1 m q 3)))) ∧ ∃ f', (sp_calc S1 f m q (S1.1 22 (4 * f + tn (s_op S1 m q 2)) + S1.1 22 (4 * f + tn (s_op S1 m q 3)))).1 17 0 = nI f' ∧ f' ≤ 20 ∧ gF (sp_calc S1 f m q (S1.1 22 (4 * f + tn (s_op S1 m q 2)) + S1.1 22 (4 * f + tn (s_op S1 m q 3)))) (sp_calc T1 f m q (T1.1 22 (4 * f + tn (s_op T1 m q 2)) + T1.1 22 (4 * f + tn (s_op T1 m q 3)))) f'
    rw [ho, ho, h22]
    have h := rel_calc (m := m) (q := q) (v := S1.1 22 (4 * f + tn (s_op S1 m q 2)) + S1.1 22 (4 * f + tn (s_op S1 m q 3))) hp p19 gp
    refine ⟨h.1, f + 1, ?_, by omega, h.2⟩
    unfold sp_calc
    split <;> exact pr
  | 2 =>
    show er (sp_calc T1 f m q (T1.1 22 (4 * f + tn (s_op T1 m q 2)) - T1.1 22 (4 * f + tn (s_op T1 m q 3)))) = er (sp_calc S1 f m q (S1.1 22 (4 * f + tn (s_op S1 m q 2)) - S1.1 22 (4 * f + tn (s_op S1 m q 3)))) ∧ ∃ f', (sp_calc S1 f m q (S1.1 22 (4 * f + tn (s_op S1 m q 2)) - S1.1 22 (4 * f + tn (s_op S1 m q 3)))).1 17 0 = nI f' ∧ f' ≤ 20 ∧ gF (sp_calc S1 f m q (S1.1 22 (4 * f + tn (s_op S1 m q 2)) - S1.1 22 (4 * f + tn (s_op S1 m q 3)))) (sp_calc T1 f m q (T1.1 22 (4 * f + tn (s_op T1 m q 2)) - T1.1 22 (4 * f + tn (s_op T1 m q 3)))) f'
    rw [ho, ho, h22]
    have h := rel_calc (m := m) (q := q) (v := S1.1 22 (4 * f + tn (s_op S1 m q 2)) - S1.1 22 (4 * f + tn (s_op S1 m q 3))) hp p19 gp
    refine ⟨h.1, f + 1, ?_, by omega, h.2⟩
    unfold sp_calc
    split <;> exact pr
  | 3 =>
    show er (sp_calc T1 f m q (T1.1 22 (4 * f + tn (s_op T1 m q 2)) * T1.1 22 (4 * f + tn (s_op T1 m q 3)))) = er (sp_calc S1 f m q (S1.1 22 (4 * f + tn (s_op S1 m q 2)) * S1.1 22 (4 * f + tn (s_op S1 m q 3)))) ∧ ∃ f', (sp_calc S1 f m q (S1.1 22 (4 * f + tn (s_op S1 m q 2)) * S1.1 22 (4 * f + tn (s_op S1 m q 3)))).1 17 0 = nI f' ∧ f' ≤ 20 ∧ gF (sp_calc S1 f m q (S1.1 22 (4 * f + tn (s_op S1 m q 2)) * S1.1 22 (4 * f + tn (s_op S1 m q 3)))) (sp_calc T1 f m q (T1.1 22 (4 * f + tn (s_op T1 m q 2)) * T1.1 22 (4 * f + tn (s_op T1 m q 3)))) f'
    rw [ho, ho, h22]
    have h := rel_calc (m := m) (q := q) (v := S1.1 22 (4 * f + tn (s_op S1 m q 2)) * S1.1 22 (4 * f + tn (s_op S1 m q 3))) hp p19 gp
    refine ⟨h.1, f + 1, ?_, by omega, h.2⟩
    unfold sp_calc
    split <;> exact pr
  | 4 =>
    show er (s_nxt (sp_put T1 f (tn (s_op T1 m q 1)) (s_op T1 m q 2) 0) f) = er (s_nxt (sp_put S1 f (tn (s_op S1 m q 1)) (s_op S1 m q 2) 0) f) ∧ ∃ f', (s_nxt (sp_put S1 f (tn (s_op S1 m q 1)) (s_op S1 m q 2) 0) f).1 17 0 = nI f' ∧ f' ≤ 20 ∧ gF (s_nxt (sp_put S1 f (tn (s_op S1 m q 1)) (s_op S1 m q 2) 0) f) (s_nxt (sp_put T1 f (tn (s_op T1 m q 1)) (s_op T1 m q 2) 0) f) f'
    rw [ho, ho]
    have h := rel_put (i := f) (g := tn (s_op S1 m q 1)) (k := s_op S1 m q 2) (v := 0) hp gp
    have h2 := rel_nxt h.1 p19 h.2
    exact ⟨h2.1, f + 1, pr, by omega, h2.2⟩
  | 5 => exact rel_send hp p18 pq p19 pr hf gp
  | 6 =>
    have h := rel_less (m := m) (q := q) hp p19 gp
    refine ⟨h.1, f + 1, ?_, by omega, h.2⟩
    show (sp_less S1 f m q).1 17 0 = _
    unfold sp_less
    split
    · split
      · rw [sp_goTo_f (by decide) (by decide) (by decide) (by decide) (by decide) (by decide) (by decide)]; exact pr
      · exact pr
    · exact pr
  | 7 =>
    show er (sp_goTo T1 f (s_op T1 m q 1)) = er (sp_goTo S1 f (s_op S1 m q 1)) ∧ ∃ f', (sp_goTo S1 f (s_op S1 m q 1)).1 17 0 = nI f' ∧ f' ≤ 20 ∧ gF (sp_goTo S1 f (s_op S1 m q 1)) (sp_goTo T1 f (s_op T1 m q 1)) f'
    rw [ho]
    have h := rel_goTo (p := s_op S1 m q 1) hp p19 gp
    exact ⟨h.1, f + 1, by rw [sp_goTo_f (by decide) (by decide) (by decide) (by decide) (by decide) (by decide) (by decide)]; exact pr, by omega, h.2⟩
  | n + 8 =>
    show er (c_end T1 f (T1.1 21 (4 * f + tn (s_op T1 m q 1))) (T1.1 22 (4 * f + tn (s_op T1 m q 1)))) = er (sp_finish S1 f (S1.1 21 (4 * f + tn (s_op S1 m q 1))) (S1.1 22 (4 * f + tn (s_op S1 m q 1)))) ∧ ∃ f', (sp_finish S1 f (S1.1 21 (4 * f + tn (s_op S1 m q 1))) (S1.1 22 (4 * f + tn (s_op S1 m q 1)))).1 17 0 = nI f' ∧ f' ≤ 20 ∧ gF (sp_finish S1 f (S1.1 21 (4 * f + tn (s_op S1 m q 1))) (S1.1 22 (4 * f + tn (s_op S1 m q 1)))) (c_end T1 f (T1.1 21 (4 * f + tn (s_op T1 m q 1))) (T1.1 22 (4 * f + tn (s_op T1 m q 1)))) f'
    rw [ho, h21, h22]
    have h := rel_fin (k := S1.1 21 (4 * f + tn (s_op S1 m q 1))) (v := S1.1 22 (4 * f + tn (s_op S1 m q 1))) hp gp
    refine ⟨h.1, f, ?_, by omega, h.2⟩
    unfold sp_finish
    split <;> rfl
