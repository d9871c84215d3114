/-! The class's state beside the reference's: equal but for the fields 0, 19, 29, 30. -/
def er (S : rS) : rS := su (su (su (su S 0 (fun _ => 0)) 19 (fun _ => 0)) 29 (fun _ => 0)) 30 (fun _ => 0)
theorem er_su {S : rS} {k : Nat} {g : Nat → Int32} (h0 : k ≠ 0) (h1 : k ≠ 19) (h2 : k ≠ 29) (h3 : k ≠ 30) : er (su S k g) = su (er S) k g := by
  unfold er
  rw [su_c S g _ h0, su_c _ g _ h1, su_c _ g _ h2, su_c _ g _ h3]
theorem er_ext {S T : rS} (h1 : ∀ k, k ≠ 0 → k ≠ 19 → k ≠ 29 → k ≠ 30 → T.1 k = S.1 k) (h2 : T.2 = S.2) : er T = er S := by
  refine Prod.ext (funext fun k => ?_) h2
  show (if k = 30 then _ else if k = 29 then _ else if k = 19 then _ else if k = 0 then _ else T.1 k) = (if k = 30 then _ else if k = 29 then _ else if k = 19 then _ else if k = 0 then _ else S.1 k)
  split
  · rfl
  · split
    · rfl
    · split
      · rfl
      · split
        · rfl
        · exact h1 k (by assumption) (by assumption) (by assumption) (by assumption)
theorem er_0 (S : rS) (g : Nat → Int32) : er (su S 0 g) = er S := er_ext (fun k h _ _ _ => if_neg h) rfl
theorem er_19 (S : rS) (g : Nat → Int32) : er (su S 19 g) = er S := er_ext (fun k _ h _ _ => if_neg h) rfl
theorem er_29 (S : rS) (g : Nat → Int32) : er (su S 29 g) = er S := er_ext (fun k _ _ h _ => if_neg h) rfl
theorem er_30 (S : rS) (g : Nat → Int32) : er (su S 30 g) = er S := er_ext (fun k _ _ _ h => if_neg h) rfl
theorem er_sl (S : rS) (k : Nat) (g : Nat → Int64) : er (sl S k g) = sl (er S) k g := rfl
theorem er_f {S T : rS} {k : Nat} (h : er T = er S) (h0 : k ≠ 0) (h1 : k ≠ 19) (h2 : k ≠ 29) (h3 : k ≠ 30) : T.1 k = S.1 k := by
  have e := congrFun (congrArg Prod.fst h) k
  have g : ∀ X : rS, (er X).1 k = X.1 k := fun X => (if_neg h3).trans ((if_neg h2).trans ((if_neg h1).trans (if_neg h0)))
  exact (g T).symm.trans (e.trans (g S))
theorem er_2 {S T : rS} (h : er T = er S) : T.2 = S.2 := by
  show (er T).2 = (er S).2
  rw [h]
theorem er_note {S : rS} {r : Nat} {t : Int32} : er (sp_note S r t) = sp_note (er S) r t := by
  unfold sp_note
  rw [apply_ite er]
  refine ite_congr rfl (fun _ => rfl) (fun _ => ?_)
  rw [apply_ite er]
  refine ite_congr rfl (fun _ => er_su (by decide) (by decide) (by decide) (by decide)) (fun _ => ?_)
  rw [er_su (by decide) (by decide) (by decide) (by decide), er_su (by decide) (by decide) (by decide) (by decide)]
  rfl
theorem er_ta {S : rS} {m k : Nat} : er (s_ta S m k) = s_ta (er S) m k := by
  unfold s_ta
  rw [er_su (by decide) (by decide) (by decide) (by decide), er_su (by decide) (by decide) (by decide) (by decide), er_su (by decide) (by decide) (by decide) (by decide)]
  rfl
theorem er_w1 {S : rS} {m : Nat} : er (sp_w1 S m) = sp_w1 (er S) m := by
  unfold sp_w1
  rw [apply_ite er]
  refine ite_congr rfl (fun _ => ?_) (fun _ => er_su (by decide) (by decide) (by decide) (by decide))
  rw [er_sl, er_sl, er_su (by decide) (by decide) (by decide) (by decide), er_su (by decide) (by decide) (by decide) (by decide)]
  rfl
theorem er_w2 {S : rS} {m : Nat} : er (sp_w2 S m) = sp_w2 (er S) m := by
  unfold sp_w2
  rw [apply_ite er]
  refine ite_congr rfl (fun _ => ?_) (fun _ => rfl)
  rw [er_ta, er_sl, er_sl, er_su (by decide) (by decide) (by decide) (by decide)]
  rfl
theorem er_warm {S : rS} {m : Nat} : er (sp_warm S m) = sp_warm (er S) m := by
  unfold sp_warm
  rw [er_w2, er_w1]
theorem er_dis {S : rS} {f m : Nat} : er (sp_dis S f m) = sp_dis (er S) f m := by
  unfold sp_dis s_ft s_di0
  rw [er_sl, er_su (by decide) (by decide) (by decide) (by decide), er_su (by decide) (by decide) (by decide) (by decide), er_su (by decide) (by decide) (by decide) (by decide), er_su (by decide) (by decide) (by decide) (by decide)]
  rfl
theorem er_cost {S : rS} {x : Int64} : er (s_cost S x) = s_cost (er S) x := rfl
theorem er_meet {S : rS} {f m q x g : Nat} : er (sp_meet S f m q x g) = sp_meet (er S) f m q x g := by
  unfold sp_meet
  rw [s_len_congr (S := S) (S2 := er S) rfl rfl]
  rw [apply_ite er]
  refine ite_congr rfl (fun _ => by rw [er_cost, er_note]) (fun _ => ?_)
  rw [apply_ite er]
  refine ite_congr rfl (fun _ => rfl) (fun _ => ?_)
  rw [apply_ite er]
  exact ite_congr rfl (fun _ => rfl) (fun _ => by rw [er_cost, er_dis, er_note])
theorem er_put {S : rS} {f g : Nat} {k v : Int32} : er (sp_put S f g k v) = sp_put (er S) f g k v := by
  unfold sp_put
  rw [er_su (by decide) (by decide) (by decide) (by decide), er_su (by decide) (by decide) (by decide) (by decide)]
  rfl
theorem er_pay {S : rS} {f : Nat} : er (sp_pay S f) = sp_pay (er S) f := by
  unfold sp_pay
  rw [er_sl, er_su (by decide) (by decide) (by decide) (by decide)]
  rfl
theorem er_err {S : rS} {k : Int32} : er (s_err S k) = s_err (er S) k := er_su (by decide) (by decide) (by decide) (by decide)
theorem er_go2 {S : rS} {f m : Nat} : er (sp_go2 S f m) = sp_go2 (er S) f m := by
  unfold sp_go2
  rw [apply_ite er]
  refine ite_congr rfl (fun _ => ?_) (fun _ => rfl)
  rw [er_sl, er_su (by decide) (by decide) (by decide) (by decide)]
  rfl
/-! sp_warm beside what it doesn't touch -/
theorem su_at {S : rS} {k j : Nat} {g : Nat → Int32} (h : j ≠ k) : (su S k g).1 j = S.1 j := if_neg h
theorem w1_su {S : rS} {k m : Nat} {g : Nat → Int32} (hk : 16 ≤ k) : sp_w1 (su S k g) m = su (sp_w1 S m) k g := by
  unfold sp_w1
  rw [su_at (j := 10) (by omega), su_at (j := 7) (by omega), su_at (j := 11) (by omega), su_at (j := 5) (by omega), apply_ite (fun S => su S k g)]
  refine ite_congr rfl (fun _ => ?_) (fun _ => su_c _ _ _ (by omega))
  rw [su_c _ g _ (show k ≠ 11 by omega), su_c _ g _ (show k ≠ 10 by omega)]
  rfl
theorem ta_su {S : rS} {k m j : Nat} {g : Nat → Int32} (hk : 16 ≤ k) : s_ta (su S k g) m j = su (s_ta S m j) k g := by
  unfold s_ta
  rw [su_at (j := 13) (by omega), su_at (j := 15) (by omega), su_at (j := 14) (by omega), su_c _ g _ (show k ≠ 13 by omega), su_c _ g _ (show k ≠ 15 by omega), su_c _ g _ (show k ≠ 14 by omega)]
theorem w2_su {S : rS} {k m : Nat} {g : Nat → Int32} (hk : 16 ≤ k) : sp_w2 (su S k g) m = su (sp_w2 S m) k g := by
  unfold sp_w2
  rw [su_at (j := 10) (by omega), su_at (j := 8) (by omega), su_at (j := 11) (by omega), su_at (j := 12) (by omega), su_at (j := 9) (by omega), su_at (j := 5) (by omega), apply_ite (fun S => su S k g)]
  refine ite_congr rfl (fun _ => ?_) (fun _ => rfl)
  rw [su_c _ g _ (show k ≠ 10 by omega), ← ta_su hk]
  rfl
theorem warm_su {S : rS} {k m : Nat} {g : Nat → Int32} (hk : 16 ≤ k) : sp_warm (su S k g) m = su (sp_warm S m) k g := by
  unfold sp_warm
  rw [w1_su hk, w2_su hk]
/-- what a begin makes of the warmed state -/
def s_bw (W : rS) (f m : Nat) (k v : Int32) : rS := su (sp_beg0 W f m k v) 20 (va_up (W.1 20) f (W.1 10 m))
theorem begin_w {S : rS} {f m : Nat} {k v : Int32} : sp_begin S f m k v = s_bw (sp_warm S m) f m k v := by
  have e : sp_warm (sp_beg0 S f m k v) m = sp_beg0 (sp_warm S m) f m k v := by
    unfold sp_beg0 sp_put s_reg
    rw [warm_su (by decide), warm_su (by decide), warm_su (by decide), warm_su (by decide), warm_su (by decide), warm_su (by decide), warm_su (by decide), warm_su (by decide)]
    simp only [su_at (show (21 : Nat) ≠ 22 by decide), su_at (show (21 : Nat) ≠ 19 by decide), su_at (show (21 : Nat) ≠ 18 by decide), su_at (show (22 : Nat) ≠ 21 by decide), su_at (show (22 : Nat) ≠ 19 by decide), su_at (show (22 : Nat) ≠ 18 by decide), su_at (show (19 : Nat) ≠ 18 by decide), sp_warm_f (S := S) (m := m) (f := 18) (by decide) (by decide) (by decide) (by decide) (by decide), sp_warm_f (S := S) (m := m) (f := 19) (by decide) (by decide) (by decide) (by decide) (by decide), sp_warm_f (S := S) (m := m) (f := 21) (by decide) (by decide) (by decide) (by decide) (by decide), sp_warm_f (S := S) (m := m) (f := 22) (by decide) (by decide) (by decide) (by decide) (by decide), sp_warm_f (S := S) (m := m) (f := 28) (by decide) (by decide) (by decide) (by decide) (by decide)]
    rfl
  unfold sp_begin s_bw
  rw [e, sp_warm_f (S := S) (m := m) (f := 20) (by decide) (by decide) (by decide) (by decide) (by decide)]
  rfl
theorem begin_c {T : rS} {f m : Nat} {k v : Int32} : sp_put (c_begin T f m) f 0 k v = sp_begin T f m k v := by
  rw [begin_w]
  unfold c_begin
  rw [show T.1 28 0 = (sp_warm T m).1 28 0 by rw [sp_warm_f (by decide) (by decide) (by decide) (by decide) (by decide)]]
  generalize sp_warm T m = W
  refine Prod.ext (funext fun j => ?_) rfl
  by_cases h17 : j = 17
  · subst h17; rfl
  by_cases h18 : j = 18
  · subst h18; rfl
  by_cases h19 : j = 19
  · subst h19; rfl
  by_cases h20 : j = 20
  · subst h20; rfl
  by_cases h21 : j = 21
  · subst h21; rfl
  by_cases h22 : j = 22
  · subst h22; rfl
  by_cases h28 : j = 28
  · subst h28; rfl
  simp only [s_bw, sp_beg0, sp_put, s_reg, c_start, s_fill, su, if_neg h17, if_neg h18, if_neg h19, if_neg h20, if_neg h21, if_neg h22, if_neg h28]
theorem c_snd_eq {T : rS} {f m q x g mt : Nat} {a k v : Int32} : c_snd T f m q x g mt a k v = if f + 1 = 20 then s_err (sp_meet T f m q x g) 3 else sp_put (sp_begin (su (s_nxt (sp_meet T f m q x g) f) 29 (va_up ((s_nxt (sp_meet T f m q x g) f).1 29) f a)) (f + 1) mt k v) (f + 1) 1 (nI x - 1) 0 := by
  unfold c_snd
  rw [begin_c]
theorem er_beg0 {S T : rS} {f m : Nat} {k v : Int32} (h : er T = er S) : er (sp_beg0 T f m k v) = er (sp_beg0 S f m k v) := by
  refine er_ext (fun j h0 h1 h2 h3 => ?_) (show T.2 = S.2 from er_2 h)
  unfold sp_beg0 sp_put s_reg
  have e := er_f (k := j) h h0 h1 h2 h3
  have e18 := er_f (k := 18) h (by decide) (by decide) (by decide) (by decide)
  have e21 := er_f (k := 21) h (by decide) (by decide) (by decide) (by decide)
  have e22 := er_f (k := 22) h (by decide) (by decide) (by decide) (by decide)
  have e28 := er_f (k := 28) h (by decide) (by decide) (by decide) (by decide)
  show (if j = 28 then (fun _ => if T.1 28 0 < nI (f + 1) then nI (f + 1) else T.1 28 0) else if j = 17 then _ else if j = 22 then va_up (fun i => if 4 * f ≤ i ∧ i < 4 * f + 4 then 0 else T.1 22 i) (4 * f + 0) v else if j = 21 then va_up (fun i => if 4 * f ≤ i ∧ i < 4 * f + 4 then -1 else T.1 21 i) (4 * f + 0) k else if j = 22 then _ else if j = 21 then _ else if j = 19 then _ else if j = 18 then va_up (T.1 18) f (nI m) else T.1 j) = (if j = 28 then (fun _ => if S.1 28 0 < nI (f + 1) then nI (f + 1) else S.1 28 0) else if j = 17 then _ else if j = 22 then va_up (fun i => if 4 * f ≤ i ∧ i < 4 * f + 4 then 0 else S.1 22 i) (4 * f + 0) v else if j = 21 then va_up (fun i => if 4 * f ≤ i ∧ i < 4 * f + 4 then -1 else S.1 21 i) (4 * f + 0) k else if j = 22 then _ else if j = 21 then _ else if j = 19 then _ else if j = 18 then va_up (S.1 18) f (nI m) else S.1 j)
  rw [e, e18, e21, e22, e28, if_neg h1, if_neg h1]
  by_cases h22 : j = 22
  · subst h22; rfl
  by_cases h21 : j = 21
  · subst h21; rfl
  rw [if_neg h22, if_neg h21, if_neg h22, if_neg h21, if_neg h22, if_neg h21, if_neg h22, if_neg h21]
theorem er_begin {S T : rS} {f m : Nat} {k v : Int32} (h : er T = er S) : er (sp_begin T f m k v) = er (sp_begin S f m k v) := by
  have hw : er (sp_warm T m) = er (sp_warm S m) := by rw [er_warm, er_warm, h]
  rw [begin_w, begin_w]
  unfold s_bw
  rw [er_su (by decide) (by decide) (by decide) (by decide), er_su (by decide) (by decide) (by decide) (by decide), er_beg0 hw, er_f (k := 20) hw (by decide) (by decide) (by decide) (by decide), er_f (k := 10) hw (by decide) (by decide) (by decide) (by decide)]
