/-- what the law asks of a helper: the reference's answer b, its state S' -/
def hP (b : Int32) (S' : rS) : Int32 → Int64 → rS → Prop := fun r v T' => (∃ nc nm, Inv S' T' nc nm) ∧ r = S'.1 0 0 ∧ (r = 0 → v = b.toInt64)
def hPl (b : Int64) (S' : rS) : Int32 → Int64 → rS → Prop := fun r v T' => (∃ nc nm, Inv S' T' nc nm) ∧ r = S'.1 0 0 ∧ (r = 0 → v = b)
def hPz (b : Int32) (S' : rS) : Int32 → Int64 → rS → Prop := fun r v T' => (∃ nc nm, Inv S' T' nc nm) ∧ r = S'.1 0 0 ∧ (r = 0 → v = if b = 0 then 0 else 1)
theorem hQ.mono {V : gV} {ad : gA} {E : gE} {P P2 : Int32 → Int64 → rS → Prop} (hp : ∀ r v T', P r v T' → P2 r v T') (r : Int32) (ad' : gA) (E' : gE) (h : hQ V ad E P r ad' E') : hQ V ad E P2 r ad' E' := by
  obtain ⟨h1, h2, h3, T', g', h4, h5, h6⟩ := h
  exact ⟨h1, h2, h3, T', g', h4, h5, hp _ _ _ h6⟩
theorem hP_x {S T : rS} {nc nm : Nat} {b : Int32} {k : Int32} (hV : Inv S T nc nm) (hk : k ≠ 0) (r : Int32) (v : Int64) (T' : rS) (h : r = k ∧ T' = T) : hP b (su (su S 0 (fun _ => 0)) 0 (fun _ => k)) r v T' := by
  obtain ⟨rfl, rfl⟩ := h
  exact ⟨⟨nc, nm, Inv_0 _ (Inv_0 _ hV)⟩, rfl, fun z => absurd z hk⟩
theorem hPl_x {S T : rS} {nc nm : Nat} {b : Int64} {k : Int32} (hV : Inv S T nc nm) (hk : k ≠ 0) (r : Int32) (v : Int64) (T' : rS) (h : r = k ∧ T' = T) : hPl b (su (su S 0 (fun _ => 0)) 0 (fun _ => k)) r v T' := by
  obtain ⟨rfl, rfl⟩ := h
  exact ⟨⟨nc, nm, Inv_0 _ (Inv_0 _ hV)⟩, rfl, fun z => absurd z hk⟩
theorem hPz_x {S T : rS} {nc nm : Nat} {b : Int32} {k : Int32} (hV : Inv S T nc nm) (hk : k ≠ 0) (r : Int32) (v : Int64) (T' : rS) (h : r = k ∧ T' = T) : hPz b (su (su S 0 (fun _ => 0)) 0 (fun _ => k)) r v T' := by
  obtain ⟨rfl, rfl⟩ := h
  exact ⟨⟨nc, nm, Inv_0 _ (Inv_0 _ hV)⟩, rfl, fun z => absurd z hk⟩
/-! no call within an execution is refused -/
theorem s0_step {S : rS} {f : Nat} : (sp_step S f).1 0 = S.1 0 := by
  have hs : ∀ {X : rS} {m q : Nat}, (sp_send X f m q).1 0 = X.1 0 := fun {X m q} => by
    unfold sp_send
    split
    · rfl
    · split
      · rfl
      · unfold sp_sen2
        split
        · exact sp_meet_f (by decide) (by decide) (by decide) (by decide) (by decide) (by decide) (by decide)
        · refine Eq.trans (b := (sp_begin _ _ _ _ _).1 0) rfl ?_
          rw [sp_begin_f (by decide) (by decide) (by decide) (by decide) (by decide) (by decide) (by decide) (by decide) (by decide) (by decide) (by decide) (by decide)]
          exact sp_meet_f (by decide) (by decide) (by decide) (by decide) (by decide) (by decide) (by decide)
  have hx : ∀ {X : rS} {m q k : Nat}, (sp_ex X f m q k).1 0 = X.1 0 := fun {X m q k} => by
    match k with
    | 0 => rfl
    | 1 => show (sp_calc X f m q _).1 0 = _; unfold sp_calc; split <;> rfl
    | 2 => show (sp_calc X f m q _).1 0 = _; unfold sp_calc; split <;> rfl
    | 3 => show (sp_calc X f m q _).1 0 = _; unfold sp_calc; split <;> rfl
    | 4 => rfl
    | 5 => exact hs
    | 6 =>
      show (sp_less X f m q).1 0 = _
      unfold sp_less
      split
      · split
        · exact sp_goTo_f (by decide) (by decide) (by decide) (by decide) (by decide) (by decide) (by decide)
        · rfl
      · rfl
    | 7 => exact sp_goTo_f (by decide) (by decide) (by decide) (by decide) (by decide) (by decide) (by decide)
    | n + 8 => exact sp_finish_f (by decide) (by decide) (by decide) (by decide) (by decide) (by decide)
  unfold sp_step
  rw [hx]
  rfl
theorem s0_loop (mo : Nat) : ∀ (n : Nat) (S : rS), S.1 0 0 = 0 → (sp_loop mo n S).1 0 0 = 0
  | 0, S, h => h
  | n + 1, S, h => by
    unfold sp_loop
    split
    · exact h
    · refine s0_loop mo n _ ?_
      unfold sp_one
      split
      · rw [s0_step]; exact h
      · rw [sp_finish_f (by decide) (by decide) (by decide) (by decide) (by decide) (by decide)]; exact h
theorem s0_run0 {S : rS} {m : Nat} {v : Int32} : (s_run0 S m v).1 0 0 = 0 := by
  unfold s_run0
  rw [sp_begin_f (by decide) (by decide) (by decide) (by decide) (by decide) (by decide) (by decide) (by decide) (by decide) (by decide) (by decide) (by decide)]
  rfl
theorem hh_addClass (l : Launch) (hST : l.stackTraces = false) (V : gV) (ad : gA) (E : gE) (S T : rS) (nc nm : Nat) (hV : Inv S T nc nm) (hO : cmOK V ad T E) (g : Nat → Int64) (e60 : E 60 0 0 = some (gOut V g)) (x : Int32) : gMh l yL_addClass cL_addClass 4 [(0, 9, 12, 13), (0, 9, 15, 15)] ({ frames := 9, cells := 6, slots := 41, locals := 215 } : Room) [.ref (ad 0 0 0), .int x, .ref (ad 60 0 0)] V ad E (hQ V ad E (hP (o_addClass (su S 0 (fun _ => 0)) x).1 (o_addClass (su S 0 (fun _ => 0)) x).2)) := by
  have he := hV.2.2.2.2
  have hI := Inv_T hV
  have hnm := hI.2.2.2.1
  have hnc := hI.2.1.1
  have hZ := Inv_0 (fun _ => 0) hV
  obtain ⟨Z, hZd⟩ : ∃ Z, Z = su S 0 (fun _ => 0) := ⟨_, rfl⟩
  have heZ : er T = er Z := by rw [hZd, er_0]; exact he
  by_cases h1 : x ≠ -1 ∧ ¬ s_isC Z x
  · rw [show o_addClass (su S 0 (fun _ => 0)) x = _ from if_pos (hZd ▸ h1)]
    exact (h_addClass_x1 l hST V ad E T hO g e60 x h1.1 (fun z => h1.2 ((isC_er heZ).mp z))).mono (hQ.mono (hP_x hV (by decide)))
  · have hx : x = -1 ∨ s_isC Z x := by
      by_cases e : x = -1
      · exact Or.inl e
      · exact Or.inr (Decidable.byContradiction fun z => h1 ⟨e, z⟩)
    have hxT : x = -1 ∨ s_isC T x := hx.imp id (isC_er heZ).mpr
    by_cases h2 : nc = 8
    · subst h2
      rw [show o_addClass (su S 0 (fun _ => 0)) x = _ from (if_neg (hZd ▸ h1)).trans (if_pos (show S.1 1 0 = 8 from hV.1.1))]
      exact (h_addClass_x2 l hST V ad E T hO g e60 nm hI x hxT).mono (hQ.mono (hP_x hV (by decide)))
    · have h3 : ¬ (su S 0 (fun _ => 0)).1 1 0 = 8 := fun z => h2 ((nI_eq (by omega) (by decide)).mp (hV.1.1.symm.trans z))
      rw [show o_addClass (su S 0 (fun _ => 0)) x = _ from (if_neg (hZd ▸ h1)).trans (if_neg h3)]
      refine (h_addClass_ok l hST V ad E T hO g e60 nc nm hI (by omega) x hxT).mono (hQ.mono ?_)
      rintro r v T' ⟨rfl, rr, h4, h5, h6⟩
      have e1 : (su S 0 (fun _ => 0)).1 1 0 = nI nc := hV.1.1
      refine ⟨⟨nc + 1, nm, ?_⟩, rfl, fun _ => by rw [h4, h5]; exact congrArg Int32.toInt64 e1.symm⟩
      show Inv (su (s_imr (su (su S 0 (fun _ => 0)) 2 (va_up ((su S 0 (fun _ => 0)).1 2) (tn ((su S 0 (fun _ => 0)).1 1 0)) x)) (tn ((su S 0 (fun _ => 0)).1 1 0)) 6) 1 (fun _ => (su S 0 (fun _ => 0)).1 1 0 + 1)) T' (nc + 1) nm
      rw [e1, tn_nI (by omega), nI_1, h6]
      exact op_addC hZ (by omega) (hZd ▸ hx)
theorem hh_addMethod (l : Launch) (hST : l.stackTraces = false) (V : gV) (ad : gA) (E : gE) (S T : rS) (nc nm : Nat) (hV : Inv S T nc nm) (hO : cmOK V ad T E) (g : Nat → Int64) (e60 : E 60 0 0 = some (gOut V g))  : gMh l yL_addMethod cL_addMethod 3 [(0, 8, 11, 15)] ({ frames := 9, cells := 6, slots := 41, locals := 215 } : Room) [.ref (ad 0 0 0), .ref (ad 60 0 0)] V ad E (hQ V ad E (hP (o_addMethod (su S 0 (fun _ => 0))).1 (o_addMethod (su S 0 (fun _ => 0))).2)) := by
  have he := hV.2.2.2.2
  have hI := Inv_T hV
  have hnm := hI.2.2.2.1
  have hnc := hI.2.1.1
  have hZ := Inv_0 (fun _ => 0) hV
  obtain ⟨Z, hZd⟩ : ∃ Z, Z = su S 0 (fun _ => 0) := ⟨_, rfl⟩
  have heZ : er T = er Z := by rw [hZd, er_0]; exact he
  have e4 : (su S 0 (fun _ => 0)).1 4 0 = nI nm := hV.1.2.2.1
  by_cases h2 : nm = 12
  · subst h2
    rw [show o_addMethod (su S 0 (fun _ => 0)) = _ from if_pos e4]
    exact (h_addMethod_x1 l hST V ad E T hO g e60 nc hI).mono (hQ.mono (hP_x hV (by decide)))
  · rw [show o_addMethod (su S 0 (fun _ => 0)) = _ from if_neg (fun z => h2 ((nI_eq (by omega) (by decide)).mp (e4.symm.trans z)))]
    obtain ⟨m1, m2, m3⟩ := hV.2.2.2.1 nm (Nat.le_refl _)
    refine (h_addMethod_ok l hST V ad E T hO g e60 nc nm hI (by omega) (by rw [er_f (k := 10) he (by decide) (by decide) (by decide) (by decide)]; exact m1) (by rw [er_f (k := 11) he (by decide) (by decide) (by decide) (by decide)]; exact m2) (by rw [er_f (k := 12) he (by decide) (by decide) (by decide) (by decide)]; exact m3)).mono (hQ.mono ?_)
    rintro r v T' ⟨rfl, rr, h4, h5, h6⟩
    refine ⟨⟨nc, nm + 1, ?_⟩, rfl, fun _ => by rw [h4, h5]; exact congrArg Int32.toInt64 e4.symm⟩
    show Inv (su (su S 0 (fun _ => 0)) 4 (fun _ => (su S 0 (fun _ => 0)).1 4 0 + 1)) T' nc (nm + 1)
    rw [e4, nI_1, h6]
    exact op_addM hZ (by omega)
theorem hh_append (l : Launch) (hST : l.stackTraces = false) (V : gV) (ad : gA) (E : gE) (S T : rS) (nc nm : Nat) (hV : Inv S T nc nm) (hO : cmOK V ad T E) (g : Nat → Int64) (e60 : E 60 0 0 = some (gOut V g)) (x k a b c_ d : Int32) : gMh l yL_append cL_append 9 [(0, 18, 21, 13), (0, 18, 25, 25), (0, 18, 29, 15)] ({ frames := 9, cells := 6, slots := 41, locals := 215 } : Room) [.ref (ad 0 0 0), .int x, .int k, .int a, .int b, .int c_, .int d, .ref (ad 60 0 0)] V ad E (hQ V ad E (hP (o_append (su S 0 (fun _ => 0)) x k a b c_ d).1 (o_append (su S 0 (fun _ => 0)) x k a b c_ d).2)) := by
  have he := hV.2.2.2.2
  have hI := Inv_T hV
  have hnm := hI.2.2.2.1
  have hnc := hI.2.1.1
  have hZ := Inv_0 (fun _ => 0) hV
  obtain ⟨Z, hZd⟩ : ∃ Z, Z = su S 0 (fun _ => 0) := ⟨_, rfl⟩
  have heZ : er T = er Z := by rw [hZd, er_0]; exact he
  by_cases h1 : s_isM Z x
  · obtain ⟨m, hm, rfl⟩ := isM_n (hZd ▸ hV.1.2.2.1 : Z.1 4 0 = nI nm) hnm h1
    have tm : tn (nI m) = m := tn_nI (by omega)
    obtain ⟨z, hz20, h5, -, -⟩ := hV.1.2.2.2.2.2.1 m (by omega)
    have e5 : (su S 0 (fun _ => 0)).1 5 (tn (nI m)) = nI z := by rw [tm]; exact h5
    have e5T : csz T m = z := by unfold csz; rw [er_f (k := 5) he (by decide) (by decide) (by decide) (by decide), h5]; exact tn_nI (by omega)
    by_cases h2 : s_fit Z k a b c_ d
    · have h2T : s_fit T k a b c_ d := (s_fit_er heZ).mpr h2
      by_cases h3 : z = 20
      · rw [show o_append (su S 0 (fun _ => 0)) (nI m) k a b c_ d = _ from (if_neg (fun w => w (hZd ▸ h1))).trans ((if_neg (fun w => w (hZd ▸ h2))).trans (if_pos (by rw [e5, h3]; rfl)))]
        exact (h_append_x3 l hST V ad E T hO g e60 nc nm hI m hm k a b c_ d h2T (by omega)).mono (hQ.mono (hP_x hV (by decide)))
      · rw [show o_append (su S 0 (fun _ => 0)) (nI m) k a b c_ d = _ from (if_neg (fun w => w (hZd ▸ h1))).trans ((if_neg (fun w => w (hZd ▸ h2))).trans (if_neg (fun w => h3 ((nI_eq (by omega) (by decide)).mp (e5.symm.trans w)))))]
        refine (h_append_ok l hST V ad E T hO g e60 nc nm m z hI (rU_congr (S := S) (er_f he (by decide) (by decide) (by decide) (by decide)) (er_f he (by decide) (by decide) (by decide) (by decide)) (er_f he (by decide) (by decide) (by decide) (by decide)) (er_f he (by decide) (by decide) (by decide) (by decide)) hV.2.1.2) hm e5T (by omega) k a b c_ d h2T).mono (hQ.mono ?_)
        rintro r v T' ⟨rfl, rr, h4, h6, h7⟩
        refine ⟨⟨nc, nm, ?_⟩, rfl, fun _ => by rw [h4, h6]; exact congrArg Int32.toInt64 e5.symm⟩
        show Inv (sp_unlearn (su (s_in5 (su S 0 (fun _ => 0)) (5 * (20 * tn (nI m) + tn ((su S 0 (fun _ => 0)).1 5 (tn (nI m))))) k a b c_ d) 5 (va_up ((su S 0 (fun _ => 0)).1 5) (tn (nI m)) ((su S 0 (fun _ => 0)).1 5 (tn (nI m)) + 1))) (tn (nI m))) T' nc nm
        rw [e5, tm, tn_nI (by omega), nI_1, h7]
        exact op_app hZ hm (by rw [← tm, e5]; exact tn_nI (by omega)) (by omega) (hZd ▸ h2)
    · rw [show o_append (su S 0 (fun _ => 0)) (nI m) k a b c_ d = _ from (if_neg (fun w => w (hZd ▸ h1))).trans (if_pos (hZd ▸ h2))]
      exact (h_append_x2 l hST V ad E T hO g e60 nc nm hI m hm k a b c_ d (fun w => h2 ((s_fit_er heZ).mp w))).mono (hQ.mono (hP_x hV (by decide)))
  · rw [show o_append (su S 0 (fun _ => 0)) x k a b c_ d = _ from if_pos (hZd ▸ h1)]
    exact (h_append_x1 l hST V ad E T hO g e60 nc nm hI x (fun w => h1 ((isM_er heZ).mp w)) k a b c_ d).mono (hQ.mono (hP_x hV (by decide)))
theorem hh_implement (l : Launch) (hST : l.stackTraces = false) (V : gV) (ad : gA) (E : gE) (S T : rS) (nc nm : Nat) (hV : Inv S T nc nm) (hO : cmOK V ad T E) (g : Nat → Int64) (e60 : E 60 0 0 = some (gOut V g)) (x y w_ : Int32) : gMh l yL_implement cL_implement 6 [(0, 12, 15, 13)] ({ frames := 9, cells := 6, slots := 41, locals := 215 } : Room) [.ref (ad 0 0 0), .int x, .int y, .int w_, .ref (ad 60 0 0)] V ad E (hQ V ad E (hP (o_implement (su S 0 (fun _ => 0)) x y w_).1 (o_implement (su S 0 (fun _ => 0)) x y w_).2)) := by
  have he := hV.2.2.2.2
  have hI := Inv_T hV
  have hnm := hI.2.2.2.1
  have hnc := hI.2.1.1
  have hZ := Inv_0 (fun _ => 0) hV
  obtain ⟨Z, hZd⟩ : ∃ Z, Z = su S 0 (fun _ => 0) := ⟨_, rfl⟩
  have heZ : er T = er Z := by rw [hZd, er_0]; exact he
  have e1 : (su S 0 (fun _ => 0)).1 1 0 = nI nc := hV.1.1
  have e4 : (su S 0 (fun _ => 0)).1 4 0 = nI nm := hV.1.2.2.1
  by_cases h1 : s_isC Z x ∧ s_sl y
  · obtain ⟨c_, hc, rfl⟩ := isC_n (hZd ▸ hV.1.1 : Z.1 1 0 = nI nc) hnc h1.1
    obtain ⟨g_, hg, rfl⟩ := sl_n h1.2
    by_cases h2 : w_ = -1 ∨ s_isM Z w_
    · rw [show o_implement (su S 0 (fun _ => 0)) (nI c_) (nI g_) w_ = _ from if_pos (hZd ▸ ⟨h1.1, h1.2, h2⟩)]
      refine (h_implement_ok l hST V ad E T hO g e60 c_ g_ nc nm hI hc hg w_ (h2.imp id (isM_er heZ).mpr)).mono (hQ.mono ?_)
      rintro r v T' ⟨rfl, rr, h4, h6, h7⟩
      rw [e1, e4, tn_nI (by omega), tn_nI (by omega), tn_nI (by omega), tn_nI (by omega)]
      obtain ⟨k1, k2⟩ := op_imp hZ hc hg (hZd ▸ h2 : w_ = -1 ∨ s_isM (su S 0 (fun _ => 0)) w_)
      refine ⟨⟨nc, nm, by rw [h7]; exact k2⟩, ?_, fun _ => by rw [h4, h6, k1]⟩
      show (0 : Int32) = (o_imp2 (su S 0 (fun _ => 0)) c_ g_ nc nm w_).1.1 0 0
      unfold o_imp2
      rw [s_il_f (by decide) (by decide)]
      rfl
    · rw [show o_implement (su S 0 (fun _ => 0)) (nI c_) (nI g_) w_ = _ from if_neg (fun w => h2 (hZd ▸ w.2.2))]
      exact (h_implement_x2 l hST V ad E T hO g e60 nc nm hI c_ g_ hc hg w_ (fun w => h2 (Or.inl w)) (fun w => h2 (Or.inr ((isM_er heZ).mp w)))).mono (hQ.mono (hP_x hV (by decide)))
  · rw [show o_implement (su S 0 (fun _ => 0)) x y w_ = _ from if_neg (fun w => h1 (hZd ▸ ⟨w.1, w.2.1⟩))]
    exact (h_implement_x1 l hST V ad E T hO g e60 x y w_ (fun w => h1 ⟨(isC_er heZ).mp w.1, w.2⟩)).mono (hQ.mono (hP_x hV (by decide)))
theorem hh_understands (l : Launch) (hST : l.stackTraces = false) (V : gV) (ad : gA) (E : gE) (S T : rS) (nc nm : Nat) (hV : Inv S T nc nm) (hO : cmOK V ad T E) (g : Nat → Int64) (e60 : E 60 0 0 = some (gOut V g)) (x y : Int32) : gMh l yL_understands cL_understands 5 [(0, 10, 13, 13)] ({ frames := 9, cells := 6, slots := 41, locals := 215 } : Room) [.ref (ad 0 0 0), .int x, .int y, .ref (ad 60 0 0)] V ad E (hQ V ad E (hP (o_understands (su S 0 (fun _ => 0)) x y).1 (o_understands (su S 0 (fun _ => 0)) x y).2)) := by
  have he := hV.2.2.2.2
  have hI := Inv_T hV
  have hnm := hI.2.2.2.1
  have hnc := hI.2.1.1
  have hZ := Inv_0 (fun _ => 0) hV
  obtain ⟨Z, hZd⟩ : ∃ Z, Z = su S 0 (fun _ => 0) := ⟨_, rfl⟩
  have heZ : er T = er Z := by rw [hZd, er_0]; exact he
  by_cases h1 : s_isC Z x ∧ s_sl y
  · rw [show o_understands (su S 0 (fun _ => 0)) x y = _ from if_pos (hZd ▸ h1)]
    obtain ⟨c_, hc, rfl⟩ := isC_n (hZd ▸ hV.1.1 : Z.1 1 0 = nI nc) hnc h1.1
    obtain ⟨g_, hg, rfl⟩ := sl_n h1.2
    refine (h_understands_ok l hST V ad E T hO g e60 c_ g_ nc nm hI hc hg).mono (hQ.mono ?_)
    rintro r v T' ⟨rfl, rr, h4, h6, h7⟩
    refine ⟨⟨nc, nm, by rw [h7]; exact hZ⟩, rfl, fun _ => ?_⟩
    rw [h4, h6, tn_nI (by omega), tn_nI (by omega), s_und_congr (er_f (k := 2) heZ (by decide) (by decide) (by decide) (by decide)) (er_f (k := 3) heZ (by decide) (by decide) (by decide) (by decide)), hZd]
  · rw [show o_understands (su S 0 (fun _ => 0)) x y = _ from if_neg (hZd ▸ h1)]
    exact (h_understands_x1 l hST V ad E T hO g e60 x y (fun w => h1 ⟨(isC_er heZ).mp w.1, w.2⟩)).mono (hQ.mono (hP_x hV (by decide)))
theorem hh_setPolicy (l : Launch) (hST : l.stackTraces = false) (V : gV) (ad : gA) (E : gE) (S T : rS) (nc nm : Nat) (hV : Inv S T nc nm) (hO : cmOK V ad T E) (g : Nat → Int64) (e60 : E 60 0 0 = some (gOut V g)) (a b c_ : Int32) : gMh l yL_setPolicy cL_setPolicy 6 [(0, 19, 22, 25)] ({ frames := 9, cells := 6, slots := 41, locals := 215 } : Room) [.ref (ad 0 0 0), .int a, .int b, .int c_, .ref (ad 60 0 0)] V ad E (hQ V ad E (hPz (o_setPolicy (su S 0 (fun _ => 0)) a b c_).1 (o_setPolicy (su S 0 (fun _ => 0)) a b c_).2)) := by
  have he := hV.2.2.2.2
  have hI := Inv_T hV
  have hnm := hI.2.2.2.1
  have hnc := hI.2.1.1
  have hZ := Inv_0 (fun _ => 0) hV
  obtain ⟨Z, hZd⟩ : ∃ Z, Z = su S 0 (fun _ => 0) := ⟨_, rfl⟩
  have heZ : er T = er Z := by rw [hZd, er_0]; exact he
  by_cases h1 : s_pok a b c_
  · rw [show o_setPolicy (su S 0 (fun _ => 0)) a b c_ = _ from if_pos h1]
    refine (h_setPolicy_ok l hST V ad E T hO g e60 a b c_ h1).mono (hQ.mono ?_)
    rintro r v T' ⟨rfl, rr, h4, h6, h7⟩
    refine ⟨⟨nc, nm, by rw [h7]; exact op_pol hZ⟩, rfl, fun _ => ?_⟩
    rw [h4, h6, er_f (k := 7) he (by decide) (by decide) (by decide) (by decide), er_f (k := 8) he (by decide) (by decide) (by decide) (by decide), er_f (k := 9) he (by decide) (by decide) (by decide) (by decide)]
    rfl
  · rw [show o_setPolicy (su S 0 (fun _ => 0)) a b c_ = _ from if_neg h1]
    exact (h_setPolicy_x1 l hST V ad E T hO g e60 a b c_ h1).mono (hQ.mono (hPz_x hV (by decide)))
theorem hh_run (l : Launch) (hST : l.stackTraces = false) (V : gV) (ad : gA) (E : gE) (S T : rS) (nc nm : Nat) (hV : Inv S T nc nm) (hO : cmOK V ad T E) (g : Nat → Int64) (e60 : E 60 0 0 = some (gOut V g)) (x v_ y : Int32) : gMh l yL_run cL_run 6 [(0, 12, 15, 13), (0, 12, 19, 25)] ({ frames := 9, cells := 6, slots := 41, locals := 215 } : Room) [.ref (ad 0 0 0), .int x, .int v_, .int y, .ref (ad 60 0 0)] V ad E (hQ V ad E (fun r v T' => ∀ (b : Int32) (S2 : rS), sp_run S nc nm x v_ y b S2 → hP b S2 r v T')) := by
  have he := hV.2.2.2.2
  have hI := Inv_T hV
  have hnm := hI.2.2.2.1
  have hnc := hI.2.1.1
  have hZ := Inv_0 (fun _ => 0) hV
  obtain ⟨Z, hZd⟩ : ∃ Z, Z = su S 0 (fun _ => 0) := ⟨_, rfl⟩
  have heZ : er T = er Z := by rw [hZd, er_0]; exact he
  by_cases h1 : s_isM S x
  · obtain ⟨m, hm, rfl⟩ := isM_n hV.1.2.2.1 hnm h1
    by_cases h2 : y < 0 ∨ 2000 < y
    · refine (h_run_x2 l hST V ad E T hO g e60 nc nm hI m hm v_ y h2).mono (hQ.mono ?_)
      rintro r v T' ⟨rfl, rfl⟩ b S2 hr
      rcases hr with ⟨k1, -, -⟩ | ⟨-, -, -, k3⟩ | ⟨m2, mo, -, k2, -, k3, -⟩
      · exact absurd h1 k1
      · rw [k3]
        exact ⟨⟨nc, nm, Inv_0 _ hV⟩, rfl, fun z => absurd z (by decide)⟩
      · rw [k3] at h2
        rcases h2 with h2 | h2
        · exact absurd h2 (nI_pos (by omega))
        · have := nI_ltn (a := 2000) (by decide) (by omega) h2
          omega
    · obtain ⟨mo, hmo, rfl⟩ := nI_of (fun z => h2 (Or.inl z))
      have hmo2 : mo ≤ 2000 := Nat.le_of_not_lt (fun z => h2 (Or.inr (nI_lt (a := 2000) z hmo)))
      refine (h_run_ok l hST V ad E T hO g e60 S nc nm m mo hV.1 hV.2.1 he hm hmo2 v_).mono (hQ.mono ?_)
      rintro r v T' ⟨rfl, rr, h4, S', k1, k2, k3, k4, k5⟩ b S2 hr
      rcases hr with ⟨j1, -, -⟩ | ⟨-, j2, -, -⟩ | ⟨m2, mo2, j1, j2, j3, j4, j5, j6, j7⟩
      · exact absurd h1 j1
      · exact absurd j2 h2
      · have e1 : m2 = m := (nI_eq (by omega) (by omega)).mp j3.symm
        have e2 : mo2 = mo := (nI_eq (by omega) hmo).mp j4.symm
        subst e1
        subst e2
        have e3 := runR_det j5 k1
        subst e3
        obtain ⟨x1, x2⟩ := rX_run hV.1 hm hV.2.2.2.1 j5
        refine ⟨⟨nc, nm, k3, k4, x1, x2, k5⟩, ?_, fun _ => by rw [h4, k2, j6]⟩
        obtain ⟨⟨n, hn⟩, -⟩ := j5
        rw [← hn]
        exact (s0_loop mo2 n _ s0_run0).symm
  · refine (h_run_x1 l hST V ad E T hO g e60 nc nm hI x v_ y (fun w => h1 ((isM_er he).mp w))).mono (hQ.mono ?_)
    rintro r v T' ⟨rfl, rfl⟩ b S2 hr
    rcases hr with ⟨-, -, k3⟩ | ⟨k1, -⟩ | ⟨m2, mo, k1, -, k2, -⟩
    · rw [k3]
      exact ⟨⟨nc, nm, Inv_0 _ hV⟩, rfl, fun z => absurd z (by decide)⟩
    · exact absurd k1 h1
    · exact absurd (by rw [k2]; exact ⟨nI_pos (by omega), by rw [hV.1.2.2.1]; exact nI_lt k1 (by omega)⟩) h1
theorem hh_total (l : Launch) (hST : l.stackTraces = false) (V : gV) (ad : gA) (E : gE) (S T : rS) (nc nm : Nat) (hV : Inv S T nc nm) (hO : cmOK V ad T E) (g : Nat → Int64) (e60 : E 60 0 0 = some (gOut V g)) (x : Int32) : gMh l yL_total cL_total 4 [(0, 8, 11, 13)] ({ frames := 9, cells := 6, slots := 41, locals := 215 } : Room) [.ref (ad 0 0 0), .int x, .ref (ad 60 0 0)] V ad E (hQ V ad E (hPl (o_total (su S 0 (fun _ => 0)) x).1 (o_total (su S 0 (fun _ => 0)) x).2)) := by
  have he := hV.2.2.2.2
  have hI := Inv_T hV
  have hnm := hI.2.2.2.1
  have hnc := hI.2.1.1
  have hZ := Inv_0 (fun _ => 0) hV
  obtain ⟨Z, hZd⟩ : ∃ Z, Z = su S 0 (fun _ => 0) := ⟨_, rfl⟩
  have heZ : er T = er Z := by rw [hZd, er_0]; exact he
  by_cases h1 : ¬ x < 0 ∧ x ≤ 3
  · rw [show o_total (su S 0 (fun _ => 0)) x = _ from if_pos h1]
    obtain ⟨n, hn, rfl⟩ := nI_of h1.1
    have hn4 : n < 4 := by
      have h2 := h1.2
      rw [Int32.le_iff_toInt_le, nI_toInt hn] at h2
      have e : (3 : Int32).toInt = 3 := rfl
      omega
    refine (h_total_ok l hST V ad E T hO g e60 n hn4).mono (hQ.mono ?_)
    rintro r v T' ⟨rfl, h4, h7⟩
    refine ⟨⟨nc, nm, by rw [h7]; exact hZ⟩, rfl, fun _ => ?_⟩
    rw [h4, tn_nI hn, er_2 he]
    rfl
  · rw [show o_total (su S 0 (fun _ => 0)) x = _ from if_neg h1]
    exact (h_total_x1 l hST V ad E T hO g e60 x h1).mono (hQ.mono (hPl_x hV (by decide)))
theorem hh_tier (l : Launch) (hST : l.stackTraces = false) (V : gV) (ad : gA) (E : gE) (S T : rS) (nc nm : Nat) (hV : Inv S T nc nm) (hO : cmOK V ad T E) (g : Nat → Int64) (e60 : E 60 0 0 = some (gOut V g)) (x : Int32) : gMh l yL_tier cL_tier 4 [(0, 9, 12, 13)] ({ frames := 9, cells := 6, slots := 41, locals := 215 } : Room) [.ref (ad 0 0 0), .int x, .ref (ad 60 0 0)] V ad E (hQ V ad E (hP (o_at (su S 0 (fun _ => 0)) 10 x).1 (o_at (su S 0 (fun _ => 0)) 10 x).2)) := by
  have he := hV.2.2.2.2
  have hI := Inv_T hV
  have hnm := hI.2.2.2.1
  have hnc := hI.2.1.1
  have hZ := Inv_0 (fun _ => 0) hV
  obtain ⟨Z, hZd⟩ : ∃ Z, Z = su S 0 (fun _ => 0) := ⟨_, rfl⟩
  have heZ : er T = er Z := by rw [hZd, er_0]; exact he
  by_cases h1 : s_isM Z x
  · rw [show o_at (su S 0 (fun _ => 0)) 10 x = _ from if_pos (hZd ▸ h1)]
    obtain ⟨m, hm, rfl⟩ := isM_n (hZd ▸ hV.1.2.2.1 : Z.1 4 0 = nI nm) hnm h1
    have ecn := rI_cnm hI
    refine (h_tier_ok l hST V ad E T hO g e60 m (by omega) (by omega)).mono (hQ.mono ?_)
    rintro r v T' ⟨rfl, rr, h4, h6, h7⟩
    refine ⟨⟨nc, nm, by rw [h7]; exact hZ⟩, rfl, fun _ => ?_⟩
    rw [h4, h6, tn_nI (by omega), er_f (k := 10) heZ (by decide) (by decide) (by decide) (by decide), hZd]
  · rw [show o_at (su S 0 (fun _ => 0)) 10 x = _ from if_neg (hZd ▸ h1)]
    exact (h_tier_x1 l hST V ad E T hO g e60 nc nm hI x (fun w => h1 ((isM_er heZ).mp w))).mono (hQ.mono (hP_x hV (by decide)))
theorem hh_heat (l : Launch) (hST : l.stackTraces = false) (V : gV) (ad : gA) (E : gE) (S T : rS) (nc nm : Nat) (hV : Inv S T nc nm) (hO : cmOK V ad T E) (g : Nat → Int64) (e60 : E 60 0 0 = some (gOut V g)) (x : Int32) : gMh l yL_heat cL_heat 4 [(0, 9, 12, 13)] ({ frames := 9, cells := 6, slots := 41, locals := 215 } : Room) [.ref (ad 0 0 0), .int x, .ref (ad 60 0 0)] V ad E (hQ V ad E (hP (o_at (su S 0 (fun _ => 0)) 11 x).1 (o_at (su S 0 (fun _ => 0)) 11 x).2)) := by
  have he := hV.2.2.2.2
  have hI := Inv_T hV
  have hnm := hI.2.2.2.1
  have hnc := hI.2.1.1
  have hZ := Inv_0 (fun _ => 0) hV
  obtain ⟨Z, hZd⟩ : ∃ Z, Z = su S 0 (fun _ => 0) := ⟨_, rfl⟩
  have heZ : er T = er Z := by rw [hZd, er_0]; exact he
  by_cases h1 : s_isM Z x
  · rw [show o_at (su S 0 (fun _ => 0)) 11 x = _ from if_pos (hZd ▸ h1)]
    obtain ⟨m, hm, rfl⟩ := isM_n (hZd ▸ hV.1.2.2.1 : Z.1 4 0 = nI nm) hnm h1
    have ecn := rI_cnm hI
    refine (h_heat_ok l hST V ad E T hO g e60 m (by omega) (by omega)).mono (hQ.mono ?_)
    rintro r v T' ⟨rfl, rr, h4, h6, h7⟩
    refine ⟨⟨nc, nm, by rw [h7]; exact hZ⟩, rfl, fun _ => ?_⟩
    rw [h4, h6, tn_nI (by omega), er_f (k := 11) heZ (by decide) (by decide) (by decide) (by decide), hZd]
  · rw [show o_at (su S 0 (fun _ => 0)) 11 x = _ from if_neg (hZd ▸ h1)]
    exact (h_heat_x1 l hST V ad E T hO g e60 nc nm hI x (fun w => h1 ((isM_er heZ).mp w))).mono (hQ.mono (hP_x hV (by decide)))
theorem hh_disappointments (l : Launch) (hST : l.stackTraces = false) (V : gV) (ad : gA) (E : gE) (S T : rS) (nc nm : Nat) (hV : Inv S T nc nm) (hO : cmOK V ad T E) (g : Nat → Int64) (e60 : E 60 0 0 = some (gOut V g)) (x : Int32) : gMh l yL_disappointments cL_disappointments 4 [(0, 9, 12, 13)] ({ frames := 9, cells := 6, slots := 41, locals := 215 } : Room) [.ref (ad 0 0 0), .int x, .ref (ad 60 0 0)] V ad E (hQ V ad E (hP (o_at (su S 0 (fun _ => 0)) 12 x).1 (o_at (su S 0 (fun _ => 0)) 12 x).2)) := by
  have he := hV.2.2.2.2
  have hI := Inv_T hV
  have hnm := hI.2.2.2.1
  have hnc := hI.2.1.1
  have hZ := Inv_0 (fun _ => 0) hV
  obtain ⟨Z, hZd⟩ : ∃ Z, Z = su S 0 (fun _ => 0) := ⟨_, rfl⟩
  have heZ : er T = er Z := by rw [hZd, er_0]; exact he
  by_cases h1 : s_isM Z x
  · rw [show o_at (su S 0 (fun _ => 0)) 12 x = _ from if_pos (hZd ▸ h1)]
    obtain ⟨m, hm, rfl⟩ := isM_n (hZd ▸ hV.1.2.2.1 : Z.1 4 0 = nI nm) hnm h1
    have ecn := rI_cnm hI
    refine (h_disappointments_ok l hST V ad E T hO g e60 m (by omega) (by omega)).mono (hQ.mono ?_)
    rintro r v T' ⟨rfl, rr, h4, h6, h7⟩
    refine ⟨⟨nc, nm, by rw [h7]; exact hZ⟩, rfl, fun _ => ?_⟩
    rw [h4, h6, tn_nI (by omega), er_f (k := 12) heZ (by decide) (by decide) (by decide) (by decide), hZd]
  · rw [show o_at (su S 0 (fun _ => 0)) 12 x = _ from if_neg (hZd ▸ h1)]
    exact (h_disappointments_x1 l hST V ad E T hO g e60 nc nm hI x (fun w => h1 ((isM_er heZ).mp w))).mono (hQ.mono (hP_x hV (by decide)))
theorem hh_met (l : Launch) (hST : l.stackTraces = false) (V : gV) (ad : gA) (E : gE) (S T : rS) (nc nm : Nat) (hV : Inv S T nc nm) (hO : cmOK V ad T E) (g : Nat → Int64) (e60 : E 60 0 0 = some (gOut V g)) (x y : Int32) : gMh l yL_met cL_met 5 [(0, 10, 13, 13)] ({ frames := 9, cells := 6, slots := 41, locals := 215 } : Room) [.ref (ad 0 0 0), .int x, .int y, .ref (ad 60 0 0)] V ad E (hQ V ad E (hP (o_met (su S 0 (fun _ => 0)) x y).1 (o_met (su S 0 (fun _ => 0)) x y).2)) := by
  have he := hV.2.2.2.2
  have hI := Inv_T hV
  have hnm := hI.2.2.2.1
  have hnc := hI.2.1.1
  have hZ := Inv_0 (fun _ => 0) hV
  obtain ⟨Z, hZd⟩ : ∃ Z, Z = su S 0 (fun _ => 0) := ⟨_, rfl⟩
  have heZ : er T = er Z := by rw [hZd, er_0]; exact he
  have key : ∀ m : Nat, m < nm → (¬ y < 0 ∧ y < T.1 5 m ∧ T.1 6 (5 * (20 * m + tn y)) = 5) → ∃ q, y = nI q ∧ q < csz T m ∧ csz T m ≤ 20 ∧ T.1 6 (5 * (20 * m + q)) = 5 := fun m hm h => by
    obtain ⟨z, hz20, h5, -, -⟩ := hI.2.2.2.2.2.1 m (by omega)
    have ez : csz T m = z := by unfold csz; rw [h5]; exact tn_nI (by omega)
    obtain ⟨q, hq, rfl⟩ := nI_of h.1
    have h2 := h.2.1
    rw [h5] at h2
    have h3 := h.2.2
    rw [tn_nI hq] at h3
    exact ⟨q, rfl, by have := nI_ltn hq (by omega) h2; omega, by omega, h3⟩
  have ecn := rI_cnm hI
  by_cases h1 : s_isM Z x
  · obtain ⟨m, hm, rfl⟩ := isM_n (hZd ▸ hV.1.2.2.1 : Z.1 4 0 = nI nm) hnm h1
    have tm : tn (nI m) = m := tn_nI (by omega)
    by_cases h2 : ¬ y < 0 ∧ y < T.1 5 m ∧ T.1 6 (5 * (20 * m + tn y)) = 5
    · rw [show o_met (su S 0 (fun _ => 0)) (nI m) y = _ from if_pos (hZd ▸ ⟨h1, h2.1, by rw [tm, ← er_f (k := 5) heZ (by decide) (by decide) (by decide) (by decide)]; exact h2.2.1, by rw [tm, ← er_f (k := 6) heZ (by decide) (by decide) (by decide) (by decide)]; exact h2.2.2⟩)]
      obtain ⟨q, rfl, hq, hz, hk⟩ := key m hm h2
      refine (h_met_ok l hST V ad E T hO g e60 m q (by omega) (by omega) hq hz hk).mono (hQ.mono ?_)
      rintro r v T' ⟨rfl, rr, h4, h6, h7⟩
      refine ⟨⟨nc, nm, by rw [h7]; exact hZ⟩, rfl, fun _ => ?_⟩
      rw [h4, h6, tm, tn_nI (by omega)]
      unfold s_mat
      rw [er_f (k := 13) heZ (by decide) (by decide) (by decide) (by decide), er_f (k := 15) heZ (by decide) (by decide) (by decide) (by decide), hZd]
    · rw [show o_met (su S 0 (fun _ => 0)) (nI m) y = _ from if_neg (fun w => h2 ⟨w.2.1, by have := w.2.2.1; rw [tm] at this; rw [er_f (k := 5) he (by decide) (by decide) (by decide) (by decide)]; exact this, by have := w.2.2.2; rw [tm] at this; rw [er_f (k := 6) he (by decide) (by decide) (by decide) (by decide)]; exact this⟩)]
      exact (h_met_x2 l hST V ad E T hO g e60 nc nm hI m hm y h2).mono (hQ.mono (hP_x hV (by decide)))
  · rw [show o_met (su S 0 (fun _ => 0)) x y = _ from if_neg (fun w => h1 (hZd ▸ w.1))]
    exact (h_met_x1 l hST V ad E T hO g e60 nc nm hI x y (fun w => h1 ((isM_er heZ).mp w))).mono (hQ.mono (hP_x hV (by decide)))
theorem hh_metClass (l : Launch) (hST : l.stackTraces = false) (V : gV) (ad : gA) (E : gE) (S T : rS) (nc nm : Nat) (hV : Inv S T nc nm) (hO : cmOK V ad T E) (g : Nat → Int64) (e60 : E 60 0 0 = some (gOut V g)) (x y z_ : Int32) : gMh l yL_metClass cL_metClass 6 [(0, 12, 15, 13)] ({ frames := 9, cells := 6, slots := 41, locals := 215 } : Room) [.ref (ad 0 0 0), .int x, .int y, .int z_, .ref (ad 60 0 0)] V ad E (hQ V ad E (hP (o_metClass (su S 0 (fun _ => 0)) x y z_).1 (o_metClass (su S 0 (fun _ => 0)) x y z_).2)) := by
  have he := hV.2.2.2.2
  have hI := Inv_T hV
  have hnm := hI.2.2.2.1
  have hnc := hI.2.1.1
  have hZ := Inv_0 (fun _ => 0) hV
  obtain ⟨Z, hZd⟩ : ∃ Z, Z = su S 0 (fun _ => 0) := ⟨_, rfl⟩
  have heZ : er T = er Z := by rw [hZd, er_0]; exact he
  have key : ∀ m : Nat, m < nm → (¬ y < 0 ∧ y < T.1 5 m ∧ T.1 6 (5 * (20 * m + tn y)) = 5) → ∃ q, y = nI q ∧ q < csz T m ∧ csz T m ≤ 20 ∧ T.1 6 (5 * (20 * m + q)) = 5 := fun m hm h => by
    obtain ⟨z, hz20, h5, -, -⟩ := hI.2.2.2.2.2.1 m (by omega)
    have ez : csz T m = z := by unfold csz; rw [h5]; exact tn_nI (by omega)
    obtain ⟨q, hq, rfl⟩ := nI_of h.1
    have h2 := h.2.1
    rw [h5] at h2
    have h3 := h.2.2
    rw [tn_nI hq] at h3
    exact ⟨q, rfl, by have := nI_ltn hq (by omega) h2; omega, by omega, h3⟩
  have ecn := rI_cnm hI
  by_cases h1 : s_isM Z x
  · obtain ⟨m, hm, rfl⟩ := isM_n (hZd ▸ hV.1.2.2.1 : Z.1 4 0 = nI nm) hnm h1
    have tm : tn (nI m) = m := tn_nI (by omega)
    by_cases h2 : ¬ y < 0 ∧ y < T.1 5 m ∧ T.1 6 (5 * (20 * m + tn y)) = 5
    · have hs : s_isS (su S 0 (fun _ => 0)) (nI m) y := hZd ▸ ⟨h1, h2.1, by rw [tm, ← er_f (k := 5) heZ (by decide) (by decide) (by decide) (by decide)]; exact h2.2.1, by rw [tm, ← er_f (k := 6) heZ (by decide) (by decide) (by decide) (by decide)]; exact h2.2.2⟩
      obtain ⟨q, rfl, hq, hz, hk⟩ := key m hm h2
      have tq : tn (nI q) = q := tn_nI (by omega)
      obtain ⟨n, hn3, hn, -⟩ := hI.2.2.2.2.2.2.1 (20 * m + q) (by omega)
      have hnS : (su S 0 (fun _ => 0)).1 13 (20 * tn (nI m) + tn (nI q)) = nI n := by
        rw [tm, tq]
        show S.1 13 (20 * m + q) = nI n
        rw [← er_f (k := 13) he (by decide) (by decide) (by decide) (by decide)]
        exact hn
      by_cases h3 : ¬ z_ < 0 ∧ z_ < T.1 13 (20 * m + q)
      · rw [show o_metClass (su S 0 (fun _ => 0)) (nI m) (nI q) z_ = _ from if_pos ⟨hs, h3.1, by rw [hnS, ← hn]; exact h3.2⟩]
        obtain ⟨i, hi, rfl⟩ := nI_of h3.1
        have hin : i < n := by have := h3.2; rw [hn] at this; exact nI_ltn hi (by omega) this
        refine (h_metClass_ok l hST V ad E T hO g e60 m q (by omega) (by omega) hq hz hk i n hn hn3 hin).mono (hQ.mono ?_)
        rintro r v T' ⟨rfl, rr, h4, h6, h7⟩
        refine ⟨⟨nc, nm, by rw [h7]; exact hZ⟩, rfl, fun _ => ?_⟩
        rw [h4, h6, tm, tq, tn_nI hi, er_f (k := 14) heZ (by decide) (by decide) (by decide) (by decide), hZd]
      · rw [show o_metClass (su S 0 (fun _ => 0)) (nI m) (nI q) z_ = _ from if_neg (fun w => h3 ⟨w.2.1, by have := w.2.2; rw [hnS, ← hn] at this; exact this⟩)]
        exact (h_metClass_x3 l hST V ad E T hO g e60 m q (by omega) (by omega) hq hz hk z_ h3).mono (hQ.mono (hP_x hV (by decide)))
    · rw [show o_metClass (su S 0 (fun _ => 0)) (nI m) y z_ = _ from if_neg (fun w => h2 ⟨w.1.2.1, by have := w.1.2.2.1; rw [tm] at this; rw [er_f (k := 5) he (by decide) (by decide) (by decide) (by decide)]; exact this, by have := w.1.2.2.2; rw [tm] at this; rw [er_f (k := 6) he (by decide) (by decide) (by decide) (by decide)]; exact this⟩)]
      exact (h_metClass_x2 l hST V ad E T hO g e60 nc nm hI m hm y z_ h2).mono (hQ.mono (hP_x hV (by decide)))
  · rw [show o_metClass (su S 0 (fun _ => 0)) x y z_ = _ from if_neg (fun w => h1 (hZd ▸ w.1.1))]
    exact (h_metClass_x1 l hST V ad E T hO g e60 nc nm hI x y z_ (fun w => h1 ((isM_er heZ).mp w))).mono (hQ.mono (hP_x hV (by decide)))
