theorem lstOK.fr {V : gV} {ad ad1 : gA} {E E1 : gE} {P : Nat → Nat → Nat → Prop} {kl il ke n : Nat} {f f1 : Nat → Nat} (h : lstOK V ad E kl il ke n f) (fr : gFr P ad E ad1 E1) (h1 : ¬ P kl il 0) (h2 : ¬ P ke il 0) (hf : ∀ i, i < n → f1 i = f i) : lstOK V ad1 E1 kl il ke n f1 := by
  obtain ⟨mc, el, g1, g2⟩ := h
  refine ⟨mc, el, (fr kl il 0 h1).1.trans g1, ?_⟩
  rcases g2 with g | ⟨g3, cap, h, g4, g5, g6, g7⟩
  · exact Or.inl g
  · exact Or.inr ⟨by rw [(fr ke il 0 h2).2]; exact g3, cap, h, g4, g5, (fr ke il 0 h2).1.trans g6, fun i hi => by rw [hf i hi]; exact g7 i hi⟩
theorem n_fras {ad ad1 : gA} {E : gE} {V : gV} (ha : ∀ i, i < 20 → ad 10 i 0 = ad1 10 i 0) (h : E 3 0 0 = some (.inl (V.2.1 3, 20, .inr (.inr (.inr (.inr (fun i => if i < 20 then some (ad1 10 i 0) else none))))))) : E 3 0 0 = some (.inl (V.2.1 3, 20, .inr (.inr (.inr (.inr (fun i => if i < 20 then some (ad 10 i 0) else none)))))) := by
  rw [h, show (fun i => if i < 20 then some (ad1 10 i 0) else none) = (fun i => if i < 20 then some (ad 10 i 0) else none) from funext fun i => by
    by_cases h : i < 20
    · rw [if_pos h, if_pos h, ha i h]
    · rw [if_neg h, if_neg h]]
theorem cm_addM {V : gV} {ad ad1 : gA} {E E1 : gE} {T : rS} {nm : Nat} (hO : cmOK V ad T E) (en : cnm T = nm) (hn : nm < 12) (h5 : T.1 5 nm = 0) (h10 : T.1 10 nm = 0) (h11 : T.1 11 nm = 0) (h12 : T.1 12 nm = 0) (fr : gFr (fun k i j => (k = 2 ∧ i = 0 ∧ j = 0) ∨ (k = 9 ∧ i = 0 ∧ j = 0) ∨ k = 21 ∨ ((k = 13 ∨ k = 14) ∧ i = nm ∧ j = 0)) ad E ad1 E1) (h2 : ad1 2 0 0 = ad 2 0 0) (hL : lstOK V ad1 E1 2 0 9 (nm + 1) (fun i => ad1 13 i 0)) (e13 : E1 13 nm 0 = some (.inr (5, [.ref (ad1 14 nm 0), .int 0, .int 0, .int 0]))) (e14 : E1 14 nm 0 = some (.inr (0, [.int 0, .ref (V.2.2 1), .int 0]))) : cmOK V ad1 (su T 4 (fun _ => nI (nm + 1))) E1 := by
  have e4 : cnm (su T 4 (fun _ => nI (nm + 1))) = nm + 1 := tn_nI (by omega)
  have e5 : csz (su T 4 (fun _ => nI (nm + 1))) nm = 0 := by
    show tn (T.1 5 nm) = 0
    rw [h5]; rfl
  refine ⟨(fr 0 0 0 (by omega)).1.trans (hO.1.trans (by unfold cto; rw [(fr 1 0 0 (by omega)).2, h2, (fr 3 0 0 (by omega)).2, (fr 4 0 0 (by omega)).2]; rfl)), (fr 4 0 0 (by omega)).1.trans hO.2.1, (fr 1 0 0 (by omega)).1.trans (hO.2.2.1.trans (by rw [(fr 5 0 0 (by omega)).2, (fr 6 0 0 (by omega)).2, (fr 7 0 0 (by omega)).2]; rfl)), (fr 5 0 0 (by omega)).1.trans hO.2.2.2.1, n_rows (fun i _ => (fr 8 i 0 (by omega)).2) ((fr 6 0 0 (by omega)).1.trans hO.2.2.2.2.1), fun i hi => let ⟨f, h1, h2⟩ := hO.2.2.2.2.2.1 i hi; ⟨f, (fr 8 i 0 (by omega)).1.trans h1, h2⟩, (fr 7 0 0 (by omega)).1.trans hO.2.2.2.2.2.2.1, n_fras (fun i _ => (fr 10 i 0 (by omega)).2) ((fr 3 0 0 (by omega)).1.trans hO.2.2.2.2.2.2.2.1), fun i hi => (fr 10 i 0 (by omega)).1.trans ((hO.2.2.2.2.2.2.2.2.1 i hi).trans (by rw [(fr 11 i 0 (by omega)).2, (fr 12 i 0 (by omega)).2]; rfl)), fun i hi => let ⟨f, h1, h2⟩ := hO.2.2.2.2.2.2.2.2.2.1 i hi; ⟨f, (fr 11 i 0 (by omega)).1.trans h1, h2⟩, fun i hi => let ⟨f, h1, h2⟩ := hO.2.2.2.2.2.2.2.2.2.2.1 i hi; ⟨f, (fr 12 i 0 (by omega)).1.trans h1, h2⟩, by rw [e4]; exact hL, ?_, ?_, ?_, ?_, ?_, ?_, ?_, ?_⟩
  · intro m hm
    by_cases e : m = nm
    · subst e
      rw [e13]
      show _ = some (Sum.inr (5, [_, Value.int (T.1 10 m), Value.int (T.1 11 m), Value.int (T.1 12 m)]))
      rw [h10, h11, h12]
    · exact (fr 13 m 0 (by omega)).1.trans ((hO.2.2.2.2.2.2.2.2.2.2.2.2.1 m (by omega)).trans (by rw [(fr 14 m 0 (by omega)).2]; rfl))
  · intro m hm
    by_cases e : m = nm
    · subst e
      refine ⟨0, V.2.2 1, ?_, Or.inl ⟨e5, rfl⟩⟩
      rw [e5]
      exact e14
    · exact lstOK.fr (hO.2.2.2.2.2.2.2.2.2.2.2.2.2.1 m (by omega)) fr (by omega) (by omega) (fun i _ => (fr 16 m i (by omega)).2)
  · intro m q hm hq
    by_cases e : m = nm
    · subst e
      rw [e5] at hq
      omega
    · exact (fr 16 m q (by omega)).1.trans ((hO.2.2.2.2.2.2.2.2.2.2.2.2.2.2.1 m q (by omega) hq).trans (by unfold cio; rw [(fr 17 m q (by omega)).2, (fr 19 m q (by omega)).2]; rfl))
  · intro m q hm hq
    by_cases e : m = nm
    · subst e
      rw [e5] at hq
      omega
    · exact (fr 17 m q (by omega)).1.trans ((hO.2.2.2.2.2.2.2.2.2.2.2.2.2.2.2.1 m q (by omega) hq).trans (by rw [(fr 18 m q (by omega)).2]; rfl))
  · intro m q hm hq
    by_cases e : m = nm
    · subst e
      rw [e5] at hq
      omega
    · exact let ⟨f, h1, h2⟩ := hO.2.2.2.2.2.2.2.2.2.2.2.2.2.2.2.2.1 m q (by omega) hq; ⟨f, (fr 18 m q (by omega)).1.trans h1, h2⟩
  · intro m q hm hq
    by_cases e : m = nm
    · subst e
      rw [e5] at hq
      omega
    · exact (fr 19 m q (by omega)).1.trans ((hO.2.2.2.2.2.2.2.2.2.2.2.2.2.2.2.2.2.1 m q (by omega) hq).trans (by rw [(fr 20 m q (by omega)).2]; rfl))
  · intro m q hm hq
    by_cases e : m = nm
    · subst e
      rw [e5] at hq
      omega
    · exact let ⟨f, h1, h2⟩ := hO.2.2.2.2.2.2.2.2.2.2.2.2.2.2.2.2.2.2.1 m q (by omega) hq; ⟨f, (fr 20 m q (by omega)).1.trans h1, h2⟩
  · refine ⟨by omega, fun m hm => ?_, by rw [e4]; rfl⟩
    by_cases e : m = nm
    · subst e
      rw [e5]
      exact ⟨by omega, h5⟩
    · exact hO.2.2.2.2.2.2.2.2.2.2.2.2.2.2.2.2.2.2.2.2.1 m (by omega)
theorem cm_app {V : gV} {ad ad1 : gA} {E E1 : gE} {T : rS} {m0 q0 : Nat} {x0 x1 x2 x3 x4 : Int32} (hO : cmOK V ad T E) (hm0 : m0 < cnm T) (eq : csz T m0 = q0) (hq0 : q0 < 20) (hU : ∀ h, h = 0 ∨ h = 240 → rUp T (h + (20 * m0 + q0))) (fr : gFr (fun k i j => (k = 14 ∧ i = m0 ∧ j = 0) ∨ (k = 15 ∧ i = m0 ∧ j = 0) ∨ k = 21 ∨ ((16 ≤ k ∧ k ≤ 20) ∧ i = m0 ∧ j = q0)) ad E ad1 E1) (a14 : ad1 14 m0 0 = ad 14 m0 0) (hL : lstOK V ad1 E1 14 m0 15 (q0 + 1) (fun q => ad1 16 m0 q)) (e16 : E1 16 m0 q0 = some (.inr (3, [.int x0, .int x1, .int x2, .int x3, .int x4, .ref (ad1 17 m0 q0), .ref (ad1 19 m0 q0)]))) (e17 : E1 17 m0 q0 = some (.inr (4, [.ref (ad1 18 m0 q0), .int 0, .int 0]))) (e18 : E1 18 m0 q0 = some (.inl (V.2.1 0, 3, .inl (fun _ => 0)))) (e19 : E1 19 m0 q0 = some (.inr (4, [.ref (ad1 20 m0 q0), .int 0, .int 0]))) (e20 : E1 20 m0 q0 = some (.inl (V.2.1 0, 3, .inl (fun _ => 0)))) : cmOK V ad1 (su (s_in5 T (5 * (20 * m0 + q0)) x0 x1 x2 x3 x4) 5 (va_up (T.1 5) m0 (nI (q0 + 1)))) E1 := by
  have hb := hO.2.2.2.2.2.2.2.2.2.2.2.2.2.2.2.2.2.2.2
  have e5 : csz (su (s_in5 T (5 * (20 * m0 + q0)) x0 x1 x2 x3 x4) 5 (va_up (T.1 5) m0 (nI (q0 + 1)))) m0 = q0 + 1 := by
    show tn (va_up (T.1 5) m0 (nI (q0 + 1)) m0) = _
    rw [va_up_self]
    exact tn_nI (by omega)
  have e5n : ∀ m, m ≠ m0 → csz (su (s_in5 T (5 * (20 * m0 + q0)) x0 x1 x2 x3 x4) 5 (va_up (T.1 5) m0 (nI (q0 + 1)))) m = csz T m := fun m h => by
    show tn (va_up (T.1 5) m0 (nI (q0 + 1)) m) = _
    rw [va_up_ne _ _ h]
  have hcase : ∀ m q, m < cnm T → q < csz (su (s_in5 T (5 * (20 * m0 + q0)) x0 x1 x2 x3 x4) 5 (va_up (T.1 5) m0 (nI (q0 + 1)))) m → (m = m0 ∧ q = q0) ∨ (q < csz T m ∧ ¬ (m = m0 ∧ q = q0)) := fun m q hm hq => by
    by_cases e : m = m0
    · subst e
      rw [e5] at hq
      by_cases e2 : q = q0
      · exact Or.inl ⟨rfl, e2⟩
      · exact Or.inr ⟨by omega, fun z => e2 z.2⟩
    · rw [e5n m e] at hq
      exact Or.inr ⟨hq, fun z => e z.1⟩
  have h6 : ∀ m q k : Nat, m < cnm T → q < csz T m → k < 5 → ¬ (m = m0 ∧ q = q0) → (su (s_in5 T (5 * (20 * m0 + q0)) x0 x1 x2 x3 x4) 5 (va_up (T.1 5) m0 (nI (q0 + 1)))).1 6 (5 * (20 * m + q) + k) = T.1 6 (5 * (20 * m + q) + k) := fun m q k hm hq hk h => by
    have hz := (hb.2.1 m hm).1
    have hne : 20 * m + q ≠ 20 * m0 + q0 := fun z => h (by omega)
    show va_up (va_up (va_up (va_up (va_up (T.1 6) (5 * (20 * m0 + q0)) x0) (5 * (20 * m0 + q0) + 1) x1) (5 * (20 * m0 + q0) + 2) x2) (5 * (20 * m0 + q0) + 3) x3) (5 * (20 * m0 + q0) + 4) x4 (5 * (20 * m + q) + k) = _
    rw [va_up_ne _ _ (by omega), va_up_ne _ _ (by omega), va_up_ne _ _ (by omega), va_up_ne _ _ (by omega), va_up_ne _ _ (by omega)]
  obtain ⟨u1, u2, u3⟩ := hU 0 (Or.inl rfl)
  obtain ⟨v1, v2, v3⟩ := hU 240 (Or.inr rfl)
  rw [Nat.zero_add] at u1 u2 u3
  refine ⟨(fr 0 0 0 (by omega)).1.trans (hO.1.trans (by unfold cto; rw [(fr 1 0 0 (by omega)).2, (fr 2 0 0 (by omega)).2, (fr 3 0 0 (by omega)).2, (fr 4 0 0 (by omega)).2]; rfl)), (fr 4 0 0 (by omega)).1.trans hO.2.1, (fr 1 0 0 (by omega)).1.trans (hO.2.2.1.trans (by rw [(fr 5 0 0 (by omega)).2, (fr 6 0 0 (by omega)).2, (fr 7 0 0 (by omega)).2]; rfl)), (fr 5 0 0 (by omega)).1.trans hO.2.2.2.1, n_rows (fun i _ => (fr 8 i 0 (by omega)).2) ((fr 6 0 0 (by omega)).1.trans hO.2.2.2.2.1), fun i hi => let ⟨f, h1, h2⟩ := hO.2.2.2.2.2.1 i hi; ⟨f, (fr 8 i 0 (by omega)).1.trans h1, h2⟩, (fr 7 0 0 (by omega)).1.trans hO.2.2.2.2.2.2.1, n_fras (fun i _ => (fr 10 i 0 (by omega)).2) ((fr 3 0 0 (by omega)).1.trans hO.2.2.2.2.2.2.2.1), fun i hi => (fr 10 i 0 (by omega)).1.trans ((hO.2.2.2.2.2.2.2.2.1 i hi).trans (by rw [(fr 11 i 0 (by omega)).2, (fr 12 i 0 (by omega)).2]; rfl)), fun i hi => let ⟨f, h1, h2⟩ := hO.2.2.2.2.2.2.2.2.2.1 i hi; ⟨f, (fr 11 i 0 (by omega)).1.trans h1, h2⟩, fun i hi => let ⟨f, h1, h2⟩ := hO.2.2.2.2.2.2.2.2.2.2.1 i hi; ⟨f, (fr 12 i 0 (by omega)).1.trans h1, h2⟩, lstOK.fr hO.2.2.2.2.2.2.2.2.2.2.2.1 fr (by omega) (by omega) (fun i _ => (fr 13 i 0 (by omega)).2), ?_, ?_, ?_, ?_, ?_, ?_, ?_, ?_⟩
  · exact fun m hm => (fr 13 m 0 (by omega)).1.trans ((hO.2.2.2.2.2.2.2.2.2.2.2.2.1 m hm).trans (by by_cases e : m = m0; (subst e; rw [a14]; rfl); (rw [(fr 14 m 0 (by omega)).2]; rfl)))
  · intro m hm
    by_cases e : m = m0
    · subst e
      rw [e5]
      exact hL
    · rw [e5n m e]
      exact lstOK.fr (hO.2.2.2.2.2.2.2.2.2.2.2.2.2.1 m hm) fr (by omega) (by omega) (fun i _ => (fr 16 m i (by omega)).2)
  · intro m q hm hq
    rcases hcase m q hm hq with ⟨rfl, rfl⟩ | ⟨h1, h2⟩
    · rw [e16]
      unfold cio
      show _ = some (Sum.inr (3, [Value.int (va_up (va_up (va_up (va_up (va_up (T.1 6) (5 * (20 * m + q)) x0) (5 * (20 * m + q) + 1) x1) (5 * (20 * m + q) + 2) x2) (5 * (20 * m + q) + 3) x3) (5 * (20 * m + q) + 4) x4 (5 * (20 * m + q))), Value.int (va_up (va_up (va_up (va_up (va_up (T.1 6) (5 * (20 * m + q)) x0) (5 * (20 * m + q) + 1) x1) (5 * (20 * m + q) + 2) x2) (5 * (20 * m + q) + 3) x3) (5 * (20 * m + q) + 4) x4 (5 * (20 * m + q) + 1)), Value.int (va_up (va_up (va_up (va_up (va_up (T.1 6) (5 * (20 * m + q)) x0) (5 * (20 * m + q) + 1) x1) (5 * (20 * m + q) + 2) x2) (5 * (20 * m + q) + 3) x3) (5 * (20 * m + q) + 4) x4 (5 * (20 * m + q) + 2)), Value.int (va_up (va_up (va_up (va_up (va_up (T.1 6) (5 * (20 * m + q)) x0) (5 * (20 * m + q) + 1) x1) (5 * (20 * m + q) + 2) x2) (5 * (20 * m + q) + 3) x3) (5 * (20 * m + q) + 4) x4 (5 * (20 * m + q) + 3)), Value.int (va_up (va_up (va_up (va_up (va_up (T.1 6) (5 * (20 * m + q)) x0) (5 * (20 * m + q) + 1) x1) (5 * (20 * m + q) + 2) x2) (5 * (20 * m + q) + 3) x3) (5 * (20 * m + q) + 4) x4 (5 * (20 * m + q) + 4)), _, _]))
      simp [va_up]
    · refine (fr 16 m q (by omega)).1.trans ((hO.2.2.2.2.2.2.2.2.2.2.2.2.2.2.1 m q hm h1).trans ?_)
      unfold cio
      rw [(fr 17 m q (by omega)).2, (fr 19 m q (by omega)).2, show (su (s_in5 T (5 * (20 * m0 + q0)) x0 x1 x2 x3 x4) 5 (va_up (T.1 5) m0 (nI (q0 + 1)))).1 6 (5 * (20 * m + q)) = T.1 6 (5 * (20 * m + q)) from h6 m q 0 hm h1 (by omega) h2, h6 m q 1 hm h1 (by omega) h2, h6 m q 2 hm h1 (by omega) h2, h6 m q 3 hm h1 (by omega) h2, h6 m q 4 hm h1 (by omega) h2]
  · intro m q hm hq
    rcases hcase m q hm hq with ⟨rfl, rfl⟩ | ⟨h1, h2⟩
    · rw [e17]; show _ = some (Sum.inr (4, [_, Value.int (T.1 13 (20 * m + q)), Value.int (T.1 15 (20 * m + q))])); rw [u1, u2]
    · exact (fr 17 m q (by omega)).1.trans ((hO.2.2.2.2.2.2.2.2.2.2.2.2.2.2.2.1 m q hm h1).trans (by rw [(fr 18 m q (by omega)).2]; rfl))
  · intro m q hm hq
    rcases hcase m q hm hq with ⟨rfl, rfl⟩ | ⟨h1, h2⟩
    · exact ⟨_, e18, fun k hk => (u3 k hk).symm⟩
    · exact let ⟨f, h3, h4⟩ := hO.2.2.2.2.2.2.2.2.2.2.2.2.2.2.2.2.1 m q hm h1; ⟨f, (fr 18 m q (by omega)).1.trans h3, h4⟩
  · intro m q hm hq
    rcases hcase m q hm hq with ⟨rfl, rfl⟩ | ⟨h1, h2⟩
    · rw [e19]; show _ = some (Sum.inr (4, [_, Value.int (T.1 13 (240 + (20 * m + q))), Value.int (T.1 15 (240 + (20 * m + q)))])); rw [v1, v2]
    · exact (fr 19 m q (by omega)).1.trans ((hO.2.2.2.2.2.2.2.2.2.2.2.2.2.2.2.2.2.1 m q hm h1).trans (by rw [(fr 20 m q (by omega)).2]; rfl))
  · intro m q hm hq
    rcases hcase m q hm hq with ⟨rfl, rfl⟩ | ⟨h1, h2⟩
    · exact ⟨_, e20, fun k hk => (v3 k hk).symm⟩
    · exact let ⟨f, h3, h4⟩ := hO.2.2.2.2.2.2.2.2.2.2.2.2.2.2.2.2.2.2.1 m q hm h1; ⟨f, (fr 20 m q (by omega)).1.trans h3, h4⟩
  · refine ⟨hb.1, fun m hm => ?_, hb.2.2⟩
    by_cases e : m = m0
    · subst e
      rw [e5]
      exact ⟨by omega, va_up_self _ _ _⟩
    · rw [e5n m e]
      refine ⟨(hb.2.1 m hm).1, ?_⟩
      show va_up (T.1 5) m0 (nI (q0 + 1)) m = _
      rw [va_up_ne _ _ e]
      exact (hb.2.1 m hm).2
/-- a call of the class that makes objects -/
def kPn (post : Int32 → rS → Prop) (V : gV) (ad : gA) (E : gE) : Int32 → gA → gE → Prop := fun r ad2 E2 => gFr (fun k i j => k < 30) ad E ad2 E2 ∧ ad2 0 0 0 = ad 0 0 0 ∧ ∃ T2 : rS, cmOK V ad2 T2 E2 ∧ post r T2
def kN (l : Launch) (y : MethodName) (cc : ByteArray) (n : Nat) (ret : Option FieldType) (rm : Room) (av : List Value) (V : gV) (ad : gA) (T : rS) (post : Int32 → rS → Prop) : Prop := ∀ E : gE, cmOK V ad T E → gMi l y cc n ret rm av V ad E (kPn post V ad E)
