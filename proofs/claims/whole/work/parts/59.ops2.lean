/-- between two calls: the reference's S, the class's T -/
def Inv (S T : rS) (nc nm : Nat) : Prop := rI S nc nm ∧ rQ S ∧ rR S ∧ rM S nm ∧ er T = er S
theorem Inv_0 {S T : rS} {nc nm : Nat} (g : Nat → Int32) (h : Inv S T nc nm) : Inv (su S 0 g) T nc nm := ⟨rI_congr rfl rfl rfl rfl rfl rfl rfl rfl rfl h.1, rQ_congr (S := S) rfl rfl rfl rfl rfl rfl h.2.1, rR_congr (S := S) rfl rfl h.2.2.1, rM_congr (S := S) rfl rfl rfl h.2.2.2.1, by rw [er_0]; exact h.2.2.2.2⟩
theorem Inv_start : Inv s_0 s_0 0 0 := by
  refine ⟨⟨rfl, ⟨by omega, fun c hc => by omega⟩, rfl, by omega, fun c g hc => by omega, fun m hm => ⟨0, by omega, rfl, fun _ => rfl, fun q hq => by omega⟩, fun r hr => ⟨0, by omega, rfl, fun k hk => by omega⟩, fun r hr => Or.inl rfl⟩, ⟨⟨fun m => Or.inl (by show (0 : Int32) < 2; decide), fun i => Or.inl (by show (0 : Int32) < 2; decide)⟩, fun m q h _ _ _ _ => ⟨rfl, rfl, fun k _ => rfl⟩⟩, Or.inl rfl, fun m _ => ⟨rfl, rfl, rfl⟩, rfl⟩
theorem Inv_T {S T : rS} {nc nm : Nat} (h : Inv S T nc nm) : rI T nc nm := rI_er h.2.2.2.2 h.1
theorem isC_er {S T : rS} {x : Int32} (h : er T = er S) : s_isC T x ↔ s_isC S x := by
  unfold s_isC
  rw [er_f (k := 1) h (by decide) (by decide) (by decide) (by decide)]
theorem isM_er {S T : rS} {x : Int32} (h : er T = er S) : s_isM T x ↔ s_isM S x := by
  unfold s_isM
  rw [er_f (k := 4) h (by decide) (by decide) (by decide) (by decide)]
theorem isC_n {S : rS} {nc : Nat} {x : Int32} (h1 : S.1 1 0 = nI nc) (hn : nc ≤ 8) (h : s_isC S x) : ∃ c, c < nc ∧ x = nI c := by
  obtain ⟨c, h2, h3⟩ := nI_of h.1
  refine ⟨c, ?_, h3⟩
  have h4 := h.2
  rw [h3, h1] at h4
  exact nI_ltn h2 (by omega) h4
theorem isM_n {S : rS} {nm : Nat} {x : Int32} (h1 : S.1 4 0 = nI nm) (hn : nm ≤ 12) (h : s_isM S x) : ∃ c, c < nm ∧ x = nI c := by
  obtain ⟨c, h2, h3⟩ := nI_of h.1
  refine ⟨c, ?_, h3⟩
  have h4 := h.2
  rw [h3, h1] at h4
  exact nI_ltn h2 (by omega) h4
theorem rg_n {x : Int32} (h : s_rg x) : ∃ n, n < 4 ∧ x = nI n := by
  obtain ⟨c, h2, h3⟩ := nI_of h.1
  refine ⟨c, nI_ltn h2 (by decide) (b := 4) ?_, h3⟩
  rw [← h3]
  exact h.2
theorem sl_n {x : Int32} (h : s_sl x) : ∃ n, n < 6 ∧ x = nI n := by
  obtain ⟨c, h2, h3⟩ := nI_of h.1
  refine ⟨c, nI_ltn h2 (by decide) (b := 6) ?_, h3⟩
  rw [← h3]
  exact h.2
theorem pl_n {x : Int32} (h : s_pl x) : ∃ n, n ≤ 20 ∧ x = nI n := by
  obtain ⟨c, h2, h3⟩ := nI_of h.1
  refine ⟨c, ?_, h3⟩
  have h4 := h.2
  rw [h3, Int32.le_iff_toInt_le, nI_toInt h2] at h4
  have e : (20 : Int32).toInt = 20 := rfl
  omega
theorem s_ins_mono {S S2 : rS} {nc nc2 i : Nat} (h6 : ∀ j, j < 5 → S2.1 6 (5 * i + j) = S.1 6 (5 * i + j)) (hn : nc ≤ nc2) (h : s_ins S nc i) : s_ins S2 nc2 i := by
  obtain ⟨k, h1, h2, ⟨a, h3, h3b, h3c⟩, h4, h5, h7, h8, h9, h10⟩ := h
  refine ⟨k, h1, (h6 0 (by omega)).trans h2, ⟨a, (h6 1 (by omega)).trans h3, h3b, h3c⟩, fun z => ?_, fun z => ?_, fun z => ?_, fun z => ?_, fun z => ?_, fun z => ?_⟩
  · obtain ⟨b, g1, g2⟩ := h4 z; exact ⟨b, g1, (h6 2 (by omega)).trans g2⟩
  · obtain ⟨b, g1, g2⟩ := h5 z; exact ⟨b, by omega, (h6 2 (by omega)).trans g2⟩
  · obtain ⟨b, g1, g2⟩ := h7 z; exact ⟨b, g1, (h6 2 (by omega)).trans g2⟩
  · obtain ⟨b, g1, g2⟩ := h8 z; exact ⟨b, g1, (h6 3 (by omega)).trans g2⟩
  · obtain ⟨b, g1, g2⟩ := h9 z; exact ⟨b, g1, (h6 3 (by omega)).trans g2⟩
  · obtain ⟨b, g1, g2⟩ := h10 z; exact ⟨b, g1, (h6 4 (by omega)).trans g2⟩
/-! addClass -/
def f_addC (S : rS) (nc : Nat) (x : Int32) : rS := su (s_imr (su S 2 (va_up (S.1 2) nc x)) nc 6) 1 (fun _ => nI (nc + 1))
theorem op_addC {S T : rS} {nc nm : Nat} {x : Int32} (h : Inv S T nc nm) (hn : nc < 8) (hx : x = -1 ∨ s_isC S x) : Inv (f_addC S nc x) (f_addC T nc x) (nc + 1) nm := by
  obtain ⟨⟨g1, g2, g3, g4, g5, g6, g7, g8⟩, hQ, hR, hM, he⟩ := h
  obtain ⟨d, hd, hxd⟩ : ∃ d, d ≤ nc ∧ x = nI d - 1 := by
    rcases hx with h | h
    · exact ⟨0, Nat.zero_le _, by rw [h]; rfl⟩
    · obtain ⟨c, h1, h2⟩ := isC_n g1 (by omega) h
      exact ⟨c + 1, by omega, by rw [h2, nI_m1s]⟩
  refine ⟨⟨rfl, ⟨by omega, fun c hc => ?_⟩, g3, g4, fun c g hc hg => ?_, fun m hm => ?_, fun r hr => ?_, g8⟩, rQ_congr (S := S) rfl rfl rfl rfl rfl rfl hQ, rR_congr (S := S) rfl rfl hR, rM_congr (S := S) rfl rfl rfl hM, ?_⟩
  · show ∃ d, d ≤ c ∧ va_up (S.1 2) nc x c = nI d - 1
    by_cases e : c = nc
    · subst e
      exact ⟨d, hd, by rw [va_up_self]; exact hxd⟩
    · rw [va_up_ne _ _ e]
      exact g2.2 c (by omega)
  · show ∃ d, d ≤ nm ∧ (if 6 * nc ≤ 6 * c + g ∧ 6 * c + g < 6 * nc + 6 then -1 else S.1 3 (6 * c + g)) = nI d - 1
    by_cases e : c = nc
    · subst e
      exact ⟨0, Nat.zero_le _, by rw [if_pos (by omega)]; rfl⟩
    · rw [if_neg (by omega)]
      exact g5 c g (by omega) hg
  · obtain ⟨z, k1, k2, k3, k4⟩ := g6 m hm
    exact ⟨z, k1, k2, k3, fun q hq => s_ins_mono (S := S) (fun _ _ => rfl) (by omega) (k4 q hq)⟩
  · obtain ⟨n, k1, k2, k3⟩ := g7 r hr
    exact ⟨n, k1, k2, fun k hk => let ⟨d, a, b⟩ := k3 k hk; ⟨d, by omega, b⟩⟩
  · unfold f_addC s_imr
    rw [er_su (by decide) (by decide) (by decide) (by decide), er_su (by decide) (by decide) (by decide) (by decide), er_su (by decide) (by decide) (by decide) (by decide), er_su (by decide) (by decide) (by decide) (by decide), er_su (by decide) (by decide) (by decide) (by decide), er_su (by decide) (by decide) (by decide) (by decide), he, er_f (k := 2) he (by decide) (by decide) (by decide) (by decide), show (su T 2 (va_up (S.1 2) nc x)).1 3 = (su S 2 (va_up (S.1 2) nc x)).1 3 from er_f (S := S) (T := T) (k := 3) he (by decide) (by decide) (by decide) (by decide)]
/-! addMethod -/
theorem op_addM {S T : rS} {nc nm : Nat} (h : Inv S T nc nm) (hn : nm < 12) : Inv (su S 4 (fun _ => nI (nm + 1))) (su T 4 (fun _ => nI (nm + 1))) nc (nm + 1) := by
  obtain ⟨⟨g1, g2, g3, g4, g5, g6, g7, g8⟩, hQ, hR, hM, he⟩ := h
  refine ⟨⟨g1, s_par_congr (S := S) rfl g2, rfl, by omega, fun c g hc hg => let ⟨d, a, b⟩ := g5 c g hc hg; ⟨d, by omega, b⟩, fun m hm => ?_, g7, g8⟩, rQ_congr (S := S) rfl rfl rfl rfl rfl rfl hQ, rR_congr (S := S) rfl rfl hR, fun m hm => hM m (by omega), by rw [er_su (by decide) (by decide) (by decide) (by decide), er_su (by decide) (by decide) (by decide) (by decide), he]⟩
  obtain ⟨z, k1, k2, k3, k4⟩ := g6 m hm
  exact ⟨z, k1, k2, fun hh => k3 (by omega), fun q hq => s_ins_mono (S := S) (fun _ _ => rfl) (Nat.le_refl _) (k4 q hq)⟩
/-! unlearn, append, forget -/
theorem er_unl {S T : rS} {m : Nat} (he : er T = er S) : er (sp_unlearn T m) = er (sp_unlearn S m) := by
  unfold sp_unlearn s_clr
  rw [er_su (by decide) (by decide) (by decide) (by decide), er_su (by decide) (by decide) (by decide) (by decide), er_su (by decide) (by decide) (by decide) (by decide), er_su (by decide) (by decide) (by decide) (by decide), er_su (by decide) (by decide) (by decide) (by decide), er_su (by decide) (by decide) (by decide) (by decide), er_su (by decide) (by decide) (by decide) (by decide), er_su (by decide) (by decide) (by decide) (by decide), er_su (by decide) (by decide) (by decide) (by decide), er_su (by decide) (by decide) (by decide) (by decide), he, er_f (k := 10) he (by decide) (by decide) (by decide) (by decide), er_f (k := 11) he (by decide) (by decide) (by decide) (by decide)]
  show su (su (su (su (su (er S) 10 (va_up (S.1 10) m 0)) 11 (va_up (S.1 11) m 0)) 12 (va_up (T.1 12) m 0)) 13 (fun i => if 20 * m ≤ i ∧ i < 20 * m + 20 then 0 else T.1 13 i)) 15 (fun i => if 20 * m ≤ i ∧ i < 20 * m + 20 then 0 else T.1 15 i) = _
  rw [er_f (k := 12) he (by decide) (by decide) (by decide) (by decide), er_f (k := 13) he (by decide) (by decide) (by decide) (by decide), er_f (k := 15) he (by decide) (by decide) (by decide) (by decide)]
  rfl
theorem op_unl {S T : rS} {nc nm m : Nat} (h : Inv S T nc nm) (hm : m < nm) : Inv (sp_unlearn S m) (sp_unlearn T m) nc nm := by
  obtain ⟨hI, hQ, hR, hM, he⟩ := h
  have hnm := hI.2.2.2.1
  have e13 : ∀ i, (sp_unlearn S m).1 13 i = if 20 * m ≤ i ∧ i < 20 * m + 20 then 0 else S.1 13 i := fun i => rfl
  have e15 : ∀ i, (sp_unlearn S m).1 15 i = if 20 * m ≤ i ∧ i < 20 * m + 20 then 0 else S.1 15 i := fun i => rfl
  refine ⟨rI_rec (S := S) rfl rfl rfl rfl rfl rfl (fun r hr => ?_) (fun r hr => ?_) hI, ⟨⟨tk_up hQ.1.1 (by decide), hQ.1.2⟩, fun m2 q x hm2 hq hq20 hx => ?_⟩, rR_congr (S := S) rfl rfl hR, rM_up (S := S) hm (Or.inr rfl) (Or.inr rfl) (Or.inr rfl) hM, er_unl he⟩
  · show ∃ n : Nat, n ≤ 3 ∧ (sp_unlearn S m).1 13 r = nI n ∧ ∀ k : Nat, k < n → ∃ d : Nat, d < nc ∧ S.1 14 (3 * r + k) = nI d
    rw [e13]
    split
    · exact ⟨0, by omega, rfl, fun k hk => by omega⟩
    · exact hI.2.2.2.2.2.2.1 r hr
  · rw [e15]
    split
    · exact Or.inl rfl
    · exact hI.2.2.2.2.2.2.2 r hr
  · obtain ⟨a1, a2, a3⟩ := hQ.2 m2 q x hm2 hq hq20 hx
    refine ⟨?_, ?_, a3⟩
    · rw [e13]
      split
      · rfl
      · exact a1
    · rw [e15]
      split
      · rfl
      · exact a2
theorem op_fg {S T : rS} {nc nm : Nat} (h : Inv S T nc nm) : ∀ k : Nat, k ≤ nm → Inv (s_fg S k) (s_fg T k) nc nm
  | 0, _ => h
  | k + 1, hk => op_unl (op_fg h k (by omega)) (by omega)
theorem fc_er {S T : rS} (h : T.1 10 = S.1 10) : ∀ k : Nat, s_fc T k = s_fc S k
  | 0 => rfl
  | k + 1 => by
    unfold s_fc
    rw [h, fc_er h k]
theorem s_fit_er {S T : rS} {k a b c d : Int32} (h : er T = er S) : s_fit T k a b c d ↔ s_fit S k a b c d := by
  unfold s_fit s_isC
  rw [er_f (k := 1) h (by decide) (by decide) (by decide) (by decide)]
theorem fit_ins {S S2 : rS} {nc i : Nat} {k a b c d : Int32} (h1 : S.1 1 0 = nI nc) (hn : nc ≤ 8) (e0 : S2.1 6 (5 * i) = k) (e1 : S2.1 6 (5 * i + 1) = a) (e2 : S2.1 6 (5 * i + 2) = b) (e3 : S2.1 6 (5 * i + 3) = c) (e4 : S2.1 6 (5 * i + 4) = d) (h : s_fit S k a b c d) : s_ins S2 nc i := by
  rcases h with ⟨rfl, h⟩ | ⟨hk, ha, hb, hc⟩ | ⟨rfl, ha, hb⟩ | ⟨rfl, ha, hb, hc, hd⟩ | ⟨rfl, ha, hb, hc⟩ | ⟨rfl, ha⟩ | ⟨rfl, ha⟩
  · obtain ⟨na, a1, a2⟩ := rg_n h
    exact ⟨0, by omega, e0, ⟨na, e1.trans a2, by omega, fun _ => a1⟩, fun z => by omega, fun z => by omega, fun z => by omega, fun z => by omega, fun z => by omega, fun z => by omega⟩
  · obtain ⟨na, a1, a2⟩ := rg_n ha
    obtain ⟨nb, b1, b2⟩ := rg_n hb
    obtain ⟨n3, c1, c2⟩ := rg_n hc
    obtain ⟨kk, hk1, hk2⟩ : ∃ kk : Nat, (kk = 1 ∨ kk = 2 ∨ kk = 3) ∧ k = nI kk := by
      rcases hk with rfl | rfl | rfl
      · exact ⟨1, by omega, rfl⟩
      · exact ⟨2, by omega, rfl⟩
      · exact ⟨3, by omega, rfl⟩
    exact ⟨kk, by omega, e0.trans hk2, ⟨na, e1.trans a2, by omega, fun _ => a1⟩, fun _ => ⟨nb, b1, e2.trans b2⟩, fun z => by omega, fun z => by omega, fun _ => ⟨n3, c1, e3.trans c2⟩, fun z => by omega, fun z => by omega⟩
  · obtain ⟨na, a1, a2⟩ := rg_n ha
    obtain ⟨nb, b1, b2⟩ := isC_n h1 hn hb
    exact ⟨4, by omega, e0, ⟨na, e1.trans a2, by omega, fun _ => a1⟩, fun z => by omega, fun _ => ⟨nb, b1, e2.trans b2⟩, fun z => by omega, fun z => by omega, fun z => by omega, fun z => by omega⟩
  · obtain ⟨na, a1, a2⟩ := rg_n ha
    obtain ⟨nb, b1, b2⟩ := sl_n hb
    obtain ⟨n3, c1, c2⟩ := rg_n hc
    obtain ⟨nd, d1, d2⟩ := rg_n hd
    exact ⟨5, by omega, e0, ⟨na, e1.trans a2, by omega, fun _ => a1⟩, fun z => by omega, fun z => by omega, fun _ => ⟨nb, b1, e2.trans b2⟩, fun _ => ⟨n3, c1, e3.trans c2⟩, fun z => by omega, fun _ => ⟨nd, d1, e4.trans d2⟩⟩
  · obtain ⟨na, a1, a2⟩ := rg_n ha
    obtain ⟨nb, b1, b2⟩ := rg_n hb
    obtain ⟨n3, c1, c2⟩ := pl_n hc
    exact ⟨6, by omega, e0, ⟨na, e1.trans a2, by omega, fun _ => a1⟩, fun _ => ⟨nb, b1, e2.trans b2⟩, fun z => by omega, fun z => by omega, fun z => by omega, fun _ => ⟨n3, c1, e3.trans c2⟩, fun z => by omega⟩
  · obtain ⟨na, a1, a2⟩ := pl_n ha
    exact ⟨7, by omega, e0, ⟨na, e1.trans a2, a1, fun z => absurd rfl z⟩, fun z => by omega, fun z => by omega, fun z => by omega, fun z => by omega, fun z => by omega, fun z => by omega⟩
  · obtain ⟨na, a1, a2⟩ := rg_n ha
    exact ⟨8, by omega, e0, ⟨na, e1.trans a2, by omega, fun _ => a1⟩, fun z => by omega, fun z => by omega, fun z => by omega, fun z => by omega, fun z => by omega, fun z => by omega⟩
def f_app (S : rS) (m q : Nat) (k a b c d : Int32) : rS := su (s_in5 S (5 * (20 * m + q)) k a b c d) 5 (va_up (S.1 5) m (nI (q + 1)))
theorem op_app {S T : rS} {nc nm m q : Nat} {k a b c d : Int32} (h : Inv S T nc nm) (hm : m < nm) (hq : tn (S.1 5 m) = q) (hq20 : q < 20) (hf : s_fit S k a b c d) : Inv (sp_unlearn (f_app S m q k a b c d) m) (sp_unlearn (f_app T m q k a b c d) m) nc nm := by
  refine op_unl ?_ hm
  obtain ⟨⟨g1, g2, g3, g4, g5, g6, g7, g8⟩, hQ, hR, hM, he⟩ := h
  have e6 : ∀ i, (f_app S m q k a b c d).1 6 i = va_up (va_up (va_up (va_up (va_up (S.1 6) (5 * (20 * m + q)) k) (5 * (20 * m + q) + 1) a) (5 * (20 * m + q) + 2) b) (5 * (20 * m + q) + 3) c) (5 * (20 * m + q) + 4) d i := fun i => rfl
  refine ⟨⟨g1, s_par_congr (S := S) rfl g2, g3, g4, g5, fun m2 hm2 => ?_, g7, g8⟩, ⟨rT_congr (S := S) rfl rfl hQ.1, fun m2 q2 x hm2 hq2 hq3 hx => ?_⟩, rR_congr (S := S) rfl rfl hR, rM_congr (S := S) rfl rfl rfl hM, ?_⟩
  · obtain ⟨z, k1, k2, k3, k4⟩ := g6 m2 hm2
    have hold : ∀ q2, q2 < z → 20 * m2 + q2 ≠ 20 * m + q → s_ins (f_app S m q k a b c d) nc (20 * m2 + q2) := fun q2 h1 h2 => s_ins_mono (S := S) (fun j hj => by
      rw [e6, va_up_ne _ _ (by omega), va_up_ne _ _ (by omega), va_up_ne _ _ (by omega), va_up_ne _ _ (by omega), va_up_ne _ _ (by omega)]) (Nat.le_refl _) (k4 q2 h1)
    by_cases e : m2 = m
    · subst e
      have hz : z = q := by rw [← hq, k2]; exact (tn_nI (by omega)).symm
      subst hz
      refine ⟨z + 1, by omega, va_up_self _ _ _, fun hh => by omega, fun q2 hq2 => ?_⟩
      by_cases e2 : q2 = z
      · subst e2
        refine fit_ins g1 (by have := g2.1; omega) ?_ ?_ ?_ ?_ ?_ hf
        · rw [e6]; simp [va_up]
        · rw [e6]; simp [va_up]
        · rw [e6]; simp [va_up]
        · rw [e6]; simp [va_up]
        · rw [e6]; simp [va_up]
      · exact hold q2 (by omega) (by omega)
    · refine ⟨z, k1, ?_, k3, fun q2 hq2 => hold q2 hq2 (by omega)⟩
      show va_up (S.1 5) m (nI (q + 1)) m2 = nI z
      rw [va_up_ne _ _ e]
      exact k2
  · have hq2 : tn (va_up (S.1 5) m (nI (q + 1)) m2) ≤ q2 := hq2
    refine hQ.2 m2 q2 x hm2 ?_ hq3 hx
    by_cases e : m2 = m
    · subst e
      rw [va_up_self, tn_nI (by omega)] at hq2
      omega
    · rw [va_up_ne _ _ e] at hq2
      exact hq2
  · unfold f_app s_in5
    rw [er_su (by decide) (by decide) (by decide) (by decide), er_su (by decide) (by decide) (by decide) (by decide), er_su (by decide) (by decide) (by decide) (by decide), er_su (by decide) (by decide) (by decide) (by decide), he, er_f (k := 6) he (by decide) (by decide) (by decide) (by decide), er_f (k := 5) he (by decide) (by decide) (by decide) (by decide)]
/-! policy -/
theorem op_pol {S T : rS} {nc nm : Nat} {a b c : Int32} (h : Inv S T nc nm) : Inv (su (su (su S 7 (fun _ => a)) 8 (fun _ => b)) 9 (fun _ => c)) (su (su (su T 7 (fun _ => a)) 8 (fun _ => b)) 9 (fun _ => c)) nc nm :=
  ⟨rI_congr rfl rfl rfl rfl rfl rfl rfl rfl rfl h.1, rQ_congr (S := S) rfl rfl rfl rfl rfl rfl h.2.1, rR_congr (S := S) rfl rfl h.2.2.1, rM_congr (S := S) rfl rfl rfl h.2.2.2.1, by rw [er_su (by decide) (by decide) (by decide) (by decide), er_su (by decide) (by decide) (by decide) (by decide), er_su (by decide) (by decide) (by decide) (by decide), er_su (by decide) (by decide) (by decide) (by decide), er_su (by decide) (by decide) (by decide) (by decide), er_su (by decide) (by decide) (by decide) (by decide), h.2.2.2.2]⟩
/-! digest -/
theorem dr_er {S T : rS} {m : Nat} {d : Int64} (he : er T = er S) : ∀ k : Nat, s_dr T m d k = s_dr S m d k
  | 0 => rfl
  | k + 1 => by
    unfold s_dr s_mat
    rw [er_f (k := 6) he (by decide) (by decide) (by decide) (by decide), er_f (k := 13) he (by decide) (by decide) (by decide) (by decide), er_f (k := 15) he (by decide) (by decide) (by decide) (by decide), dr_er he k]
theorem dm_er {S T : rS} {d : Int64} (he : er T = er S) : ∀ k : Nat, s_dm T d k = s_dm S d k
  | 0 => rfl
  | k + 1 => by
    unfold s_dm s_dh
    rw [dm_er he k, dr_er he, er_f (k := 5) he (by decide) (by decide) (by decide) (by decide), er_f (k := 10) he (by decide) (by decide) (by decide) (by decide), er_f (k := 11) he (by decide) (by decide) (by decide) (by decide), er_f (k := 12) he (by decide) (by decide) (by decide) (by decide)]
theorem dig_er {S T : rS} (he : er T = er S) : o_digest T = o_digest S := by
  unfold o_digest
  rw [dm_er he, er_f (k := 1) he (by decide) (by decide) (by decide) (by decide), er_f (k := 4) he (by decide) (by decide) (by decide) (by decide), er_f (k := 27) he (by decide) (by decide) (by decide) (by decide), er_f (k := 25) he (by decide) (by decide) (by decide) (by decide), er_2 he]
/-! implement -/
theorem tk_sm {S : rS} {sm sm2 : Nat → Int32} {nc r n : Nat} {b : Bool} (hr : ∀ k : Nat, k < n → ∃ d : Nat, d < nc ∧ S.1 14 (3 * r + k) = nI d) (hnc : nc ≤ 8) (hs : ∀ d, d < nc → sm2 d = sm d) : ∀ k : Nat, k ≤ n → s_tk S sm2 r b k = s_tk S sm r b k
  | 0, _ => rfl
  | k + 1, hk => by
    unfold s_tk
    obtain ⟨d, h1, h2⟩ := hr k (by omega)
    rw [tk_sm hr hnc hs k (by omega), h2, tn_nI (by omega), hs d h1]
theorem tp_sm {S : rS} {sm sm2 : Nat → Int32} {nc nm m g : Nat} (hI : rI S nc nm) (hm : m < 12) (hs : ∀ d, d < nc → sm2 d = sm d) : ∀ q : Nat, q ≤ 20 → s_tp S sm2 m g q = s_tp S sm m g q
  | 0, _ => rfl
  | q + 1, hq => by
    unfold s_tp
    rw [tp_sm hI hm hs q (by omega)]
    obtain ⟨n, h1, h2, h3⟩ := hI.2.2.2.2.2.2.1 (240 + 20 * m + q) (by omega)
    rw [tk_sm h3 hI.2.1.1 hs (tn (S.1 13 (240 + 20 * m + q))) (by rw [h2, tn_nI (by omega)]; exact Nat.le_refl _)]
theorem rb_ne (a b : Int32) : rb (a ≠ b) = rb (b ≠ a) := rb_iff ⟨Ne.symm, Ne.symm⟩
theorem op_imp {S T : rS} {nc nm c g : Nat} {w : Int32} (h : Inv S T nc nm) (hc : c < nc) (hg : g < 6) (hw : w = -1 ∨ s_isM S w) :
    (s_il (c_i1 T c g nc w) (c_sm (c_i1 T c g nc w) g) g nm).2 = (o_imp2 S c g nc nm w).2 ∧ Inv (o_imp2 S c g nc nm w).1 (s_il (c_i1 T c g nc w) (c_sm (c_i1 T c g nc w) g) g nm).1 nc nm := by
  obtain ⟨hI, hQ, hR, hM, he⟩ := h
  have hnm := hI.2.2.2.1
  have hnc := hI.2.1.1
  obtain ⟨S1, hS1⟩ : ∃ S1, S1 = s_i1 S c g w := ⟨_, rfl⟩
  obtain ⟨T1, hT1⟩ : ∃ T1, T1 = c_i1 T c g nc w := ⟨_, rfl⟩
  have he1 : er T1 = er S1 := by
    rw [hT1, hS1]
    unfold c_i1 s_i1 s_bef
    rw [er_su (by decide) (by decide) (by decide) (by decide), er_30, er_su (by decide) (by decide) (by decide) (by decide), he, er_f (k := 3) he (by decide) (by decide) (by decide) (by decide)]
  obtain ⟨d0, hd0, hwd⟩ : ∃ d, d ≤ nm ∧ w = nI d - 1 := by
    rcases hw with h | h
    · exact ⟨0, Nat.zero_le _, by rw [h]; rfl⟩
    · obtain ⟨m, h1, h2⟩ := isM_n hI.2.2.1 hnm h
      exact ⟨m + 1, by omega, by rw [h2, nI_m1s]⟩
  have hI1 : rI S1 nc nm := by
    obtain ⟨g1, g2, g3, g4, g5, g6, g7, g8⟩ := hI
    rw [hS1]
    refine ⟨g1, s_par_congr (S := S) rfl g2, g3, g4, fun c2 g2' hc2 hg2 => ?_, fun m hm => ?_, g7, g8⟩
    · show ∃ d, d ≤ nm ∧ va_up (S.1 3) (6 * c + g) w (6 * c2 + g2') = nI d - 1
      by_cases e : 6 * c2 + g2' = 6 * c + g
      · rw [e, va_up_self]
        exact ⟨d0, hd0, hwd⟩
      · rw [va_up_ne _ _ e]
        exact g5 c2 g2' hc2 hg2
    · obtain ⟨z, k1, k2, k3, k4⟩ := g6 m hm
      exact ⟨z, k1, k2, k3, fun q hq => s_ins_mono (S := S) (fun _ _ => rfl) (Nat.le_refl _) (k4 q hq)⟩
  have hsm : ∀ d, d < nc → c_sm T1 g d = s_sm S S1 g nc d := fun d hd => by
    unfold c_sm s_sm
    rw [if_pos hd, s_und_congr (er_f (k := 2) he1 (by decide) (by decide) (by decide) (by decide)) (er_f (k := 3) he1 (by decide) (by decide) (by decide) (by decide))]
    have e30 : T1.1 30 d = s_und S (d + 1) g := by
      rw [hT1]
      show (if d < nc then s_und T (d + 1) g else T.1 30 d) = _
      rw [if_pos hd, s_und_congr (er_f (k := 2) he (by decide) (by decide) (by decide) (by decide)) (er_f (k := 3) he (by decide) (by decide) (by decide) (by decide))]
    rw [e30]
    exact rb_ne _ _
  have key : ∀ k : Nat, k ≤ nm → (s_il T1 (c_sm T1 g) g k).2 = (s_il S1 (s_sm S S1 g nc) g k).2 ∧ er (s_il T1 (c_sm T1 g) g k).1 = er (s_il S1 (s_sm S S1 g nc) g k).1 ∧ rT (s_il S1 (s_sm S S1 g nc) g k).1 ∧ rM (s_il S1 (s_sm S S1 g nc) g k).1 nm := by
    intro k
    induction k with
    | zero => exact fun _ => ⟨rfl, he1, by rw [hS1]; exact rT_congr (S := S) rfl rfl hQ.1, by rw [hS1]; exact rM_congr (S := S) rfl rfl rfl hM⟩
    | succ k ih =>
      intro hk
      obtain ⟨i1, i2, i3, i4⟩ := ih (by omega)
      obtain ⟨z, k1, k2, -, -⟩ := hI1.2.2.2.2.2.1 k (by omega)
      have htp : s_tp T1 (c_sm T1 g) k g (tn (T1.1 5 k)) = s_tp S1 (s_sm S S1 g nc) k g (tn (S1.1 5 k)) := by
        rw [s_tp_congr (er_f (k := 6) he1 (by decide) (by decide) (by decide) (by decide)) (er_f (k := 13) he1 (by decide) (by decide) (by decide) (by decide)) (er_f (k := 14) he1 (by decide) (by decide) (by decide) (by decide)) (er_f (k := 15) he1 (by decide) (by decide) (by decide) (by decide)), er_f (k := 5) he1 (by decide) (by decide) (by decide) (by decide)]
        exact tp_sm hI1 (by omega) hsm _ (by rw [k2, tn_nI (by omega)]; exact k1)
      unfold s_il
      rw [htp, er_f (k := 10) he1 (by decide) (by decide) (by decide) (by decide)]
      split
      · refine ⟨by show (s_il T1 (c_sm T1 g) g k).2 + 1 = _ + 1; rw [i1], ?_, ⟨tk_up i3.1 (by decide), i3.2⟩, rM_up (S := (s_il S1 (s_sm S S1 g nc) g k).1) (show k < nm by omega) (Or.inr rfl) (Or.inr rfl) (Or.inl rfl) (c := 0) i4⟩
        rw [er_su (by decide) (by decide) (by decide) (by decide), er_su (by decide) (by decide) (by decide) (by decide), er_su (by decide) (by decide) (by decide) (by decide), er_su (by decide) (by decide) (by decide) (by decide), i2, er_f (k := 10) i2 (by decide) (by decide) (by decide) (by decide), er_f (k := 11) i2 (by decide) (by decide) (by decide) (by decide)]
      · exact ⟨i1, i2, i3, i4⟩
  obtain ⟨j1, j2, j3, j4⟩ := key nm (Nat.le_refl _)
  rw [← hT1]
  unfold o_imp2
  rw [← hS1]
  have f : ∀ {f : Nat}, f ≠ 10 → f ≠ 11 → (s_il S1 (s_sm S S1 g nc) g nm).1.1 f = S1.1 f := fun h1 h2 => s_il_f h1 h2 nm
  have hU1 : rU S1 := by rw [hS1]; exact rU_congr (S := S) rfl rfl rfl rfl hQ.2
  have hR1 : rR S1 := by rw [hS1]; exact rR_congr (S := S) rfl rfl hR
  exact ⟨j1, rI_congr (f (by decide) (by decide)) (f (by decide) (by decide)) (f (by decide) (by decide)) (f (by decide) (by decide)) (f (by decide) (by decide)) (f (by decide) (by decide)) (f (by decide) (by decide)) (f (by decide) (by decide)) (f (by decide) (by decide)) hI1, ⟨j3, rU_congr (f (by decide) (by decide)) (f (by decide) (by decide)) (f (by decide) (by decide)) (f (by decide) (by decide)) hU1⟩, rR_congr (f (by decide) (by decide)) (f (by decide) (by decide)) hR1, j4, j2⟩
