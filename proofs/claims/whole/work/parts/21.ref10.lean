theorem rb_iff {q r : Prop} [Decidable q] [Decidable r] (h : q ↔ r) : rb q = rb r := by
  by_cases hq : q
  · rw [rb_1 hq, rb_1 (h.mp hq)]
  · rw [rb_0 hq, rb_0 (fun z => hq (h.mpr z))]
theorem s_k8 (k : Int32) : k = 0 ∨ k = 1 ∨ k = 2 ∨ k = 3 ∨ k = 4 ∨ k = 5 ∨ k = 6 ∨ k = 7 ∨ (k.toInt < 0 ∨ 7 < k.toInt) := by
  have key : ∀ j : Nat, j < 8 → k.toInt = (j : Int) → k = nI j := fun j hj h => Int32.toInt_inj.mp (h.trans (nI_toInt (by omega)).symm)
  by_cases h : k.toInt < 0 ∨ 7 < k.toInt
  · simp only [h, or_true]
  · have h0 : k.toInt = 0 ∨ k.toInt = 1 ∨ k.toInt = 2 ∨ k.toInt = 3 ∨ k.toInt = 4 ∨ k.toInt = 5 ∨ k.toInt = 6 ∨ k.toInt = 7 := by omega
    rcases h0 with e | e | e | e | e | e | e | e
    · exact Or.inl (key 0 (by decide) e)
    · exact Or.inr (Or.inl (key 1 (by decide) e))
    · exact Or.inr (Or.inr (Or.inl (key 2 (by decide) e)))
    · exact Or.inr (Or.inr (Or.inr (Or.inl (key 3 (by decide) e))))
    · exact Or.inr (Or.inr (Or.inr (Or.inr (Or.inl (key 4 (by decide) e)))))
    · exact Or.inr (Or.inr (Or.inr (Or.inr (Or.inr (Or.inl (key 5 (by decide) e))))))
    · exact Or.inr (Or.inr (Or.inr (Or.inr (Or.inr (Or.inr (Or.inl (key 6 (by decide) e)))))))
    · exact Or.inr (Or.inr (Or.inr (Or.inr (Or.inr (Or.inr (Or.inr (Or.inl (key 7 (by decide) e))))))))
theorem s_fit_0 (S : rS) (a b c d : Int32) : s_fit S 0 a b c d ↔ (s_rg a) := ⟨fun h => by
  rcases h with ⟨e, h⟩ | ⟨e, h⟩ | ⟨e, h⟩ | ⟨e, h⟩ | ⟨e, h⟩ | ⟨e, h⟩ | ⟨e, h⟩
  all_goals first | exact absurd e (by decide) | exact h, fun h => Or.inl ⟨rfl, h⟩⟩
theorem s_fit_1 (S : rS) (a b c d : Int32) : s_fit S 1 a b c d ↔ (s_rg a ∧ s_rg b ∧ s_rg c) := ⟨fun h => by
  rcases h with ⟨e, h⟩ | ⟨e, h⟩ | ⟨e, h⟩ | ⟨e, h⟩ | ⟨e, h⟩ | ⟨e, h⟩ | ⟨e, h⟩
  all_goals first | exact absurd e (by decide) | exact h, fun h => Or.inr (Or.inl ⟨Or.inl rfl, h⟩)⟩
theorem s_fit_2 (S : rS) (a b c d : Int32) : s_fit S 2 a b c d ↔ (s_rg a ∧ s_rg b ∧ s_rg c) := ⟨fun h => by
  rcases h with ⟨e, h⟩ | ⟨e, h⟩ | ⟨e, h⟩ | ⟨e, h⟩ | ⟨e, h⟩ | ⟨e, h⟩ | ⟨e, h⟩
  all_goals first | exact absurd e (by decide) | exact h, fun h => Or.inr (Or.inl ⟨Or.inr (Or.inl rfl), h⟩)⟩
theorem s_fit_3 (S : rS) (a b c d : Int32) : s_fit S 3 a b c d ↔ (s_rg a ∧ s_rg b ∧ s_rg c) := ⟨fun h => by
  rcases h with ⟨e, h⟩ | ⟨e, h⟩ | ⟨e, h⟩ | ⟨e, h⟩ | ⟨e, h⟩ | ⟨e, h⟩ | ⟨e, h⟩
  all_goals first | exact absurd e (by decide) | exact h, fun h => Or.inr (Or.inl ⟨Or.inr (Or.inr rfl), h⟩)⟩
theorem s_fit_4 (S : rS) (a b c d : Int32) : s_fit S 4 a b c d ↔ (s_rg a ∧ s_isC S b) := ⟨fun h => by
  rcases h with ⟨e, h⟩ | ⟨e, h⟩ | ⟨e, h⟩ | ⟨e, h⟩ | ⟨e, h⟩ | ⟨e, h⟩ | ⟨e, h⟩
  all_goals first | exact absurd e (by decide) | exact h, fun h => Or.inr (Or.inr (Or.inl ⟨rfl, h⟩))⟩
theorem s_fit_5 (S : rS) (a b c d : Int32) : s_fit S 5 a b c d ↔ (s_rg a ∧ s_sl b ∧ s_rg c ∧ s_rg d) := ⟨fun h => by
  rcases h with ⟨e, h⟩ | ⟨e, h⟩ | ⟨e, h⟩ | ⟨e, h⟩ | ⟨e, h⟩ | ⟨e, h⟩ | ⟨e, h⟩
  all_goals first | exact absurd e (by decide) | exact h, fun h => Or.inr (Or.inr (Or.inr (Or.inl ⟨rfl, h⟩)))⟩
theorem s_fit_6 (S : rS) (a b c d : Int32) : s_fit S 6 a b c d ↔ (s_rg a ∧ s_rg b ∧ s_pl c) := ⟨fun h => by
  rcases h with ⟨e, h⟩ | ⟨e, h⟩ | ⟨e, h⟩ | ⟨e, h⟩ | ⟨e, h⟩ | ⟨e, h⟩ | ⟨e, h⟩
  all_goals first | exact absurd e (by decide) | exact h, fun h => Or.inr (Or.inr (Or.inr (Or.inr (Or.inl ⟨rfl, h⟩))))⟩
theorem s_fit_7 (S : rS) (a b c d : Int32) : s_fit S 7 a b c d ↔ (s_pl a) := ⟨fun h => by
  rcases h with ⟨e, h⟩ | ⟨e, h⟩ | ⟨e, h⟩ | ⟨e, h⟩ | ⟨e, h⟩ | ⟨e, h⟩ | ⟨e, h⟩
  all_goals first | exact absurd e (by decide) | exact h, fun h => Or.inr (Or.inr (Or.inr (Or.inr (Or.inr (Or.inl ⟨rfl, h⟩)))))⟩
theorem s_fit_8 (S : rS) (a b c d : Int32) : s_fit S 8 a b c d ↔ (s_rg a) := ⟨fun h => by
  rcases h with ⟨e, h⟩ | ⟨e, h⟩ | ⟨e, h⟩ | ⟨e, h⟩ | ⟨e, h⟩ | ⟨e, h⟩ | ⟨e, h⟩
  all_goals first | exact absurd e (by decide) | exact h, fun h => Or.inr (Or.inr (Or.inr (Or.inr (Or.inr (Or.inr ⟨rfl, h⟩)))))⟩
theorem s_fit_d {S : rS} {k : Int32} (a b c d : Int32) (hout : k.toInt < 0 ∨ 7 < k.toInt) : s_fit S k a b c d ↔ (k = 8 ∧ s_rg a) := ⟨fun h => by
  have hno : ∀ j : Nat, j < 8 → k ≠ nI j := fun j hj e => by
    rw [e, nI_toInt (by omega)] at hout
    omega
  rcases h with ⟨e, h⟩ | ⟨e, h⟩ | ⟨e, h⟩ | ⟨e, h⟩ | ⟨e, h⟩ | ⟨e, h⟩ | ⟨e, h⟩
  · exact absurd e (hno 0 (by decide))
  · rcases e with e | e | e
    · exact absurd e (hno 1 (by decide))
    · exact absurd e (hno 2 (by decide))
    · exact absurd e (hno 3 (by decide))
  · exact absurd e (hno 4 (by decide))
  · exact absurd e (hno 5 (by decide))
  · exact absurd e (hno 6 (by decide))
  · exact absurd e (hno 7 (by decide))
  · exact ⟨e, h⟩, fun h => Or.inr (Or.inr (Or.inr (Or.inr (Or.inr (Or.inr h)))))⟩
set_option maxHeartbeats 4000000 in
set_option maxRecDepth 100000 in
theorem c6_areRight (l : Launch) (V : gV) (ad : gA) (S : rS) (k a b c_ d : Int32) : rMi l yX6_areRight cX6_areRight 6 (some .boolean) ({ frames := 1, cells := 0, slots := 0, locals := 21 } : Room) [.int k, .int a, .int b, .int c_, .int d] V ad S (fun r S' => r = rb (s_fit S k a b c_ d) ∧ S' = S) := by
  refine rMi.of (by decide) (Nat.le_of_ble_eq_true rfl) ?_
  intro p e s m_ below meth c ls E sz hC hz hR hl
  have hx := hC.1
  have hb := hC.2.1
  have hl : lv_has ls 6 [(0, .ref (ad 50 0 0)), (1, .int k), (2, .int a), (3, .int b), (4, .int c_), (5, .int d)] := hl
  refine lv_iload_n hx hb dX6_areRight_0 rfl (lv_at hl 1 rfl) ?_
  rcases s_k8 k with hk | hk | hk | hk | hk | hk | hk | hk | hout
  · subst hk
    refine lv_tableIn (tgt := 48) hx hb dX6_areRight_1 (by decide) (by decide) rfl (by decide) ?_
    refine lv_iload_n hx hb dX6_areRight_48 rfl (lv_at hl 2 rfl) ?_
    refine rs_calli hC hR (c6_isRegister l a) km_RX6_94 kst_yX6_isRegister kz_RX6 kd_yX6_isRegister dn_X6_isRegister rfl hl.1 ⟨by decide, by decide⟩ (Nat.le_of_ble_eq_true rfl) ⟨by decide, by decide⟩ dX6_areRight_49 (fun r_49 H locs p_49 hR => ?_)
    refine gq_top (rb (s_rg a)) p_49 ?_
    exact rr_zret hC hz hR (rb_or _) (⟨(rb_iff (s_fit_0 S a b c_ d)).symm, rfl⟩) (by decide) (by decide) dX6_areRight_52
  · subst hk
    refine lv_tableIn (tgt := 53) hx hb dX6_areRight_1 (by decide) (by decide) rfl (by decide) ?_
    refine lv_iload_n hx hb dX6_areRight_53 rfl (lv_at hl 2 rfl) ?_
    refine rs_calli hC hR (c6_isRegister l a) km_RX6_94 kst_yX6_isRegister kz_RX6 kd_yX6_isRegister dn_X6_isRegister rfl hl.1 ⟨by decide, by decide⟩ (Nat.le_of_ble_eq_true rfl) ⟨by decide, by decide⟩ dX6_areRight_54 (fun r_54 H locs p_54 hR => ?_)
    refine gq_top (rb (s_rg a)) p_54 ?_
    refine lv_if_eq (tgt := 79) hx hb dX6_areRight_57 (by decide) (fun c_57 => ?_) (fun c_57 => ?_)
    · refine lv_iconst (v := 0) hx hb dX6_areRight_79 (by decide) ?_
      exact rr_zret hC hz hR (by decide) (⟨by rw [rb_iff (s_fit_1 S a b c_ d)]; first | exact (rb_0 (fun w => rb_n c_57 w.1)).symm | exact (rb_0 (fun w => rb_n c_64 w.2.1)).symm | exact (rb_0 (fun w => rb_n c_72 w.2.2)).symm | exact (rb_1 (⟨rb_t c_57, rb_t c_64, rb_t c_72⟩)).symm, rfl⟩) (by decide) (by decide) dX6_areRight_80
    · refine lv_iload_n hx hb dX6_areRight_60 rfl (lv_at hl 3 rfl) ?_
      refine rs_calli hC hR (c6_isRegister l b) km_RX6_94 kst_yX6_isRegister kz_RX6 kd_yX6_isRegister dn_X6_isRegister rfl hl.1 ⟨by decide, by decide⟩ (Nat.le_of_ble_eq_true rfl) ⟨by decide, by decide⟩ dX6_areRight_61 (fun r_61 H locs p_61 hR => ?_)
      refine gq_top (rb (s_rg b)) p_61 ?_
      refine lv_if_eq (tgt := 79) hx hb dX6_areRight_64 (by decide) (fun c_64 => ?_) (fun c_64 => ?_)
      · refine lv_iconst (v := 0) hx hb dX6_areRight_79 (by decide) ?_
        exact rr_zret hC hz hR (by decide) (⟨by rw [rb_iff (s_fit_1 S a b c_ d)]; first | exact (rb_0 (fun w => rb_n c_57 w.1)).symm | exact (rb_0 (fun w => rb_n c_64 w.2.1)).symm | exact (rb_0 (fun w => rb_n c_72 w.2.2)).symm | exact (rb_1 (⟨rb_t c_57, rb_t c_64, rb_t c_72⟩)).symm, rfl⟩) (by decide) (by decide) dX6_areRight_80
      · refine lv_iload hx hb dX6_areRight_67 (lv_at hl 4 rfl) ?_
        refine rs_calli hC hR (c6_isRegister l c_) km_RX6_94 kst_yX6_isRegister kz_RX6 kd_yX6_isRegister dn_X6_isRegister rfl hl.1 ⟨by decide, by decide⟩ (Nat.le_of_ble_eq_true rfl) ⟨by decide, by decide⟩ dX6_areRight_69 (fun r_69 H locs p_69 hR => ?_)
        refine gq_top (rb (s_rg c_)) p_69 ?_
        refine lv_if_eq (tgt := 79) hx hb dX6_areRight_72 (by decide) (fun c_72 => ?_) (fun c_72 => ?_)
        · refine lv_iconst (v := 0) hx hb dX6_areRight_79 (by decide) ?_
          exact rr_zret hC hz hR (by decide) (⟨by rw [rb_iff (s_fit_1 S a b c_ d)]; first | exact (rb_0 (fun w => rb_n c_57 w.1)).symm | exact (rb_0 (fun w => rb_n c_64 w.2.1)).symm | exact (rb_0 (fun w => rb_n c_72 w.2.2)).symm | exact (rb_1 (⟨rb_t c_57, rb_t c_64, rb_t c_72⟩)).symm, rfl⟩) (by decide) (by decide) dX6_areRight_80
        · refine lv_iconst (v := 1) hx hb dX6_areRight_75 (by decide) ?_
          refine lv_goto (tgt := 80) hx hb dX6_areRight_76 (by decide) ?_
          exact rr_zret hC hz hR (by decide) (⟨by rw [rb_iff (s_fit_1 S a b c_ d)]; first | exact (rb_0 (fun w => rb_n c_57 w.1)).symm | exact (rb_0 (fun w => rb_n c_64 w.2.1)).symm | exact (rb_0 (fun w => rb_n c_72 w.2.2)).symm | exact (rb_1 (⟨rb_t c_57, rb_t c_64, rb_t c_72⟩)).symm, rfl⟩) (by decide) (by decide) dX6_areRight_80
  · subst hk
    refine lv_tableIn (tgt := 53) hx hb dX6_areRight_1 (by decide) (by decide) rfl (by decide) ?_
    refine lv_iload_n hx hb dX6_areRight_53 rfl (lv_at hl 2 rfl) ?_
    refine rs_calli hC hR (c6_isRegister l a) km_RX6_94 kst_yX6_isRegister kz_RX6 kd_yX6_isRegister dn_X6_isRegister rfl hl.1 ⟨by decide, by decide⟩ (Nat.le_of_ble_eq_true rfl) ⟨by decide, by decide⟩ dX6_areRight_54 (fun r_54 H locs p_54 hR => ?_)
    refine gq_top (rb (s_rg a)) p_54 ?_
    refine lv_if_eq (tgt := 79) hx hb dX6_areRight_57 (by decide) (fun c_57 => ?_) (fun c_57 => ?_)
    · refine lv_iconst (v := 0) hx hb dX6_areRight_79 (by decide) ?_
      exact rr_zret hC hz hR (by decide) (⟨by rw [rb_iff (s_fit_2 S a b c_ d)]; first | exact (rb_0 (fun w => rb_n c_57 w.1)).symm | exact (rb_0 (fun w => rb_n c_64 w.2.1)).symm | exact (rb_0 (fun w => rb_n c_72 w.2.2)).symm | exact (rb_1 (⟨rb_t c_57, rb_t c_64, rb_t c_72⟩)).symm, rfl⟩) (by decide) (by decide) dX6_areRight_80
    · refine lv_iload_n hx hb dX6_areRight_60 rfl (lv_at hl 3 rfl) ?_
      refine rs_calli hC hR (c6_isRegister l b) km_RX6_94 kst_yX6_isRegister kz_RX6 kd_yX6_isRegister dn_X6_isRegister rfl hl.1 ⟨by decide, by decide⟩ (Nat.le_of_ble_eq_true rfl) ⟨by decide, by decide⟩ dX6_areRight_61 (fun r_61 H locs p_61 hR => ?_)
      refine gq_top (rb (s_rg b)) p_61 ?_
      refine lv_if_eq (tgt := 79) hx hb dX6_areRight_64 (by decide) (fun c_64 => ?_) (fun c_64 => ?_)
      · refine lv_iconst (v := 0) hx hb dX6_areRight_79 (by decide) ?_
        exact rr_zret hC hz hR (by decide) (⟨by rw [rb_iff (s_fit_2 S a b c_ d)]; first | exact (rb_0 (fun w => rb_n c_57 w.1)).symm | exact (rb_0 (fun w => rb_n c_64 w.2.1)).symm | exact (rb_0 (fun w => rb_n c_72 w.2.2)).symm | exact (rb_1 (⟨rb_t c_57, rb_t c_64, rb_t c_72⟩)).symm, rfl⟩) (by decide) (by decide) dX6_areRight_80
      · refine lv_iload hx hb dX6_areRight_67 (lv_at hl 4 rfl) ?_
        refine rs_calli hC hR (c6_isRegister l c_) km_RX6_94 kst_yX6_isRegister kz_RX6 kd_yX6_isRegister dn_X6_isRegister rfl hl.1 ⟨by decide, by decide⟩ (Nat.le_of_ble_eq_true rfl) ⟨by decide, by decide⟩ dX6_areRight_69 (fun r_69 H locs p_69 hR => ?_)
        refine gq_top (rb (s_rg c_)) p_69 ?_
        refine lv_if_eq (tgt := 79) hx hb dX6_areRight_72 (by decide) (fun c_72 => ?_) (fun c_72 => ?_)
        · refine lv_iconst (v := 0) hx hb dX6_areRight_79 (by decide) ?_
          exact rr_zret hC hz hR (by decide) (⟨by rw [rb_iff (s_fit_2 S a b c_ d)]; first | exact (rb_0 (fun w => rb_n c_57 w.1)).symm | exact (rb_0 (fun w => rb_n c_64 w.2.1)).symm | exact (rb_0 (fun w => rb_n c_72 w.2.2)).symm | exact (rb_1 (⟨rb_t c_57, rb_t c_64, rb_t c_72⟩)).symm, rfl⟩) (by decide) (by decide) dX6_areRight_80
        · refine lv_iconst (v := 1) hx hb dX6_areRight_75 (by decide) ?_
          refine lv_goto (tgt := 80) hx hb dX6_areRight_76 (by decide) ?_
          exact rr_zret hC hz hR (by decide) (⟨by rw [rb_iff (s_fit_2 S a b c_ d)]; first | exact (rb_0 (fun w => rb_n c_57 w.1)).symm | exact (rb_0 (fun w => rb_n c_64 w.2.1)).symm | exact (rb_0 (fun w => rb_n c_72 w.2.2)).symm | exact (rb_1 (⟨rb_t c_57, rb_t c_64, rb_t c_72⟩)).symm, rfl⟩) (by decide) (by decide) dX6_areRight_80
  · subst hk
    refine lv_tableIn (tgt := 53) hx hb dX6_areRight_1 (by decide) (by decide) rfl (by decide) ?_
    refine lv_iload_n hx hb dX6_areRight_53 rfl (lv_at hl 2 rfl) ?_
    refine rs_calli hC hR (c6_isRegister l a) km_RX6_94 kst_yX6_isRegister kz_RX6 kd_yX6_isRegister dn_X6_isRegister rfl hl.1 ⟨by decide, by decide⟩ (Nat.le_of_ble_eq_true rfl) ⟨by decide, by decide⟩ dX6_areRight_54 (fun r_54 H locs p_54 hR => ?_)
    refine gq_top (rb (s_rg a)) p_54 ?_
    refine lv_if_eq (tgt := 79) hx hb dX6_areRight_57 (by decide) (fun c_57 => ?_) (fun c_57 => ?_)
    · refine lv_iconst (v := 0) hx hb dX6_areRight_79 (by decide) ?_
      exact rr_zret hC hz hR (by decide) (⟨by rw [rb_iff (s_fit_3 S a b c_ d)]; first | exact (rb_0 (fun w => rb_n c_57 w.1)).symm | exact (rb_0 (fun w => rb_n c_64 w.2.1)).symm | exact (rb_0 (fun w => rb_n c_72 w.2.2)).symm | exact (rb_1 (⟨rb_t c_57, rb_t c_64, rb_t c_72⟩)).symm, rfl⟩) (by decide) (by decide) dX6_areRight_80
    · refine lv_iload_n hx hb dX6_areRight_60 rfl (lv_at hl 3 rfl) ?_
      refine rs_calli hC hR (c6_isRegister l b) km_RX6_94 kst_yX6_isRegister kz_RX6 kd_yX6_isRegister dn_X6_isRegister rfl hl.1 ⟨by decide, by decide⟩ (Nat.le_of_ble_eq_true rfl) ⟨by decide, by decide⟩ dX6_areRight_61 (fun r_61 H locs p_61 hR => ?_)
      refine gq_top (rb (s_rg b)) p_61 ?_
      refine lv_if_eq (tgt := 79) hx hb dX6_areRight_64 (by decide) (fun c_64 => ?_) (fun c_64 => ?_)
      · refine lv_iconst (v := 0) hx hb dX6_areRight_79 (by decide) ?_
        exact rr_zret hC hz hR (by decide) (⟨by rw [rb_iff (s_fit_3 S a b c_ d)]; first | exact (rb_0 (fun w => rb_n c_57 w.1)).symm | exact (rb_0 (fun w => rb_n c_64 w.2.1)).symm | exact (rb_0 (fun w => rb_n c_72 w.2.2)).symm | exact (rb_1 (⟨rb_t c_57, rb_t c_64, rb_t c_72⟩)).symm, rfl⟩) (by decide) (by decide) dX6_areRight_80
      · refine lv_iload hx hb dX6_areRight_67 (lv_at hl 4 rfl) ?_
        refine rs_calli hC hR (c6_isRegister l c_) km_RX6_94 kst_yX6_isRegister kz_RX6 kd_yX6_isRegister dn_X6_isRegister rfl hl.1 ⟨by decide, by decide⟩ (Nat.le_of_ble_eq_true rfl) ⟨by decide, by decide⟩ dX6_areRight_69 (fun r_69 H locs p_69 hR => ?_)
        refine gq_top (rb (s_rg c_)) p_69 ?_
        refine lv_if_eq (tgt := 79) hx hb dX6_areRight_72 (by decide) (fun c_72 => ?_) (fun c_72 => ?_)
        · refine lv_iconst (v := 0) hx hb dX6_areRight_79 (by decide) ?_
          exact rr_zret hC hz hR (by decide) (⟨by rw [rb_iff (s_fit_3 S a b c_ d)]; first | exact (rb_0 (fun w => rb_n c_57 w.1)).symm | exact (rb_0 (fun w => rb_n c_64 w.2.1)).symm | exact (rb_0 (fun w => rb_n c_72 w.2.2)).symm | exact (rb_1 (⟨rb_t c_57, rb_t c_64, rb_t c_72⟩)).symm, rfl⟩) (by decide) (by decide) dX6_areRight_80
        · refine lv_iconst (v := 1) hx hb dX6_areRight_75 (by decide) ?_
          refine lv_goto (tgt := 80) hx hb dX6_areRight_76 (by decide) ?_
          exact rr_zret hC hz hR (by decide) (⟨by rw [rb_iff (s_fit_3 S a b c_ d)]; first | exact (rb_0 (fun w => rb_n c_57 w.1)).symm | exact (rb_0 (fun w => rb_n c_64 w.2.1)).symm | exact (rb_0 (fun w => rb_n c_72 w.2.2)).symm | exact (rb_1 (⟨rb_t c_57, rb_t c_64, rb_t c_72⟩)).symm, rfl⟩) (by decide) (by decide) dX6_areRight_80
  · subst hk
    refine lv_tableIn (tgt := 81) hx hb dX6_areRight_1 (by decide) (by decide) rfl (by decide) ?_
    refine lv_iload_n hx hb dX6_areRight_81 rfl (lv_at hl 2 rfl) ?_
    refine rs_calli hC hR (c6_isRegister l a) km_RX6_94 kst_yX6_isRegister kz_RX6 kd_yX6_isRegister dn_X6_isRegister rfl hl.1 ⟨by decide, by decide⟩ (Nat.le_of_ble_eq_true rfl) ⟨by decide, by decide⟩ dX6_areRight_82 (fun r_82 H locs p_82 hR => ?_)
    refine gq_top (rb (s_rg a)) p_82 ?_
    refine lv_if_eq (tgt := 100) hx hb dX6_areRight_85 (by decide) (fun c_85 => ?_) (fun c_85 => ?_)
    · refine lv_iconst (v := 0) hx hb dX6_areRight_100 (by decide) ?_
      exact rr_zret hC hz hR (by decide) (⟨by rw [rb_iff (s_fit_4 S a b c_ d)]; first | exact (rb_0 (fun w => rb_n c_85 w.1)).symm | exact (rb_0 (fun w => rb_n c_93 w.2)).symm | exact (rb_1 (⟨rb_t c_85, rb_t c_93⟩)).symm, rfl⟩) (by decide) (by decide) dX6_areRight_101
    · refine lv_aload_n hx hb dX6_areRight_88 rfl (lv_at hl 0 rfl) ?_
      refine lv_iload_n hx hb dX6_areRight_89 rfl (lv_at hl 3 rfl) ?_
      refine rr_calli hC hR (c6_isClass l V ad _ b) km_RX6_82 kn_yX6_isClass ks_yX6_isClass kz_RX6 kd_yX6_isClass dn_X6_isClass rfl hl.1 ⟨by decide, by decide⟩ (Nat.le_of_ble_eq_true rfl) ⟨by decide, by decide⟩ dX6_areRight_90 (fun r_90 S_90 H locs p_90 hR => ?_)
      obtain ⟨q_90, p_90⟩ := p_90
      rw [p_90] at hR
      refine gq_top (rb (s_isC S b)) q_90 ?_
      refine lv_if_eq (tgt := 100) hx hb dX6_areRight_93 (by decide) (fun c_93 => ?_) (fun c_93 => ?_)
      · refine lv_iconst (v := 0) hx hb dX6_areRight_100 (by decide) ?_
        exact rr_zret hC hz hR (by decide) (⟨by rw [rb_iff (s_fit_4 S a b c_ d)]; first | exact (rb_0 (fun w => rb_n c_85 w.1)).symm | exact (rb_0 (fun w => rb_n c_93 w.2)).symm | exact (rb_1 (⟨rb_t c_85, rb_t c_93⟩)).symm, rfl⟩) (by decide) (by decide) dX6_areRight_101
      · refine lv_iconst (v := 1) hx hb dX6_areRight_96 (by decide) ?_
        refine lv_goto (tgt := 101) hx hb dX6_areRight_97 (by decide) ?_
        exact rr_zret hC hz hR (by decide) (⟨by rw [rb_iff (s_fit_4 S a b c_ d)]; first | exact (rb_0 (fun w => rb_n c_85 w.1)).symm | exact (rb_0 (fun w => rb_n c_93 w.2)).symm | exact (rb_1 (⟨rb_t c_85, rb_t c_93⟩)).symm, rfl⟩) (by decide) (by decide) dX6_areRight_101
  · subst hk
    refine lv_tableIn (tgt := 102) hx hb dX6_areRight_1 (by decide) (by decide) rfl (by decide) ?_
    refine lv_iload_n hx hb dX6_areRight_102 rfl (lv_at hl 2 rfl) ?_
    refine rs_calli hC hR (c6_isRegister l a) km_RX6_94 kst_yX6_isRegister kz_RX6 kd_yX6_isRegister dn_X6_isRegister rfl hl.1 ⟨by decide, by decide⟩ (Nat.le_of_ble_eq_true rfl) ⟨by decide, by decide⟩ dX6_areRight_103 (fun r_103 H locs p_103 hR => ?_)
    refine gq_top (rb (s_rg a)) p_103 ?_
    refine lv_if_eq (tgt := 136) hx hb dX6_areRight_106 (by decide) (fun c_106 => ?_) (fun c_106 => ?_)
    · refine lv_iconst (v := 0) hx hb dX6_areRight_136 (by decide) ?_
      exact rr_zret hC hz hR (by decide) (⟨by rw [rb_iff (s_fit_5 S a b c_ d)]; first | exact (rb_0 (fun w => rb_n c_106 w.1)).symm | exact (rb_0 (fun w => rb_n c_113 w.2.1)).symm | exact (rb_0 (fun w => rb_n c_121 w.2.2.1)).symm | exact (rb_0 (fun w => rb_n c_129 w.2.2.2)).symm | exact (rb_1 (⟨rb_t c_106, rb_t c_113, rb_t c_121, rb_t c_129⟩)).symm, rfl⟩) (by decide) (by decide) dX6_areRight_137
    · refine lv_iload_n hx hb dX6_areRight_109 rfl (lv_at hl 3 rfl) ?_
      refine rs_calli hC hR (c6_isSelector l b) km_RX6_97 kst_yX6_isSelector kz_RX6 kd_yX6_isSelector dn_X6_isSelector rfl hl.1 ⟨by decide, by decide⟩ (Nat.le_of_ble_eq_true rfl) ⟨by decide, by decide⟩ dX6_areRight_110 (fun r_110 H locs p_110 hR => ?_)
      refine gq_top (rb (s_sl b)) p_110 ?_
      refine lv_if_eq (tgt := 136) hx hb dX6_areRight_113 (by decide) (fun c_113 => ?_) (fun c_113 => ?_)
      · refine lv_iconst (v := 0) hx hb dX6_areRight_136 (by decide) ?_
        exact rr_zret hC hz hR (by decide) (⟨by rw [rb_iff (s_fit_5 S a b c_ d)]; first | exact (rb_0 (fun w => rb_n c_106 w.1)).symm | exact (rb_0 (fun w => rb_n c_113 w.2.1)).symm | exact (rb_0 (fun w => rb_n c_121 w.2.2.1)).symm | exact (rb_0 (fun w => rb_n c_129 w.2.2.2)).symm | exact (rb_1 (⟨rb_t c_106, rb_t c_113, rb_t c_121, rb_t c_129⟩)).symm, rfl⟩) (by decide) (by decide) dX6_areRight_137
      · refine lv_iload hx hb dX6_areRight_116 (lv_at hl 4 rfl) ?_
        refine rs_calli hC hR (c6_isRegister l c_) km_RX6_94 kst_yX6_isRegister kz_RX6 kd_yX6_isRegister dn_X6_isRegister rfl hl.1 ⟨by decide, by decide⟩ (Nat.le_of_ble_eq_true rfl) ⟨by decide, by decide⟩ dX6_areRight_118 (fun r_118 H locs p_118 hR => ?_)
        refine gq_top (rb (s_rg c_)) p_118 ?_
        refine lv_if_eq (tgt := 136) hx hb dX6_areRight_121 (by decide) (fun c_121 => ?_) (fun c_121 => ?_)
        · refine lv_iconst (v := 0) hx hb dX6_areRight_136 (by decide) ?_
          exact rr_zret hC hz hR (by decide) (⟨by rw [rb_iff (s_fit_5 S a b c_ d)]; first | exact (rb_0 (fun w => rb_n c_106 w.1)).symm | exact (rb_0 (fun w => rb_n c_113 w.2.1)).symm | exact (rb_0 (fun w => rb_n c_121 w.2.2.1)).symm | exact (rb_0 (fun w => rb_n c_129 w.2.2.2)).symm | exact (rb_1 (⟨rb_t c_106, rb_t c_113, rb_t c_121, rb_t c_129⟩)).symm, rfl⟩) (by decide) (by decide) dX6_areRight_137
        · refine lv_iload hx hb dX6_areRight_124 (lv_at hl 5 rfl) ?_
          refine rs_calli hC hR (c6_isRegister l d) km_RX6_94 kst_yX6_isRegister kz_RX6 kd_yX6_isRegister dn_X6_isRegister rfl hl.1 ⟨by decide, by decide⟩ (Nat.le_of_ble_eq_true rfl) ⟨by decide, by decide⟩ dX6_areRight_126 (fun r_126 H locs p_126 hR => ?_)
          refine gq_top (rb (s_rg d)) p_126 ?_
          refine lv_if_eq (tgt := 136) hx hb dX6_areRight_129 (by decide) (fun c_129 => ?_) (fun c_129 => ?_)
          · refine lv_iconst (v := 0) hx hb dX6_areRight_136 (by decide) ?_
            exact rr_zret hC hz hR (by decide) (⟨by rw [rb_iff (s_fit_5 S a b c_ d)]; first | exact (rb_0 (fun w => rb_n c_106 w.1)).symm | exact (rb_0 (fun w => rb_n c_113 w.2.1)).symm | exact (rb_0 (fun w => rb_n c_121 w.2.2.1)).symm | exact (rb_0 (fun w => rb_n c_129 w.2.2.2)).symm | exact (rb_1 (⟨rb_t c_106, rb_t c_113, rb_t c_121, rb_t c_129⟩)).symm, rfl⟩) (by decide) (by decide) dX6_areRight_137
          · refine lv_iconst (v := 1) hx hb dX6_areRight_132 (by decide) ?_
            refine lv_goto (tgt := 137) hx hb dX6_areRight_133 (by decide) ?_
            exact rr_zret hC hz hR (by decide) (⟨by rw [rb_iff (s_fit_5 S a b c_ d)]; first | exact (rb_0 (fun w => rb_n c_106 w.1)).symm | exact (rb_0 (fun w => rb_n c_113 w.2.1)).symm | exact (rb_0 (fun w => rb_n c_121 w.2.2.1)).symm | exact (rb_0 (fun w => rb_n c_129 w.2.2.2)).symm | exact (rb_1 (⟨rb_t c_106, rb_t c_113, rb_t c_121, rb_t c_129⟩)).symm, rfl⟩) (by decide) (by decide) dX6_areRight_137
  · subst hk
    refine lv_tableIn (tgt := 138) hx hb dX6_areRight_1 (by decide) (by decide) rfl (by decide) ?_
    refine lv_iload_n hx hb dX6_areRight_138 rfl (lv_at hl 2 rfl) ?_
    refine rs_calli hC hR (c6_isRegister l a) km_RX6_94 kst_yX6_isRegister kz_RX6 kd_yX6_isRegister dn_X6_isRegister rfl hl.1 ⟨by decide, by decide⟩ (Nat.le_of_ble_eq_true rfl) ⟨by decide, by decide⟩ dX6_areRight_139 (fun r_139 H locs p_139 hR => ?_)
    refine gq_top (rb (s_rg a)) p_139 ?_
    refine lv_if_eq (tgt := 164) hx hb dX6_areRight_142 (by decide) (fun c_142 => ?_) (fun c_142 => ?_)
    · refine lv_iconst (v := 0) hx hb dX6_areRight_164 (by decide) ?_
      exact rr_zret hC hz hR (by decide) (⟨by rw [rb_iff (s_fit_6 S a b c_ d)]; first | exact (rb_0 (fun w => rb_n c_142 w.1)).symm | exact (rb_0 (fun w => rb_n c_149 w.2.1)).symm | exact (rb_0 (fun w => rb_n c_157 w.2.2)).symm | exact (rb_1 (⟨rb_t c_142, rb_t c_149, rb_t c_157⟩)).symm, rfl⟩) (by decide) (by decide) dX6_areRight_165
    · refine lv_iload_n hx hb dX6_areRight_145 rfl (lv_at hl 3 rfl) ?_
      refine rs_calli hC hR (c6_isRegister l b) km_RX6_94 kst_yX6_isRegister kz_RX6 kd_yX6_isRegister dn_X6_isRegister rfl hl.1 ⟨by decide, by decide⟩ (Nat.le_of_ble_eq_true rfl) ⟨by decide, by decide⟩ dX6_areRight_146 (fun r_146 H locs p_146 hR => ?_)
      refine gq_top (rb (s_rg b)) p_146 ?_
      refine lv_if_eq (tgt := 164) hx hb dX6_areRight_149 (by decide) (fun c_149 => ?_) (fun c_149 => ?_)
      · refine lv_iconst (v := 0) hx hb dX6_areRight_164 (by decide) ?_
        exact rr_zret hC hz hR (by decide) (⟨by rw [rb_iff (s_fit_6 S a b c_ d)]; first | exact (rb_0 (fun w => rb_n c_142 w.1)).symm | exact (rb_0 (fun w => rb_n c_149 w.2.1)).symm | exact (rb_0 (fun w => rb_n c_157 w.2.2)).symm | exact (rb_1 (⟨rb_t c_142, rb_t c_149, rb_t c_157⟩)).symm, rfl⟩) (by decide) (by decide) dX6_areRight_165
      · refine lv_iload hx hb dX6_areRight_152 (lv_at hl 4 rfl) ?_
        refine rs_calli hC hR (c6_isPlace l c_) km_RX6_100 kst_yX6_isPlace kz_RX6 kd_yX6_isPlace dn_X6_isPlace rfl hl.1 ⟨by decide, by decide⟩ (Nat.le_of_ble_eq_true rfl) ⟨by decide, by decide⟩ dX6_areRight_154 (fun r_154 H locs p_154 hR => ?_)
        refine gq_top (rb (s_pl c_)) p_154 ?_
        refine lv_if_eq (tgt := 164) hx hb dX6_areRight_157 (by decide) (fun c_157 => ?_) (fun c_157 => ?_)
        · refine lv_iconst (v := 0) hx hb dX6_areRight_164 (by decide) ?_
          exact rr_zret hC hz hR (by decide) (⟨by rw [rb_iff (s_fit_6 S a b c_ d)]; first | exact (rb_0 (fun w => rb_n c_142 w.1)).symm | exact (rb_0 (fun w => rb_n c_149 w.2.1)).symm | exact (rb_0 (fun w => rb_n c_157 w.2.2)).symm | exact (rb_1 (⟨rb_t c_142, rb_t c_149, rb_t c_157⟩)).symm, rfl⟩) (by decide) (by decide) dX6_areRight_165
        · refine lv_iconst (v := 1) hx hb dX6_areRight_160 (by decide) ?_
          refine lv_goto (tgt := 165) hx hb dX6_areRight_161 (by decide) ?_
          exact rr_zret hC hz hR (by decide) (⟨by rw [rb_iff (s_fit_6 S a b c_ d)]; first | exact (rb_0 (fun w => rb_n c_142 w.1)).symm | exact (rb_0 (fun w => rb_n c_149 w.2.1)).symm | exact (rb_0 (fun w => rb_n c_157 w.2.2)).symm | exact (rb_1 (⟨rb_t c_142, rb_t c_149, rb_t c_157⟩)).symm, rfl⟩) (by decide) (by decide) dX6_areRight_165
  · subst hk
    refine lv_tableIn (tgt := 166) hx hb dX6_areRight_1 (by decide) (by decide) rfl (by decide) ?_
    refine lv_iload_n hx hb dX6_areRight_166 rfl (lv_at hl 2 rfl) ?_
    refine rs_calli hC hR (c6_isPlace l a) km_RX6_100 kst_yX6_isPlace kz_RX6 kd_yX6_isPlace dn_X6_isPlace rfl hl.1 ⟨by decide, by decide⟩ (Nat.le_of_ble_eq_true rfl) ⟨by decide, by decide⟩ dX6_areRight_167 (fun r_167 H locs p_167 hR => ?_)
    refine gq_top (rb (s_pl a)) p_167 ?_
    exact rr_zret hC hz hR (rb_or _) (⟨(rb_iff (s_fit_7 S a b c_ d)).symm, rfl⟩) (by decide) (by decide) dX6_areRight_170
  · refine lv_tableOut (tgt := 171) hx hb dX6_areRight_1 (hout) (by decide) ?_
    refine lv_iload_n hx hb dX6_areRight_171 rfl (lv_at hl 1 rfl) ?_
    refine lv_bipush (v := 8) hx hb dX6_areRight_172 (by decide) ?_
    refine lv_icmp_ne (tgt := 188) hx hb dX6_areRight_174 (by decide) (fun c_174 => ?_) (fun c_174 => ?_)
    · refine lv_iconst (v := 0) hx hb dX6_areRight_188 (by decide) ?_
      exact rr_zret hC hz hR (by decide) (⟨by rw [rb_iff (s_fit_d a b c_ d hout)]; first | exact (rb_0 (fun w => c_174 w.1)).symm | exact (rb_0 (fun w => rb_n c_181 w.2)).symm | exact (rb_1 ⟨c_174, rb_t c_181⟩).symm, rfl⟩) (by decide) (by decide) dX6_areRight_189
    · refine lv_iload_n hx hb dX6_areRight_177 rfl (lv_at hl 2 rfl) ?_
      refine rs_calli hC hR (c6_isRegister l a) km_RX6_94 kst_yX6_isRegister kz_RX6 kd_yX6_isRegister dn_X6_isRegister rfl hl.1 ⟨by decide, by decide⟩ (Nat.le_of_ble_eq_true rfl) ⟨by decide, by decide⟩ dX6_areRight_178 (fun r_178 H locs p_178 hR => ?_)
      refine gq_top (rb (s_rg a)) p_178 ?_
      refine lv_if_eq (tgt := 188) hx hb dX6_areRight_181 (by decide) (fun c_181 => ?_) (fun c_181 => ?_)
      · refine lv_iconst (v := 0) hx hb dX6_areRight_188 (by decide) ?_
        exact rr_zret hC hz hR (by decide) (⟨by rw [rb_iff (s_fit_d a b c_ d hout)]; first | exact (rb_0 (fun w => c_174 w.1)).symm | exact (rb_0 (fun w => rb_n c_181 w.2)).symm | exact (rb_1 ⟨c_174, rb_t c_181⟩).symm, rfl⟩) (by decide) (by decide) dX6_areRight_189
      · refine lv_iconst (v := 1) hx hb dX6_areRight_184 (by decide) ?_
        refine lv_goto (tgt := 189) hx hb dX6_areRight_185 (by decide) ?_
        exact rr_zret hC hz hR (by decide) (⟨by rw [rb_iff (s_fit_d a b c_ d hout)]; first | exact (rb_0 (fun w => c_174 w.1)).symm | exact (rb_0 (fun w => rb_n c_181 w.2)).symm | exact (rb_1 ⟨c_174, rb_t c_181⟩).symm, rfl⟩) (by decide) (by decide) dX6_areRight_189
def s_in5 (S : rS) (i : Nat) (k a b c d : Int32) : rS := su S 6 (va_up (va_up (va_up (va_up (va_up (S.1 6) i k) (i + 1) a) (i + 2) b) (i + 3) c) (i + 4) d)
def o_append (S : rS) (x k a b c d : Int32) : Int32 × rS :=
  if ¬ s_isM S x then (0, su S 0 (fun _ => 1)) else if ¬ s_fit S k a b c d then (0, su S 0 (fun _ => 2)) else if S.1 5 (tn x) = 20 then (0, su S 0 (fun _ => 3))
  else (S.1 5 (tn x), sp_unlearn (su (s_in5 S (5 * (20 * tn x + tn (S.1 5 (tn x)))) k a b c d) 5 (va_up (S.1 5) (tn x) (S.1 5 (tn x) + 1))) (tn x))
theorem s_clr_f {S : rS} {m k f : Nat} (h1 : f ≠ 13) (h2 : f ≠ 15) : (s_clr S m k).1 f = S.1 f := by simp [s_clr, su, h1, h2]
set_option maxHeartbeats 4000000 in
set_option maxRecDepth 100000 in
theorem c6_append (l : Launch) (V : gV) (ad : gA) (S : rS) (nc nm : Nat) (hI : rI S nc nm) (x k a b c_ d : Int32) : rMi l yX6_append cX6_append 8 (some .int) ({ frames := 2, cells := 0, slots := 0, locals := 46 } : Room) [.int x, .int k, .int a, .int b, .int c_, .int d] V ad S (fun r S' => r = (o_append (su S 0 (fun _ => 0)) x k a b c_ d).1 ∧ S' = (o_append (su S 0 (fun _ => 0)) x k a b c_ d).2) := by
  refine rMi.of (by decide) (Nat.le_of_ble_eq_true rfl) ?_
  intro p e s m_ below meth c ls E sz hC hz hR hl
  have hx := hC.1
  have hb := hC.2.1
  have hl : lv_has ls 8 [(0, .ref (ad 50 0 0)), (1, .int x), (2, .int k), (3, .int a), (4, .int b), (5, .int c_), (6, .int d)] := hl
  have h4 := hI.2.2.1
  have hnm := hI.2.2.2.1
  refine lv_aload_n hx hb dX6_append_0 rfl (lv_at hl 0 rfl) ?_
  refine lv_iconst (v := 0) hx hb dX6_append_1 (by decide) ?_
  refine rp_0 hC hR dX6_append_2 (fun H locs hR => ?_)
  refine lv_aload_n hx hb dX6_append_5 rfl (lv_at hl 0 rfl) ?_
  refine lv_iload_n hx hb dX6_append_6 rfl (lv_at hl 1 rfl) ?_
  refine rr_calli hC hR (c6_isMethod l V ad _ x) km_RX6_103 kn_yX6_isMethod ks_yX6_isMethod kz_RX6 kd_yX6_isMethod dn_X6_isMethod rfl hl.1 ⟨by decide, by decide⟩ (Nat.le_of_ble_eq_true rfl) ⟨by decide, by decide⟩ dX6_append_7 (fun r_7 S_7 H locs p_7 hR => ?_)
  obtain ⟨q_7, p_7⟩ := p_7
  rw [p_7] at hR
  refine gq_top (rb (s_isM S x)) q_7 ?_
  refine lv_if_ne (tgt := 19) hx hb dX6_append_10 (by decide) (fun c_10 => ?_) (fun c_10 => ?_)
  · refine lv_aload_n hx hb dX6_append_19 rfl (lv_at hl 0 rfl) ?_
    refine lv_iload_n hx hb dX6_append_20 rfl (lv_at hl 2 rfl) ?_
    refine lv_iload_n hx hb dX6_append_21 rfl (lv_at hl 3 rfl) ?_
    refine lv_iload hx hb dX6_append_22 (lv_at hl 4 rfl) ?_
    refine lv_iload hx hb dX6_append_24 (lv_at hl 5 rfl) ?_
    refine lv_iload hx hb dX6_append_26 (lv_at hl 6 rfl) ?_
    refine rr_calli hC hR (c6_areRight l V ad _ k a b c_ d) km_RX6_106 kn_yX6_areRight ks_yX6_areRight kz_RX6 kd_yX6_areRight dn_X6_areRight rfl hl.1 ⟨by decide, by decide⟩ (Nat.le_of_ble_eq_true rfl) ⟨by decide, by decide⟩ dX6_append_28 (fun r_28 S_28 H locs p_28 hR => ?_)
    obtain ⟨q_28, p_28⟩ := p_28
    rw [p_28] at hR
    refine gq_top (rb (s_fit S k a b c_ d)) q_28 ?_
    refine lv_if_ne (tgt := 40) hx hb dX6_append_31 (by decide) (fun c_31 => ?_) (fun c_31 => ?_)
    · obtain ⟨m, hm31, ex⟩ := nI_of (rb_t c_10).1
      have hmn : m < nm := by have h := (rb_t c_10).2; rw [ex, h4] at h; exact (nI_ltI hm31 (by omega)).mp h
      obtain ⟨z, hz20, h5, -⟩ := hI.2.2.2.2.2.1 m (by omega)
      have tx : tn x = m := by rw [ex]; exact tn_nI hm31
      have tz : tn (S.1 5 m) = z := by rw [h5]; exact tn_nI (by omega)
      have hA : o_append (su S 0 (fun _ => 0)) x k a b c_ d = if S.1 5 m = 20 then (0, su (su S 0 (fun _ => 0)) 0 (fun _ => 3)) else (S.1 5 m, sp_unlearn (su (s_in5 (su S 0 (fun _ => 0)) (5 * (20 * m + z)) k a b c_ d) 5 (va_up (S.1 5) m (S.1 5 m + 1))) m) := by
        unfold o_append
        rw [if_neg (fun w => w (rb_t c_10)), if_neg (fun w => w (rb_t c_31)), tx]
        rw [show ((su S 0 (fun _ => 0))).1 5 m = S.1 5 m from rfl, tz]
        rfl
      refine lv_aload_n hx hb dX6_append_40 rfl (lv_at hl 0 rfl) ?_
      refine rg_5 hC hR dX6_append_41 ?_
      refine lv_iload_n hx hb dX6_append_44 rfl (lv_at hl 1 rfl) ?_
      refine gq_top (nI m) (ex) ?_
      refine ra_5 hC hR (by omega) dX6_append_45 ?_
      refine lv_bipush (v := 20) hx hb dX6_append_46 (by decide) ?_
      refine lv_icmp_ne (tgt := 57) hx hb dX6_append_48 (by decide) (fun c_48 => ?_) (fun c_48 => ?_)
      · have hz9 : z ≠ 20 := fun w => c_48 (by show S.1 5 m = 20; rw [h5, w]; rfl)
        refine lv_iconst (v := 5) hx hb dX6_append_57 (by decide) ?_
        refine lv_bipush (v := 20) hx hb dX6_append_58 (by decide) ?_
        refine lv_iload_n hx hb dX6_append_60 rfl (lv_at hl 1 rfl) ?_
        refine gq_top (nI m) (ex) ?_
        refine lv_imul hx hb dX6_append_61 ?_
        refine lv_aload_n hx hb dX6_append_62 rfl (lv_at hl 0 rfl) ?_
        refine rg_5 hC hR dX6_append_63 ?_
        refine lv_iload_n hx hb dX6_append_66 rfl (lv_at hl 1 rfl) ?_
        refine gq_top (nI m) (ex) ?_
        refine ra_5 hC hR (by omega) dX6_append_67 ?_
        refine gq_top (nI z) (h5) ?_
        refine lv_iadd hx hb dX6_append_68 ?_
        refine lv_imul hx hb dX6_append_69 ?_
        refine gq_top (nI (5 * (20 * m + z))) (by simp only [nl1, nl2, nl3, nl4, nl5, nl6, nl20, nl240, nI_mul, nI_add]) ?_
        refine lv_istore (lv' := [(7, .int (nI (5 * (20 * m + z)))), (0, .ref (ad 50 0 0)), (1, .int x), (2, .int k), (3, .int a), (4, .int b), (5, .int c_), (6, .int d)]) hx hb dX6_append_70 hl (by decide) rfl (fun ls hl => ?_)
        refine lv_aload_n hx hb dX6_append_72 rfl (lv_at hl 1 rfl) ?_
        refine rg_6 hC hR dX6_append_73 ?_
        refine lv_iload hx hb dX6_append_76 (lv_at hl 0 rfl) ?_
        refine lv_iload_n hx hb dX6_append_78 rfl (lv_at hl 3 rfl) ?_
        refine rs_6 hC hR (by omega) dX6_append_79 (fun H locs hR => ?_)
        refine lv_aload_n hx hb dX6_append_80 rfl (lv_at hl 1 rfl) ?_
        refine rg_6 hC hR dX6_append_81 ?_
        refine lv_iload hx hb dX6_append_84 (lv_at hl 0 rfl) ?_
        refine lv_iconst (v := 1) hx hb dX6_append_86 (by decide) ?_
        refine lv_iadd hx hb dX6_append_87 ?_
        refine gq_top (nI (5 * (20 * m + z) + 1)) (by simp only [nl1, nl2, nl3, nl4, nl5, nl6, nl20, nl240, nI_mul, nI_add]) ?_
        refine lv_iload_n hx hb dX6_append_88 rfl (lv_at hl 4 rfl) ?_
        refine rs_6 hC hR (by omega) dX6_append_89 (fun H locs hR => ?_)
        refine lv_aload_n hx hb dX6_append_90 rfl (lv_at hl 1 rfl) ?_
        refine rg_6 hC hR dX6_append_91 ?_
        refine lv_iload hx hb dX6_append_94 (lv_at hl 0 rfl) ?_
        refine lv_iconst (v := 2) hx hb dX6_append_96 (by decide) ?_
        refine lv_iadd hx hb dX6_append_97 ?_
        refine gq_top (nI (5 * (20 * m + z) + 2)) (by simp only [nl1, nl2, nl3, nl4, nl5, nl6, nl20, nl240, nI_mul, nI_add]) ?_
        refine lv_iload hx hb dX6_append_98 (lv_at hl 5 rfl) ?_
        refine rs_6 hC hR (by omega) dX6_append_100 (fun H locs hR => ?_)
        refine lv_aload_n hx hb dX6_append_101 rfl (lv_at hl 1 rfl) ?_
        refine rg_6 hC hR dX6_append_102 ?_
        refine lv_iload hx hb dX6_append_105 (lv_at hl 0 rfl) ?_
        refine lv_iconst (v := 3) hx hb dX6_append_107 (by decide) ?_
        refine lv_iadd hx hb dX6_append_108 ?_
        refine gq_top (nI (5 * (20 * m + z) + 3)) (by simp only [nl1, nl2, nl3, nl4, nl5, nl6, nl20, nl240, nI_mul, nI_add]) ?_
        refine lv_iload hx hb dX6_append_109 (lv_at hl 6 rfl) ?_
        refine rs_6 hC hR (by omega) dX6_append_111 (fun H locs hR => ?_)
        refine lv_aload_n hx hb dX6_append_112 rfl (lv_at hl 1 rfl) ?_
        refine rg_6 hC hR dX6_append_113 ?_
        refine lv_iload hx hb dX6_append_116 (lv_at hl 0 rfl) ?_
        refine lv_iconst (v := 4) hx hb dX6_append_118 (by decide) ?_
        refine lv_iadd hx hb dX6_append_119 ?_
        refine gq_top (nI (5 * (20 * m + z) + 4)) (by simp only [nl1, nl2, nl3, nl4, nl5, nl6, nl20, nl240, nI_mul, nI_add]) ?_
        refine lv_iload hx hb dX6_append_120 (lv_at hl 7 rfl) ?_
        refine rs_6 hC hR (by omega) dX6_append_122 (fun H locs hR => ?_)
        refine lv_aload_n hx hb dX6_append_123 rfl (lv_at hl 1 rfl) ?_
        refine rg_5 hC hR dX6_append_124 ?_
        refine lv_iload_n hx hb dX6_append_127 rfl (lv_at hl 2 rfl) ?_
        refine gq_top (nI m) (ex) ?_
        refine lv_dup2_11 hx hb dX6_append_128 rfl rfl ?_
        refine ra_5 hC hR (by omega) dX6_append_129 ?_
        refine gq_top (nI z) (h5) ?_
        refine lv_iconst (v := 1) hx hb dX6_append_130 (by decide) ?_
        refine lv_iadd hx hb dX6_append_131 ?_
        refine gq_top (nI (z + 1)) (nI_1 z) ?_
        refine rs_5 hC hR (by omega) dX6_append_132 (fun H locs hR => ?_)
        refine lv_aload_n hx hb dX6_append_133 rfl (lv_at hl 1 rfl) ?_
        refine lv_iload_n hx hb dX6_append_134 rfl (lv_at hl 2 rfl) ?_
        refine gq_top (nI m) (ex) ?_
        refine rr_callv hC hR (c6_unlearn l V ad _ m (by omega)) km_RX6_110 kn_yX6_unlearn ks_yX6_unlearn kz_RX6 kd_yX6_unlearn dn_X6_unlearn rfl hl.1 ⟨by decide, by decide⟩ (Nat.le_of_ble_eq_true rfl) ⟨by decide, by decide⟩ dX6_append_135 (fun S_135 H locs p_135 hR => ?_)
        subst p_135
        refine lv_aload_n hx hb dX6_append_138 rfl (lv_at hl 1 rfl) ?_
        refine rg_5 hC hR dX6_append_139 ?_
        refine lv_iload_n hx hb dX6_append_142 rfl (lv_at hl 2 rfl) ?_
        refine gq_top (nI m) (ex) ?_
        refine ra_5 hC hR (by omega) dX6_append_143 ?_
        refine gq_top (nI (z + 1)) (by show (sp_unlearn _ m).1 5 m = _; unfold sp_unlearn; rw [s_clr_f (by decide) (by decide)]; exact va_up_self _ _ _) ?_
        refine lv_iconst (v := 1) hx hb dX6_append_144 (by decide) ?_
        refine lv_isub hx hb dX6_append_145 ?_
        refine gq_top (nI z) (nI_pred z) ?_
        exact rr_iret hC hz hR (by rw [hA, if_neg (show ¬ S.1 5 m = 20 from c_48), h5, nI_1]; refine ⟨rfl, ?_⟩; show sp_unlearn _ m = sp_unlearn _ m; congr 2; unfold s_in5; rw [su_ss, su_ss, su_ss, su_ss]; rfl) (by decide) (by decide) dX6_append_146
      · refine lv_aload_n hx hb dX6_append_51 rfl (lv_at hl 0 rfl) ?_
        refine lv_iconst (v := 3) hx hb dX6_append_52 (by decide) ?_
        refine rr_calli hC hR (c6_fail l V ad _ 3) km_RX6_86 kn_yX6_fail ks_yX6_fail kz_RX6 kd_yX6_fail dn_X6_fail rfl hl.1 ⟨by decide, by decide⟩ (Nat.le_of_ble_eq_true rfl) ⟨by decide, by decide⟩ dX6_append_53 (fun r_53 S_53 H locs p_53 hR => ?_)
        obtain ⟨q_53, p_53⟩ := p_53
        subst p_53
        rw [q_53]
        exact rr_iret hC hz hR (by rw [hA, if_pos (show S.1 5 m = 20 from c_48)]; exact ⟨rfl, rfl⟩) (by decide) (by decide) dX6_append_56
    · refine lv_aload_n hx hb dX6_append_34 rfl (lv_at hl 0 rfl) ?_
      refine lv_iconst (v := 2) hx hb dX6_append_35 (by decide) ?_
      refine rr_calli hC hR (c6_fail l V ad _ 2) km_RX6_86 kn_yX6_fail ks_yX6_fail kz_RX6 kd_yX6_fail dn_X6_fail rfl hl.1 ⟨by decide, by decide⟩ (Nat.le_of_ble_eq_true rfl) ⟨by decide, by decide⟩ dX6_append_36 (fun r_36 S_36 H locs p_36 hR => ?_)
      obtain ⟨q_36, p_36⟩ := p_36
      subst p_36
      rw [q_36]
      exact rr_iret hC hz hR (by rw [show o_append (su S 0 (fun _ => 0)) x k a b c_ d = _ from (if_neg (fun w => w (rb_t c_10))).trans (if_pos (rb_n c_31))]; exact ⟨rfl, rfl⟩) (by decide) (by decide) dX6_append_39
  · refine lv_aload_n hx hb dX6_append_13 rfl (lv_at hl 0 rfl) ?_
    refine lv_iconst (v := 1) hx hb dX6_append_14 (by decide) ?_
    refine rr_calli hC hR (c6_fail l V ad _ 1) km_RX6_86 kn_yX6_fail ks_yX6_fail kz_RX6 kd_yX6_fail dn_X6_fail rfl hl.1 ⟨by decide, by decide⟩ (Nat.le_of_ble_eq_true rfl) ⟨by decide, by decide⟩ dX6_append_15 (fun r_15 S_15 H locs p_15 hR => ?_)
    obtain ⟨q_15, p_15⟩ := p_15
    subst p_15
    rw [q_15]
    exact rr_iret hC hz hR (by rw [show o_append (su S 0 (fun _ => 0)) x k a b c_ d = _ from if_pos (rb_n c_10)]; exact ⟨rfl, rfl⟩) (by decide) (by decide) dX6_append_18
def o_understands (S : rS) (x y : Int32) : Int32 × rS := if s_isC S x ∧ s_sl y then (s_und S (tn x + 1) (tn y), S) else (0, su S 0 (fun _ => 1))
set_option maxHeartbeats 4000000 in
set_option maxRecDepth 100000 in
theorem c6_understands (l : Launch) (V : gV) (ad : gA) (S : rS) (nc nm : Nat) (hI : rI S nc nm) (x y : Int32) : rMi l yX6_understands cX6_understands 3 (some .int) ({ frames := 2, cells := 0, slots := 0, locals := 46 } : Room) [.int x, .int y] V ad S (fun r S' => r = (o_understands (su S 0 (fun _ => 0)) x y).1 ∧ S' = (o_understands (su S 0 (fun _ => 0)) x y).2) := by
  refine rMi.of (by decide) (Nat.le_of_ble_eq_true rfl) ?_
  intro p e s m_ below meth c ls E sz hC hz hR hl
  have hx := hC.1
  have hb := hC.2.1
  have hl : lv_has ls 3 [(0, .ref (ad 50 0 0)), (1, .int x), (2, .int y)] := hl
  have h1 := hI.1
  have hp := hI.2.1
  have hnc := hp.1
  refine lv_aload_n hx hb dX6_understands_0 rfl (lv_at hl 0 rfl) ?_
  refine lv_iconst (v := 0) hx hb dX6_understands_1 (by decide) ?_
  refine rp_0 hC hR dX6_understands_2 (fun H locs hR => ?_)
  refine lv_aload_n hx hb dX6_understands_5 rfl (lv_at hl 0 rfl) ?_
  refine lv_iload_n hx hb dX6_understands_6 rfl (lv_at hl 1 rfl) ?_
  refine rr_calli hC hR (c6_isClass l V ad _ x) km_RX6_82 kn_yX6_isClass ks_yX6_isClass kz_RX6 kd_yX6_isClass dn_X6_isClass rfl hl.1 ⟨by decide, by decide⟩ (Nat.le_of_ble_eq_true rfl) ⟨by decide, by decide⟩ dX6_understands_7 (fun r_7 S_7 H locs p_7 hR => ?_)
  obtain ⟨q_7, p_7⟩ := p_7
  rw [p_7] at hR
  refine gq_top (rb (s_isC S x)) q_7 ?_
  refine lv_if_eq (tgt := 29) hx hb dX6_understands_10 (by decide) (fun c_10 => ?_) (fun c_10 => ?_)
  · refine lv_aload_n hx hb dX6_understands_29 rfl (lv_at hl 0 rfl) ?_
    refine lv_iconst (v := 1) hx hb dX6_understands_30 (by decide) ?_
    refine rr_calli hC hR (c6_fail l V ad _ 1) km_RX6_86 kn_yX6_fail ks_yX6_fail kz_RX6 kd_yX6_fail dn_X6_fail rfl hl.1 ⟨by decide, by decide⟩ (Nat.le_of_ble_eq_true rfl) ⟨by decide, by decide⟩ dX6_understands_31 (fun r_31 S_31 H locs p_31 hR => ?_)
    obtain ⟨q_31, p_31⟩ := p_31
    subst p_31
    rw [q_31]
    exact rr_iret hC hz hR (by first | (rw [show o_understands (su S 0 (fun _ => 0)) x y = _ from if_neg (fun w => rb_n c_10 w.1)]; exact ⟨rfl, rfl⟩) | (rw [show o_understands (su S 0 (fun _ => 0)) x y = _ from if_neg (fun w => rb_n c_17 w.2)]; exact ⟨rfl, rfl⟩) | (rw [show o_understands (su S 0 (fun _ => 0)) x y = _ from if_pos ⟨rb_t c_10, rb_t c_17⟩, tx, ty]; exact ⟨rfl, rfl⟩)) (by decide) (by decide) dX6_understands_34
  · refine lv_iload_n hx hb dX6_understands_13 rfl (lv_at hl 2 rfl) ?_
    refine rs_calli hC hR (c6_isSelector l y) km_RX6_97 kst_yX6_isSelector kz_RX6 kd_yX6_isSelector dn_X6_isSelector rfl hl.1 ⟨by decide, by decide⟩ (Nat.le_of_ble_eq_true rfl) ⟨by decide, by decide⟩ dX6_understands_14 (fun r_14 H locs p_14 hR => ?_)
    refine gq_top (rb (s_sl y)) p_14 ?_
    refine lv_if_eq (tgt := 29) hx hb dX6_understands_17 (by decide) (fun c_17 => ?_) (fun c_17 => ?_)
    · refine lv_aload_n hx hb dX6_understands_29 rfl (lv_at hl 0 rfl) ?_
      refine lv_iconst (v := 1) hx hb dX6_understands_30 (by decide) ?_
      refine rr_calli hC hR (c6_fail l V ad _ 1) km_RX6_86 kn_yX6_fail ks_yX6_fail kz_RX6 kd_yX6_fail dn_X6_fail rfl hl.1 ⟨by decide, by decide⟩ (Nat.le_of_ble_eq_true rfl) ⟨by decide, by decide⟩ dX6_understands_31 (fun r_31 S_31 H locs p_31 hR => ?_)
      obtain ⟨q_31, p_31⟩ := p_31
      subst p_31
      rw [q_31]
      exact rr_iret hC hz hR (by first | (rw [show o_understands (su S 0 (fun _ => 0)) x y = _ from if_neg (fun w => rb_n c_10 w.1)]; exact ⟨rfl, rfl⟩) | (rw [show o_understands (su S 0 (fun _ => 0)) x y = _ from if_neg (fun w => rb_n c_17 w.2)]; exact ⟨rfl, rfl⟩) | (rw [show o_understands (su S 0 (fun _ => 0)) x y = _ from if_pos ⟨rb_t c_10, rb_t c_17⟩, tx, ty]; exact ⟨rfl, rfl⟩)) (by decide) (by decide) dX6_understands_34
    · obtain ⟨cx, hc31, ex⟩ := nI_of (rb_t c_10).1
      have hcn : cx < nc := by have h := (rb_t c_10).2; rw [ex, h1] at h; exact (nI_ltI hc31 (by omega)).mp h
      obtain ⟨g, hg31, ey⟩ := nI_of (rb_t c_17).1
      have hg : g < 6 := by have h := (rb_t c_17).2; rw [ey, nl6] at h; exact (nI_ltI hg31 (by decide)).mp h
      have tx : tn x = cx := by rw [ex]; exact tn_nI hc31
      have ty : tn y = g := by rw [ey]; exact tn_nI hg31
      refine lv_aload_n hx hb dX6_understands_20 rfl (lv_at hl 0 rfl) ?_
      refine lv_iload_n hx hb dX6_understands_21 rfl (lv_at hl 1 rfl) ?_
      refine gq_top (nI (cx + 1) - 1) (by rw [nI_m1s]; exact ex) ?_
      refine lv_iload_n hx hb dX6_understands_22 rfl (lv_at hl 2 rfl) ?_
      refine gq_top (nI g) (ey) ?_
      refine rr_calli hC hR (c6_understood l V ad _ (cx + 1) g nc hp (by omega) (by omega)) km_RX6_117 kn_yX6_understood ks_yX6_understood kz_RX6 kd_yX6_understood dn_X6_understood rfl hl.1 ⟨by decide, by decide⟩ (Nat.le_of_ble_eq_true rfl) ⟨by decide, by decide⟩ dX6_understands_23 (fun r_23 S_23 H locs p_23 hR => ?_)
      obtain ⟨q_23, p_23⟩ := p_23
      rw [p_23] at hR
      rw [q_23]
      refine lv_goto (tgt := 34) hx hb dX6_understands_26 (by decide) ?_
      exact rr_iret hC hz hR (by first | (rw [show o_understands (su S 0 (fun _ => 0)) x y = _ from if_neg (fun w => rb_n c_10 w.1)]; exact ⟨rfl, rfl⟩) | (rw [show o_understands (su S 0 (fun _ => 0)) x y = _ from if_neg (fun w => rb_n c_17 w.2)]; exact ⟨rfl, rfl⟩) | (rw [show o_understands (su S 0 (fun _ => 0)) x y = _ from if_pos ⟨rb_t c_10, rb_t c_17⟩, tx, ty]; exact ⟨rfl, rfl⟩)) (by decide) (by decide) dX6_understands_34
abbrev s_pok (a b c : Int32) : Prop := ¬ a < 1 ∧ a ≤ 1000 ∧ ¬ b < 1 ∧ b ≤ 1000 ∧ ¬ c < 0 ∧ c ≤ 5
def o_setPolicy (S : rS) (a b c : Int32) : Int32 × rS := if s_pok a b c then (rb (S.1 7 0 ≠ a ∨ S.1 8 0 ≠ b ∨ S.1 9 0 ≠ c), su (su (su S 7 (fun _ => a)) 8 (fun _ => b)) 9 (fun _ => c)) else (0, su S 0 (fun _ => 1))
set_option maxHeartbeats 4000000 in
set_option maxRecDepth 100000 in
theorem c6_setPolicy (l : Launch) (V : gV) (ad : gA) (S : rS) (a b c_ : Int32) : rMi l yX6_setPolicy cX6_setPolicy 5 (some .boolean) ({ frames := 1, cells := 0, slots := 0, locals := 21 } : Room) [.int a, .int b, .int c_] V ad S (fun r S' => r = (o_setPolicy (su S 0 (fun _ => 0)) a b c_).1 ∧ S' = (o_setPolicy (su S 0 (fun _ => 0)) a b c_).2) := by
  refine rMi.of (by decide) (Nat.le_of_ble_eq_true rfl) ?_
  intro p e s m_ below meth c ls E sz hC hz hR hl
  have hx := hC.1
  have hb := hC.2.1
  have hl : lv_has ls 5 [(0, .ref (ad 50 0 0)), (1, .int a), (2, .int b), (3, .int c_)] := hl
  refine lv_aload_n hx hb dX6_setPolicy_0 rfl (lv_at hl 0 rfl) ?_
  refine lv_iconst (v := 0) hx hb dX6_setPolicy_1 (by decide) ?_
  refine rp_0 hC hR dX6_setPolicy_2 (fun H locs hR => ?_)
  refine g_cut (pc2 := 38) (fun H locs ls => (¬ s_pok a b c_) ∧ rfW V (gAd ad E sz) s.heap ad E (su S 0 (fun _ => 0)) H locs ∧ lv_has ls 5 [(0, .ref (ad 50 0 0)), (1, .int a), (2, .int b), (3, .int c_)]) (fun H locs ls hI => ?_) (fun k38 => ?_)
  · obtain ⟨hno, hR, hl⟩ := hI
    refine lv_aload_n hx hb dX6_setPolicy_38 rfl (lv_at hl 0 rfl) ?_
    refine lv_iconst (v := 1) hx hb dX6_setPolicy_39 (by decide) ?_
    refine rr_calli hC hR (c6_fail l V ad _ 1) km_RX6_86 kn_yX6_fail ks_yX6_fail kz_RX6 kd_yX6_fail dn_X6_fail rfl hl.1 ⟨by decide, by decide⟩ (Nat.le_of_ble_eq_true rfl) ⟨by decide, by decide⟩ dX6_setPolicy_40 (fun r_40 S_40 H locs p_40 hR => ?_)
    obtain ⟨q_40, p_40⟩ := p_40
    subst p_40
    rw [q_40]
    refine lv_if_eq (tgt := 50) hx hb dX6_setPolicy_43 (by decide) (fun c_43 => ?_) (fun c_43 => absurd (rfl) c_43)
    refine lv_iconst (v := 0) hx hb dX6_setPolicy_50 (by decide) ?_
    exact rr_zret hC hz hR (by decide) (by rw [show o_setPolicy (su S 0 (fun _ => 0)) a b c_ = _ from if_neg hno]; exact ⟨rfl, rfl⟩) (by decide) (by decide) dX6_setPolicy_51
  · refine lv_iload_n hx hb dX6_setPolicy_5 rfl (lv_at hl 1 rfl) ?_
    refine lv_iconst (v := 1) hx hb dX6_setPolicy_6 (by decide) ?_
    refine lv_icmp_lt (tgt := 38) hx hb dX6_setPolicy_7 (by decide) (fun c_7 => ?_) (fun c_7 => ?_)
    · refine k38 _ _ _ ⟨?_, hR, lv_sub hl [0, 1, 2, 3] rfl⟩
      first | exact fun w => w.1 c_7 | exact fun w => Int32.not_le.mpr c_14 w.2.1 | exact fun w => w.2.2.1 c_19 | exact fun w => Int32.not_le.mpr c_26 w.2.2.2.1 | exact fun w => w.2.2.2.2.1 c_30 | exact fun w => c_35 w.2.2.2.2.2
    · refine lv_iload_n hx hb dX6_setPolicy_10 rfl (lv_at hl 1 rfl) ?_
      refine lv_sipush (v := 1000) hx hb dX6_setPolicy_11 (by decide) ?_
      refine lv_icmp_gt (tgt := 38) hx hb dX6_setPolicy_14 (by decide) (fun c_14 => ?_) (fun c_14 => ?_)
      · refine k38 _ _ _ ⟨?_, hR, lv_sub hl [0, 1, 2, 3] rfl⟩
        first | exact fun w => w.1 c_7 | exact fun w => Int32.not_le.mpr c_14 w.2.1 | exact fun w => w.2.2.1 c_19 | exact fun w => Int32.not_le.mpr c_26 w.2.2.2.1 | exact fun w => w.2.2.2.2.1 c_30 | exact fun w => c_35 w.2.2.2.2.2
      · refine lv_iload_n hx hb dX6_setPolicy_17 rfl (lv_at hl 2 rfl) ?_
        refine lv_iconst (v := 1) hx hb dX6_setPolicy_18 (by decide) ?_
        refine lv_icmp_lt (tgt := 38) hx hb dX6_setPolicy_19 (by decide) (fun c_19 => ?_) (fun c_19 => ?_)
        · refine k38 _ _ _ ⟨?_, hR, lv_sub hl [0, 1, 2, 3] rfl⟩
          first | exact fun w => w.1 c_7 | exact fun w => Int32.not_le.mpr c_14 w.2.1 | exact fun w => w.2.2.1 c_19 | exact fun w => Int32.not_le.mpr c_26 w.2.2.2.1 | exact fun w => w.2.2.2.2.1 c_30 | exact fun w => c_35 w.2.2.2.2.2
        · refine lv_iload_n hx hb dX6_setPolicy_22 rfl (lv_at hl 2 rfl) ?_
          refine lv_sipush (v := 1000) hx hb dX6_setPolicy_23 (by decide) ?_
          refine lv_icmp_gt (tgt := 38) hx hb dX6_setPolicy_26 (by decide) (fun c_26 => ?_) (fun c_26 => ?_)
          · refine k38 _ _ _ ⟨?_, hR, lv_sub hl [0, 1, 2, 3] rfl⟩
            first | exact fun w => w.1 c_7 | exact fun w => Int32.not_le.mpr c_14 w.2.1 | exact fun w => w.2.2.1 c_19 | exact fun w => Int32.not_le.mpr c_26 w.2.2.2.1 | exact fun w => w.2.2.2.2.1 c_30 | exact fun w => c_35 w.2.2.2.2.2
          · refine lv_iload_n hx hb dX6_setPolicy_29 rfl (lv_at hl 3 rfl) ?_
            refine lv_if_lt (tgt := 38) hx hb dX6_setPolicy_30 (by decide) (fun c_30 => ?_) (fun c_30 => ?_)
            · refine k38 _ _ _ ⟨?_, hR, lv_sub hl [0, 1, 2, 3] rfl⟩
              first | exact fun w => w.1 c_7 | exact fun w => Int32.not_le.mpr c_14 w.2.1 | exact fun w => w.2.2.1 c_19 | exact fun w => Int32.not_le.mpr c_26 w.2.2.2.1 | exact fun w => w.2.2.2.2.1 c_30 | exact fun w => c_35 w.2.2.2.2.2
            · refine lv_iload_n hx hb dX6_setPolicy_33 rfl (lv_at hl 3 rfl) ?_
              refine lv_iconst (v := 5) hx hb dX6_setPolicy_34 (by decide) ?_
              refine lv_icmp_le (tgt := 52) hx hb dX6_setPolicy_35 (by decide) (fun c_35 => ?_) (fun c_35 => ?_)
              · have hok : s_pok a b c_ := ⟨c_7, Int32.not_lt.mp c_14, c_19, Int32.not_lt.mp c_26, c_30, c_35⟩
                refine lv_aload_n hx hb dX6_setPolicy_52 rfl (lv_at hl 0 rfl) ?_
                refine rg_7 hC hR dX6_setPolicy_53 ?_
                refine lv_iload_n hx hb dX6_setPolicy_56 rfl (lv_at hl 1 rfl) ?_
                refine lv_icmp_ne (tgt := 76) hx hb dX6_setPolicy_57 (by decide) (fun c_57 => ?_) (fun c_57 => ?_)
                · refine lv_iconst (v := 1) hx hb dX6_setPolicy_76 (by decide) ?_
                  refine lv_goto (tgt := 81) hx hb dX6_setPolicy_77 (by decide) ?_
                  refine lv_istore (lv' := [(4, .int 1), (0, .ref (ad 50 0 0)), (1, .int a), (2, .int b), (3, .int c_)]) hx hb dX6_setPolicy_81 hl (by decide) rfl (fun ls hl => ?_)
                  refine lv_aload_n hx hb dX6_setPolicy_83 rfl (lv_at hl 1 rfl) ?_
                  refine lv_iload_n hx hb dX6_setPolicy_84 rfl (lv_at hl 2 rfl) ?_
                  refine rp_7 hC hR dX6_setPolicy_85 (fun H locs hR => ?_)
                  refine lv_aload_n hx hb dX6_setPolicy_88 rfl (lv_at hl 1 rfl) ?_
                  refine lv_iload_n hx hb dX6_setPolicy_89 rfl (lv_at hl 3 rfl) ?_
                  refine rp_8 hC hR dX6_setPolicy_90 (fun H locs hR => ?_)
                  refine lv_aload_n hx hb dX6_setPolicy_93 rfl (lv_at hl 1 rfl) ?_
                  refine lv_iload_n hx hb dX6_setPolicy_94 rfl (lv_at hl 4 rfl) ?_
                  refine rp_9 hC hR dX6_setPolicy_95 (fun H locs hR => ?_)
                  refine lv_iload hx hb dX6_setPolicy_98 (lv_at hl 0 rfl) ?_
                  exact rr_zret hC hz hR (by decide) (by rw [show o_setPolicy (su S 0 (fun _ => 0)) a b c_ = _ from if_pos hok]; refine ⟨?_, rfl⟩; symm; first | exact rb_1 (Or.inl c_57) | exact rb_1 (Or.inr (Or.inl c_65)) | exact rb_1 (Or.inr (Or.inr c_73)) | exact rb_0 (fun w => by rcases w with w | w | w; exact w c_57; exact w c_65; exact w c_73)) (by decide) (by decide) dX6_setPolicy_100
                · refine lv_aload_n hx hb dX6_setPolicy_60 rfl (lv_at hl 0 rfl) ?_
                  refine rg_8 hC hR dX6_setPolicy_61 ?_
                  refine lv_iload_n hx hb dX6_setPolicy_64 rfl (lv_at hl 2 rfl) ?_
                  refine lv_icmp_ne (tgt := 76) hx hb dX6_setPolicy_65 (by decide) (fun c_65 => ?_) (fun c_65 => ?_)
                  · refine lv_iconst (v := 1) hx hb dX6_setPolicy_76 (by decide) ?_
                    refine lv_goto (tgt := 81) hx hb dX6_setPolicy_77 (by decide) ?_
                    refine lv_istore (lv' := [(4, .int 1), (0, .ref (ad 50 0 0)), (1, .int a), (2, .int b), (3, .int c_)]) hx hb dX6_setPolicy_81 hl (by decide) rfl (fun ls hl => ?_)
                    refine lv_aload_n hx hb dX6_setPolicy_83 rfl (lv_at hl 1 rfl) ?_
                    refine lv_iload_n hx hb dX6_setPolicy_84 rfl (lv_at hl 2 rfl) ?_
                    refine rp_7 hC hR dX6_setPolicy_85 (fun H locs hR => ?_)
                    refine lv_aload_n hx hb dX6_setPolicy_88 rfl (lv_at hl 1 rfl) ?_
                    refine lv_iload_n hx hb dX6_setPolicy_89 rfl (lv_at hl 3 rfl) ?_
                    refine rp_8 hC hR dX6_setPolicy_90 (fun H locs hR => ?_)
                    refine lv_aload_n hx hb dX6_setPolicy_93 rfl (lv_at hl 1 rfl) ?_
                    refine lv_iload_n hx hb dX6_setPolicy_94 rfl (lv_at hl 4 rfl) ?_
                    refine rp_9 hC hR dX6_setPolicy_95 (fun H locs hR => ?_)
                    refine lv_iload hx hb dX6_setPolicy_98 (lv_at hl 0 rfl) ?_
                    exact rr_zret hC hz hR (by decide) (by rw [show o_setPolicy (su S 0 (fun _ => 0)) a b c_ = _ from if_pos hok]; refine ⟨?_, rfl⟩; symm; first | exact rb_1 (Or.inl c_57) | exact rb_1 (Or.inr (Or.inl c_65)) | exact rb_1 (Or.inr (Or.inr c_73)) | exact rb_0 (fun w => by rcases w with w | w | w; exact w c_57; exact w c_65; exact w c_73)) (by decide) (by decide) dX6_setPolicy_100
                  · refine lv_aload_n hx hb dX6_setPolicy_68 rfl (lv_at hl 0 rfl) ?_
                    refine rg_9 hC hR dX6_setPolicy_69 ?_
                    refine lv_iload_n hx hb dX6_setPolicy_72 rfl (lv_at hl 3 rfl) ?_
                    refine lv_icmp_eq (tgt := 80) hx hb dX6_setPolicy_73 (by decide) (fun c_73 => ?_) (fun c_73 => ?_)
                    · refine lv_iconst (v := 0) hx hb dX6_setPolicy_80 (by decide) ?_
                      refine lv_istore (lv' := [(4, .int 0), (0, .ref (ad 50 0 0)), (1, .int a), (2, .int b), (3, .int c_)]) hx hb dX6_setPolicy_81 hl (by decide) rfl (fun ls hl => ?_)
                      refine lv_aload_n hx hb dX6_setPolicy_83 rfl (lv_at hl 1 rfl) ?_
                      refine lv_iload_n hx hb dX6_setPolicy_84 rfl (lv_at hl 2 rfl) ?_
                      refine rp_7 hC hR dX6_setPolicy_85 (fun H locs hR => ?_)
                      refine lv_aload_n hx hb dX6_setPolicy_88 rfl (lv_at hl 1 rfl) ?_
                      refine lv_iload_n hx hb dX6_setPolicy_89 rfl (lv_at hl 3 rfl) ?_
                      refine rp_8 hC hR dX6_setPolicy_90 (fun H locs hR => ?_)
                      refine lv_aload_n hx hb dX6_setPolicy_93 rfl (lv_at hl 1 rfl) ?_
                      refine lv_iload_n hx hb dX6_setPolicy_94 rfl (lv_at hl 4 rfl) ?_
                      refine rp_9 hC hR dX6_setPolicy_95 (fun H locs hR => ?_)
                      refine lv_iload hx hb dX6_setPolicy_98 (lv_at hl 0 rfl) ?_
                      exact rr_zret hC hz hR (by decide) (by rw [show o_setPolicy (su S 0 (fun _ => 0)) a b c_ = _ from if_pos hok]; refine ⟨?_, rfl⟩; symm; first | exact rb_1 (Or.inl c_57) | exact rb_1 (Or.inr (Or.inl c_65)) | exact rb_1 (Or.inr (Or.inr c_73)) | exact rb_0 (fun w => by rcases w with w | w | w; exact w c_57; exact w c_65; exact w c_73)) (by decide) (by decide) dX6_setPolicy_100
                    · refine lv_iconst (v := 1) hx hb dX6_setPolicy_76 (by decide) ?_
                      refine lv_goto (tgt := 81) hx hb dX6_setPolicy_77 (by decide) ?_
                      refine lv_istore (lv' := [(4, .int 1), (0, .ref (ad 50 0 0)), (1, .int a), (2, .int b), (3, .int c_)]) hx hb dX6_setPolicy_81 hl (by decide) rfl (fun ls hl => ?_)
                      refine lv_aload_n hx hb dX6_setPolicy_83 rfl (lv_at hl 1 rfl) ?_
                      refine lv_iload_n hx hb dX6_setPolicy_84 rfl (lv_at hl 2 rfl) ?_
                      refine rp_7 hC hR dX6_setPolicy_85 (fun H locs hR => ?_)
                      refine lv_aload_n hx hb dX6_setPolicy_88 rfl (lv_at hl 1 rfl) ?_
                      refine lv_iload_n hx hb dX6_setPolicy_89 rfl (lv_at hl 3 rfl) ?_
                      refine rp_8 hC hR dX6_setPolicy_90 (fun H locs hR => ?_)
                      refine lv_aload_n hx hb dX6_setPolicy_93 rfl (lv_at hl 1 rfl) ?_
                      refine lv_iload_n hx hb dX6_setPolicy_94 rfl (lv_at hl 4 rfl) ?_
                      refine rp_9 hC hR dX6_setPolicy_95 (fun H locs hR => ?_)
                      refine lv_iload hx hb dX6_setPolicy_98 (lv_at hl 0 rfl) ?_
                      exact rr_zret hC hz hR (by decide) (by rw [show o_setPolicy (su S 0 (fun _ => 0)) a b c_ = _ from if_pos hok]; refine ⟨?_, rfl⟩; symm; first | exact rb_1 (Or.inl c_57) | exact rb_1 (Or.inr (Or.inl c_65)) | exact rb_1 (Or.inr (Or.inr c_73)) | exact rb_0 (fun w => by rcases w with w | w | w; exact w c_57; exact w c_65; exact w c_73)) (by decide) (by decide) dX6_setPolicy_100
              · refine k38 _ _ _ ⟨?_, hR, lv_sub hl [0, 1, 2, 3] rfl⟩
                first | exact fun w => w.1 c_7 | exact fun w => Int32.not_le.mpr c_14 w.2.1 | exact fun w => w.2.2.1 c_19 | exact fun w => Int32.not_le.mpr c_26 w.2.2.2.1 | exact fun w => w.2.2.2.2.1 c_30 | exact fun w => c_35 w.2.2.2.2.2
