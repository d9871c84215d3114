theorem n_rows {ad ad1 : gA} {E : gE} {V : gV} (ha : ∀ i, i < 8 → ad 8 i 0 = ad1 8 i 0) (h : E 6 0 0 = some (.inl (V.2.1 5, 8, .inr (.inr (.inr (.inr (fun i => if i < 8 then some (ad1 8 i 0) else none))))))) : E 6 0 0 = some (.inl (V.2.1 5, 8, .inr (.inr (.inr (.inr (fun i => if i < 8 then some (ad 8 i 0) else none)))))) := by
  rw [h, show (fun i => if i < 8 then some (ad1 8 i 0) else none) = (fun i => if i < 8 then some (ad 8 i 0) else none) from funext fun i => by
    by_cases h : i < 8
    · rw [if_pos h, if_pos h, ha i h]
    · rw [if_neg h, if_neg h]]
set_option maxHeartbeats 4000000 in
set_option maxRecDepth 100000 in
theorem n_hier (l : Launch) (V : gV) (ad : gA) (E : gE)  (e_1_0_0 : E 1 0 0 = some (.inr (2, [.null, .null, .null, .int 0]))) : gMv l yX1_init cX1_init 1 none ({ frames := 1, cells := 11, slots := 72, locals := 20 } : Room) [.ref (ad 1 0 0)] V ad E (fun ad' E' => gFr (fun k i j => (k = 1 ∧ i = 0 ∧ j = 0) ∨ (k = 5 ∧ i = 0 ∧ j = 0) ∨ (k = 6 ∧ i = 0 ∧ j = 0) ∨ (k = 7 ∧ i = 0 ∧ j = 0) ∨ (k = 8 ∧ i < 8 ∧ j = 0)) ad E ad' E' ∧ ad' 1 0 0 = ad 1 0 0 ∧ E' 1 0 0 = some (.inr (2, [.ref (ad' 5 0 0), .ref (ad' 6 0 0), .ref (ad' 7 0 0), .int 0])) ∧ E' 5 0 0 = some (.inl (V.2.1 0, 8, .inl (fun _ => 0))) ∧ E' 6 0 0 = some (.inl (V.2.1 5, 8, .inr (.inr (.inr (.inr (fun i => if i < 8 then some (ad' 8 i 0) else none)))))) ∧ (∀ i, i < 8 → E' 8 i 0 = some (.inl (V.2.1 0, 6, .inl (fun _ => 0)))) ∧ E' 7 0 0 = some (.inl (V.2.1 0, 8, .inl (fun _ => 0)))) := by
  intro sz
  refine g_ofN (by decide) (Nat.le_of_ble_eq_true rfl) ?_
  intro p e s m_ below meth c ls hname hC hz hG hl
  have hx := hC.1
  have hb := hC.2.1
  have hl : lv_has ls 1 [(0, .ref (ad 1 0 0))] := hl
  have a_1_0_0 : ad 1 0 0 = ad 1 0 0 := rfl
  have frw : gFr (fun k i j => (k = 1 ∧ i = 0 ∧ j = 0) ∨ (k = 5 ∧ i = 0 ∧ j = 0) ∨ (k = 6 ∧ i = 0 ∧ j = 0) ∨ (k = 7 ∧ i = 0 ∧ j = 0) ∨ (k = 8 ∧ i < 8 ∧ j = 0)) ad E ad E := gFr.rf
  refine lv_aload_n hx hb dX1_init_0 rfl (lv_at hl 0 rfl) ?_
  refine W.objInit hx hb hC.2.2.2.1 (hC.2.2.2.2.1 _ km_RX1_3) (hC.2.2.2.2.1 _ kn_objectInit) (hC.2.2.2.2.1 _ kd_objectInit) rfl (hC.2.2.1.trans hl.1.symm).symm rfl dX1_init_1 (Nat.le_of_ble_eq_true rfl) (Nat.le_of_ble_eq_true rfl) ?_
  change W _ _ _ _ _ _ _ _ _ _ _ _ _ _ _ (F0 _ 4 _ _)
  refine lv_aload_n hx hb dX1_init_4 rfl (lv_at hl 0 rfl) ?_
  refine lv_bipush (v := (nI 8)) hx hb dX1_init_5 (by decide) ?_
  refine gk_newa hC hG (atype := .int) (ty := .int) (t0 := 0) (a0 := (8, .inl (fun _ => 0))) ka__int rfl rfl (fun C h => by cases h) (by rw [vp_cell_i]; rfl) (nI_pos (by decide)) (nI_clamp (by decide)) (by decide) (Nat.le_of_ble_eq_true rfl) (Nat.le_of_ble_eq_true rfl) dX1_init_7 5 0 0 (fun a1 ad1 E1 H a_5_0_0 e_5_0_0 fr hG => ?_)
  have e_1_0_0 := (fr 1 0 0 (by omega)).1.trans e_1_0_0
  have a_1_0_0 := (fr 1 0 0 (by omega)).2.trans a_1_0_0
  have frw := gFr.tr frw fr (fun k i j z => by omega)
  refine gk_putF hC hG a_1_0_0 e_1_0_0 rfl inlX1 tyX1 tyX1_ok nmX1 0 (by decide) kf_RX1_9 (fun _ h => h) rfl hname rfl rfl rfl (Nat.le_of_ble_eq_true rfl) dX1_init_9 (fun E2 H locs (e_1_0_0 : E2 1 0 0 = some (.inr (2, [.ref a1, .null, .null, .int 0]))) fr hG => ?_)
  have e_5_0_0 := (fr 5 0 0 (by omega)).1.trans e_5_0_0
  have frw := gFr.tr frw fr (fun k i j z => by omega)
  refine lv_aload_n hx hb dX1_init_12 rfl (lv_at hl 0 rfl) ?_
  refine lv_bipush (v := (nI 8)) hx hb dX1_init_13 (by decide) ?_
  refine lv_bipush (v := (nI 6)) hx hb dX1_init_15 (by decide) ?_
  refine gk_mna hC hG kc_RX1_15 (Nat.le_of_ble_eq_true rfl) (Nat.le_of_ble_eq_true rfl) dX1_init_17 (fun a3 ad3 E3 H a_6_0_0 e_6_0_0 ue_row fr hG => ?_)
  have e_1_0_0 := (fr 1 0 0 (by omega)).1.trans e_1_0_0
  have a_1_0_0 := (fr 1 0 0 (by omega)).2.trans a_1_0_0
  have e_5_0_0 := (fr 5 0 0 (by omega)).1.trans e_5_0_0
  have a_5_0_0 := (fr 5 0 0 (by omega)).2.trans a_5_0_0
  have frw := gFr.tr frw fr (fun k i j z => by omega)
  have ua_row : ∀ i, i < 8 → ad3 8 i 0 = ad3 8 i 0 := fun _ _ => rfl
  refine gk_putF hC hG a_1_0_0 e_1_0_0 rfl inlX1 tyX1 tyX1_ok nmX1 1 (by decide) kf_RX1_17 (fun _ h => h) rfl hname rfl rfl rfl (Nat.le_of_ble_eq_true rfl) dX1_init_21 (fun E4 H locs (e_1_0_0 : E4 1 0 0 = some (.inr (2, [.ref a1, .ref a3, .null, .int 0]))) fr hG => ?_)
  have e_5_0_0 := (fr 5 0 0 (by omega)).1.trans e_5_0_0
  have e_6_0_0 := (fr 6 0 0 (by omega)).1.trans e_6_0_0
  have ue_row := fun i (hi : i < 8) => (fr 8 i 0 (by omega)).1.trans (ue_row i hi)
  have ua_row := fun i (hi : i < 8) => (fr 8 i 0 (by omega)).2.trans (ua_row i hi)
  have frw := gFr.tr frw fr (fun k i j z => by omega)
  refine lv_aload_n hx hb dX1_init_24 rfl (lv_at hl 0 rfl) ?_
  refine lv_bipush (v := (nI 8)) hx hb dX1_init_25 (by decide) ?_
  refine gk_newa hC hG (atype := .int) (ty := .int) (t0 := 0) (a0 := (8, .inl (fun _ => 0))) ka__int rfl rfl (fun C h => by cases h) (by rw [vp_cell_i]; rfl) (nI_pos (by decide)) (nI_clamp (by decide)) (by decide) (Nat.le_of_ble_eq_true rfl) (Nat.le_of_ble_eq_true rfl) dX1_init_27 7 0 0 (fun a5 ad5 E5 H a_7_0_0 e_7_0_0 fr hG => ?_)
  have e_1_0_0 := (fr 1 0 0 (by omega)).1.trans e_1_0_0
  have a_1_0_0 := (fr 1 0 0 (by omega)).2.trans a_1_0_0
  have e_5_0_0 := (fr 5 0 0 (by omega)).1.trans e_5_0_0
  have a_5_0_0 := (fr 5 0 0 (by omega)).2.trans a_5_0_0
  have e_6_0_0 := (fr 6 0 0 (by omega)).1.trans e_6_0_0
  have a_6_0_0 := (fr 6 0 0 (by omega)).2.trans a_6_0_0
  have ue_row := fun i (hi : i < 8) => (fr 8 i 0 (by omega)).1.trans (ue_row i hi)
  have ua_row := fun i (hi : i < 8) => (fr 8 i 0 (by omega)).2.trans (ua_row i hi)
  have frw := gFr.tr frw fr (fun k i j z => by omega)
  refine gk_putF hC hG a_1_0_0 e_1_0_0 rfl inlX1 tyX1 tyX1_ok nmX1 2 (by decide) kf_RX1_20 (fun _ h => h) rfl hname rfl rfl rfl (Nat.le_of_ble_eq_true rfl) dX1_init_29 (fun E6 H locs (e_1_0_0 : E6 1 0 0 = some (.inr (2, [.ref a1, .ref a3, .ref a5, .int 0]))) fr hG => ?_)
  have e_5_0_0 := (fr 5 0 0 (by omega)).1.trans e_5_0_0
  have e_6_0_0 := (fr 6 0 0 (by omega)).1.trans e_6_0_0
  have e_7_0_0 := (fr 7 0 0 (by omega)).1.trans e_7_0_0
  have ue_row := fun i (hi : i < 8) => (fr 8 i 0 (by omega)).1.trans (ue_row i hi)
  have ua_row := fun i (hi : i < 8) => (fr 8 i 0 (by omega)).2.trans (ua_row i hi)
  have frw := gFr.tr frw fr (fun k i j z => by omega)
  refine lv_aload_n hx hb dX1_init_32 rfl (lv_at hl 0 rfl) ?_
  refine lv_iconst (v := 0) hx hb dX1_init_33 (by decide) ?_
  refine gk_put hC hG a_1_0_0 e_1_0_0 rfl inlX1 tyX1 tyX1_ok nmX1 3 (by decide) kf_RX1_23 (fun _ h => h) rfl rfl rfl (Nat.le_of_ble_eq_true rfl) dX1_init_34 (fun E7 H locs (e_1_0_0 : E7 1 0 0 = some (.inr (2, [.ref a1, .ref a3, .ref a5, .int 0]))) fr hG => ?_)
  have e_5_0_0 := (fr 5 0 0 (by omega)).1.trans e_5_0_0
  have e_6_0_0 := (fr 6 0 0 (by omega)).1.trans e_6_0_0
  have e_7_0_0 := (fr 7 0 0 (by omega)).1.trans e_7_0_0
  have ue_row := fun i (hi : i < 8) => (fr 8 i 0 (by omega)).1.trans (ue_row i hi)
  have ua_row := fun i (hi : i < 8) => (fr 8 i 0 (by omega)).2.trans (ua_row i hi)
  have frw := gFr.tr frw fr (fun k i j z => by omega)
  exact gq_vret hC hz hG (⟨frw, a_1_0_0, by rw [a_5_0_0, a_6_0_0, a_7_0_0]; exact e_1_0_0, e_5_0_0, n_rows ua_row e_6_0_0, ue_row, e_7_0_0⟩) (Nat.le_of_ble_eq_true rfl) (Nat.le_of_ble_eq_true rfl) dX1_init_37
/-- what both begin with -/
def s_0 : rS := su (su (su (su (fun _ _ => 0, fun _ _ => 0) 7 (fun _ => 5)) 8 (fun _ => 20)) 9 (fun _ => 2)) 23 (fun _ => -1)
/-- TieredMachine's constructor, in its loop: xx frames are made -/
def n_tmI (V : gV) (ad : gA) (E : gE) (ad1 : gA) (E1 : gE) (xx : Nat) : Prop :=
  gFr (fun k i j => k < 30) ad E ad1 E1 ∧ ad1 0 0 0 = ad 0 0 0 ∧ E1 0 0 0 = some (.inr (6, [.ref (ad1 1 0 0), .ref (ad1 2 0 0), .int 5, .int 20, .int 2, .ref (ad1 3 0 0), .int 0, .int 0, .int 0, .int 0, .long 0, .int 0, .int 0, .null])) ∧
  E1 1 0 0 = some (.inr (2, [.ref (ad1 5 0 0), .ref (ad1 6 0 0), .ref (ad1 7 0 0), .int 0])) ∧ E1 5 0 0 = some (.inl (V.2.1 0, 8, .inl (fun _ => 0))) ∧ E1 6 0 0 = some (.inl (V.2.1 5, 8, .inr (.inr (.inr (.inr (fun i => if i < 8 then some (ad1 8 i 0) else none)))))) ∧ (∀ i, i < 8 → E1 8 i 0 = some (.inl (V.2.1 0, 6, .inl (fun _ => 0)))) ∧ E1 7 0 0 = some (.inl (V.2.1 0, 8, .inl (fun _ => 0))) ∧
  E1 2 0 0 = some (.inr (0, [.int 0, .ref (V.2.2 1), .int 0])) ∧ E1 3 0 0 = some (.inl (V.2.1 3, 20, .inr (.inr (.inr (.inr (fun i => if i < xx then some (ad1 10 i 0) else none)))))) ∧
  (∀ i, i < xx → E1 10 i 0 = some (.inr (1, [.ref (ad1 11 i 0), .ref (ad1 12 i 0), .int 0, .int 0, .int 0, .int 0])) ∧ E1 11 i 0 = some (.inl (V.2.1 0, 4, .inl (fun _ => 0))) ∧ E1 12 i 0 = some (.inl (V.2.1 0, 4, .inl (fun _ => 0))))
theorem n_tmI_step {V : gV} {ad ad1 ad2 : gA} {E E1 E2 : gE} {xx : Nat} (h : n_tmI V ad E ad1 E1 xx) (fr : gFr (fun k i j => ((10 ≤ k ∧ k ≤ 12) ∧ i = xx ∧ j = 0) ∨ (k = 3 ∧ i = 0 ∧ j = 0)) ad1 E1 ad2 E2) (h3 : ad2 3 0 0 = ad1 3 0 0) (e3 : E2 3 0 0 = some (.inl (V.2.1 3, 20, .inr (.inr (.inr (.inr (va_up (fun i => if i < xx then some (ad1 10 i 0) else none) xx (some (ad2 10 xx 0)))))))))
    (e10 : E2 10 xx 0 = some (.inr (1, [.ref (ad2 11 xx 0), .ref (ad2 12 xx 0), .int 0, .int 0, .int 0, .int 0]))) (e11 : E2 11 xx 0 = some (.inl (V.2.1 0, 4, .inl (fun _ => 0)))) (e12 : E2 12 xx 0 = some (.inl (V.2.1 0, 4, .inl (fun _ => 0)))) : n_tmI V ad E ad2 E2 (xx + 1) := by
  obtain ⟨g1, g2, g3, g4, g5, g6, g7, g8, g9, g10, g11⟩ := h
  have f1 := fr 1 0 0 (by omega)
  have f2 := fr 2 0 0 (by omega)
  have f5 := fr 5 0 0 (by omega)
  have f6 := fr 6 0 0 (by omega)
  have f7 := fr 7 0 0 (by omega)
  refine ⟨gFr.tr g1 fr (fun k i j z => by omega), (fr 0 0 0 (by omega)).2.trans g2, ?_, ?_, f5.1.trans g5, ?_, fun i hi => (fr 8 i 0 (by omega)).1.trans (g7 i hi), f7.1.trans g8, f2.1.trans g9, ?_, fun i hi => ?_⟩
  · rw [(fr 0 0 0 (by omega)).1, f1.2, f2.2, h3]; exact g3
  · rw [f1.1, f5.2, f6.2, f7.2]; exact g4
  · exact n_rows (fun i _ => (fr 8 i 0 (by omega)).2) (f6.1.trans g6)
  · rw [e3]
    refine congrArg (fun z => some (Sum.inl (V.2.1 3, 20, Sum.inr (Sum.inr (Sum.inr (Sum.inr z)))))) (funext fun i => ?_)
    simp only [va_up]
    by_cases e : i = xx
    · subst e
      rw [if_pos rfl, if_pos (by omega)]
    · rw [if_neg e]
      by_cases e2 : i < xx
      · rw [if_pos e2, if_pos (by omega), (fr 10 i 0 (by omega)).2]
      · rw [if_neg e2, if_neg (by omega)]
  · by_cases e : i = xx
    · subst e
      exact ⟨e10, e11, e12⟩
    · obtain ⟨k1, k2, k3⟩ := g11 i (by omega)
      refine ⟨?_, (fr 11 i 0 (by omega)).1.trans k2, (fr 12 i 0 (by omega)).1.trans k3⟩
      rw [(fr 10 i 0 (by omega)).1, (fr 11 i 0 (by omega)).2, (fr 12 i 0 (by omega)).2]
      exact k1
theorem n_tm_ok {V : gV} {ad ad1 ad2 : gA} {E E1 E2 : gE} (h : n_tmI V ad E ad1 E1 20) (fr : gFr (fun k i j => (k = 0 ∧ i = 0 ∧ j = 0) ∨ (k = 4 ∧ i = 0 ∧ j = 0)) ad1 E1 ad2 E2) (h0 : ad2 0 0 0 = ad1 0 0 0) (e0 : E2 0 0 0 = some (.inr (6, [.ref (ad1 1 0 0), .ref (ad1 2 0 0), .int 5, .int 20, .int 2, .ref (ad1 3 0 0), .int 0, .int 0, .int (-1), .int 0, .long 0, .int 0, .int 0, .ref (ad2 4 0 0)]))) (e4 : E2 4 0 0 = some (.inl (V.2.1 1, 4, .inr (.inl (fun _ => 0))))) : cmOK V ad2 s_0 E2 ∧ gFr (fun k i j => k < 30) ad E ad2 E2 ∧ ad2 0 0 0 = ad 0 0 0 := by
  obtain ⟨g1, g2, g3, g4, g5, g6, g7, g8, g9, g10, g11⟩ := h
  have f1 := fr 1 0 0 (by omega)
  have f2 := fr 2 0 0 (by omega)
  have f3 := fr 3 0 0 (by omega)
  have f5 := fr 5 0 0 (by omega)
  have f6 := fr 6 0 0 (by omega)
  have f7 := fr 7 0 0 (by omega)
  have c0 : cnm s_0 = 0 := by decide
  refine ⟨⟨?_, e4, ?_, f5.1.trans g5, n_rows (fun i _ => (fr 8 i 0 (by omega)).2) (f6.1.trans g6), fun i hi => ⟨_, (fr 8 i 0 (by omega)).1.trans (g7 i hi), fun _ _ => rfl⟩, f7.1.trans g8, ?_, fun i hi => ?_, fun i hi => ⟨_, (fr 11 i 0 (by omega)).1.trans (g11 i hi).2.1, fun _ _ => rfl⟩, fun i hi => ⟨_, (fr 12 i 0 (by omega)).1.trans (g11 i hi).2.2, fun _ _ => rfl⟩, ⟨0, V.2.2 1, f2.1.trans g9, Or.inl ⟨c0, rfl⟩⟩, fun m hm => absurd hm (by omega), fun m hm => absurd hm (by omega), fun m q hm => absurd hm (by omega), fun m q hm => absurd hm (by omega), fun m q hm => absurd hm (by omega), fun m q hm => absurd hm (by omega), fun m q hm => absurd hm (by omega), by omega, fun m hm => absurd hm (by omega), by decide⟩, gFr.tr g1 fr (fun k i j z => by omega), h0.trans g2⟩
  · rw [e0, ← f1.2, ← f2.2, ← f3.2]; rfl
  · rw [f1.1, g4, ← f5.2, ← f6.2, ← f7.2]; rfl
  · rw [f3.1, g10]
    refine congrArg (fun z => some (Sum.inl (V.2.1 3, 20, Sum.inr (Sum.inr (Sum.inr (Sum.inr z)))))) (funext fun i => ?_)
    rw [(fr 10 i 0 (by omega)).2]
  · rw [(fr 10 i 0 (by omega)).1, (g11 i hi).1, ← (fr 11 i 0 (by omega)).2, ← (fr 12 i 0 (by omega)).2]; rfl
set_option maxHeartbeats 4000000 in
set_option maxRecDepth 100000 in
theorem n_tm (l : Launch) (V : gV) (ad : gA) (E : gE)  (e_0_0_0 : E 0 0 0 = some (.inr (6, [.null, .null, .int 0, .int 0, .int 0, .null, .int 0, .int 0, .int 0, .int 0, .long 0, .int 0, .int 0, .null]))) : gMv l yX5_init cX5_init 2 none ({ frames := 4, cells := 75, slots := 383, locals := 80 } : Room) [.ref (ad 0 0 0)] V ad E (fun ad' E' => cmOK V ad' s_0 E' ∧ gFr (fun k i j => k < 30) ad E ad' E' ∧ ad' 0 0 0 = ad 0 0 0) := by
  intro sz
  refine g_ofN (by decide) (Nat.le_of_ble_eq_true rfl) ?_
  intro p e s m_ below meth c ls hname hC hz hG hl
  have hx := hC.1
  have hb := hC.2.1
  have hl : lv_has ls 2 [(0, .ref (ad 0 0 0))] := hl
  have a_0_0_0 : ad 0 0 0 = ad 0 0 0 := rfl
  have frw : gFr (fun k i j => k < 30) ad E ad E := gFr.rf
  refine lv_aload_n hx hb dX5_init_0 rfl (lv_at hl 0 rfl) ?_
  refine W.objInit hx hb hC.2.2.2.1 (hC.2.2.2.2.1 _ km_RX5_1) (hC.2.2.2.2.1 _ kn_objectInit) (hC.2.2.2.2.1 _ kd_objectInit) rfl (hC.2.2.1.trans hl.1.symm).symm rfl dX5_init_1 (Nat.le_of_ble_eq_true rfl) (Nat.le_of_ble_eq_true rfl) ?_
  change W _ _ _ _ _ _ _ _ _ _ _ _ _ _ _ (F0 _ 4 _ _)
  refine lv_aload_n hx hb dX5_init_4 rfl (lv_at hl 0 rfl) ?_
  refine gk_new hC hG (ci := 2) (fs := [.null, .null, .null, .int 0]) rfl inlX1 tyX1 tyX1_ok kc_RX5_7 ki_RX1 kz_RX1 (fun j hj => by rcases (show j = 0 ∨ j = 1 ∨ j = 2 ∨ j = 3 by omega) with h | h | h | h <;> subst h <;> rfl) (Nat.le_of_ble_eq_true rfl) (Nat.le_of_ble_eq_true rfl) dX5_init_5 1 0 0 (fun a1 ad1 E1 H a_1_0_0 e_1_0_0 fr hG => ?_)
  have e_0_0_0 := (fr 0 0 0 (by omega)).1.trans e_0_0_0
  have a_0_0_0 := (fr 0 0 0 (by omega)).2.trans a_0_0_0
  have frw := gFr.tr frw fr (fun k i j z => by omega)
  refine lv_dup hx hb dX5_init_8 rfl ?_
  refine gc_Nv hC hG (n_hier l V ad1 E1 e_1_0_0) (host := "TieredMachine") (by decide +kernel) kn_yX1_init kz_RX1 kd_yX1_init rfl dn_X1_init.2 rfl (by rw [a_1_0_0]; rfl) hl.1 ⟨by decide, by decide⟩ (Nat.le_of_ble_eq_true rfl) ⟨Nat.le_of_ble_eq_true rfl, Nat.le_of_ble_eq_true rfl⟩ dX5_init_9 (fun ad2 E2 H locs p_9 hG hgr => ?_)
  obtain ⟨fr, h2, e_1_0_0, e_5_0_0, e_6_0_0, ue_row, e_7_0_0⟩ := p_9
  have a_1_0_0 := h2.trans a_1_0_0
  have a_5_0_0 : ad2 5 0 0 = ad2 5 0 0 := rfl
  have a_6_0_0 : ad2 6 0 0 = ad2 6 0 0 := rfl
  have a_7_0_0 : ad2 7 0 0 = ad2 7 0 0 := rfl
  have ua_row : ∀ i, i < 8 → ad2 8 i 0 = ad2 8 i 0 := fun _ _ => rfl
  have e_0_0_0 := (fr 0 0 0 (by omega)).1.trans e_0_0_0
  have a_0_0_0 := (fr 0 0 0 (by omega)).2.trans a_0_0_0
  have frw := gFr.tr frw fr (fun k i j z => by omega)
  refine gk_putF hC hG a_0_0_0 e_0_0_0 rfl inlX5 tyX5 tyX5_ok nmX5 0 (by decide) kf_RX5_10 (fun _ h => h) rfl hname rfl rfl rfl (Nat.le_of_ble_eq_true rfl) dX5_init_12 (fun E3 H locs (e_0_0_0 : E3 0 0 0 = some (.inr (6, [.ref a1, .null, .int 0, .int 0, .int 0, .null, .int 0, .int 0, .int 0, .int 0, .long 0, .int 0, .int 0, .null]))) fr hG => ?_)
  have e_1_0_0 := (fr 1 0 0 (by omega)).1.trans e_1_0_0
  have e_5_0_0 := (fr 5 0 0 (by omega)).1.trans e_5_0_0
  have e_6_0_0 := (fr 6 0 0 (by omega)).1.trans e_6_0_0
  have e_7_0_0 := (fr 7 0 0 (by omega)).1.trans e_7_0_0
  have ue_row := fun i (hi : i < 8) => (fr 8 i 0 (by omega)).1.trans (ue_row i hi)
  have ua_row := fun i (hi : i < 8) => (fr 8 i 0 (by omega)).2.trans (ua_row i hi)
  have frw := gFr.tr frw fr (fun k i j z => by omega)
  refine lv_aload_n hx hb dX5_init_15 rfl (lv_at hl 0 rfl) ?_
  refine gk_new hC hG (ci := 0) (fs := [.int 0, .null, .int 0]) rfl inlJx4a65c tyJx4a65c tyJx4a65c_ok kc_RX5_16 ki_RJx4a65c kz_RJx4a65c (fun j hj => by rcases (show j = 0 ∨ j = 1 ∨ j = 2 by omega) with h | h | h <;> subst h <;> rfl) (Nat.le_of_ble_eq_true rfl) (Nat.le_of_ble_eq_true rfl) dX5_init_16 2 0 0 (fun a4 ad4 E4 H a_2_0_0 e_2_0_0 fr hG => ?_)
  have e_0_0_0 := (fr 0 0 0 (by omega)).1.trans e_0_0_0
  have a_0_0_0 := (fr 0 0 0 (by omega)).2.trans a_0_0_0
  have e_1_0_0 := (fr 1 0 0 (by omega)).1.trans e_1_0_0
  have a_1_0_0 := (fr 1 0 0 (by omega)).2.trans a_1_0_0
  have e_5_0_0 := (fr 5 0 0 (by omega)).1.trans e_5_0_0
  have a_5_0_0 := (fr 5 0 0 (by omega)).2.trans a_5_0_0
  have e_6_0_0 := (fr 6 0 0 (by omega)).1.trans e_6_0_0
  have a_6_0_0 := (fr 6 0 0 (by omega)).2.trans a_6_0_0
  have e_7_0_0 := (fr 7 0 0 (by omega)).1.trans e_7_0_0
  have a_7_0_0 := (fr 7 0 0 (by omega)).2.trans a_7_0_0
  have ue_row := fun i (hi : i < 8) => (fr 8 i 0 (by omega)).1.trans (ue_row i hi)
  have ua_row := fun i (hi : i < 8) => (fr 8 i 0 (by omega)).2.trans (ua_row i hi)
  have frw := gFr.tr frw fr (fun k i j z => by omega)
  refine lv_dup hx hb dX5_init_19 rfl ?_
  refine gc_Iv hC hG (n_al l V ad4 E4 2 0 e_2_0_0) km_RX5_18 kn_yJx4a65c_init_da8c8 kz_RJx4a65c kd_yJx4a65c_init_da8c8 rfl dn_Jx4a65c_init_da8c8.2 rfl (by rw [a_2_0_0]; rfl) hl.1 ⟨by decide, by decide⟩ (Nat.le_of_ble_eq_true rfl) ⟨Nat.le_of_ble_eq_true rfl, Nat.le_of_ble_eq_true rfl⟩ dX5_init_20 (fun ad5 E5 H locs p_20 hG hgr => ?_)
  obtain ⟨fr, h2, e_2_0_0⟩ := p_20
  have a_2_0_0 := h2.trans a_2_0_0
  have e_0_0_0 := (fr 0 0 0 (by omega)).1.trans e_0_0_0
  have a_0_0_0 := (fr 0 0 0 (by omega)).2.trans a_0_0_0
  have e_1_0_0 := (fr 1 0 0 (by omega)).1.trans e_1_0_0
  have a_1_0_0 := (fr 1 0 0 (by omega)).2.trans a_1_0_0
  have e_5_0_0 := (fr 5 0 0 (by omega)).1.trans e_5_0_0
  have a_5_0_0 := (fr 5 0 0 (by omega)).2.trans a_5_0_0
  have e_6_0_0 := (fr 6 0 0 (by omega)).1.trans e_6_0_0
  have a_6_0_0 := (fr 6 0 0 (by omega)).2.trans a_6_0_0
  have e_7_0_0 := (fr 7 0 0 (by omega)).1.trans e_7_0_0
  have a_7_0_0 := (fr 7 0 0 (by omega)).2.trans a_7_0_0
  have ue_row := fun i (hi : i < 8) => (fr 8 i 0 (by omega)).1.trans (ue_row i hi)
  have ua_row := fun i (hi : i < 8) => (fr 8 i 0 (by omega)).2.trans (ua_row i hi)
  have frw := gFr.tr frw fr (fun k i j z => by omega)
  refine gk_putF hC hG a_0_0_0 e_0_0_0 rfl inlX5 tyX5 tyX5_ok nmX5 1 (by decide) kf_RX5_19 (fun _ h => h) rfl hname rfl rfl rfl (Nat.le_of_ble_eq_true rfl) dX5_init_23 (fun E6 H locs (e_0_0_0 : E6 0 0 0 = some (.inr (6, [.ref a1, .ref a4, .int 0, .int 0, .int 0, .null, .int 0, .int 0, .int 0, .int 0, .long 0, .int 0, .int 0, .null]))) fr hG => ?_)
  have e_1_0_0 := (fr 1 0 0 (by omega)).1.trans e_1_0_0
  have e_5_0_0 := (fr 5 0 0 (by omega)).1.trans e_5_0_0
  have e_6_0_0 := (fr 6 0 0 (by omega)).1.trans e_6_0_0
  have e_7_0_0 := (fr 7 0 0 (by omega)).1.trans e_7_0_0
  have e_2_0_0 := (fr 2 0 0 (by omega)).1.trans e_2_0_0
  have ue_row := fun i (hi : i < 8) => (fr 8 i 0 (by omega)).1.trans (ue_row i hi)
  have ua_row := fun i (hi : i < 8) => (fr 8 i 0 (by omega)).2.trans (ua_row i hi)
  have frw := gFr.tr frw fr (fun k i j z => by omega)
  refine lv_aload_n hx hb dX5_init_26 rfl (lv_at hl 0 rfl) ?_
  refine lv_iconst (v := 5) hx hb dX5_init_27 (by decide) ?_
  refine gk_put hC hG a_0_0_0 e_0_0_0 rfl inlX5 tyX5 tyX5_ok nmX5 2 (by decide) kf_RX5_23 (fun _ h => h) rfl rfl rfl (Nat.le_of_ble_eq_true rfl) dX5_init_28 (fun E7 H locs (e_0_0_0 : E7 0 0 0 = some (.inr (6, [.ref a1, .ref a4, .int 5, .int 0, .int 0, .null, .int 0, .int 0, .int 0, .int 0, .long 0, .int 0, .int 0, .null]))) fr hG => ?_)
  have e_1_0_0 := (fr 1 0 0 (by omega)).1.trans e_1_0_0
  have e_5_0_0 := (fr 5 0 0 (by omega)).1.trans e_5_0_0
  have e_6_0_0 := (fr 6 0 0 (by omega)).1.trans e_6_0_0
  have e_7_0_0 := (fr 7 0 0 (by omega)).1.trans e_7_0_0
  have e_2_0_0 := (fr 2 0 0 (by omega)).1.trans e_2_0_0
  have ue_row := fun i (hi : i < 8) => (fr 8 i 0 (by omega)).1.trans (ue_row i hi)
  have ua_row := fun i (hi : i < 8) => (fr 8 i 0 (by omega)).2.trans (ua_row i hi)
  have frw := gFr.tr frw fr (fun k i j z => by omega)
  refine lv_aload_n hx hb dX5_init_31 rfl (lv_at hl 0 rfl) ?_
  refine lv_bipush (v := 20) hx hb dX5_init_32 (by decide) ?_
  refine gk_put hC hG a_0_0_0 e_0_0_0 rfl inlX5 tyX5 tyX5_ok nmX5 3 (by decide) kf_RX5_27 (fun _ h => h) rfl rfl rfl (Nat.le_of_ble_eq_true rfl) dX5_init_34 (fun E8 H locs (e_0_0_0 : E8 0 0 0 = some (.inr (6, [.ref a1, .ref a4, .int 5, .int 20, .int 0, .null, .int 0, .int 0, .int 0, .int 0, .long 0, .int 0, .int 0, .null]))) fr hG => ?_)
  have e_1_0_0 := (fr 1 0 0 (by omega)).1.trans e_1_0_0
  have e_5_0_0 := (fr 5 0 0 (by omega)).1.trans e_5_0_0
  have e_6_0_0 := (fr 6 0 0 (by omega)).1.trans e_6_0_0
  have e_7_0_0 := (fr 7 0 0 (by omega)).1.trans e_7_0_0
  have e_2_0_0 := (fr 2 0 0 (by omega)).1.trans e_2_0_0
  have ue_row := fun i (hi : i < 8) => (fr 8 i 0 (by omega)).1.trans (ue_row i hi)
  have ua_row := fun i (hi : i < 8) => (fr 8 i 0 (by omega)).2.trans (ua_row i hi)
  have frw := gFr.tr frw fr (fun k i j z => by omega)
  refine lv_aload_n hx hb dX5_init_37 rfl (lv_at hl 0 rfl) ?_
  refine lv_iconst (v := 2) hx hb dX5_init_38 (by decide) ?_
  refine gk_put hC hG a_0_0_0 e_0_0_0 rfl inlX5 tyX5 tyX5_ok nmX5 4 (by decide) kf_RX5_30 (fun _ h => h) rfl rfl rfl (Nat.le_of_ble_eq_true rfl) dX5_init_39 (fun E9 H locs (e_0_0_0 : E9 0 0 0 = some (.inr (6, [.ref a1, .ref a4, .int 5, .int 20, .int 2, .null, .int 0, .int 0, .int 0, .int 0, .long 0, .int 0, .int 0, .null]))) fr hG => ?_)
  have e_1_0_0 := (fr 1 0 0 (by omega)).1.trans e_1_0_0
  have e_5_0_0 := (fr 5 0 0 (by omega)).1.trans e_5_0_0
  have e_6_0_0 := (fr 6 0 0 (by omega)).1.trans e_6_0_0
  have e_7_0_0 := (fr 7 0 0 (by omega)).1.trans e_7_0_0
  have e_2_0_0 := (fr 2 0 0 (by omega)).1.trans e_2_0_0
  have ue_row := fun i (hi : i < 8) => (fr 8 i 0 (by omega)).1.trans (ue_row i hi)
  have ua_row := fun i (hi : i < 8) => (fr 8 i 0 (by omega)).2.trans (ua_row i hi)
  have frw := gFr.tr frw fr (fun k i j z => by omega)
  refine lv_aload_n hx hb dX5_init_42 rfl (lv_at hl 0 rfl) ?_
  refine lv_bipush (v := (nI 20)) hx hb dX5_init_43 (by decide) ?_
  refine gk_newq hC hG (t0 := 3) kc_RX5_33 (by decide +kernel) rfl (by decide) (Nat.le_of_ble_eq_true rfl) (Nat.le_of_ble_eq_true rfl) dX5_init_45 3 0 0 (fun a10 ad10 E10 H a_3_0_0 e_3_0_0 fr hG => ?_)
  have e_0_0_0 := (fr 0 0 0 (by omega)).1.trans e_0_0_0
  have a_0_0_0 := (fr 0 0 0 (by omega)).2.trans a_0_0_0
  have e_1_0_0 := (fr 1 0 0 (by omega)).1.trans e_1_0_0
  have a_1_0_0 := (fr 1 0 0 (by omega)).2.trans a_1_0_0
  have e_5_0_0 := (fr 5 0 0 (by omega)).1.trans e_5_0_0
  have a_5_0_0 := (fr 5 0 0 (by omega)).2.trans a_5_0_0
  have e_6_0_0 := (fr 6 0 0 (by omega)).1.trans e_6_0_0
  have a_6_0_0 := (fr 6 0 0 (by omega)).2.trans a_6_0_0
  have e_7_0_0 := (fr 7 0 0 (by omega)).1.trans e_7_0_0
  have a_7_0_0 := (fr 7 0 0 (by omega)).2.trans a_7_0_0
  have e_2_0_0 := (fr 2 0 0 (by omega)).1.trans e_2_0_0
  have a_2_0_0 := (fr 2 0 0 (by omega)).2.trans a_2_0_0
  have ue_row := fun i (hi : i < 8) => (fr 8 i 0 (by omega)).1.trans (ue_row i hi)
  have ua_row := fun i (hi : i < 8) => (fr 8 i 0 (by omega)).2.trans (ua_row i hi)
  have frw := gFr.tr frw fr (fun k i j z => by omega)
  refine gk_putF hC hG a_0_0_0 e_0_0_0 rfl inlX5 tyX5 tyX5_ok nmX5 5 (by decide) kf_RX5_35 (fun _ h => h) rfl hname rfl rfl rfl (Nat.le_of_ble_eq_true rfl) dX5_init_48 (fun E11 H locs (e_0_0_0 : E11 0 0 0 = some (.inr (6, [.ref a1, .ref a4, .int 5, .int 20, .int 2, .ref a10, .int 0, .int 0, .int 0, .int 0, .long 0, .int 0, .int 0, .null]))) fr hG => ?_)
  have e_1_0_0 := (fr 1 0 0 (by omega)).1.trans e_1_0_0
  have e_5_0_0 := (fr 5 0 0 (by omega)).1.trans e_5_0_0
  have e_6_0_0 := (fr 6 0 0 (by omega)).1.trans e_6_0_0
  have e_7_0_0 := (fr 7 0 0 (by omega)).1.trans e_7_0_0
  have e_2_0_0 := (fr 2 0 0 (by omega)).1.trans e_2_0_0
  have e_3_0_0 := (fr 3 0 0 (by omega)).1.trans e_3_0_0
  have ue_row := fun i (hi : i < 8) => (fr 8 i 0 (by omega)).1.trans (ue_row i hi)
  have ua_row := fun i (hi : i < 8) => (fr 8 i 0 (by omega)).2.trans (ua_row i hi)
  have frw := gFr.tr frw fr (fun k i j z => by omega)
  refine lv_iconst (v := (nI 0)) hx hb dX5_init_51 (by decide) ?_
  refine lv_istore_n (lv' := [(1, .int ((nI 0))), (0, .ref (ad 0 0 0))]) hx hb dX5_init_52 rfl hl (by decide) rfl (fun ls hl => ?_)
  have hI0 : n_tmI V ad E ad10 E11 0 := ⟨gFr.wd frw (fun k i j z => by omega), a_0_0_0, by rw [a_1_0_0, a_2_0_0, a_3_0_0]; exact e_0_0_0, by rw [a_5_0_0, a_6_0_0, a_7_0_0]; exact e_1_0_0, e_5_0_0, n_rows ua_row e_6_0_0, ue_row, e_7_0_0, e_2_0_0, by rw [e_3_0_0]; refine congrArg (fun z => some (Sum.inl (V.2.1 3, 20, Sum.inr (Sum.inr (Sum.inr (Sum.inr z)))))) (funext fun i => ?_); exact (if_neg (by omega)).symm, fun i hi => absurd hi (by omega)⟩
  refine g_loopC (T := Nat) (fun xx H locs ls => (∃ (ad1 : gA) (E1 : gE), n_tmI V ad E ad1 E1 xx ∧ xx ≤ 20 ∧ gW V (gAd ad E sz) s.heap ad1 E1 H locs) ∧ lv_has ls 2 [(1, .int (nI xx)), (0, .ref (ad 0 0 0))]) (fun xx => 14 + 3 * xx) (fun xx => 99 + 14 * xx) (fun xx => 20 - xx) (fun xx ih H locs ls hI => ?_) 0 ⟨⟨_, _, hI0, by omega, hG⟩, lv_sub hl [0, 1] rfl⟩ (Nat.le_of_ble_eq_true rfl) (Nat.le_of_ble_eq_true rfl)
  obtain ⟨⟨ad1, E1, hT, hx20, hG⟩, hl⟩ := hI
  have frw : gFr (fun k i j => ((10 ≤ k ∧ k ≤ 12) ∧ i = xx ∧ j = 0) ∨ (k = 3 ∧ i = 0 ∧ j = 0)) ad1 E1 ad1 E1 := gFr.rf
  have a_0_0_0 := hT.2.1
  have e_0_0_0 := hT.2.2.1
  have a_3_0_0 : ad1 3 0 0 = ad1 3 0 0 := rfl
  have e_3_0_0 := hT.2.2.2.2.2.2.2.2.2.1
  refine lv_iload_n hx hb dX5_init_53 rfl (lv_at hl 0 rfl) ?_
  refine lv_bipush (v := (nI 20)) hx hb dX5_init_54 (by decide) ?_
  refine gn_icmp_ge (tgt := 78) hx hb (by omega) (by omega) dX5_init_56 (by decide) (fun c_56 => ?_) (fun c_56 => ?_)
  · have hx_ : xx = 20 := by omega
    have frw : gFr (fun k i j => (k = 0 ∧ i = 0 ∧ j = 0) ∨ (k = 4 ∧ i = 0 ∧ j = 0)) ad1 E1 ad1 E1 := gFr.rf
    have a_0r : ad1 0 0 0 = ad1 0 0 0 := rfl
    refine lv_aload_n hx hb dX5_init_78 rfl (lv_at hl 1 rfl) ?_
    refine lv_iconst (v := (-1)) hx hb dX5_init_79 (by decide) ?_
    refine gk_put hC hG a_0_0_0 e_0_0_0 rfl inlX5 tyX5 tyX5_ok nmX5 8 (by decide) kf_RX5_40 (fun _ h => h) rfl rfl rfl (Nat.le_of_ble_eq_true rfl) dX5_init_80 (fun E101 H locs (e_0_0_0 : E101 0 0 0 = some (.inr (6, [.ref (ad1 1 0 0), .ref (ad1 2 0 0), .int 5, .int 20, .int 2, .ref (ad1 3 0 0), .int 0, .int 0, .int ((-1)), .int 0, .long 0, .int 0, .int 0, .null]))) fr hG => ?_)
    have e_3_0_0 := (fr 3 0 0 (by omega)).1.trans e_3_0_0
    have frw := gFr.tr frw fr (fun k i j z => by omega)
    refine lv_aload_n hx hb dX5_init_83 rfl (lv_at hl 1 rfl) ?_
    refine lv_iconst (v := (nI 4)) hx hb dX5_init_84 (by decide) ?_
    refine gk_newa hC hG (atype := .long) (ty := .long) (t0 := 1) (a0 := (4, .inr (.inl (fun _ => 0)))) ka__long rfl rfl (fun C h => by cases h) (by rw [vp_cell_l]; rfl) (nI_pos (by decide)) (nI_clamp (by decide)) (by decide) (by show _ ≤ (75 : Nat); omega) (by show _ ≤ (383 : Nat); omega) dX5_init_85 4 0 0 (fun a102 ad102 E102 H a_4_0_0 e_4_0_0 fr hG => ?_)
    have e_0_0_0 := (fr 0 0 0 (by omega)).1.trans e_0_0_0
    have a_0_0_0 := (fr 0 0 0 (by omega)).2.trans a_0_0_0
    have e_3_0_0 := (fr 3 0 0 (by omega)).1.trans e_3_0_0
    have a_3_0_0 := (fr 3 0 0 (by omega)).2.trans a_3_0_0
    have frw := gFr.tr frw fr (fun k i j z => by omega)
    refine gk_putF hC hG a_0_0_0 e_0_0_0 rfl inlX5 tyX5 tyX5_ok nmX5 13 (by decide) kf_RX5_43 (fun _ h => h) rfl hname rfl rfl rfl (Nat.le_of_ble_eq_true rfl) dX5_init_87 (fun E103 H locs (e_0_0_0 : E103 0 0 0 = some (.inr (6, [.ref (ad1 1 0 0), .ref (ad1 2 0 0), .int 5, .int 20, .int 2, .ref (ad1 3 0 0), .int 0, .int 0, .int ((-1)), .int 0, .long 0, .int 0, .int 0, .ref a102]))) fr hG => ?_)
    have e_3_0_0 := (fr 3 0 0 (by omega)).1.trans e_3_0_0
    have e_4_0_0 := (fr 4 0 0 (by omega)).1.trans e_4_0_0
    have frw := gFr.tr frw fr (fun k i j z => by omega)
    exact gq_vret hC hz hG (n_tm_ok (hx_ ▸ hT) frw (a_0_0_0.trans hT.2.1.symm) (by rw [a_4_0_0]; exact e_0_0_0) e_4_0_0) (by show _ ≤ (75 : Nat); omega) (by show _ ≤ (383 : Nat); omega) dX5_init_90
  · refine lv_aload_n hx hb dX5_init_59 rfl (lv_at hl 1 rfl) ?_
    refine gk_get hC hG a_0_0_0 e_0_0_0 rfl inlX5 5 (by decide) kf_RX5_35 (fun _ h => h) rfl dX5_init_60 ?_
    refine lv_iload_n hx hb dX5_init_63 rfl (lv_at hl 0 rfl) ?_
    refine gk_new hC hG (ci := 1) (fs := [.null, .null, .int 0, .int 0, .int 0, .int 0]) rfl inlX0 tyX0 tyX0_ok kc_RX5_33 ki_RX0 kz_RX0 (fun j hj => by rcases (show j = 0 ∨ j = 1 ∨ j = 2 ∨ j = 3 ∨ j = 4 ∨ j = 5 by omega) with h | h | h | h | h | h <;> subst h <;> rfl) (by show _ ≤ (75 : Nat); omega) (by show _ ≤ (383 : Nat); omega) dX5_init_64 10 xx 0 (fun a104 ad104 E104 H a_10_xx_0 e_10_xx_0 fr hG => ?_)
    have e_0_0_0 := (fr 0 0 0 (by omega)).1.trans e_0_0_0
    have a_0_0_0 := (fr 0 0 0 (by omega)).2.trans a_0_0_0
    have e_3_0_0 := (fr 3 0 0 (by omega)).1.trans e_3_0_0
    have a_3_0_0 := (fr 3 0 0 (by omega)).2.trans a_3_0_0
    have frw := gFr.tr frw fr (fun k i j z => by omega)
    refine lv_dup hx hb dX5_init_67 rfl ?_
    refine gc_Nv hC hG (n_fra l V ad104 E104 xx e_10_xx_0) (host := "TieredMachine") (by decide +kernel) kn_yX0_init kz_RX0 kd_yX0_init rfl dn_X0_init.2 rfl (by rw [a_10_xx_0]; rfl) hl.1 ⟨by decide, by decide⟩ (Nat.le_of_ble_eq_true rfl) ⟨by show _ + 2 ≤ (75 : Nat); omega, by show _ + 8 ≤ (383 : Nat); omega⟩ dX5_init_68 (fun ad105 E105 H locs p_68 hG hgr => ?_)
    obtain ⟨fr, h2, e_10_xx_0, e_11_xx_0, e_12_xx_0⟩ := p_68
    have a_10_xx_0 := h2.trans a_10_xx_0
    have a_11_xx_0 : ad105 11 xx 0 = ad105 11 xx 0 := rfl
    have a_12_xx_0 : ad105 12 xx 0 = ad105 12 xx 0 := rfl
    have e_0_0_0 := (fr 0 0 0 (by omega)).1.trans e_0_0_0
    have a_0_0_0 := (fr 0 0 0 (by omega)).2.trans a_0_0_0
    have e_3_0_0 := (fr 3 0 0 (by omega)).1.trans e_3_0_0
    have a_3_0_0 := (fr 3 0 0 (by omega)).2.trans a_3_0_0
    have frw := gFr.tr frw fr (fun k i j z => by omega)
    refine gk_ast hC hG (t0 := 3) a_3_0_0 e_3_0_0 rfl a_10_xx_0 e_10_xx_0 rfl (Or.inl rfl) (vp_in_nI (by omega) (by omega)) dX5_init_71 (fun E106 H locs (e_3_0_0 : _) fr hG => ?_)
    have e_0_0_0 := (fr 0 0 0 (by omega)).1.trans e_0_0_0
    have e_10_xx_0 := (fr 10 xx 0 (by omega)).1.trans e_10_xx_0
    have e_11_xx_0 := (fr 11 xx 0 (by omega)).1.trans e_11_xx_0
    have e_12_xx_0 := (fr 12 xx 0 (by omega)).1.trans e_12_xx_0
    have frw := gFr.tr frw fr (fun k i j z => by omega)
    rw [show (nI xx).toNatClampNeg = xx from nI_clamp (by omega)] at e_3_0_0
    refine lv_iinc (v := (nI (xx + 1))) (lv' := [(1, .int ((nI (xx + 1)))), (0, .ref (ad 0 0 0))]) hx hb dX5_init_72 hl (k := 0) rfl (nI_1 xx) (by decide) rfl (fun ls hl => ?_)
    refine lv_goto (tgt := 53) hx hb dX5_init_75 (by decide) ?_
    refine W.widen (k := 14 + 3 * (xx + 1)) (n := 99 + 14 * (xx + 1)) (by show _ + 1 + 2 ≤ _; omega) (by show _ + 6 + 8 ≤ _; omega) ?_
    exact ih (xx + 1) (by omega) _ _ _ ⟨⟨_, _, n_tmI_step hT frw a_3_0_0 (by rw [a_10_xx_0]; exact e_3_0_0) (by rw [a_11_xx_0, a_12_xx_0]; exact e_10_xx_0) e_11_xx_0 e_12_xx_0, by omega, hG⟩, lv_sub hl [0, 1] rfl⟩
set_option maxHeartbeats 4000000 in
set_option maxRecDepth 100000 in
theorem n_ref (l : Launch) (V : gV) (ad : gA) (E : gE)  (e_50_0_0 : E 50 0 0 = some (.inr (7, [.int 0, .int 0, .null, .null, .int 0, .null, .null, .int 0, .int 0, .int 0, .null, .null, .null, .null, .null, .null, .null, .int 0, .null, .null, .null, .null, .null, .int 0, .int 0, .int 0, .long 0, .int 0, .int 0]))) : gMv l yX6_init cX6_init 1 none ({ frames := 1, cells := 16, slots := 3928, locals := 20 } : Room) [.ref (ad 50 0 0)] V ad E (fun ad' E' => rfOK V ad' s_0 E' ∧ gFr (fun k i j => k = 50 ∨ k = 51) ad E ad' E' ∧ ad' 50 0 0 = ad 50 0 0) := by
  intro sz
  refine g_ofN (by decide) (Nat.le_of_ble_eq_true rfl) ?_
  intro p e s m_ below meth c ls hname hC hz hG hl
  have hx := hC.1
  have hb := hC.2.1
  have hl : lv_has ls 1 [(0, .ref (ad 50 0 0))] := hl
  have a_50_0_0 : ad 50 0 0 = ad 50 0 0 := rfl
  have frw : gFr (fun k i j => k = 50 ∨ k = 51) ad E ad E := gFr.rf
  refine lv_aload_n hx hb dX6_init_0 rfl (lv_at hl 0 rfl) ?_
  refine W.objInit hx hb hC.2.2.2.1 (hC.2.2.2.2.1 _ km_RX6_3) (hC.2.2.2.2.1 _ kn_objectInit) (hC.2.2.2.2.1 _ kd_objectInit) rfl (hC.2.2.1.trans hl.1.symm).symm rfl dX6_init_1 (Nat.le_of_ble_eq_true rfl) (Nat.le_of_ble_eq_true rfl) ?_
  change W _ _ _ _ _ _ _ _ _ _ _ _ _ _ _ (F0 _ 4 _ _)
  refine lv_aload_n hx hb dX6_init_4 rfl (lv_at hl 0 rfl) ?_
  refine lv_bipush (v := (nI 8)) hx hb dX6_init_5 (by decide) ?_
  refine gk_newa hC hG (atype := .int) (ty := .int) (t0 := 0) (a0 := (8, .inl (fun _ => 0))) ka__int rfl rfl (fun C h => by cases h) (by rw [vp_cell_i]; rfl) (nI_pos (by decide)) (nI_clamp (by decide)) (by decide) (Nat.le_of_ble_eq_true rfl) (Nat.le_of_ble_eq_true rfl) dX6_init_7 51 2 0 (fun a1 ad1 E1 H a_51_2_0 e_51_2_0 fr hG => ?_)
  have e_50_0_0 := (fr 50 0 0 (by omega)).1.trans e_50_0_0
  have a_50_0_0 := (fr 50 0 0 (by omega)).2.trans a_50_0_0
  have frw := gFr.tr frw fr (fun k i j z => by omega)
  refine gk_putF hC hG a_50_0_0 e_50_0_0 rfl inlX6 tyX6 tyX6_ok nmX6 2 (by decide) kf_RX6_9 (fun _ h => h) rfl hname rfl rfl rfl (Nat.le_of_ble_eq_true rfl) dX6_init_9 (fun E2 H locs (e_50_0_0 : E2 50 0 0 = some (.inr (7, [.int 0, .int 0, .ref a1, .null, .int 0, .null, .null, .int 0, .int 0, .int 0, .null, .null, .null, .null, .null, .null, .null, .int 0, .null, .null, .null, .null, .null, .int 0, .int 0, .int 0, .long 0, .int 0, .int 0]))) fr hG => ?_)
  have e_51_2_0 := (fr 51 2 0 (by omega)).1.trans e_51_2_0
  have frw := gFr.tr frw fr (fun k i j z => by omega)
  refine lv_aload_n hx hb dX6_init_12 rfl (lv_at hl 0 rfl) ?_
  refine lv_bipush (v := (nI 48)) hx hb dX6_init_13 (by decide) ?_
  refine gk_newa hC hG (atype := .int) (ty := .int) (t0 := 0) (a0 := (48, .inl (fun _ => 0))) ka__int rfl rfl (fun C h => by cases h) (by rw [vp_cell_i]; rfl) (nI_pos (by decide)) (nI_clamp (by decide)) (by decide) (Nat.le_of_ble_eq_true rfl) (Nat.le_of_ble_eq_true rfl) dX6_init_15 51 3 0 (fun a3 ad3 E3 H a_51_3_0 e_51_3_0 fr hG => ?_)
  have e_50_0_0 := (fr 50 0 0 (by omega)).1.trans e_50_0_0
  have a_50_0_0 := (fr 50 0 0 (by omega)).2.trans a_50_0_0
  have e_51_2_0 := (fr 51 2 0 (by omega)).1.trans e_51_2_0
  have a_51_2_0 := (fr 51 2 0 (by omega)).2.trans a_51_2_0
  have frw := gFr.tr frw fr (fun k i j z => by omega)
  refine gk_putF hC hG a_50_0_0 e_50_0_0 rfl inlX6 tyX6 tyX6_ok nmX6 3 (by decide) kf_RX6_13 (fun _ h => h) rfl hname rfl rfl rfl (Nat.le_of_ble_eq_true rfl) dX6_init_17 (fun E4 H locs (e_50_0_0 : E4 50 0 0 = some (.inr (7, [.int 0, .int 0, .ref a1, .ref a3, .int 0, .null, .null, .int 0, .int 0, .int 0, .null, .null, .null, .null, .null, .null, .null, .int 0, .null, .null, .null, .null, .null, .int 0, .int 0, .int 0, .long 0, .int 0, .int 0]))) fr hG => ?_)
  have e_51_2_0 := (fr 51 2 0 (by omega)).1.trans e_51_2_0
  have e_51_3_0 := (fr 51 3 0 (by omega)).1.trans e_51_3_0
  have frw := gFr.tr frw fr (fun k i j z => by omega)
  refine lv_aload_n hx hb dX6_init_20 rfl (lv_at hl 0 rfl) ?_
  refine lv_bipush (v := (nI 12)) hx hb dX6_init_21 (by decide) ?_
  refine gk_newa hC hG (atype := .int) (ty := .int) (t0 := 0) (a0 := (12, .inl (fun _ => 0))) ka__int rfl rfl (fun C h => by cases h) (by rw [vp_cell_i]; rfl) (nI_pos (by decide)) (nI_clamp (by decide)) (by decide) (Nat.le_of_ble_eq_true rfl) (Nat.le_of_ble_eq_true rfl) dX6_init_23 51 5 0 (fun a5 ad5 E5 H a_51_5_0 e_51_5_0 fr hG => ?_)
  have e_50_0_0 := (fr 50 0 0 (by omega)).1.trans e_50_0_0
  have a_50_0_0 := (fr 50 0 0 (by omega)).2.trans a_50_0_0
  have e_51_2_0 := (fr 51 2 0 (by omega)).1.trans e_51_2_0
  have a_51_2_0 := (fr 51 2 0 (by omega)).2.trans a_51_2_0
  have e_51_3_0 := (fr 51 3 0 (by omega)).1.trans e_51_3_0
  have a_51_3_0 := (fr 51 3 0 (by omega)).2.trans a_51_3_0
  have frw := gFr.tr frw fr (fun k i j z => by omega)
  refine gk_putF hC hG a_50_0_0 e_50_0_0 rfl inlX6 tyX6 tyX6_ok nmX6 5 (by decide) kf_RX6_16 (fun _ h => h) rfl hname rfl rfl rfl (Nat.le_of_ble_eq_true rfl) dX6_init_25 (fun E6 H locs (e_50_0_0 : E6 50 0 0 = some (.inr (7, [.int 0, .int 0, .ref a1, .ref a3, .int 0, .ref a5, .null, .int 0, .int 0, .int 0, .null, .null, .null, .null, .null, .null, .null, .int 0, .null, .null, .null, .null, .null, .int 0, .int 0, .int 0, .long 0, .int 0, .int 0]))) fr hG => ?_)
  have e_51_2_0 := (fr 51 2 0 (by omega)).1.trans e_51_2_0
  have e_51_3_0 := (fr 51 3 0 (by omega)).1.trans e_51_3_0
  have e_51_5_0 := (fr 51 5 0 (by omega)).1.trans e_51_5_0
  have frw := gFr.tr frw fr (fun k i j z => by omega)
  refine lv_aload_n hx hb dX6_init_28 rfl (lv_at hl 0 rfl) ?_
  refine lv_sipush (v := (nI 1200)) hx hb dX6_init_29 (by decide) ?_
  refine gk_newa hC hG (atype := .int) (ty := .int) (t0 := 0) (a0 := (1200, .inl (fun _ => 0))) ka__int rfl rfl (fun C h => by cases h) (by rw [vp_cell_i]; rfl) (nI_pos (by decide)) (nI_clamp (by decide)) (by decide) (Nat.le_of_ble_eq_true rfl) (Nat.le_of_ble_eq_true rfl) dX6_init_32 51 6 0 (fun a7 ad7 E7 H a_51_6_0 e_51_6_0 fr hG => ?_)
  have e_50_0_0 := (fr 50 0 0 (by omega)).1.trans e_50_0_0
  have a_50_0_0 := (fr 50 0 0 (by omega)).2.trans a_50_0_0
  have e_51_2_0 := (fr 51 2 0 (by omega)).1.trans e_51_2_0
  have a_51_2_0 := (fr 51 2 0 (by omega)).2.trans a_51_2_0
  have e_51_3_0 := (fr 51 3 0 (by omega)).1.trans e_51_3_0
  have a_51_3_0 := (fr 51 3 0 (by omega)).2.trans a_51_3_0
  have e_51_5_0 := (fr 51 5 0 (by omega)).1.trans e_51_5_0
  have a_51_5_0 := (fr 51 5 0 (by omega)).2.trans a_51_5_0
  have frw := gFr.tr frw fr (fun k i j z => by omega)
  refine gk_putF hC hG a_50_0_0 e_50_0_0 rfl inlX6 tyX6 tyX6_ok nmX6 6 (by decide) kf_RX6_19 (fun _ h => h) rfl hname rfl rfl rfl (Nat.le_of_ble_eq_true rfl) dX6_init_34 (fun E8 H locs (e_50_0_0 : E8 50 0 0 = some (.inr (7, [.int 0, .int 0, .ref a1, .ref a3, .int 0, .ref a5, .ref a7, .int 0, .int 0, .int 0, .null, .null, .null, .null, .null, .null, .null, .int 0, .null, .null, .null, .null, .null, .int 0, .int 0, .int 0, .long 0, .int 0, .int 0]))) fr hG => ?_)
  have e_51_2_0 := (fr 51 2 0 (by omega)).1.trans e_51_2_0
  have e_51_3_0 := (fr 51 3 0 (by omega)).1.trans e_51_3_0
  have e_51_5_0 := (fr 51 5 0 (by omega)).1.trans e_51_5_0
  have e_51_6_0 := (fr 51 6 0 (by omega)).1.trans e_51_6_0
  have frw := gFr.tr frw fr (fun k i j z => by omega)
  refine lv_aload_n hx hb dX6_init_37 rfl (lv_at hl 0 rfl) ?_
  refine lv_iconst (v := 5) hx hb dX6_init_38 (by decide) ?_
  refine gk_put hC hG a_50_0_0 e_50_0_0 rfl inlX6 tyX6 tyX6_ok nmX6 7 (by decide) kf_RX6_22 (fun _ h => h) rfl rfl rfl (Nat.le_of_ble_eq_true rfl) dX6_init_39 (fun E9 H locs (e_50_0_0 : E9 50 0 0 = some (.inr (7, [.int 0, .int 0, .ref a1, .ref a3, .int 0, .ref a5, .ref a7, .int 5, .int 0, .int 0, .null, .null, .null, .null, .null, .null, .null, .int 0, .null, .null, .null, .null, .null, .int 0, .int 0, .int 0, .long 0, .int 0, .int 0]))) fr hG => ?_)
  have e_51_2_0 := (fr 51 2 0 (by omega)).1.trans e_51_2_0
  have e_51_3_0 := (fr 51 3 0 (by omega)).1.trans e_51_3_0
  have e_51_5_0 := (fr 51 5 0 (by omega)).1.trans e_51_5_0
  have e_51_6_0 := (fr 51 6 0 (by omega)).1.trans e_51_6_0
  have frw := gFr.tr frw fr (fun k i j z => by omega)
  refine lv_aload_n hx hb dX6_init_42 rfl (lv_at hl 0 rfl) ?_
  refine lv_bipush (v := 20) hx hb dX6_init_43 (by decide) ?_
  refine gk_put hC hG a_50_0_0 e_50_0_0 rfl inlX6 tyX6 tyX6_ok nmX6 8 (by decide) kf_RX6_26 (fun _ h => h) rfl rfl rfl (Nat.le_of_ble_eq_true rfl) dX6_init_45 (fun E10 H locs (e_50_0_0 : E10 50 0 0 = some (.inr (7, [.int 0, .int 0, .ref a1, .ref a3, .int 0, .ref a5, .ref a7, .int 5, .int 20, .int 0, .null, .null, .null, .null, .null, .null, .null, .int 0, .null, .null, .null, .null, .null, .int 0, .int 0, .int 0, .long 0, .int 0, .int 0]))) fr hG => ?_)
  have e_51_2_0 := (fr 51 2 0 (by omega)).1.trans e_51_2_0
  have e_51_3_0 := (fr 51 3 0 (by omega)).1.trans e_51_3_0
  have e_51_5_0 := (fr 51 5 0 (by omega)).1.trans e_51_5_0
  have e_51_6_0 := (fr 51 6 0 (by omega)).1.trans e_51_6_0
  have frw := gFr.tr frw fr (fun k i j z => by omega)
  refine lv_aload_n hx hb dX6_init_48 rfl (lv_at hl 0 rfl) ?_
  refine lv_iconst (v := 2) hx hb dX6_init_49 (by decide) ?_
  refine gk_put hC hG a_50_0_0 e_50_0_0 rfl inlX6 tyX6 tyX6_ok nmX6 9 (by decide) kf_RX6_29 (fun _ h => h) rfl rfl rfl (Nat.le_of_ble_eq_true rfl) dX6_init_50 (fun E11 H locs (e_50_0_0 : E11 50 0 0 = some (.inr (7, [.int 0, .int 0, .ref a1, .ref a3, .int 0, .ref a5, .ref a7, .int 5, .int 20, .int 2, .null, .null, .null, .null, .null, .null, .null, .int 0, .null, .null, .null, .null, .null, .int 0, .int 0, .int 0, .long 0, .int 0, .int 0]))) fr hG => ?_)
  have e_51_2_0 := (fr 51 2 0 (by omega)).1.trans e_51_2_0
  have e_51_3_0 := (fr 51 3 0 (by omega)).1.trans e_51_3_0
  have e_51_5_0 := (fr 51 5 0 (by omega)).1.trans e_51_5_0
  have e_51_6_0 := (fr 51 6 0 (by omega)).1.trans e_51_6_0
  have frw := gFr.tr frw fr (fun k i j z => by omega)
  refine lv_aload_n hx hb dX6_init_53 rfl (lv_at hl 0 rfl) ?_
  refine lv_bipush (v := (nI 12)) hx hb dX6_init_54 (by decide) ?_
  refine gk_newa hC hG (atype := .int) (ty := .int) (t0 := 0) (a0 := (12, .inl (fun _ => 0))) ka__int rfl rfl (fun C h => by cases h) (by rw [vp_cell_i]; rfl) (nI_pos (by decide)) (nI_clamp (by decide)) (by decide) (Nat.le_of_ble_eq_true rfl) (Nat.le_of_ble_eq_true rfl) dX6_init_56 51 10 0 (fun a12 ad12 E12 H a_51_10_0 e_51_10_0 fr hG => ?_)
  have e_50_0_0 := (fr 50 0 0 (by omega)).1.trans e_50_0_0
  have a_50_0_0 := (fr 50 0 0 (by omega)).2.trans a_50_0_0
  have e_51_2_0 := (fr 51 2 0 (by omega)).1.trans e_51_2_0
  have a_51_2_0 := (fr 51 2 0 (by omega)).2.trans a_51_2_0
  have e_51_3_0 := (fr 51 3 0 (by omega)).1.trans e_51_3_0
  have a_51_3_0 := (fr 51 3 0 (by omega)).2.trans a_51_3_0
  have e_51_5_0 := (fr 51 5 0 (by omega)).1.trans e_51_5_0
  have a_51_5_0 := (fr 51 5 0 (by omega)).2.trans a_51_5_0
  have e_51_6_0 := (fr 51 6 0 (by omega)).1.trans e_51_6_0
  have a_51_6_0 := (fr 51 6 0 (by omega)).2.trans a_51_6_0
  have frw := gFr.tr frw fr (fun k i j z => by omega)
  refine gk_putF hC hG a_50_0_0 e_50_0_0 rfl inlX6 tyX6 tyX6_ok nmX6 10 (by decide) kf_RX6_32 (fun _ h => h) rfl hname rfl rfl rfl (Nat.le_of_ble_eq_true rfl) dX6_init_58 (fun E13 H locs (e_50_0_0 : E13 50 0 0 = some (.inr (7, [.int 0, .int 0, .ref a1, .ref a3, .int 0, .ref a5, .ref a7, .int 5, .int 20, .int 2, .ref a12, .null, .null, .null, .null, .null, .null, .int 0, .null, .null, .null, .null, .null, .int 0, .int 0, .int 0, .long 0, .int 0, .int 0]))) fr hG => ?_)
  have e_51_2_0 := (fr 51 2 0 (by omega)).1.trans e_51_2_0
  have e_51_3_0 := (fr 51 3 0 (by omega)).1.trans e_51_3_0
  have e_51_5_0 := (fr 51 5 0 (by omega)).1.trans e_51_5_0
  have e_51_6_0 := (fr 51 6 0 (by omega)).1.trans e_51_6_0
  have e_51_10_0 := (fr 51 10 0 (by omega)).1.trans e_51_10_0
  have frw := gFr.tr frw fr (fun k i j z => by omega)
  refine lv_aload_n hx hb dX6_init_61 rfl (lv_at hl 0 rfl) ?_
  refine lv_bipush (v := (nI 12)) hx hb dX6_init_62 (by decide) ?_
  refine gk_newa hC hG (atype := .int) (ty := .int) (t0 := 0) (a0 := (12, .inl (fun _ => 0))) ka__int rfl rfl (fun C h => by cases h) (by rw [vp_cell_i]; rfl) (nI_pos (by decide)) (nI_clamp (by decide)) (by decide) (Nat.le_of_ble_eq_true rfl) (Nat.le_of_ble_eq_true rfl) dX6_init_64 51 11 0 (fun a14 ad14 E14 H a_51_11_0 e_51_11_0 fr hG => ?_)
  have e_50_0_0 := (fr 50 0 0 (by omega)).1.trans e_50_0_0
  have a_50_0_0 := (fr 50 0 0 (by omega)).2.trans a_50_0_0
  have e_51_2_0 := (fr 51 2 0 (by omega)).1.trans e_51_2_0
  have a_51_2_0 := (fr 51 2 0 (by omega)).2.trans a_51_2_0
  have e_51_3_0 := (fr 51 3 0 (by omega)).1.trans e_51_3_0
  have a_51_3_0 := (fr 51 3 0 (by omega)).2.trans a_51_3_0
  have e_51_5_0 := (fr 51 5 0 (by omega)).1.trans e_51_5_0
  have a_51_5_0 := (fr 51 5 0 (by omega)).2.trans a_51_5_0
  have e_51_6_0 := (fr 51 6 0 (by omega)).1.trans e_51_6_0
  have a_51_6_0 := (fr 51 6 0 (by omega)).2.trans a_51_6_0
  have e_51_10_0 := (fr 51 10 0 (by omega)).1.trans e_51_10_0
  have a_51_10_0 := (fr 51 10 0 (by omega)).2.trans a_51_10_0
  have frw := gFr.tr frw fr (fun k i j z => by omega)
  refine gk_putF hC hG a_50_0_0 e_50_0_0 rfl inlX6 tyX6 tyX6_ok nmX6 11 (by decide) kf_RX6_35 (fun _ h => h) rfl hname rfl rfl rfl (Nat.le_of_ble_eq_true rfl) dX6_init_66 (fun E15 H locs (e_50_0_0 : E15 50 0 0 = some (.inr (7, [.int 0, .int 0, .ref a1, .ref a3, .int 0, .ref a5, .ref a7, .int 5, .int 20, .int 2, .ref a12, .ref a14, .null, .null, .null, .null, .null, .int 0, .null, .null, .null, .null, .null, .int 0, .int 0, .int 0, .long 0, .int 0, .int 0]))) fr hG => ?_)
  have e_51_2_0 := (fr 51 2 0 (by omega)).1.trans e_51_2_0
  have e_51_3_0 := (fr 51 3 0 (by omega)).1.trans e_51_3_0
  have e_51_5_0 := (fr 51 5 0 (by omega)).1.trans e_51_5_0
  have e_51_6_0 := (fr 51 6 0 (by omega)).1.trans e_51_6_0
  have e_51_10_0 := (fr 51 10 0 (by omega)).1.trans e_51_10_0
  have e_51_11_0 := (fr 51 11 0 (by omega)).1.trans e_51_11_0
  have frw := gFr.tr frw fr (fun k i j z => by omega)
  refine lv_aload_n hx hb dX6_init_69 rfl (lv_at hl 0 rfl) ?_
  refine lv_bipush (v := (nI 12)) hx hb dX6_init_70 (by decide) ?_
  refine gk_newa hC hG (atype := .int) (ty := .int) (t0 := 0) (a0 := (12, .inl (fun _ => 0))) ka__int rfl rfl (fun C h => by cases h) (by rw [vp_cell_i]; rfl) (nI_pos (by decide)) (nI_clamp (by decide)) (by decide) (Nat.le_of_ble_eq_true rfl) (Nat.le_of_ble_eq_true rfl) dX6_init_72 51 12 0 (fun a16 ad16 E16 H a_51_12_0 e_51_12_0 fr hG => ?_)
  have e_50_0_0 := (fr 50 0 0 (by omega)).1.trans e_50_0_0
  have a_50_0_0 := (fr 50 0 0 (by omega)).2.trans a_50_0_0
  have e_51_2_0 := (fr 51 2 0 (by omega)).1.trans e_51_2_0
  have a_51_2_0 := (fr 51 2 0 (by omega)).2.trans a_51_2_0
  have e_51_3_0 := (fr 51 3 0 (by omega)).1.trans e_51_3_0
  have a_51_3_0 := (fr 51 3 0 (by omega)).2.trans a_51_3_0
  have e_51_5_0 := (fr 51 5 0 (by omega)).1.trans e_51_5_0
  have a_51_5_0 := (fr 51 5 0 (by omega)).2.trans a_51_5_0
  have e_51_6_0 := (fr 51 6 0 (by omega)).1.trans e_51_6_0
  have a_51_6_0 := (fr 51 6 0 (by omega)).2.trans a_51_6_0
  have e_51_10_0 := (fr 51 10 0 (by omega)).1.trans e_51_10_0
  have a_51_10_0 := (fr 51 10 0 (by omega)).2.trans a_51_10_0
  have e_51_11_0 := (fr 51 11 0 (by omega)).1.trans e_51_11_0
  have a_51_11_0 := (fr 51 11 0 (by omega)).2.trans a_51_11_0
  have frw := gFr.tr frw fr (fun k i j z => by omega)
  refine gk_putF hC hG a_50_0_0 e_50_0_0 rfl inlX6 tyX6 tyX6_ok nmX6 12 (by decide) kf_RX6_38 (fun _ h => h) rfl hname rfl rfl rfl (Nat.le_of_ble_eq_true rfl) dX6_init_74 (fun E17 H locs (e_50_0_0 : E17 50 0 0 = some (.inr (7, [.int 0, .int 0, .ref a1, .ref a3, .int 0, .ref a5, .ref a7, .int 5, .int 20, .int 2, .ref a12, .ref a14, .ref a16, .null, .null, .null, .null, .int 0, .null, .null, .null, .null, .null, .int 0, .int 0, .int 0, .long 0, .int 0, .int 0]))) fr hG => ?_)
  have e_51_2_0 := (fr 51 2 0 (by omega)).1.trans e_51_2_0
  have e_51_3_0 := (fr 51 3 0 (by omega)).1.trans e_51_3_0
  have e_51_5_0 := (fr 51 5 0 (by omega)).1.trans e_51_5_0
  have e_51_6_0 := (fr 51 6 0 (by omega)).1.trans e_51_6_0
  have e_51_10_0 := (fr 51 10 0 (by omega)).1.trans e_51_10_0
  have e_51_11_0 := (fr 51 11 0 (by omega)).1.trans e_51_11_0
  have e_51_12_0 := (fr 51 12 0 (by omega)).1.trans e_51_12_0
  have frw := gFr.tr frw fr (fun k i j z => by omega)
  refine lv_aload_n hx hb dX6_init_77 rfl (lv_at hl 0 rfl) ?_
  refine lv_sipush (v := (nI 480)) hx hb dX6_init_78 (by decide) ?_
  refine gk_newa hC hG (atype := .int) (ty := .int) (t0 := 0) (a0 := (480, .inl (fun _ => 0))) ka__int rfl rfl (fun C h => by cases h) (by rw [vp_cell_i]; rfl) (nI_pos (by decide)) (nI_clamp (by decide)) (by decide) (Nat.le_of_ble_eq_true rfl) (Nat.le_of_ble_eq_true rfl) dX6_init_81 51 13 0 (fun a18 ad18 E18 H a_51_13_0 e_51_13_0 fr hG => ?_)
  have e_50_0_0 := (fr 50 0 0 (by omega)).1.trans e_50_0_0
  have a_50_0_0 := (fr 50 0 0 (by omega)).2.trans a_50_0_0
  have e_51_2_0 := (fr 51 2 0 (by omega)).1.trans e_51_2_0
  have a_51_2_0 := (fr 51 2 0 (by omega)).2.trans a_51_2_0
  have e_51_3_0 := (fr 51 3 0 (by omega)).1.trans e_51_3_0
  have a_51_3_0 := (fr 51 3 0 (by omega)).2.trans a_51_3_0
  have e_51_5_0 := (fr 51 5 0 (by omega)).1.trans e_51_5_0
  have a_51_5_0 := (fr 51 5 0 (by omega)).2.trans a_51_5_0
  have e_51_6_0 := (fr 51 6 0 (by omega)).1.trans e_51_6_0
  have a_51_6_0 := (fr 51 6 0 (by omega)).2.trans a_51_6_0
  have e_51_10_0 := (fr 51 10 0 (by omega)).1.trans e_51_10_0
  have a_51_10_0 := (fr 51 10 0 (by omega)).2.trans a_51_10_0
  have e_51_11_0 := (fr 51 11 0 (by omega)).1.trans e_51_11_0
  have a_51_11_0 := (fr 51 11 0 (by omega)).2.trans a_51_11_0
  have e_51_12_0 := (fr 51 12 0 (by omega)).1.trans e_51_12_0
  have a_51_12_0 := (fr 51 12 0 (by omega)).2.trans a_51_12_0
  have frw := gFr.tr frw fr (fun k i j z => by omega)
  refine gk_putF hC hG a_50_0_0 e_50_0_0 rfl inlX6 tyX6 tyX6_ok nmX6 13 (by decide) kf_RX6_41 (fun _ h => h) rfl hname rfl rfl rfl (Nat.le_of_ble_eq_true rfl) dX6_init_83 (fun E19 H locs (e_50_0_0 : E19 50 0 0 = some (.inr (7, [.int 0, .int 0, .ref a1, .ref a3, .int 0, .ref a5, .ref a7, .int 5, .int 20, .int 2, .ref a12, .ref a14, .ref a16, .ref a18, .null, .null, .null, .int 0, .null, .null, .null, .null, .null, .int 0, .int 0, .int 0, .long 0, .int 0, .int 0]))) fr hG => ?_)
  have e_51_2_0 := (fr 51 2 0 (by omega)).1.trans e_51_2_0
  have e_51_3_0 := (fr 51 3 0 (by omega)).1.trans e_51_3_0
  have e_51_5_0 := (fr 51 5 0 (by omega)).1.trans e_51_5_0
  have e_51_6_0 := (fr 51 6 0 (by omega)).1.trans e_51_6_0
  have e_51_10_0 := (fr 51 10 0 (by omega)).1.trans e_51_10_0
  have e_51_11_0 := (fr 51 11 0 (by omega)).1.trans e_51_11_0
  have e_51_12_0 := (fr 51 12 0 (by omega)).1.trans e_51_12_0
  have e_51_13_0 := (fr 51 13 0 (by omega)).1.trans e_51_13_0
  have frw := gFr.tr frw fr (fun k i j z => by omega)
  refine lv_aload_n hx hb dX6_init_86 rfl (lv_at hl 0 rfl) ?_
  refine lv_sipush (v := (nI 1440)) hx hb dX6_init_87 (by decide) ?_
  refine gk_newa hC hG (atype := .int) (ty := .int) (t0 := 0) (a0 := (1440, .inl (fun _ => 0))) ka__int rfl rfl (fun C h => by cases h) (by rw [vp_cell_i]; rfl) (nI_pos (by decide)) (nI_clamp (by decide)) (by decide) (Nat.le_of_ble_eq_true rfl) (Nat.le_of_ble_eq_true rfl) dX6_init_90 51 14 0 (fun a20 ad20 E20 H a_51_14_0 e_51_14_0 fr hG => ?_)
  have e_50_0_0 := (fr 50 0 0 (by omega)).1.trans e_50_0_0
  have a_50_0_0 := (fr 50 0 0 (by omega)).2.trans a_50_0_0
  have e_51_2_0 := (fr 51 2 0 (by omega)).1.trans e_51_2_0
  have a_51_2_0 := (fr 51 2 0 (by omega)).2.trans a_51_2_0
  have e_51_3_0 := (fr 51 3 0 (by omega)).1.trans e_51_3_0
  have a_51_3_0 := (fr 51 3 0 (by omega)).2.trans a_51_3_0
  have e_51_5_0 := (fr 51 5 0 (by omega)).1.trans e_51_5_0
  have a_51_5_0 := (fr 51 5 0 (by omega)).2.trans a_51_5_0
  have e_51_6_0 := (fr 51 6 0 (by omega)).1.trans e_51_6_0
  have a_51_6_0 := (fr 51 6 0 (by omega)).2.trans a_51_6_0
  have e_51_10_0 := (fr 51 10 0 (by omega)).1.trans e_51_10_0
  have a_51_10_0 := (fr 51 10 0 (by omega)).2.trans a_51_10_0
  have e_51_11_0 := (fr 51 11 0 (by omega)).1.trans e_51_11_0
  have a_51_11_0 := (fr 51 11 0 (by omega)).2.trans a_51_11_0
  have e_51_12_0 := (fr 51 12 0 (by omega)).1.trans e_51_12_0
  have a_51_12_0 := (fr 51 12 0 (by omega)).2.trans a_51_12_0
  have e_51_13_0 := (fr 51 13 0 (by omega)).1.trans e_51_13_0
  have a_51_13_0 := (fr 51 13 0 (by omega)).2.trans a_51_13_0
  have frw := gFr.tr frw fr (fun k i j z => by omega)
  refine gk_putF hC hG a_50_0_0 e_50_0_0 rfl inlX6 tyX6 tyX6_ok nmX6 14 (by decide) kf_RX6_44 (fun _ h => h) rfl hname rfl rfl rfl (Nat.le_of_ble_eq_true rfl) dX6_init_92 (fun E21 H locs (e_50_0_0 : E21 50 0 0 = some (.inr (7, [.int 0, .int 0, .ref a1, .ref a3, .int 0, .ref a5, .ref a7, .int 5, .int 20, .int 2, .ref a12, .ref a14, .ref a16, .ref a18, .ref a20, .null, .null, .int 0, .null, .null, .null, .null, .null, .int 0, .int 0, .int 0, .long 0, .int 0, .int 0]))) fr hG => ?_)
  have e_51_2_0 := (fr 51 2 0 (by omega)).1.trans e_51_2_0
  have e_51_3_0 := (fr 51 3 0 (by omega)).1.trans e_51_3_0
  have e_51_5_0 := (fr 51 5 0 (by omega)).1.trans e_51_5_0
  have e_51_6_0 := (fr 51 6 0 (by omega)).1.trans e_51_6_0
  have e_51_10_0 := (fr 51 10 0 (by omega)).1.trans e_51_10_0
  have e_51_11_0 := (fr 51 11 0 (by omega)).1.trans e_51_11_0
  have e_51_12_0 := (fr 51 12 0 (by omega)).1.trans e_51_12_0
  have e_51_13_0 := (fr 51 13 0 (by omega)).1.trans e_51_13_0
  have e_51_14_0 := (fr 51 14 0 (by omega)).1.trans e_51_14_0
  have frw := gFr.tr frw fr (fun k i j z => by omega)
  refine lv_aload_n hx hb dX6_init_95 rfl (lv_at hl 0 rfl) ?_
  refine lv_sipush (v := (nI 480)) hx hb dX6_init_96 (by decide) ?_
  refine gk_newa hC hG (atype := .boolean) (ty := .boolean) (t0 := 2) (a0 := (480, .inl (fun _ => 0))) ka__boolean rfl rfl (fun C h => by cases h) (by rw [vp_cell_i]; rfl) (nI_pos (by decide)) (nI_clamp (by decide)) (by decide) (Nat.le_of_ble_eq_true rfl) (Nat.le_of_ble_eq_true rfl) dX6_init_99 51 15 0 (fun a22 ad22 E22 H a_51_15_0 e_51_15_0 fr hG => ?_)
  have e_50_0_0 := (fr 50 0 0 (by omega)).1.trans e_50_0_0
  have a_50_0_0 := (fr 50 0 0 (by omega)).2.trans a_50_0_0
  have e_51_2_0 := (fr 51 2 0 (by omega)).1.trans e_51_2_0
  have a_51_2_0 := (fr 51 2 0 (by omega)).2.trans a_51_2_0
  have e_51_3_0 := (fr 51 3 0 (by omega)).1.trans e_51_3_0
  have a_51_3_0 := (fr 51 3 0 (by omega)).2.trans a_51_3_0
  have e_51_5_0 := (fr 51 5 0 (by omega)).1.trans e_51_5_0
  have a_51_5_0 := (fr 51 5 0 (by omega)).2.trans a_51_5_0
  have e_51_6_0 := (fr 51 6 0 (by omega)).1.trans e_51_6_0
  have a_51_6_0 := (fr 51 6 0 (by omega)).2.trans a_51_6_0
  have e_51_10_0 := (fr 51 10 0 (by omega)).1.trans e_51_10_0
  have a_51_10_0 := (fr 51 10 0 (by omega)).2.trans a_51_10_0
  have e_51_11_0 := (fr 51 11 0 (by omega)).1.trans e_51_11_0
  have a_51_11_0 := (fr 51 11 0 (by omega)).2.trans a_51_11_0
  have e_51_12_0 := (fr 51 12 0 (by omega)).1.trans e_51_12_0
  have a_51_12_0 := (fr 51 12 0 (by omega)).2.trans a_51_12_0
  have e_51_13_0 := (fr 51 13 0 (by omega)).1.trans e_51_13_0
  have a_51_13_0 := (fr 51 13 0 (by omega)).2.trans a_51_13_0
  have e_51_14_0 := (fr 51 14 0 (by omega)).1.trans e_51_14_0
  have a_51_14_0 := (fr 51 14 0 (by omega)).2.trans a_51_14_0
  have frw := gFr.tr frw fr (fun k i j z => by omega)
  refine gk_putF hC hG a_50_0_0 e_50_0_0 rfl inlX6 tyX6 tyX6_ok nmX6 15 (by decide) kf_RX6_47 (fun _ h => h) rfl hname rfl rfl rfl (Nat.le_of_ble_eq_true rfl) dX6_init_101 (fun E23 H locs (e_50_0_0 : E23 50 0 0 = some (.inr (7, [.int 0, .int 0, .ref a1, .ref a3, .int 0, .ref a5, .ref a7, .int 5, .int 20, .int 2, .ref a12, .ref a14, .ref a16, .ref a18, .ref a20, .ref a22, .null, .int 0, .null, .null, .null, .null, .null, .int 0, .int 0, .int 0, .long 0, .int 0, .int 0]))) fr hG => ?_)
  have e_51_2_0 := (fr 51 2 0 (by omega)).1.trans e_51_2_0
  have e_51_3_0 := (fr 51 3 0 (by omega)).1.trans e_51_3_0
  have e_51_5_0 := (fr 51 5 0 (by omega)).1.trans e_51_5_0
  have e_51_6_0 := (fr 51 6 0 (by omega)).1.trans e_51_6_0
  have e_51_10_0 := (fr 51 10 0 (by omega)).1.trans e_51_10_0
  have e_51_11_0 := (fr 51 11 0 (by omega)).1.trans e_51_11_0
  have e_51_12_0 := (fr 51 12 0 (by omega)).1.trans e_51_12_0
  have e_51_13_0 := (fr 51 13 0 (by omega)).1.trans e_51_13_0
  have e_51_14_0 := (fr 51 14 0 (by omega)).1.trans e_51_14_0
  have e_51_15_0 := (fr 51 15 0 (by omega)).1.trans e_51_15_0
  have frw := gFr.tr frw fr (fun k i j z => by omega)
  refine lv_aload_n hx hb dX6_init_104 rfl (lv_at hl 0 rfl) ?_
  refine lv_iconst (v := (nI 4)) hx hb dX6_init_105 (by decide) ?_
  refine gk_newa hC hG (atype := .long) (ty := .long) (t0 := 1) (a0 := (4, .inr (.inl (fun _ => 0)))) ka__long rfl rfl (fun C h => by cases h) (by rw [vp_cell_l]; rfl) (nI_pos (by decide)) (nI_clamp (by decide)) (by decide) (Nat.le_of_ble_eq_true rfl) (Nat.le_of_ble_eq_true rfl) dX6_init_106 51 16 0 (fun a24 ad24 E24 H a_51_16_0 e_51_16_0 fr hG => ?_)
  have e_50_0_0 := (fr 50 0 0 (by omega)).1.trans e_50_0_0
  have a_50_0_0 := (fr 50 0 0 (by omega)).2.trans a_50_0_0
  have e_51_2_0 := (fr 51 2 0 (by omega)).1.trans e_51_2_0
  have a_51_2_0 := (fr 51 2 0 (by omega)).2.trans a_51_2_0
  have e_51_3_0 := (fr 51 3 0 (by omega)).1.trans e_51_3_0
  have a_51_3_0 := (fr 51 3 0 (by omega)).2.trans a_51_3_0
  have e_51_5_0 := (fr 51 5 0 (by omega)).1.trans e_51_5_0
  have a_51_5_0 := (fr 51 5 0 (by omega)).2.trans a_51_5_0
  have e_51_6_0 := (fr 51 6 0 (by omega)).1.trans e_51_6_0
  have a_51_6_0 := (fr 51 6 0 (by omega)).2.trans a_51_6_0
  have e_51_10_0 := (fr 51 10 0 (by omega)).1.trans e_51_10_0
  have a_51_10_0 := (fr 51 10 0 (by omega)).2.trans a_51_10_0
  have e_51_11_0 := (fr 51 11 0 (by omega)).1.trans e_51_11_0
  have a_51_11_0 := (fr 51 11 0 (by omega)).2.trans a_51_11_0
  have e_51_12_0 := (fr 51 12 0 (by omega)).1.trans e_51_12_0
  have a_51_12_0 := (fr 51 12 0 (by omega)).2.trans a_51_12_0
  have e_51_13_0 := (fr 51 13 0 (by omega)).1.trans e_51_13_0
  have a_51_13_0 := (fr 51 13 0 (by omega)).2.trans a_51_13_0
  have e_51_14_0 := (fr 51 14 0 (by omega)).1.trans e_51_14_0
  have a_51_14_0 := (fr 51 14 0 (by omega)).2.trans a_51_14_0
  have e_51_15_0 := (fr 51 15 0 (by omega)).1.trans e_51_15_0
  have a_51_15_0 := (fr 51 15 0 (by omega)).2.trans a_51_15_0
  have frw := gFr.tr frw fr (fun k i j z => by omega)
  refine gk_putF hC hG a_50_0_0 e_50_0_0 rfl inlX6 tyX6 tyX6_ok nmX6 16 (by decide) kf_RX6_51 (fun _ h => h) rfl hname rfl rfl rfl (Nat.le_of_ble_eq_true rfl) dX6_init_108 (fun E25 H locs (e_50_0_0 : E25 50 0 0 = some (.inr (7, [.int 0, .int 0, .ref a1, .ref a3, .int 0, .ref a5, .ref a7, .int 5, .int 20, .int 2, .ref a12, .ref a14, .ref a16, .ref a18, .ref a20, .ref a22, .ref a24, .int 0, .null, .null, .null, .null, .null, .int 0, .int 0, .int 0, .long 0, .int 0, .int 0]))) fr hG => ?_)
  have e_51_2_0 := (fr 51 2 0 (by omega)).1.trans e_51_2_0
  have e_51_3_0 := (fr 51 3 0 (by omega)).1.trans e_51_3_0
  have e_51_5_0 := (fr 51 5 0 (by omega)).1.trans e_51_5_0
  have e_51_6_0 := (fr 51 6 0 (by omega)).1.trans e_51_6_0
  have e_51_10_0 := (fr 51 10 0 (by omega)).1.trans e_51_10_0
  have e_51_11_0 := (fr 51 11 0 (by omega)).1.trans e_51_11_0
  have e_51_12_0 := (fr 51 12 0 (by omega)).1.trans e_51_12_0
  have e_51_13_0 := (fr 51 13 0 (by omega)).1.trans e_51_13_0
  have e_51_14_0 := (fr 51 14 0 (by omega)).1.trans e_51_14_0
  have e_51_15_0 := (fr 51 15 0 (by omega)).1.trans e_51_15_0
  have e_51_16_0 := (fr 51 16 0 (by omega)).1.trans e_51_16_0
  have frw := gFr.tr frw fr (fun k i j z => by omega)
  refine lv_aload_n hx hb dX6_init_111 rfl (lv_at hl 0 rfl) ?_
  refine lv_bipush (v := (nI 20)) hx hb dX6_init_112 (by decide) ?_
  refine gk_newa hC hG (atype := .int) (ty := .int) (t0 := 0) (a0 := (20, .inl (fun _ => 0))) ka__int rfl rfl (fun C h => by cases h) (by rw [vp_cell_i]; rfl) (nI_pos (by decide)) (nI_clamp (by decide)) (by decide) (Nat.le_of_ble_eq_true rfl) (Nat.le_of_ble_eq_true rfl) dX6_init_114 51 18 0 (fun a26 ad26 E26 H a_51_18_0 e_51_18_0 fr hG => ?_)
  have e_50_0_0 := (fr 50 0 0 (by omega)).1.trans e_50_0_0
  have a_50_0_0 := (fr 50 0 0 (by omega)).2.trans a_50_0_0
  have e_51_2_0 := (fr 51 2 0 (by omega)).1.trans e_51_2_0
  have a_51_2_0 := (fr 51 2 0 (by omega)).2.trans a_51_2_0
  have e_51_3_0 := (fr 51 3 0 (by omega)).1.trans e_51_3_0
  have a_51_3_0 := (fr 51 3 0 (by omega)).2.trans a_51_3_0
  have e_51_5_0 := (fr 51 5 0 (by omega)).1.trans e_51_5_0
  have a_51_5_0 := (fr 51 5 0 (by omega)).2.trans a_51_5_0
  have e_51_6_0 := (fr 51 6 0 (by omega)).1.trans e_51_6_0
  have a_51_6_0 := (fr 51 6 0 (by omega)).2.trans a_51_6_0
  have e_51_10_0 := (fr 51 10 0 (by omega)).1.trans e_51_10_0
  have a_51_10_0 := (fr 51 10 0 (by omega)).2.trans a_51_10_0
  have e_51_11_0 := (fr 51 11 0 (by omega)).1.trans e_51_11_0
  have a_51_11_0 := (fr 51 11 0 (by omega)).2.trans a_51_11_0
  have e_51_12_0 := (fr 51 12 0 (by omega)).1.trans e_51_12_0
  have a_51_12_0 := (fr 51 12 0 (by omega)).2.trans a_51_12_0
  have e_51_13_0 := (fr 51 13 0 (by omega)).1.trans e_51_13_0
  have a_51_13_0 := (fr 51 13 0 (by omega)).2.trans a_51_13_0
  have e_51_14_0 := (fr 51 14 0 (by omega)).1.trans e_51_14_0
  have a_51_14_0 := (fr 51 14 0 (by omega)).2.trans a_51_14_0
  have e_51_15_0 := (fr 51 15 0 (by omega)).1.trans e_51_15_0
  have a_51_15_0 := (fr 51 15 0 (by omega)).2.trans a_51_15_0
  have e_51_16_0 := (fr 51 16 0 (by omega)).1.trans e_51_16_0
  have a_51_16_0 := (fr 51 16 0 (by omega)).2.trans a_51_16_0
  have frw := gFr.tr frw fr (fun k i j z => by omega)
  refine gk_putF hC hG a_50_0_0 e_50_0_0 rfl inlX6 tyX6 tyX6_ok nmX6 18 (by decide) kf_RX6_55 (fun _ h => h) rfl hname rfl rfl rfl (Nat.le_of_ble_eq_true rfl) dX6_init_116 (fun E27 H locs (e_50_0_0 : E27 50 0 0 = some (.inr (7, [.int 0, .int 0, .ref a1, .ref a3, .int 0, .ref a5, .ref a7, .int 5, .int 20, .int 2, .ref a12, .ref a14, .ref a16, .ref a18, .ref a20, .ref a22, .ref a24, .int 0, .ref a26, .null, .null, .null, .null, .int 0, .int 0, .int 0, .long 0, .int 0, .int 0]))) fr hG => ?_)
  have e_51_2_0 := (fr 51 2 0 (by omega)).1.trans e_51_2_0
  have e_51_3_0 := (fr 51 3 0 (by omega)).1.trans e_51_3_0
  have e_51_5_0 := (fr 51 5 0 (by omega)).1.trans e_51_5_0
  have e_51_6_0 := (fr 51 6 0 (by omega)).1.trans e_51_6_0
  have e_51_10_0 := (fr 51 10 0 (by omega)).1.trans e_51_10_0
  have e_51_11_0 := (fr 51 11 0 (by omega)).1.trans e_51_11_0
  have e_51_12_0 := (fr 51 12 0 (by omega)).1.trans e_51_12_0
  have e_51_13_0 := (fr 51 13 0 (by omega)).1.trans e_51_13_0
  have e_51_14_0 := (fr 51 14 0 (by omega)).1.trans e_51_14_0
  have e_51_15_0 := (fr 51 15 0 (by omega)).1.trans e_51_15_0
  have e_51_16_0 := (fr 51 16 0 (by omega)).1.trans e_51_16_0
  have e_51_18_0 := (fr 51 18 0 (by omega)).1.trans e_51_18_0
  have frw := gFr.tr frw fr (fun k i j z => by omega)
  refine lv_aload_n hx hb dX6_init_119 rfl (lv_at hl 0 rfl) ?_
  refine lv_bipush (v := (nI 20)) hx hb dX6_init_120 (by decide) ?_
  refine gk_newa hC hG (atype := .int) (ty := .int) (t0 := 0) (a0 := (20, .inl (fun _ => 0))) ka__int rfl rfl (fun C h => by cases h) (by rw [vp_cell_i]; rfl) (nI_pos (by decide)) (nI_clamp (by decide)) (by decide) (Nat.le_of_ble_eq_true rfl) (Nat.le_of_ble_eq_true rfl) dX6_init_122 51 19 0 (fun a28 ad28 E28 H a_51_19_0 e_51_19_0 fr hG => ?_)
  have e_50_0_0 := (fr 50 0 0 (by omega)).1.trans e_50_0_0
  have a_50_0_0 := (fr 50 0 0 (by omega)).2.trans a_50_0_0
  have e_51_2_0 := (fr 51 2 0 (by omega)).1.trans e_51_2_0
  have a_51_2_0 := (fr 51 2 0 (by omega)).2.trans a_51_2_0
  have e_51_3_0 := (fr 51 3 0 (by omega)).1.trans e_51_3_0
  have a_51_3_0 := (fr 51 3 0 (by omega)).2.trans a_51_3_0
  have e_51_5_0 := (fr 51 5 0 (by omega)).1.trans e_51_5_0
  have a_51_5_0 := (fr 51 5 0 (by omega)).2.trans a_51_5_0
  have e_51_6_0 := (fr 51 6 0 (by omega)).1.trans e_51_6_0
  have a_51_6_0 := (fr 51 6 0 (by omega)).2.trans a_51_6_0
  have e_51_10_0 := (fr 51 10 0 (by omega)).1.trans e_51_10_0
  have a_51_10_0 := (fr 51 10 0 (by omega)).2.trans a_51_10_0
  have e_51_11_0 := (fr 51 11 0 (by omega)).1.trans e_51_11_0
  have a_51_11_0 := (fr 51 11 0 (by omega)).2.trans a_51_11_0
  have e_51_12_0 := (fr 51 12 0 (by omega)).1.trans e_51_12_0
  have a_51_12_0 := (fr 51 12 0 (by omega)).2.trans a_51_12_0
  have e_51_13_0 := (fr 51 13 0 (by omega)).1.trans e_51_13_0
  have a_51_13_0 := (fr 51 13 0 (by omega)).2.trans a_51_13_0
  have e_51_14_0 := (fr 51 14 0 (by omega)).1.trans e_51_14_0
  have a_51_14_0 := (fr 51 14 0 (by omega)).2.trans a_51_14_0
  have e_51_15_0 := (fr 51 15 0 (by omega)).1.trans e_51_15_0
  have a_51_15_0 := (fr 51 15 0 (by omega)).2.trans a_51_15_0
  have e_51_16_0 := (fr 51 16 0 (by omega)).1.trans e_51_16_0
  have a_51_16_0 := (fr 51 16 0 (by omega)).2.trans a_51_16_0
  have e_51_18_0 := (fr 51 18 0 (by omega)).1.trans e_51_18_0
  have a_51_18_0 := (fr 51 18 0 (by omega)).2.trans a_51_18_0
  have frw := gFr.tr frw fr (fun k i j z => by omega)
  refine gk_putF hC hG a_50_0_0 e_50_0_0 rfl inlX6 tyX6 tyX6_ok nmX6 19 (by decide) kf_RX6_58 (fun _ h => h) rfl hname rfl rfl rfl (Nat.le_of_ble_eq_true rfl) dX6_init_124 (fun E29 H locs (e_50_0_0 : E29 50 0 0 = some (.inr (7, [.int 0, .int 0, .ref a1, .ref a3, .int 0, .ref a5, .ref a7, .int 5, .int 20, .int 2, .ref a12, .ref a14, .ref a16, .ref a18, .ref a20, .ref a22, .ref a24, .int 0, .ref a26, .ref a28, .null, .null, .null, .int 0, .int 0, .int 0, .long 0, .int 0, .int 0]))) fr hG => ?_)
  have e_51_2_0 := (fr 51 2 0 (by omega)).1.trans e_51_2_0
  have e_51_3_0 := (fr 51 3 0 (by omega)).1.trans e_51_3_0
  have e_51_5_0 := (fr 51 5 0 (by omega)).1.trans e_51_5_0
  have e_51_6_0 := (fr 51 6 0 (by omega)).1.trans e_51_6_0
  have e_51_10_0 := (fr 51 10 0 (by omega)).1.trans e_51_10_0
  have e_51_11_0 := (fr 51 11 0 (by omega)).1.trans e_51_11_0
  have e_51_12_0 := (fr 51 12 0 (by omega)).1.trans e_51_12_0
  have e_51_13_0 := (fr 51 13 0 (by omega)).1.trans e_51_13_0
  have e_51_14_0 := (fr 51 14 0 (by omega)).1.trans e_51_14_0
  have e_51_15_0 := (fr 51 15 0 (by omega)).1.trans e_51_15_0
  have e_51_16_0 := (fr 51 16 0 (by omega)).1.trans e_51_16_0
  have e_51_18_0 := (fr 51 18 0 (by omega)).1.trans e_51_18_0
  have e_51_19_0 := (fr 51 19 0 (by omega)).1.trans e_51_19_0
  have frw := gFr.tr frw fr (fun k i j z => by omega)
  refine lv_aload_n hx hb dX6_init_127 rfl (lv_at hl 0 rfl) ?_
  refine lv_bipush (v := (nI 20)) hx hb dX6_init_128 (by decide) ?_
  refine gk_newa hC hG (atype := .int) (ty := .int) (t0 := 0) (a0 := (20, .inl (fun _ => 0))) ka__int rfl rfl (fun C h => by cases h) (by rw [vp_cell_i]; rfl) (nI_pos (by decide)) (nI_clamp (by decide)) (by decide) (Nat.le_of_ble_eq_true rfl) (Nat.le_of_ble_eq_true rfl) dX6_init_130 51 20 0 (fun a30 ad30 E30 H a_51_20_0 e_51_20_0 fr hG => ?_)
  have e_50_0_0 := (fr 50 0 0 (by omega)).1.trans e_50_0_0
  have a_50_0_0 := (fr 50 0 0 (by omega)).2.trans a_50_0_0
  have e_51_2_0 := (fr 51 2 0 (by omega)).1.trans e_51_2_0
  have a_51_2_0 := (fr 51 2 0 (by omega)).2.trans a_51_2_0
  have e_51_3_0 := (fr 51 3 0 (by omega)).1.trans e_51_3_0
  have a_51_3_0 := (fr 51 3 0 (by omega)).2.trans a_51_3_0
  have e_51_5_0 := (fr 51 5 0 (by omega)).1.trans e_51_5_0
  have a_51_5_0 := (fr 51 5 0 (by omega)).2.trans a_51_5_0
  have e_51_6_0 := (fr 51 6 0 (by omega)).1.trans e_51_6_0
  have a_51_6_0 := (fr 51 6 0 (by omega)).2.trans a_51_6_0
  have e_51_10_0 := (fr 51 10 0 (by omega)).1.trans e_51_10_0
  have a_51_10_0 := (fr 51 10 0 (by omega)).2.trans a_51_10_0
  have e_51_11_0 := (fr 51 11 0 (by omega)).1.trans e_51_11_0
  have a_51_11_0 := (fr 51 11 0 (by omega)).2.trans a_51_11_0
  have e_51_12_0 := (fr 51 12 0 (by omega)).1.trans e_51_12_0
  have a_51_12_0 := (fr 51 12 0 (by omega)).2.trans a_51_12_0
  have e_51_13_0 := (fr 51 13 0 (by omega)).1.trans e_51_13_0
  have a_51_13_0 := (fr 51 13 0 (by omega)).2.trans a_51_13_0
  have e_51_14_0 := (fr 51 14 0 (by omega)).1.trans e_51_14_0
  have a_51_14_0 := (fr 51 14 0 (by omega)).2.trans a_51_14_0
  have e_51_15_0 := (fr 51 15 0 (by omega)).1.trans e_51_15_0
  have a_51_15_0 := (fr 51 15 0 (by omega)).2.trans a_51_15_0
  have e_51_16_0 := (fr 51 16 0 (by omega)).1.trans e_51_16_0
  have a_51_16_0 := (fr 51 16 0 (by omega)).2.trans a_51_16_0
  have e_51_18_0 := (fr 51 18 0 (by omega)).1.trans e_51_18_0
  have a_51_18_0 := (fr 51 18 0 (by omega)).2.trans a_51_18_0
  have e_51_19_0 := (fr 51 19 0 (by omega)).1.trans e_51_19_0
  have a_51_19_0 := (fr 51 19 0 (by omega)).2.trans a_51_19_0
  have frw := gFr.tr frw fr (fun k i j z => by omega)
  refine gk_putF hC hG a_50_0_0 e_50_0_0 rfl inlX6 tyX6 tyX6_ok nmX6 20 (by decide) kf_RX6_61 (fun _ h => h) rfl hname rfl rfl rfl (Nat.le_of_ble_eq_true rfl) dX6_init_132 (fun E31 H locs (e_50_0_0 : E31 50 0 0 = some (.inr (7, [.int 0, .int 0, .ref a1, .ref a3, .int 0, .ref a5, .ref a7, .int 5, .int 20, .int 2, .ref a12, .ref a14, .ref a16, .ref a18, .ref a20, .ref a22, .ref a24, .int 0, .ref a26, .ref a28, .ref a30, .null, .null, .int 0, .int 0, .int 0, .long 0, .int 0, .int 0]))) fr hG => ?_)
  have e_51_2_0 := (fr 51 2 0 (by omega)).1.trans e_51_2_0
  have e_51_3_0 := (fr 51 3 0 (by omega)).1.trans e_51_3_0
  have e_51_5_0 := (fr 51 5 0 (by omega)).1.trans e_51_5_0
  have e_51_6_0 := (fr 51 6 0 (by omega)).1.trans e_51_6_0
  have e_51_10_0 := (fr 51 10 0 (by omega)).1.trans e_51_10_0
  have e_51_11_0 := (fr 51 11 0 (by omega)).1.trans e_51_11_0
  have e_51_12_0 := (fr 51 12 0 (by omega)).1.trans e_51_12_0
  have e_51_13_0 := (fr 51 13 0 (by omega)).1.trans e_51_13_0
  have e_51_14_0 := (fr 51 14 0 (by omega)).1.trans e_51_14_0
  have e_51_15_0 := (fr 51 15 0 (by omega)).1.trans e_51_15_0
  have e_51_16_0 := (fr 51 16 0 (by omega)).1.trans e_51_16_0
  have e_51_18_0 := (fr 51 18 0 (by omega)).1.trans e_51_18_0
  have e_51_19_0 := (fr 51 19 0 (by omega)).1.trans e_51_19_0
  have e_51_20_0 := (fr 51 20 0 (by omega)).1.trans e_51_20_0
  have frw := gFr.tr frw fr (fun k i j z => by omega)
  refine lv_aload_n hx hb dX6_init_135 rfl (lv_at hl 0 rfl) ?_
  refine lv_bipush (v := (nI 80)) hx hb dX6_init_136 (by decide) ?_
  refine gk_newa hC hG (atype := .int) (ty := .int) (t0 := 0) (a0 := (80, .inl (fun _ => 0))) ka__int rfl rfl (fun C h => by cases h) (by rw [vp_cell_i]; rfl) (nI_pos (by decide)) (nI_clamp (by decide)) (by decide) (Nat.le_of_ble_eq_true rfl) (Nat.le_of_ble_eq_true rfl) dX6_init_138 51 21 0 (fun a32 ad32 E32 H a_51_21_0 e_51_21_0 fr hG => ?_)
  have e_50_0_0 := (fr 50 0 0 (by omega)).1.trans e_50_0_0
  have a_50_0_0 := (fr 50 0 0 (by omega)).2.trans a_50_0_0
  have e_51_2_0 := (fr 51 2 0 (by omega)).1.trans e_51_2_0
  have a_51_2_0 := (fr 51 2 0 (by omega)).2.trans a_51_2_0
  have e_51_3_0 := (fr 51 3 0 (by omega)).1.trans e_51_3_0
  have a_51_3_0 := (fr 51 3 0 (by omega)).2.trans a_51_3_0
  have e_51_5_0 := (fr 51 5 0 (by omega)).1.trans e_51_5_0
  have a_51_5_0 := (fr 51 5 0 (by omega)).2.trans a_51_5_0
  have e_51_6_0 := (fr 51 6 0 (by omega)).1.trans e_51_6_0
  have a_51_6_0 := (fr 51 6 0 (by omega)).2.trans a_51_6_0
  have e_51_10_0 := (fr 51 10 0 (by omega)).1.trans e_51_10_0
  have a_51_10_0 := (fr 51 10 0 (by omega)).2.trans a_51_10_0
  have e_51_11_0 := (fr 51 11 0 (by omega)).1.trans e_51_11_0
  have a_51_11_0 := (fr 51 11 0 (by omega)).2.trans a_51_11_0
  have e_51_12_0 := (fr 51 12 0 (by omega)).1.trans e_51_12_0
  have a_51_12_0 := (fr 51 12 0 (by omega)).2.trans a_51_12_0
  have e_51_13_0 := (fr 51 13 0 (by omega)).1.trans e_51_13_0
  have a_51_13_0 := (fr 51 13 0 (by omega)).2.trans a_51_13_0
  have e_51_14_0 := (fr 51 14 0 (by omega)).1.trans e_51_14_0
  have a_51_14_0 := (fr 51 14 0 (by omega)).2.trans a_51_14_0
  have e_51_15_0 := (fr 51 15 0 (by omega)).1.trans e_51_15_0
  have a_51_15_0 := (fr 51 15 0 (by omega)).2.trans a_51_15_0
  have e_51_16_0 := (fr 51 16 0 (by omega)).1.trans e_51_16_0
  have a_51_16_0 := (fr 51 16 0 (by omega)).2.trans a_51_16_0
  have e_51_18_0 := (fr 51 18 0 (by omega)).1.trans e_51_18_0
  have a_51_18_0 := (fr 51 18 0 (by omega)).2.trans a_51_18_0
  have e_51_19_0 := (fr 51 19 0 (by omega)).1.trans e_51_19_0
  have a_51_19_0 := (fr 51 19 0 (by omega)).2.trans a_51_19_0
  have e_51_20_0 := (fr 51 20 0 (by omega)).1.trans e_51_20_0
  have a_51_20_0 := (fr 51 20 0 (by omega)).2.trans a_51_20_0
  have frw := gFr.tr frw fr (fun k i j z => by omega)
  refine gk_putF hC hG a_50_0_0 e_50_0_0 rfl inlX6 tyX6 tyX6_ok nmX6 21 (by decide) kf_RX6_64 (fun _ h => h) rfl hname rfl rfl rfl (Nat.le_of_ble_eq_true rfl) dX6_init_140 (fun E33 H locs (e_50_0_0 : E33 50 0 0 = some (.inr (7, [.int 0, .int 0, .ref a1, .ref a3, .int 0, .ref a5, .ref a7, .int 5, .int 20, .int 2, .ref a12, .ref a14, .ref a16, .ref a18, .ref a20, .ref a22, .ref a24, .int 0, .ref a26, .ref a28, .ref a30, .ref a32, .null, .int 0, .int 0, .int 0, .long 0, .int 0, .int 0]))) fr hG => ?_)
  have e_51_2_0 := (fr 51 2 0 (by omega)).1.trans e_51_2_0
  have e_51_3_0 := (fr 51 3 0 (by omega)).1.trans e_51_3_0
  have e_51_5_0 := (fr 51 5 0 (by omega)).1.trans e_51_5_0
  have e_51_6_0 := (fr 51 6 0 (by omega)).1.trans e_51_6_0
  have e_51_10_0 := (fr 51 10 0 (by omega)).1.trans e_51_10_0
  have e_51_11_0 := (fr 51 11 0 (by omega)).1.trans e_51_11_0
  have e_51_12_0 := (fr 51 12 0 (by omega)).1.trans e_51_12_0
  have e_51_13_0 := (fr 51 13 0 (by omega)).1.trans e_51_13_0
  have e_51_14_0 := (fr 51 14 0 (by omega)).1.trans e_51_14_0
  have e_51_15_0 := (fr 51 15 0 (by omega)).1.trans e_51_15_0
  have e_51_16_0 := (fr 51 16 0 (by omega)).1.trans e_51_16_0
  have e_51_18_0 := (fr 51 18 0 (by omega)).1.trans e_51_18_0
  have e_51_19_0 := (fr 51 19 0 (by omega)).1.trans e_51_19_0
  have e_51_20_0 := (fr 51 20 0 (by omega)).1.trans e_51_20_0
  have e_51_21_0 := (fr 51 21 0 (by omega)).1.trans e_51_21_0
  have frw := gFr.tr frw fr (fun k i j z => by omega)
  refine lv_aload_n hx hb dX6_init_143 rfl (lv_at hl 0 rfl) ?_
  refine lv_bipush (v := (nI 80)) hx hb dX6_init_144 (by decide) ?_
  refine gk_newa hC hG (atype := .int) (ty := .int) (t0 := 0) (a0 := (80, .inl (fun _ => 0))) ka__int rfl rfl (fun C h => by cases h) (by rw [vp_cell_i]; rfl) (nI_pos (by decide)) (nI_clamp (by decide)) (by decide) (Nat.le_of_ble_eq_true rfl) (Nat.le_of_ble_eq_true rfl) dX6_init_146 51 22 0 (fun a34 ad34 E34 H a_51_22_0 e_51_22_0 fr hG => ?_)
  have e_50_0_0 := (fr 50 0 0 (by omega)).1.trans e_50_0_0
  have a_50_0_0 := (fr 50 0 0 (by omega)).2.trans a_50_0_0
  have e_51_2_0 := (fr 51 2 0 (by omega)).1.trans e_51_2_0
  have a_51_2_0 := (fr 51 2 0 (by omega)).2.trans a_51_2_0
  have e_51_3_0 := (fr 51 3 0 (by omega)).1.trans e_51_3_0
  have a_51_3_0 := (fr 51 3 0 (by omega)).2.trans a_51_3_0
  have e_51_5_0 := (fr 51 5 0 (by omega)).1.trans e_51_5_0
  have a_51_5_0 := (fr 51 5 0 (by omega)).2.trans a_51_5_0
  have e_51_6_0 := (fr 51 6 0 (by omega)).1.trans e_51_6_0
  have a_51_6_0 := (fr 51 6 0 (by omega)).2.trans a_51_6_0
  have e_51_10_0 := (fr 51 10 0 (by omega)).1.trans e_51_10_0
  have a_51_10_0 := (fr 51 10 0 (by omega)).2.trans a_51_10_0
  have e_51_11_0 := (fr 51 11 0 (by omega)).1.trans e_51_11_0
  have a_51_11_0 := (fr 51 11 0 (by omega)).2.trans a_51_11_0
  have e_51_12_0 := (fr 51 12 0 (by omega)).1.trans e_51_12_0
  have a_51_12_0 := (fr 51 12 0 (by omega)).2.trans a_51_12_0
  have e_51_13_0 := (fr 51 13 0 (by omega)).1.trans e_51_13_0
  have a_51_13_0 := (fr 51 13 0 (by omega)).2.trans a_51_13_0
  have e_51_14_0 := (fr 51 14 0 (by omega)).1.trans e_51_14_0
  have a_51_14_0 := (fr 51 14 0 (by omega)).2.trans a_51_14_0
  have e_51_15_0 := (fr 51 15 0 (by omega)).1.trans e_51_15_0
  have a_51_15_0 := (fr 51 15 0 (by omega)).2.trans a_51_15_0
  have e_51_16_0 := (fr 51 16 0 (by omega)).1.trans e_51_16_0
  have a_51_16_0 := (fr 51 16 0 (by omega)).2.trans a_51_16_0
  have e_51_18_0 := (fr 51 18 0 (by omega)).1.trans e_51_18_0
  have a_51_18_0 := (fr 51 18 0 (by omega)).2.trans a_51_18_0
  have e_51_19_0 := (fr 51 19 0 (by omega)).1.trans e_51_19_0
  have a_51_19_0 := (fr 51 19 0 (by omega)).2.trans a_51_19_0
  have e_51_20_0 := (fr 51 20 0 (by omega)).1.trans e_51_20_0
  have a_51_20_0 := (fr 51 20 0 (by omega)).2.trans a_51_20_0
  have e_51_21_0 := (fr 51 21 0 (by omega)).1.trans e_51_21_0
  have a_51_21_0 := (fr 51 21 0 (by omega)).2.trans a_51_21_0
  have frw := gFr.tr frw fr (fun k i j z => by omega)
  refine gk_putF hC hG a_50_0_0 e_50_0_0 rfl inlX6 tyX6 tyX6_ok nmX6 22 (by decide) kf_RX6_67 (fun _ h => h) rfl hname rfl rfl rfl (Nat.le_of_ble_eq_true rfl) dX6_init_148 (fun E35 H locs (e_50_0_0 : E35 50 0 0 = some (.inr (7, [.int 0, .int 0, .ref a1, .ref a3, .int 0, .ref a5, .ref a7, .int 5, .int 20, .int 2, .ref a12, .ref a14, .ref a16, .ref a18, .ref a20, .ref a22, .ref a24, .int 0, .ref a26, .ref a28, .ref a30, .ref a32, .ref a34, .int 0, .int 0, .int 0, .long 0, .int 0, .int 0]))) fr hG => ?_)
  have e_51_2_0 := (fr 51 2 0 (by omega)).1.trans e_51_2_0
  have e_51_3_0 := (fr 51 3 0 (by omega)).1.trans e_51_3_0
  have e_51_5_0 := (fr 51 5 0 (by omega)).1.trans e_51_5_0
  have e_51_6_0 := (fr 51 6 0 (by omega)).1.trans e_51_6_0
  have e_51_10_0 := (fr 51 10 0 (by omega)).1.trans e_51_10_0
  have e_51_11_0 := (fr 51 11 0 (by omega)).1.trans e_51_11_0
  have e_51_12_0 := (fr 51 12 0 (by omega)).1.trans e_51_12_0
  have e_51_13_0 := (fr 51 13 0 (by omega)).1.trans e_51_13_0
  have e_51_14_0 := (fr 51 14 0 (by omega)).1.trans e_51_14_0
  have e_51_15_0 := (fr 51 15 0 (by omega)).1.trans e_51_15_0
  have e_51_16_0 := (fr 51 16 0 (by omega)).1.trans e_51_16_0
  have e_51_18_0 := (fr 51 18 0 (by omega)).1.trans e_51_18_0
  have e_51_19_0 := (fr 51 19 0 (by omega)).1.trans e_51_19_0
  have e_51_20_0 := (fr 51 20 0 (by omega)).1.trans e_51_20_0
  have e_51_21_0 := (fr 51 21 0 (by omega)).1.trans e_51_21_0
  have e_51_22_0 := (fr 51 22 0 (by omega)).1.trans e_51_22_0
  have frw := gFr.tr frw fr (fun k i j z => by omega)
  refine lv_aload_n hx hb dX6_init_151 rfl (lv_at hl 0 rfl) ?_
  refine lv_iconst (v := (-1)) hx hb dX6_init_152 (by decide) ?_
  refine gk_put hC hG a_50_0_0 e_50_0_0 rfl inlX6 tyX6 tyX6_ok nmX6 23 (by decide) kf_RX6_70 (fun _ h => h) rfl rfl rfl (Nat.le_of_ble_eq_true rfl) dX6_init_153 (fun E36 H locs (e_50_0_0 : E36 50 0 0 = some (.inr (7, [.int 0, .int 0, .ref a1, .ref a3, .int 0, .ref a5, .ref a7, .int 5, .int 20, .int 2, .ref a12, .ref a14, .ref a16, .ref a18, .ref a20, .ref a22, .ref a24, .int 0, .ref a26, .ref a28, .ref a30, .ref a32, .ref a34, .int ((-1)), .int 0, .int 0, .long 0, .int 0, .int 0]))) fr hG => ?_)
  have e_51_2_0 := (fr 51 2 0 (by omega)).1.trans e_51_2_0
  have e_51_3_0 := (fr 51 3 0 (by omega)).1.trans e_51_3_0
  have e_51_5_0 := (fr 51 5 0 (by omega)).1.trans e_51_5_0
  have e_51_6_0 := (fr 51 6 0 (by omega)).1.trans e_51_6_0
  have e_51_10_0 := (fr 51 10 0 (by omega)).1.trans e_51_10_0
  have e_51_11_0 := (fr 51 11 0 (by omega)).1.trans e_51_11_0
  have e_51_12_0 := (fr 51 12 0 (by omega)).1.trans e_51_12_0
  have e_51_13_0 := (fr 51 13 0 (by omega)).1.trans e_51_13_0
  have e_51_14_0 := (fr 51 14 0 (by omega)).1.trans e_51_14_0
  have e_51_15_0 := (fr 51 15 0 (by omega)).1.trans e_51_15_0
  have e_51_16_0 := (fr 51 16 0 (by omega)).1.trans e_51_16_0
  have e_51_18_0 := (fr 51 18 0 (by omega)).1.trans e_51_18_0
  have e_51_19_0 := (fr 51 19 0 (by omega)).1.trans e_51_19_0
  have e_51_20_0 := (fr 51 20 0 (by omega)).1.trans e_51_20_0
  have e_51_21_0 := (fr 51 21 0 (by omega)).1.trans e_51_21_0
  have e_51_22_0 := (fr 51 22 0 (by omega)).1.trans e_51_22_0
  have frw := gFr.tr frw fr (fun k i j z => by omega)
  exact gq_vret hC hz hG (⟨⟨by rw [e_50_0_0, ← a_51_2_0, ← a_51_3_0, ← a_51_5_0, ← a_51_6_0, ← a_51_10_0, ← a_51_11_0, ← a_51_12_0, ← a_51_13_0, ← a_51_14_0, ← a_51_15_0, ← a_51_16_0, ← a_51_18_0, ← a_51_19_0, ← a_51_20_0, ← a_51_21_0, ← a_51_22_0]; rfl, e_51_2_0, e_51_3_0, e_51_5_0, e_51_6_0, e_51_10_0, e_51_11_0, e_51_12_0, e_51_13_0, e_51_14_0, e_51_15_0, e_51_16_0, e_51_18_0, e_51_19_0, e_51_20_0, e_51_21_0, e_51_22_0⟩, frw, a_50_0_0⟩) (Nat.le_of_ble_eq_true rfl) (Nat.le_of_ble_eq_true rfl) dX6_init_156
