set_option maxHeartbeats 4000000 in
set_option maxRecDepth 100000 in
theorem n_ad2_MR (l : Launch) (V : gV) (ad : gA) (E : gE) (n cap : Nat) (hcap : n < cap) (hc3 : cap = 10 ∨ cap = 15 ∨ cap = 22) (h : Nat → Option Nat) (hel : ∀ i, i < n → h i = some (ad 13 i 0)) (mc : Int32) (vs : List Value)  (e_2_0_0 : E 2 0 0 = some (.inr (0, [.int mc, .ref (ad 9 0 0), .int (nI n)]))) (e_9_0_0 : E 9 0 0 = some (.inl (V.2.1 4, cap, .inr (.inr (.inr (.inr (h))))))) (e_13_n_0 : E 13 n 0 = some (.inr (5, vs))) : gMv l yJx4a65c_add_72be8 cJx4a65c_add_72be8 4 none ({ frames := 5, cells := 1, slots := 22, locals := 135 } : Room) [.ref (ad 2 0 0), .ref (ad 13 n 0), .ref (ad 9 0 0), .int (nI n)] V ad E (fun ad' E' => ∃ (cap : Nat) (h' : Nat → Option Nat), gFr (fun k i j => (k = 2 ∧ i = 0 ∧ j = 0) ∨ (k = 9 ∧ i = 0 ∧ j = 0) ∨ k = 21) ad E ad' E' ∧ ad' 2 0 0 = ad 2 0 0 ∧ E' 2 0 0 = some (.inr (0, [.int mc, .ref (ad' 9 0 0), .int (nI (n + 1))])) ∧ (n + 1 ≤ cap ∧ (cap = 10 ∨ cap = 15 ∨ cap = 22)) ∧ E' 9 0 0 = some (.inl (V.2.1 4, cap, .inr (.inr (.inr (.inr h'))))) ∧ (∀ i, i < n → h' i = some (ad 13 i 0)) ∧ h' n = some (ad 13 n 0)) := by
  intro sz
  refine g_ofN (by decide) (Nat.le_of_ble_eq_true rfl) ?_
  intro p e s m_ below meth c ls hname hC hz hG hl
  have hx := hC.1
  have hb := hC.2.1
  have hl : lv_has ls 4 [(0, .ref (ad 2 0 0)), (1, .ref (ad 13 n 0)), (2, .ref (ad 9 0 0)), (3, .int (nI n))] := hl
  have a_2_0_0 : ad 2 0 0 = ad 2 0 0 := rfl
  have a_9_0_0 : ad 9 0 0 = ad 9 0 0 := rfl
  have a_13_n_0 : ad 13 n 0 = ad 13 n 0 := rfl
  have frw : gFr (fun k i j => (k = 2 ∧ i = 0 ∧ j = 0) ∨ (k = 9 ∧ i = 0 ∧ j = 0) ∨ k = 21) ad E ad E := gFr.rf
  refine lv_iload_n hx hb dJx4a65c_add_72be8_0 rfl (lv_at hl 3 rfl) ?_
  refine lv_aload_n hx hb dJx4a65c_add_72be8_1 rfl (lv_at hl 2 rfl) ?_
  refine gk_alen hC hG a_9_0_0 e_9_0_0 dJx4a65c_add_72be8_2 ?_
  refine gn_icmp_ne (tgt := 11) hx hb (by omega) (by omega) dJx4a65c_add_72be8_3 (by decide) (fun c_3 => ?_) (fun c_3 => absurd c_3 (by omega))
  refine lv_aload_n hx hb dJx4a65c_add_72be8_11 rfl (lv_at hl 2 rfl) ?_
  refine lv_iload_n hx hb dJx4a65c_add_72be8_12 rfl (lv_at hl 3 rfl) ?_
  refine lv_aload_n hx hb dJx4a65c_add_72be8_13 rfl (lv_at hl 1 rfl) ?_
  refine gk_ast hC hG (t0 := 4) a_9_0_0 e_9_0_0 rfl a_13_n_0 e_13_n_0 rfl (Or.inr (by decide +kernel)) (vp_in_nI (by omega) (by omega)) dJx4a65c_add_72be8_14 (fun E1 H locs (e_9_0_0 : _) fr hG => ?_)
  have e_2_0_0 := (fr 2 0 0 (by omega)).1.trans e_2_0_0
  have e_13_n_0 := (fr 13 n 0 (by omega)).1.trans e_13_n_0
  have frw := gFr.tr frw fr (fun k i j z => by omega)
  rw [show (nI n).toNatClampNeg = n from nI_clamp (by omega)] at e_9_0_0
  refine lv_aload_n hx hb dJx4a65c_add_72be8_15 rfl (lv_at hl 0 rfl) ?_
  refine lv_iload_n hx hb dJx4a65c_add_72be8_16 rfl (lv_at hl 3 rfl) ?_
  refine lv_iconst (v := 1) hx hb dJx4a65c_add_72be8_17 (by decide) ?_
  refine lv_iadd hx hb dJx4a65c_add_72be8_18 ?_
  refine gq_top (nI (n + 1)) (nI_1 n) ?_
  refine gk_put hC hG a_2_0_0 e_2_0_0 rfl inlJx4a65c tyJx4a65c tyJx4a65c_ok nmJx4a65c 2 (by decide) kf_RJx4a65c_48 (fun _ h => h) rfl rfl rfl (Nat.le_of_ble_eq_true rfl) dJx4a65c_add_72be8_19 (fun E2 H locs (e_2_0_0 : E2 2 0 0 = some (.inr (0, [.int mc, .ref (ad 9 0 0), .int (nI (n + 1))]))) fr hG => ?_)
  have e_9_0_0 := (fr 9 0 0 (by omega)).1.trans e_9_0_0
  have e_13_n_0 := (fr 13 n 0 (by omega)).1.trans e_13_n_0
  have frw := gFr.tr frw fr (fun k i j z => by omega)
  exact gq_vret hC hz hG (⟨cap, _, frw, a_2_0_0, by rw [a_9_0_0]; exact e_2_0_0, ⟨by omega, hc3⟩, e_9_0_0, fun i hi => by rw [va_up_ne _ _ (by omega)]; exact hel i hi, va_up_self _ _ _⟩) (Nat.le_of_ble_eq_true rfl) (Nat.le_of_ble_eq_true rfl) dJx4a65c_add_72be8_22
set_option maxHeartbeats 4000000 in
set_option maxRecDepth 100000 in
theorem n_add_MR (l : Launch) (V : gV) (ad : gA) (E : gE) (n cap : Nat) (hcap : n < cap) (hc3 : cap = 10 ∨ cap = 15 ∨ cap = 22) (h : Nat → Option Nat) (hel : ∀ i, i < n → h i = some (ad 13 i 0)) (mc : Int32) (vs : List Value)  (e_2_0_0 : E 2 0 0 = some (.inr (0, [.int mc, .ref (ad 9 0 0), .int (nI n)]))) (e_9_0_0 : E 9 0 0 = some (.inl (V.2.1 4, cap, .inr (.inr (.inr (.inr (h))))))) (e_13_n_0 : E 13 n 0 = some (.inr (5, vs))) : gMi l yJx4a65c_add_9ea2d cJx4a65c_add_9ea2d 2 (some .boolean) ({ frames := 6, cells := 1, slots := 22, locals := 160 } : Room) [.ref (ad 2 0 0), .ref (ad 13 n 0)] V ad E (fun r ad' E' => r = 1 ∧ ∃ (cap : Nat) (h' : Nat → Option Nat), gFr (fun k i j => (k = 2 ∧ i = 0 ∧ j = 0) ∨ (k = 9 ∧ i = 0 ∧ j = 0) ∨ k = 21) ad E ad' E' ∧ ad' 2 0 0 = ad 2 0 0 ∧ E' 2 0 0 = some (.inr (0, [.int (mc + 1), .ref (ad' 9 0 0), .int (nI (n + 1))])) ∧ (n + 1 ≤ cap ∧ (cap = 10 ∨ cap = 15 ∨ cap = 22)) ∧ E' 9 0 0 = some (.inl (V.2.1 4, cap, .inr (.inr (.inr (.inr h'))))) ∧ (∀ i, i < n → h' i = some (ad 13 i 0)) ∧ h' n = some (ad 13 n 0)) := by
  intro sz
  refine g_ofN (by decide) (Nat.le_of_ble_eq_true rfl) ?_
  intro p e s m_ below meth c ls hname hC hz hG hl
  have hx := hC.1
  have hb := hC.2.1
  have hl : lv_has ls 2 [(0, .ref (ad 2 0 0)), (1, .ref (ad 13 n 0))] := hl
  have a_2_0_0 : ad 2 0 0 = ad 2 0 0 := rfl
  have a_9_0_0 : ad 9 0 0 = ad 9 0 0 := rfl
  have a_13_n_0 : ad 13 n 0 = ad 13 n 0 := rfl
  have frw : gFr (fun k i j => (k = 2 ∧ i = 0 ∧ j = 0) ∨ (k = 9 ∧ i = 0 ∧ j = 0) ∨ k = 21) ad E ad E := gFr.rf
  refine lv_aload_n hx hb dJx4a65c_add_9ea2d_0 rfl (lv_at hl 0 rfl) ?_
  refine lv_dup hx hb dJx4a65c_add_9ea2d_1 rfl ?_
  refine gk_get hC hG a_2_0_0 e_2_0_0 rfl inlJx4a65c 0 (by decide) kf_RJx4a65c_63 (fun x9 h9 => u_same (hC.2.2.2.2.1 _ kw_7_18) x9 h9) rfl dJx4a65c_add_9ea2d_2 ?_
  refine lv_iconst (v := 1) hx hb dJx4a65c_add_9ea2d_5 (by decide) ?_
  refine lv_iadd hx hb dJx4a65c_add_9ea2d_6 ?_
  refine gk_put hC hG a_2_0_0 e_2_0_0 rfl inlJx4a65c tyJx4a65c tyJx4a65c_ok nmJx4a65c 0 (by decide) kf_RJx4a65c_63 (fun x9 h9 => u_same (hC.2.2.2.2.1 _ kw_7_18) x9 h9) rfl rfl rfl (Nat.le_of_ble_eq_true rfl) dJx4a65c_add_9ea2d_7 (fun E1 H locs (e_2_0_0 : E1 2 0 0 = some (.inr (0, [.int ((mc) + (1)), .ref (ad 9 0 0), .int (nI n)]))) fr hG => ?_)
  have e_9_0_0 := (fr 9 0 0 (by omega)).1.trans e_9_0_0
  have e_13_n_0 := (fr 13 n 0 (by omega)).1.trans e_13_n_0
  have frw := gFr.tr frw fr (fun k i j z => by omega)
  refine lv_aload_n hx hb dJx4a65c_add_9ea2d_10 rfl (lv_at hl 0 rfl) ?_
  refine lv_aload_n hx hb dJx4a65c_add_9ea2d_11 rfl (lv_at hl 1 rfl) ?_
  refine lv_aload_n hx hb dJx4a65c_add_9ea2d_12 rfl (lv_at hl 0 rfl) ?_
  refine gk_get hC hG a_2_0_0 e_2_0_0 rfl inlJx4a65c 1 (by decide) kf_RJx4a65c_9 (fun _ h => h) rfl dJx4a65c_add_9ea2d_13 ?_
  refine lv_aload_n hx hb dJx4a65c_add_9ea2d_16 rfl (lv_at hl 0 rfl) ?_
  refine gk_get hC hG a_2_0_0 e_2_0_0 rfl inlJx4a65c 2 (by decide) kf_RJx4a65c_48 (fun _ h => h) rfl dJx4a65c_add_9ea2d_17 ?_
  refine gc_Vv hC hG e_2_0_0 rfl (n_ad2_MR l V ad E1 n cap hcap hc3 h hel (mc + 1) vs e_2_0_0 e_9_0_0 e_13_n_0) km_RJx4a65c_131 kn_yJx4a65c_add_72be8 ks_yJx4a65c_add_72be8 kz_RJx4a65c kd_yJx4a65c_add_72be8 dn_Jx4a65c_add_72be8 (by rw [a_2_0_0]; rfl) hl.1 ⟨by decide, by decide⟩ (Nat.le_of_ble_eq_true rfl) ⟨Nat.le_of_ble_eq_true rfl, Nat.le_of_ble_eq_true rfl⟩ dJx4a65c_add_9ea2d_20 (fun ad2 E2 H locs p_20 hG hgr => ?_)
  obtain ⟨cap_, h_, fr, h2, e_1, hcc, e_2, h3, h4⟩ := p_20
  refine lv_iconst (v := 1) hx hb dJx4a65c_add_9ea2d_23 (by decide) ?_
  exact gq_zret hC hz hG (by decide) (⟨rfl, cap_, h_, gFr.tr frw fr (fun k i j z => by omega), h2.trans a_2_0_0, e_1, hcc, e_2, h3, h4⟩) (Nat.le_of_ble_eq_true rfl) (Nat.le_of_ble_eq_true rfl) dJx4a65c_add_9ea2d_24
set_option maxHeartbeats 4000000 in
set_option maxRecDepth 100000 in
theorem n_ad2_ME (l : Launch) (V : gV) (ad : gA) (E : gE) (mc : Int32) (vs : List Value)  (e_2_0_0 : E 2 0 0 = some (.inr (0, [.int mc, .ref (V.2.2 1), .int (nI 0)]))) (e_13_0_0 : E 13 0 0 = some (.inr (5, vs))) : gMv l yJx4a65c_add_72be8 cJx4a65c_add_72be8 4 none ({ frames := 5, cells := 1, slots := 22, locals := 135 } : Room) [.ref (ad 2 0 0), .ref (ad 13 0 0), .ref (V.2.2 1), .int (nI 0)] V ad E (fun ad' E' => ∃ (cap : Nat) (h' : Nat → Option Nat), gFr (fun k i j => (k = 2 ∧ i = 0 ∧ j = 0) ∨ (k = 9 ∧ i = 0 ∧ j = 0) ∨ k = 21) ad E ad' E' ∧ ad' 2 0 0 = ad 2 0 0 ∧ E' 2 0 0 = some (.inr (0, [.int mc, .ref (ad' 9 0 0), .int (nI (0 + 1))])) ∧ (0 + 1 ≤ cap ∧ (cap = 10 ∨ cap = 15 ∨ cap = 22)) ∧ E' 9 0 0 = some (.inl (V.2.1 4, cap, .inr (.inr (.inr (.inr h'))))) ∧ (∀ i, i < 0 → h' i = some (ad 13 i 0)) ∧ h' 0 = some (ad 13 0 0)) := by
  intro sz
  refine g_ofN (by decide) (Nat.le_of_ble_eq_true rfl) ?_
  intro p e s m_ below meth c ls hname hC hz hG hl
  have hx := hC.1
  have hb := hC.2.1
  have hl : lv_has ls 4 [(0, .ref (ad 2 0 0)), (1, .ref (ad 13 0 0)), (2, .ref (V.2.2 1)), (3, .int (nI 0))] := hl
  have a_2_0_0 : ad 2 0 0 = ad 2 0 0 := rfl
  have a_13_0_0 : ad 13 0 0 = ad 13 0 0 := rfl
  have frw : gFr (fun k i j => (k = 2 ∧ i = 0 ∧ j = 0) ∨ (k = 9 ∧ i = 0 ∧ j = 0) ∨ k = 21) ad E ad E := gFr.rf
  refine lv_iload_n hx hb dJx4a65c_add_72be8_0 rfl (lv_at hl 3 rfl) ?_
  refine lv_aload_n hx hb dJx4a65c_add_72be8_1 rfl (lv_at hl 2 rfl) ?_
  refine gq_elen hC hG dJx4a65c_add_72be8_2 ?_
  refine gn_icmp_ne (tgt := 11) hx hb (by decide) (by decide) dJx4a65c_add_72be8_3 (by decide) (fun c_3 => absurd c_3 (by decide)) (fun c_3 => ?_)
  refine lv_aload_n hx hb dJx4a65c_add_72be8_6 rfl (lv_at hl 0 rfl) ?_
  refine gc_Vr hC hG e_2_0_0 rfl (n_gr_ME l V ad E mc e_2_0_0) km_RJx4a65c_129 kn_yJx4a65c_grow_d5877 ks_yJx4a65c_grow_d5877 kz_RJx4a65c kd_yJx4a65c_grow_d5877 dn_Jx4a65c_grow_d5877 (by rw [a_2_0_0]; rfl) hl.1 ⟨by decide, by decide⟩ (Nat.le_of_ble_eq_true rfl) ⟨Nat.le_of_ble_eq_true rfl, Nat.le_of_ble_eq_true rfl⟩ dJx4a65c_add_72be8_7 (fun r_7 ad1 E1 H locs p_7 hG hgr => ?_)
  obtain ⟨q_7, fr, h2, e_2_0_0, e_21_0_0⟩ := p_7
  have a_21_0_0 := q_7.symm
  have a_2_0_0 := h2.trans a_2_0_0
  have e_13_0_0 := (fr 13 0 0 (by omega)).1.trans e_13_0_0
  have a_13_0_0 := (fr 13 0 0 (by omega)).2.trans a_13_0_0
  have frw := gFr.tr frw fr (fun k i j z => by omega)
  refine lv_astore_n (lv' := [(2, .ref r_7), (0, .ref (ad 2 0 0)), (1, .ref (ad 13 0 0)), (3, .int (nI 0))]) hx hb dJx4a65c_add_72be8_10 rfl hl (by decide) rfl (fun ls hl => ?_)
  refine lv_aload_n hx hb dJx4a65c_add_72be8_11 rfl (lv_at hl 0 rfl) ?_
  refine lv_iload_n hx hb dJx4a65c_add_72be8_12 rfl (lv_at hl 3 rfl) ?_
  refine lv_aload_n hx hb dJx4a65c_add_72be8_13 rfl (lv_at hl 2 rfl) ?_
  refine gk_ast hC hG (t0 := 4) a_21_0_0 e_21_0_0 rfl a_13_0_0 e_13_0_0 rfl (Or.inr (by decide +kernel)) (vp_in_nI (n := 0) (by decide) (by decide)) dJx4a65c_add_72be8_14 (fun E2 H locs (e_21_0_0 : _) fr hG => ?_)
  have e_2_0_0 := (fr 2 0 0 (by omega)).1.trans e_2_0_0
  have e_13_0_0 := (fr 13 0 0 (by omega)).1.trans e_13_0_0
  have frw := gFr.tr frw fr (fun k i j z => by omega)
  rw [show (nI 0).toNatClampNeg = 0 from nI_clamp (by decide)] at e_21_0_0
  refine lv_aload_n hx hb dJx4a65c_add_72be8_15 rfl (lv_at hl 1 rfl) ?_
  refine lv_iload_n hx hb dJx4a65c_add_72be8_16 rfl (lv_at hl 3 rfl) ?_
  refine lv_iconst (v := 1) hx hb dJx4a65c_add_72be8_17 (by decide) ?_
  refine lv_iadd hx hb dJx4a65c_add_72be8_18 ?_
  refine gq_top (nI (0 + 1)) (nI_1 0) ?_
  refine gk_put hC hG a_2_0_0 e_2_0_0 rfl inlJx4a65c tyJx4a65c tyJx4a65c_ok nmJx4a65c 2 (by decide) kf_RJx4a65c_48 (fun _ h => h) rfl rfl rfl (Nat.le_of_ble_eq_true rfl) dJx4a65c_add_72be8_19 (fun E3 H locs (e_2_0_0 : E3 2 0 0 = some (.inr (0, [.int mc, .ref r_7, .int (nI (0 + 1))]))) fr hG => ?_)
  have e_13_0_0 := (fr 13 0 0 (by omega)).1.trans e_13_0_0
  have e_21_0_0 := (fr 21 0 0 (by omega)).1.trans e_21_0_0
  have frw := gFr.tr frw fr (fun k i j z => by omega)
  obtain ⟨adr, Er, ha, he, fr, hG⟩ := gW.re (ke := 9) (il := 0) (by decide) hG
  have e_2_0_0 := (fr 2 0 0 (by omega)).1.trans e_2_0_0
  have a_2_0_0 := (fr 2 0 0 (by omega)).2.trans a_2_0_0
  have e_9_0_0 := he.trans e_21_0_0
  have a_9_0_0 := ha.trans a_21_0_0
  have frw := gFr.tr frw fr (fun k i j z => by omega)
  exact gq_vret hC hz hG (⟨10, _, frw, a_2_0_0, by rw [a_9_0_0]; exact e_2_0_0, ⟨by omega, by decide⟩, e_9_0_0, fun i hi => absurd hi (by omega), va_up_self _ _ _⟩) (Nat.le_of_ble_eq_true rfl) (Nat.le_of_ble_eq_true rfl) dJx4a65c_add_72be8_22
set_option maxHeartbeats 4000000 in
set_option maxRecDepth 100000 in
theorem n_add_ME (l : Launch) (V : gV) (ad : gA) (E : gE) (mc : Int32) (vs : List Value)  (e_2_0_0 : E 2 0 0 = some (.inr (0, [.int mc, .ref (V.2.2 1), .int (nI 0)]))) (e_13_0_0 : E 13 0 0 = some (.inr (5, vs))) : gMi l yJx4a65c_add_9ea2d cJx4a65c_add_9ea2d 2 (some .boolean) ({ frames := 6, cells := 1, slots := 22, locals := 160 } : Room) [.ref (ad 2 0 0), .ref (ad 13 0 0)] V ad E (fun r ad' E' => r = 1 ∧ ∃ (cap : Nat) (h' : Nat → Option Nat), gFr (fun k i j => (k = 2 ∧ i = 0 ∧ j = 0) ∨ (k = 9 ∧ i = 0 ∧ j = 0) ∨ k = 21) ad E ad' E' ∧ ad' 2 0 0 = ad 2 0 0 ∧ E' 2 0 0 = some (.inr (0, [.int (mc + 1), .ref (ad' 9 0 0), .int (nI (0 + 1))])) ∧ (0 + 1 ≤ cap ∧ (cap = 10 ∨ cap = 15 ∨ cap = 22)) ∧ E' 9 0 0 = some (.inl (V.2.1 4, cap, .inr (.inr (.inr (.inr h'))))) ∧ (∀ i, i < 0 → h' i = some (ad 13 i 0)) ∧ h' 0 = some (ad 13 0 0)) := by
  intro sz
  refine g_ofN (by decide) (Nat.le_of_ble_eq_true rfl) ?_
  intro p e s m_ below meth c ls hname hC hz hG hl
  have hx := hC.1
  have hb := hC.2.1
  have hl : lv_has ls 2 [(0, .ref (ad 2 0 0)), (1, .ref (ad 13 0 0))] := hl
  have a_2_0_0 : ad 2 0 0 = ad 2 0 0 := rfl
  have a_13_0_0 : ad 13 0 0 = ad 13 0 0 := rfl
  have frw : gFr (fun k i j => (k = 2 ∧ i = 0 ∧ j = 0) ∨ (k = 9 ∧ i = 0 ∧ j = 0) ∨ k = 21) ad E ad E := gFr.rf
  refine lv_aload_n hx hb dJx4a65c_add_9ea2d_0 rfl (lv_at hl 0 rfl) ?_
  refine lv_dup hx hb dJx4a65c_add_9ea2d_1 rfl ?_
  refine gk_get hC hG a_2_0_0 e_2_0_0 rfl inlJx4a65c 0 (by decide) kf_RJx4a65c_63 (fun x9 h9 => u_same (hC.2.2.2.2.1 _ kw_7_18) x9 h9) rfl dJx4a65c_add_9ea2d_2 ?_
  refine lv_iconst (v := 1) hx hb dJx4a65c_add_9ea2d_5 (by decide) ?_
  refine lv_iadd hx hb dJx4a65c_add_9ea2d_6 ?_
  refine gk_put hC hG a_2_0_0 e_2_0_0 rfl inlJx4a65c tyJx4a65c tyJx4a65c_ok nmJx4a65c 0 (by decide) kf_RJx4a65c_63 (fun x9 h9 => u_same (hC.2.2.2.2.1 _ kw_7_18) x9 h9) rfl rfl rfl (Nat.le_of_ble_eq_true rfl) dJx4a65c_add_9ea2d_7 (fun E1 H locs (e_2_0_0 : E1 2 0 0 = some (.inr (0, [.int ((mc) + (1)), .ref (V.2.2 1), .int (nI 0)]))) fr hG => ?_)
  have e_13_0_0 := (fr 13 0 0 (by omega)).1.trans e_13_0_0
  have frw := gFr.tr frw fr (fun k i j z => by omega)
  refine lv_aload_n hx hb dJx4a65c_add_9ea2d_10 rfl (lv_at hl 0 rfl) ?_
  refine lv_aload_n hx hb dJx4a65c_add_9ea2d_11 rfl (lv_at hl 1 rfl) ?_
  refine lv_aload_n hx hb dJx4a65c_add_9ea2d_12 rfl (lv_at hl 0 rfl) ?_
  refine gk_get hC hG a_2_0_0 e_2_0_0 rfl inlJx4a65c 1 (by decide) kf_RJx4a65c_9 (fun _ h => h) rfl dJx4a65c_add_9ea2d_13 ?_
  refine lv_aload_n hx hb dJx4a65c_add_9ea2d_16 rfl (lv_at hl 0 rfl) ?_
  refine gk_get hC hG a_2_0_0 e_2_0_0 rfl inlJx4a65c 2 (by decide) kf_RJx4a65c_48 (fun _ h => h) rfl dJx4a65c_add_9ea2d_17 ?_
  refine gc_Vv hC hG e_2_0_0 rfl (n_ad2_ME l V ad E1 (mc + 1) vs e_2_0_0 e_13_0_0) km_RJx4a65c_131 kn_yJx4a65c_add_72be8 ks_yJx4a65c_add_72be8 kz_RJx4a65c kd_yJx4a65c_add_72be8 dn_Jx4a65c_add_72be8 (by rw [a_2_0_0]; rfl) hl.1 ⟨by decide, by decide⟩ (Nat.le_of_ble_eq_true rfl) ⟨Nat.le_of_ble_eq_true rfl, Nat.le_of_ble_eq_true rfl⟩ dJx4a65c_add_9ea2d_20 (fun ad2 E2 H locs p_20 hG hgr => ?_)
  obtain ⟨cap_, h_, fr, h2, e_1, hcc, e_2, h3, h4⟩ := p_20
  refine lv_iconst (v := 1) hx hb dJx4a65c_add_9ea2d_23 (by decide) ?_
  exact gq_zret hC hz hG (by decide) (⟨rfl, cap_, h_, gFr.tr frw fr (fun k i j z => by omega), h2.trans a_2_0_0, e_1, hcc, e_2, h3, h4⟩) (Nat.le_of_ble_eq_true rfl) (Nat.le_of_ble_eq_true rfl) dJx4a65c_add_9ea2d_24
set_option maxHeartbeats 4000000 in
set_option maxRecDepth 100000 in
theorem n_ad2_M10 (l : Launch) (V : gV) (ad : gA) (E : gE) (h : Nat → Option Nat) (hel : ∀ i, i < 10 → h i = some (ad 13 i 0)) (ue_el : ∀ i, i < 10 → ∃ vs, E 13 i 0 = some (.inr (5, vs))) (mc : Int32) (vs : List Value)  (e_2_0_0 : E 2 0 0 = some (.inr (0, [.int mc, .ref (ad 9 0 0), .int (nI 10)]))) (e_9_0_0 : E 9 0 0 = some (.inl (V.2.1 4, 10, .inr (.inr (.inr (.inr (h))))))) (e_13_10_0 : E 13 10 0 = some (.inr (5, vs))) : gMv l yJx4a65c_add_72be8 cJx4a65c_add_72be8 4 none ({ frames := 5, cells := 1, slots := 22, locals := 135 } : Room) [.ref (ad 2 0 0), .ref (ad 13 10 0), .ref (ad 9 0 0), .int (nI 10)] V ad E (fun ad' E' => ∃ (cap : Nat) (h' : Nat → Option Nat), gFr (fun k i j => (k = 2 ∧ i = 0 ∧ j = 0) ∨ (k = 9 ∧ i = 0 ∧ j = 0) ∨ k = 21) ad E ad' E' ∧ ad' 2 0 0 = ad 2 0 0 ∧ E' 2 0 0 = some (.inr (0, [.int mc, .ref (ad' 9 0 0), .int (nI (10 + 1))])) ∧ (10 + 1 ≤ cap ∧ (cap = 10 ∨ cap = 15 ∨ cap = 22)) ∧ E' 9 0 0 = some (.inl (V.2.1 4, cap, .inr (.inr (.inr (.inr h'))))) ∧ (∀ i, i < 10 → h' i = some (ad 13 i 0)) ∧ h' 10 = some (ad 13 10 0)) := by
  intro sz
  refine g_ofN (by decide) (Nat.le_of_ble_eq_true rfl) ?_
  intro p e s m_ below meth c ls hname hC hz hG hl
  have hx := hC.1
  have hb := hC.2.1
  have hl : lv_has ls 4 [(0, .ref (ad 2 0 0)), (1, .ref (ad 13 10 0)), (2, .ref (ad 9 0 0)), (3, .int (nI 10))] := hl
  have a_2_0_0 : ad 2 0 0 = ad 2 0 0 := rfl
  have a_9_0_0 : ad 9 0 0 = ad 9 0 0 := rfl
  have a_13_10_0 : ad 13 10 0 = ad 13 10 0 := rfl
  have frw : gFr (fun k i j => (k = 2 ∧ i = 0 ∧ j = 0) ∨ (k = 9 ∧ i = 0 ∧ j = 0) ∨ k = 21) ad E ad E := gFr.rf
  refine lv_iload_n hx hb dJx4a65c_add_72be8_0 rfl (lv_at hl 3 rfl) ?_
  refine lv_aload_n hx hb dJx4a65c_add_72be8_1 rfl (lv_at hl 2 rfl) ?_
  refine gk_alen hC hG a_9_0_0 e_9_0_0 dJx4a65c_add_72be8_2 ?_
  refine gn_icmp_ne (tgt := 11) hx hb (by decide) (by decide) dJx4a65c_add_72be8_3 (by decide) (fun c_3 => absurd c_3 (by decide)) (fun c_3 => ?_)
  refine lv_aload_n hx hb dJx4a65c_add_72be8_6 rfl (lv_at hl 0 rfl) ?_
  refine gc_Vr hC hG e_2_0_0 rfl (n_gr_M10 l V ad E h hel ue_el mc e_2_0_0 e_9_0_0) km_RJx4a65c_129 kn_yJx4a65c_grow_d5877 ks_yJx4a65c_grow_d5877 kz_RJx4a65c kd_yJx4a65c_grow_d5877 dn_Jx4a65c_grow_d5877 (by rw [a_2_0_0]; rfl) hl.1 ⟨by decide, by decide⟩ (Nat.le_of_ble_eq_true rfl) ⟨Nat.le_of_ble_eq_true rfl, Nat.le_of_ble_eq_true rfl⟩ dJx4a65c_add_72be8_7 (fun r_7 ad1 E1 H locs p_7 hG hgr => ?_)
  obtain ⟨q_7, fr, h2, e_2_0_0, e_21_0_0⟩ := p_7
  have a_21_0_0 := q_7.symm
  have a_2_0_0 := h2.trans a_2_0_0
  have e_9_0_0 := (fr 9 0 0 (by omega)).1.trans e_9_0_0
  have a_9_0_0 := (fr 9 0 0 (by omega)).2.trans a_9_0_0
  have e_13_10_0 := (fr 13 10 0 (by omega)).1.trans e_13_10_0
  have a_13_10_0 := (fr 13 10 0 (by omega)).2.trans a_13_10_0
  have frw := gFr.tr frw fr (fun k i j z => by omega)
  refine lv_astore_n (lv' := [(2, .ref r_7), (0, .ref (ad 2 0 0)), (1, .ref (ad 13 10 0)), (3, .int (nI 10))]) hx hb dJx4a65c_add_72be8_10 rfl hl (by decide) rfl (fun ls hl => ?_)
  refine lv_aload_n hx hb dJx4a65c_add_72be8_11 rfl (lv_at hl 0 rfl) ?_
  refine lv_iload_n hx hb dJx4a65c_add_72be8_12 rfl (lv_at hl 3 rfl) ?_
  refine lv_aload_n hx hb dJx4a65c_add_72be8_13 rfl (lv_at hl 2 rfl) ?_
  refine gk_ast hC hG (t0 := 4) a_21_0_0 e_21_0_0 rfl a_13_10_0 e_13_10_0 rfl (Or.inr (by decide +kernel)) (vp_in_nI (n := 10) (by decide) (by decide)) dJx4a65c_add_72be8_14 (fun E2 H locs (e_21_0_0 : _) fr hG => ?_)
  have e_2_0_0 := (fr 2 0 0 (by omega)).1.trans e_2_0_0
  have e_9_0_0 := (fr 9 0 0 (by omega)).1.trans e_9_0_0
  have e_13_10_0 := (fr 13 10 0 (by omega)).1.trans e_13_10_0
  have frw := gFr.tr frw fr (fun k i j z => by omega)
  rw [show (nI 10).toNatClampNeg = 10 from nI_clamp (by decide)] at e_21_0_0
  refine lv_aload_n hx hb dJx4a65c_add_72be8_15 rfl (lv_at hl 1 rfl) ?_
  refine lv_iload_n hx hb dJx4a65c_add_72be8_16 rfl (lv_at hl 3 rfl) ?_
  refine lv_iconst (v := 1) hx hb dJx4a65c_add_72be8_17 (by decide) ?_
  refine lv_iadd hx hb dJx4a65c_add_72be8_18 ?_
  refine gq_top (nI (10 + 1)) (nI_1 10) ?_
  refine gk_put hC hG a_2_0_0 e_2_0_0 rfl inlJx4a65c tyJx4a65c tyJx4a65c_ok nmJx4a65c 2 (by decide) kf_RJx4a65c_48 (fun _ h => h) rfl rfl rfl (Nat.le_of_ble_eq_true rfl) dJx4a65c_add_72be8_19 (fun E3 H locs (e_2_0_0 : E3 2 0 0 = some (.inr (0, [.int mc, .ref r_7, .int (nI (10 + 1))]))) fr hG => ?_)
  have e_9_0_0 := (fr 9 0 0 (by omega)).1.trans e_9_0_0
  have e_13_10_0 := (fr 13 10 0 (by omega)).1.trans e_13_10_0
  have e_21_0_0 := (fr 21 0 0 (by omega)).1.trans e_21_0_0
  have frw := gFr.tr frw fr (fun k i j z => by omega)
  obtain ⟨adr, Er, ha, he, fr, hG⟩ := gW.re (ke := 9) (il := 0) (by decide) hG
  have e_2_0_0 := (fr 2 0 0 (by omega)).1.trans e_2_0_0
  have a_2_0_0 := (fr 2 0 0 (by omega)).2.trans a_2_0_0
  have e_9_0_0 := he.trans e_21_0_0
  have a_9_0_0 := ha.trans a_21_0_0
  have frw := gFr.tr frw fr (fun k i j z => by omega)
  exact gq_vret hC hz hG (⟨15, _, frw, a_2_0_0, by rw [a_9_0_0]; exact e_2_0_0, ⟨by omega, by decide⟩, e_9_0_0, fun i hi => by rw [va_up_ne _ _ (by omega), if_pos hi]; exact hel i hi, va_up_self _ _ _⟩) (Nat.le_of_ble_eq_true rfl) (Nat.le_of_ble_eq_true rfl) dJx4a65c_add_72be8_22
set_option maxHeartbeats 4000000 in
set_option maxRecDepth 100000 in
theorem n_add_M10 (l : Launch) (V : gV) (ad : gA) (E : gE) (h : Nat → Option Nat) (hel : ∀ i, i < 10 → h i = some (ad 13 i 0)) (ue_el : ∀ i, i < 10 → ∃ vs, E 13 i 0 = some (.inr (5, vs))) (mc : Int32) (vs : List Value)  (e_2_0_0 : E 2 0 0 = some (.inr (0, [.int mc, .ref (ad 9 0 0), .int (nI 10)]))) (e_9_0_0 : E 9 0 0 = some (.inl (V.2.1 4, 10, .inr (.inr (.inr (.inr (h))))))) (e_13_10_0 : E 13 10 0 = some (.inr (5, vs))) : gMi l yJx4a65c_add_9ea2d cJx4a65c_add_9ea2d 2 (some .boolean) ({ frames := 6, cells := 1, slots := 22, locals := 160 } : Room) [.ref (ad 2 0 0), .ref (ad 13 10 0)] V ad E (fun r ad' E' => r = 1 ∧ ∃ (cap : Nat) (h' : Nat → Option Nat), gFr (fun k i j => (k = 2 ∧ i = 0 ∧ j = 0) ∨ (k = 9 ∧ i = 0 ∧ j = 0) ∨ k = 21) ad E ad' E' ∧ ad' 2 0 0 = ad 2 0 0 ∧ E' 2 0 0 = some (.inr (0, [.int (mc + 1), .ref (ad' 9 0 0), .int (nI (10 + 1))])) ∧ (10 + 1 ≤ cap ∧ (cap = 10 ∨ cap = 15 ∨ cap = 22)) ∧ E' 9 0 0 = some (.inl (V.2.1 4, cap, .inr (.inr (.inr (.inr h'))))) ∧ (∀ i, i < 10 → h' i = some (ad 13 i 0)) ∧ h' 10 = some (ad 13 10 0)) := by
  intro sz
  refine g_ofN (by decide) (Nat.le_of_ble_eq_true rfl) ?_
  intro p e s m_ below meth c ls hname hC hz hG hl
  have hx := hC.1
  have hb := hC.2.1
  have hl : lv_has ls 2 [(0, .ref (ad 2 0 0)), (1, .ref (ad 13 10 0))] := hl
  have a_2_0_0 : ad 2 0 0 = ad 2 0 0 := rfl
  have a_9_0_0 : ad 9 0 0 = ad 9 0 0 := rfl
  have a_13_10_0 : ad 13 10 0 = ad 13 10 0 := rfl
  have frw : gFr (fun k i j => (k = 2 ∧ i = 0 ∧ j = 0) ∨ (k = 9 ∧ i = 0 ∧ j = 0) ∨ k = 21) ad E ad E := gFr.rf
  have ua_el : ∀ i, i < 10 → ad 13 i 0 = ad 13 i 0 := fun _ _ => rfl
  refine lv_aload_n hx hb dJx4a65c_add_9ea2d_0 rfl (lv_at hl 0 rfl) ?_
  refine lv_dup hx hb dJx4a65c_add_9ea2d_1 rfl ?_
  refine gk_get hC hG a_2_0_0 e_2_0_0 rfl inlJx4a65c 0 (by decide) kf_RJx4a65c_63 (fun x9 h9 => u_same (hC.2.2.2.2.1 _ kw_7_18) x9 h9) rfl dJx4a65c_add_9ea2d_2 ?_
  refine lv_iconst (v := 1) hx hb dJx4a65c_add_9ea2d_5 (by decide) ?_
  refine lv_iadd hx hb dJx4a65c_add_9ea2d_6 ?_
  refine gk_put hC hG a_2_0_0 e_2_0_0 rfl inlJx4a65c tyJx4a65c tyJx4a65c_ok nmJx4a65c 0 (by decide) kf_RJx4a65c_63 (fun x9 h9 => u_same (hC.2.2.2.2.1 _ kw_7_18) x9 h9) rfl rfl rfl (Nat.le_of_ble_eq_true rfl) dJx4a65c_add_9ea2d_7 (fun E1 H locs (e_2_0_0 : E1 2 0 0 = some (.inr (0, [.int ((mc) + (1)), .ref (ad 9 0 0), .int (nI 10)]))) fr hG => ?_)
  have e_9_0_0 := (fr 9 0 0 (by omega)).1.trans e_9_0_0
  have e_13_10_0 := (fr 13 10 0 (by omega)).1.trans e_13_10_0
  have ue_el : ∀ i, i < 10 → ∃ vs, E1 13 i 0 = some (.inr (5, vs)) := fun i hi => let ⟨vs, h⟩ := ue_el i hi; ⟨vs, (fr 13 i 0 (by omega)).1.trans h⟩
  have ua_el := fun i (hi : i < 10) => (fr 13 i 0 (by omega)).2.trans (ua_el i hi)
  have frw := gFr.tr frw fr (fun k i j z => by omega)
  refine lv_aload_n hx hb dJx4a65c_add_9ea2d_10 rfl (lv_at hl 0 rfl) ?_
  refine lv_aload_n hx hb dJx4a65c_add_9ea2d_11 rfl (lv_at hl 1 rfl) ?_
  refine lv_aload_n hx hb dJx4a65c_add_9ea2d_12 rfl (lv_at hl 0 rfl) ?_
  refine gk_get hC hG a_2_0_0 e_2_0_0 rfl inlJx4a65c 1 (by decide) kf_RJx4a65c_9 (fun _ h => h) rfl dJx4a65c_add_9ea2d_13 ?_
  refine lv_aload_n hx hb dJx4a65c_add_9ea2d_16 rfl (lv_at hl 0 rfl) ?_
  refine gk_get hC hG a_2_0_0 e_2_0_0 rfl inlJx4a65c 2 (by decide) kf_RJx4a65c_48 (fun _ h => h) rfl dJx4a65c_add_9ea2d_17 ?_
  refine gc_Vv hC hG e_2_0_0 rfl (n_ad2_M10 l V ad E1 h hel ue_el (mc + 1) vs e_2_0_0 e_9_0_0 e_13_10_0) km_RJx4a65c_131 kn_yJx4a65c_add_72be8 ks_yJx4a65c_add_72be8 kz_RJx4a65c kd_yJx4a65c_add_72be8 dn_Jx4a65c_add_72be8 (by rw [a_2_0_0]; rfl) hl.1 ⟨by decide, by decide⟩ (Nat.le_of_ble_eq_true rfl) ⟨Nat.le_of_ble_eq_true rfl, Nat.le_of_ble_eq_true rfl⟩ dJx4a65c_add_9ea2d_20 (fun ad2 E2 H locs p_20 hG hgr => ?_)
  obtain ⟨cap_, h_, fr, h2, e_1, hcc, e_2, h3, h4⟩ := p_20
  refine lv_iconst (v := 1) hx hb dJx4a65c_add_9ea2d_23 (by decide) ?_
  exact gq_zret hC hz hG (by decide) (⟨rfl, cap_, h_, gFr.tr frw fr (fun k i j z => by omega), h2.trans a_2_0_0, e_1, hcc, e_2, h3, h4⟩) (Nat.le_of_ble_eq_true rfl) (Nat.le_of_ble_eq_true rfl) dJx4a65c_add_9ea2d_24
theorem n_add_M (l : Launch) (V : gV) (ad : gA) (E : gE) (n : Nat) (hn : n < 12) (vs : List Value) (hL : lstOK V ad E 2 0 9 n (fun i => ad 13 i 0)) (ue_el : ∀ i, i < n → ∃ vs, E 13 i 0 = some (.inr (5, vs))) (e_x : E 13 n 0 = some (.inr (5, vs))) : gMi l yJx4a65c_add_9ea2d cJx4a65c_add_9ea2d 2 (some .boolean) ({ frames := 6, cells := 1, slots := 22, locals := 160 } : Room) [.ref (ad 2 0 0), .ref (ad 13 n 0)] V ad E (fun r ad' E' => r = 1 ∧ gFr (fun k i j => (k = 2 ∧ i = 0 ∧ j = 0) ∨ (k = 9 ∧ i = 0 ∧ j = 0) ∨ k = 21) ad E ad' E' ∧ ad' 2 0 0 = ad 2 0 0 ∧ lstOK V ad' E' 2 0 9 (n + 1) (fun i => ad 13 i 0)) := by
  have key : ∀ (mc : Int32) (r : Int32) (ad' : gA) (E' : gE), (r = 1 ∧ ∃ (cap : Nat) (h' : Nat → Option Nat), gFr (fun k i j => (k = 2 ∧ i = 0 ∧ j = 0) ∨ (k = 9 ∧ i = 0 ∧ j = 0) ∨ k = 21) ad E ad' E' ∧ ad' 2 0 0 = ad 2 0 0 ∧ E' 2 0 0 = some (.inr (0, [.int (mc + 1), .ref (ad' 9 0 0), .int (nI (n + 1))])) ∧ (n + 1 ≤ cap ∧ (cap = 10 ∨ cap = 15 ∨ cap = 22)) ∧ E' 9 0 0 = some (.inl (V.2.1 4, cap, .inr (.inr (.inr (.inr h'))))) ∧ (∀ i, i < n → h' i = some (ad 13 i 0)) ∧ h' n = some (ad 13 n 0)) → (r = 1 ∧ gFr (fun k i j => (k = 2 ∧ i = 0 ∧ j = 0) ∨ (k = 9 ∧ i = 0 ∧ j = 0) ∨ k = 21) ad E ad' E' ∧ ad' 2 0 0 = ad 2 0 0 ∧ lstOK V ad' E' 2 0 9 (n + 1) (fun i => ad 13 i 0)) := by
    rintro mc r ad' E' ⟨h0, cap, h', h1, h2, h3, h4, h5, h6, h7⟩
    refine ⟨h0, h1, h2, mc + 1, ad' 9 0 0, h3, Or.inr ⟨rfl, cap, h', h4.1, h4.2, h5, fun i hi => ?_⟩⟩
    by_cases e : i = n
    · subst e
      exact h7
    · exact h6 i (by omega)
  have up : ∀ (mc : Int32), gMi l yJx4a65c_add_9ea2d cJx4a65c_add_9ea2d 2 (some .boolean) ({ frames := 6, cells := 1, slots := 22, locals := 160 } : Room) [.ref (ad 2 0 0), .ref (ad 13 n 0)] V ad E (fun r ad' E' => r = 1 ∧ ∃ (cap : Nat) (h' : Nat → Option Nat), gFr (fun k i j => (k = 2 ∧ i = 0 ∧ j = 0) ∨ (k = 9 ∧ i = 0 ∧ j = 0) ∨ k = 21) ad E ad' E' ∧ ad' 2 0 0 = ad 2 0 0 ∧ E' 2 0 0 = some (.inr (0, [.int (mc + 1), .ref (ad' 9 0 0), .int (nI (n + 1))])) ∧ (n + 1 ≤ cap ∧ (cap = 10 ∨ cap = 15 ∨ cap = 22)) ∧ E' 9 0 0 = some (.inl (V.2.1 4, cap, .inr (.inr (.inr (.inr h'))))) ∧ (∀ i, i < n → h' i = some (ad 13 i 0)) ∧ h' n = some (ad 13 n 0)) → gMi l yJx4a65c_add_9ea2d cJx4a65c_add_9ea2d 2 (some .boolean) ({ frames := 6, cells := 1, slots := 22, locals := 160 } : Room) [.ref (ad 2 0 0), .ref (ad 13 n 0)] V ad E (fun r ad' E' => r = 1 ∧ gFr (fun k i j => (k = 2 ∧ i = 0 ∧ j = 0) ∨ (k = 9 ∧ i = 0 ∧ j = 0) ∨ k = 21) ad E ad' E' ∧ ad' 2 0 0 = ad 2 0 0 ∧ lstOK V ad' E' 2 0 9 (n + 1) (fun i => ad 13 i 0)) := fun mc h sz => (h sz).mono (fun a st o t q => by
    obtain ⟨⟨r, u, h1, h2, h5⟩, h6⟩ := q
    exact ⟨⟨r, u, h1, key mc r u.1 u.2 h2, h5⟩, h6⟩)
  obtain ⟨mc, el, hk, hc⟩ := hL
  rcases hc with ⟨h0, h1⟩ | ⟨h1, cap, h, h2, h3, h4, h5⟩
  · subst h0
    subst h1
    exact up mc (n_add_ME l V ad E mc vs hk e_x)
  · subst h1
    by_cases e : n < cap
    · exact up mc (n_add_MR l V ad E n cap e h3 h h5 mc vs hk h4 e_x)
    · have e2 : n = cap := by omega
      subst e2
      rcases h3 with h3 | h3 | h3
      · subst h3
        exact up mc (n_add_M10 l V ad E h h5 ue_el mc vs hk h4 e_x)
      · omega
      · omega
set_option maxHeartbeats 4000000 in
set_option maxRecDepth 100000 in
theorem n_ad2_CR (l : Launch) (V : gV) (ad : gA) (E : gE) (m : Nat) (n cap : Nat) (hcap : n < cap) (hc3 : cap = 10 ∨ cap = 15 ∨ cap = 22) (h : Nat → Option Nat) (hel : ∀ i, i < n → h i = some (ad 16 m i)) (mc : Int32) (vs : List Value)  (e_14_m_0 : E 14 m 0 = some (.inr (0, [.int mc, .ref (ad 15 m 0), .int (nI n)]))) (e_15_m_0 : E 15 m 0 = some (.inl (V.2.1 4, cap, .inr (.inr (.inr (.inr (h))))))) (e_16_m_n : E 16 m n = some (.inr (3, vs))) : gMv l yJx4a65c_add_72be8 cJx4a65c_add_72be8 4 none ({ frames := 5, cells := 1, slots := 22, locals := 135 } : Room) [.ref (ad 14 m 0), .ref (ad 16 m n), .ref (ad 15 m 0), .int (nI n)] V ad E (fun ad' E' => ∃ (cap : Nat) (h' : Nat → Option Nat), gFr (fun k i j => (k = 14 ∧ i = m ∧ j = 0) ∨ (k = 15 ∧ i = m ∧ j = 0) ∨ k = 21) ad E ad' E' ∧ ad' 14 m 0 = ad 14 m 0 ∧ E' 14 m 0 = some (.inr (0, [.int mc, .ref (ad' 15 m 0), .int (nI (n + 1))])) ∧ (n + 1 ≤ cap ∧ (cap = 10 ∨ cap = 15 ∨ cap = 22)) ∧ E' 15 m 0 = some (.inl (V.2.1 4, cap, .inr (.inr (.inr (.inr h'))))) ∧ (∀ i, i < n → h' i = some (ad 16 m i)) ∧ h' n = some (ad 16 m n)) := by
  intro sz
  refine g_ofN (by decide) (Nat.le_of_ble_eq_true rfl) ?_
  intro p e s m_ below meth c ls hname hC hz hG hl
  have hx := hC.1
  have hb := hC.2.1
  have hl : lv_has ls 4 [(0, .ref (ad 14 m 0)), (1, .ref (ad 16 m n)), (2, .ref (ad 15 m 0)), (3, .int (nI n))] := hl
  have a_14_m_0 : ad 14 m 0 = ad 14 m 0 := rfl
  have a_15_m_0 : ad 15 m 0 = ad 15 m 0 := rfl
  have a_16_m_n : ad 16 m n = ad 16 m n := rfl
  have frw : gFr (fun k i j => (k = 14 ∧ i = m ∧ j = 0) ∨ (k = 15 ∧ i = m ∧ j = 0) ∨ k = 21) ad E ad E := gFr.rf
  refine lv_iload_n hx hb dJx4a65c_add_72be8_0 rfl (lv_at hl 3 rfl) ?_
  refine lv_aload_n hx hb dJx4a65c_add_72be8_1 rfl (lv_at hl 2 rfl) ?_
  refine gk_alen hC hG a_15_m_0 e_15_m_0 dJx4a65c_add_72be8_2 ?_
  refine gn_icmp_ne (tgt := 11) hx hb (by omega) (by omega) dJx4a65c_add_72be8_3 (by decide) (fun c_3 => ?_) (fun c_3 => absurd c_3 (by omega))
  refine lv_aload_n hx hb dJx4a65c_add_72be8_11 rfl (lv_at hl 2 rfl) ?_
  refine lv_iload_n hx hb dJx4a65c_add_72be8_12 rfl (lv_at hl 3 rfl) ?_
  refine lv_aload_n hx hb dJx4a65c_add_72be8_13 rfl (lv_at hl 1 rfl) ?_
  refine gk_ast hC hG (t0 := 4) a_15_m_0 e_15_m_0 rfl a_16_m_n e_16_m_n rfl (Or.inr (by decide +kernel)) (vp_in_nI (by omega) (by omega)) dJx4a65c_add_72be8_14 (fun E1 H locs (e_15_m_0 : _) fr hG => ?_)
  have e_14_m_0 := (fr 14 m 0 (by omega)).1.trans e_14_m_0
  have e_16_m_n := (fr 16 m n (by omega)).1.trans e_16_m_n
  have frw := gFr.tr frw fr (fun k i j z => by omega)
  rw [show (nI n).toNatClampNeg = n from nI_clamp (by omega)] at e_15_m_0
  refine lv_aload_n hx hb dJx4a65c_add_72be8_15 rfl (lv_at hl 0 rfl) ?_
  refine lv_iload_n hx hb dJx4a65c_add_72be8_16 rfl (lv_at hl 3 rfl) ?_
  refine lv_iconst (v := 1) hx hb dJx4a65c_add_72be8_17 (by decide) ?_
  refine lv_iadd hx hb dJx4a65c_add_72be8_18 ?_
  refine gq_top (nI (n + 1)) (nI_1 n) ?_
  refine gk_put hC hG a_14_m_0 e_14_m_0 rfl inlJx4a65c tyJx4a65c tyJx4a65c_ok nmJx4a65c 2 (by decide) kf_RJx4a65c_48 (fun _ h => h) rfl rfl rfl (Nat.le_of_ble_eq_true rfl) dJx4a65c_add_72be8_19 (fun E2 H locs (e_14_m_0 : E2 14 m 0 = some (.inr (0, [.int mc, .ref (ad 15 m 0), .int (nI (n + 1))]))) fr hG => ?_)
  have e_15_m_0 := (fr 15 m 0 (by omega)).1.trans e_15_m_0
  have e_16_m_n := (fr 16 m n (by omega)).1.trans e_16_m_n
  have frw := gFr.tr frw fr (fun k i j z => by omega)
  exact gq_vret hC hz hG (⟨cap, _, frw, a_14_m_0, by rw [a_15_m_0]; exact e_14_m_0, ⟨by omega, hc3⟩, e_15_m_0, fun i hi => by rw [va_up_ne _ _ (by omega)]; exact hel i hi, va_up_self _ _ _⟩) (Nat.le_of_ble_eq_true rfl) (Nat.le_of_ble_eq_true rfl) dJx4a65c_add_72be8_22
set_option maxHeartbeats 4000000 in
set_option maxRecDepth 100000 in
theorem n_add_CR (l : Launch) (V : gV) (ad : gA) (E : gE) (m : Nat) (n cap : Nat) (hcap : n < cap) (hc3 : cap = 10 ∨ cap = 15 ∨ cap = 22) (h : Nat → Option Nat) (hel : ∀ i, i < n → h i = some (ad 16 m i)) (mc : Int32) (vs : List Value)  (e_14_m_0 : E 14 m 0 = some (.inr (0, [.int mc, .ref (ad 15 m 0), .int (nI n)]))) (e_15_m_0 : E 15 m 0 = some (.inl (V.2.1 4, cap, .inr (.inr (.inr (.inr (h))))))) (e_16_m_n : E 16 m n = some (.inr (3, vs))) : gMi l yJx4a65c_add_9ea2d cJx4a65c_add_9ea2d 2 (some .boolean) ({ frames := 6, cells := 1, slots := 22, locals := 160 } : Room) [.ref (ad 14 m 0), .ref (ad 16 m n)] V ad E (fun r ad' E' => r = 1 ∧ ∃ (cap : Nat) (h' : Nat → Option Nat), gFr (fun k i j => (k = 14 ∧ i = m ∧ j = 0) ∨ (k = 15 ∧ i = m ∧ j = 0) ∨ k = 21) ad E ad' E' ∧ ad' 14 m 0 = ad 14 m 0 ∧ E' 14 m 0 = some (.inr (0, [.int (mc + 1), .ref (ad' 15 m 0), .int (nI (n + 1))])) ∧ (n + 1 ≤ cap ∧ (cap = 10 ∨ cap = 15 ∨ cap = 22)) ∧ E' 15 m 0 = some (.inl (V.2.1 4, cap, .inr (.inr (.inr (.inr h'))))) ∧ (∀ i, i < n → h' i = some (ad 16 m i)) ∧ h' n = some (ad 16 m n)) := by
  intro sz
  refine g_ofN (by decide) (Nat.le_of_ble_eq_true rfl) ?_
  intro p e s m_ below meth c ls hname hC hz hG hl
  have hx := hC.1
  have hb := hC.2.1
  have hl : lv_has ls 2 [(0, .ref (ad 14 m 0)), (1, .ref (ad 16 m n))] := hl
  have a_14_m_0 : ad 14 m 0 = ad 14 m 0 := rfl
  have a_15_m_0 : ad 15 m 0 = ad 15 m 0 := rfl
  have a_16_m_n : ad 16 m n = ad 16 m n := rfl
  have frw : gFr (fun k i j => (k = 14 ∧ i = m ∧ j = 0) ∨ (k = 15 ∧ i = m ∧ j = 0) ∨ k = 21) ad E ad E := gFr.rf
  refine lv_aload_n hx hb dJx4a65c_add_9ea2d_0 rfl (lv_at hl 0 rfl) ?_
  refine lv_dup hx hb dJx4a65c_add_9ea2d_1 rfl ?_
  refine gk_get hC hG a_14_m_0 e_14_m_0 rfl inlJx4a65c 0 (by decide) kf_RJx4a65c_63 (fun x9 h9 => u_same (hC.2.2.2.2.1 _ kw_7_18) x9 h9) rfl dJx4a65c_add_9ea2d_2 ?_
  refine lv_iconst (v := 1) hx hb dJx4a65c_add_9ea2d_5 (by decide) ?_
  refine lv_iadd hx hb dJx4a65c_add_9ea2d_6 ?_
  refine gk_put hC hG a_14_m_0 e_14_m_0 rfl inlJx4a65c tyJx4a65c tyJx4a65c_ok nmJx4a65c 0 (by decide) kf_RJx4a65c_63 (fun x9 h9 => u_same (hC.2.2.2.2.1 _ kw_7_18) x9 h9) rfl rfl rfl (Nat.le_of_ble_eq_true rfl) dJx4a65c_add_9ea2d_7 (fun E1 H locs (e_14_m_0 : E1 14 m 0 = some (.inr (0, [.int ((mc) + (1)), .ref (ad 15 m 0), .int (nI n)]))) fr hG => ?_)
  have e_15_m_0 := (fr 15 m 0 (by omega)).1.trans e_15_m_0
  have e_16_m_n := (fr 16 m n (by omega)).1.trans e_16_m_n
  have frw := gFr.tr frw fr (fun k i j z => by omega)
  refine lv_aload_n hx hb dJx4a65c_add_9ea2d_10 rfl (lv_at hl 0 rfl) ?_
  refine lv_aload_n hx hb dJx4a65c_add_9ea2d_11 rfl (lv_at hl 1 rfl) ?_
  refine lv_aload_n hx hb dJx4a65c_add_9ea2d_12 rfl (lv_at hl 0 rfl) ?_
  refine gk_get hC hG a_14_m_0 e_14_m_0 rfl inlJx4a65c 1 (by decide) kf_RJx4a65c_9 (fun _ h => h) rfl dJx4a65c_add_9ea2d_13 ?_
  refine lv_aload_n hx hb dJx4a65c_add_9ea2d_16 rfl (lv_at hl 0 rfl) ?_
  refine gk_get hC hG a_14_m_0 e_14_m_0 rfl inlJx4a65c 2 (by decide) kf_RJx4a65c_48 (fun _ h => h) rfl dJx4a65c_add_9ea2d_17 ?_
  refine gc_Vv hC hG e_14_m_0 rfl (n_ad2_CR l V ad E1 m n cap hcap hc3 h hel (mc + 1) vs e_14_m_0 e_15_m_0 e_16_m_n) km_RJx4a65c_131 kn_yJx4a65c_add_72be8 ks_yJx4a65c_add_72be8 kz_RJx4a65c kd_yJx4a65c_add_72be8 dn_Jx4a65c_add_72be8 (by rw [a_14_m_0]; rfl) hl.1 ⟨by decide, by decide⟩ (Nat.le_of_ble_eq_true rfl) ⟨Nat.le_of_ble_eq_true rfl, Nat.le_of_ble_eq_true rfl⟩ dJx4a65c_add_9ea2d_20 (fun ad2 E2 H locs p_20 hG hgr => ?_)
  obtain ⟨cap_, h_, fr, h2, e_1, hcc, e_2, h3, h4⟩ := p_20
  refine lv_iconst (v := 1) hx hb dJx4a65c_add_9ea2d_23 (by decide) ?_
  exact gq_zret hC hz hG (by decide) (⟨rfl, cap_, h_, gFr.tr frw fr (fun k i j z => by omega), h2.trans a_14_m_0, e_1, hcc, e_2, h3, h4⟩) (Nat.le_of_ble_eq_true rfl) (Nat.le_of_ble_eq_true rfl) dJx4a65c_add_9ea2d_24
set_option maxHeartbeats 4000000 in
set_option maxRecDepth 100000 in
theorem n_ad2_CE (l : Launch) (V : gV) (ad : gA) (E : gE) (m : Nat) (mc : Int32) (vs : List Value)  (e_14_m_0 : E 14 m 0 = some (.inr (0, [.int mc, .ref (V.2.2 1), .int (nI 0)]))) (e_16_m_0 : E 16 m 0 = some (.inr (3, vs))) : gMv l yJx4a65c_add_72be8 cJx4a65c_add_72be8 4 none ({ frames := 5, cells := 1, slots := 22, locals := 135 } : Room) [.ref (ad 14 m 0), .ref (ad 16 m 0), .ref (V.2.2 1), .int (nI 0)] V ad E (fun ad' E' => ∃ (cap : Nat) (h' : Nat → Option Nat), gFr (fun k i j => (k = 14 ∧ i = m ∧ j = 0) ∨ (k = 15 ∧ i = m ∧ j = 0) ∨ k = 21) ad E ad' E' ∧ ad' 14 m 0 = ad 14 m 0 ∧ E' 14 m 0 = some (.inr (0, [.int mc, .ref (ad' 15 m 0), .int (nI (0 + 1))])) ∧ (0 + 1 ≤ cap ∧ (cap = 10 ∨ cap = 15 ∨ cap = 22)) ∧ E' 15 m 0 = some (.inl (V.2.1 4, cap, .inr (.inr (.inr (.inr h'))))) ∧ (∀ i, i < 0 → h' i = some (ad 16 m i)) ∧ h' 0 = some (ad 16 m 0)) := by
  intro sz
  refine g_ofN (by decide) (Nat.le_of_ble_eq_true rfl) ?_
  intro p e s m_ below meth c ls hname hC hz hG hl
  have hx := hC.1
  have hb := hC.2.1
  have hl : lv_has ls 4 [(0, .ref (ad 14 m 0)), (1, .ref (ad 16 m 0)), (2, .ref (V.2.2 1)), (3, .int (nI 0))] := hl
  have a_14_m_0 : ad 14 m 0 = ad 14 m 0 := rfl
  have a_16_m_0 : ad 16 m 0 = ad 16 m 0 := rfl
  have frw : gFr (fun k i j => (k = 14 ∧ i = m ∧ j = 0) ∨ (k = 15 ∧ i = m ∧ j = 0) ∨ k = 21) ad E ad E := gFr.rf
  refine lv_iload_n hx hb dJx4a65c_add_72be8_0 rfl (lv_at hl 3 rfl) ?_
  refine lv_aload_n hx hb dJx4a65c_add_72be8_1 rfl (lv_at hl 2 rfl) ?_
  refine gq_elen hC hG dJx4a65c_add_72be8_2 ?_
  refine gn_icmp_ne (tgt := 11) hx hb (by decide) (by decide) dJx4a65c_add_72be8_3 (by decide) (fun c_3 => absurd c_3 (by decide)) (fun c_3 => ?_)
  refine lv_aload_n hx hb dJx4a65c_add_72be8_6 rfl (lv_at hl 0 rfl) ?_
  refine gc_Vr hC hG e_14_m_0 rfl (n_gr_CE l V ad E m mc e_14_m_0) km_RJx4a65c_129 kn_yJx4a65c_grow_d5877 ks_yJx4a65c_grow_d5877 kz_RJx4a65c kd_yJx4a65c_grow_d5877 dn_Jx4a65c_grow_d5877 (by rw [a_14_m_0]; rfl) hl.1 ⟨by decide, by decide⟩ (Nat.le_of_ble_eq_true rfl) ⟨Nat.le_of_ble_eq_true rfl, Nat.le_of_ble_eq_true rfl⟩ dJx4a65c_add_72be8_7 (fun r_7 ad1 E1 H locs p_7 hG hgr => ?_)
  obtain ⟨q_7, fr, h2, e_14_m_0, e_21_0_0⟩ := p_7
  have a_21_0_0 := q_7.symm
  have a_14_m_0 := h2.trans a_14_m_0
  have e_16_m_0 := (fr 16 m 0 (by omega)).1.trans e_16_m_0
  have a_16_m_0 := (fr 16 m 0 (by omega)).2.trans a_16_m_0
  have frw := gFr.tr frw fr (fun k i j z => by omega)
  refine lv_astore_n (lv' := [(2, .ref r_7), (0, .ref (ad 14 m 0)), (1, .ref (ad 16 m 0)), (3, .int (nI 0))]) hx hb dJx4a65c_add_72be8_10 rfl hl (by decide) rfl (fun ls hl => ?_)
  refine lv_aload_n hx hb dJx4a65c_add_72be8_11 rfl (lv_at hl 0 rfl) ?_
  refine lv_iload_n hx hb dJx4a65c_add_72be8_12 rfl (lv_at hl 3 rfl) ?_
  refine lv_aload_n hx hb dJx4a65c_add_72be8_13 rfl (lv_at hl 2 rfl) ?_
  refine gk_ast hC hG (t0 := 4) a_21_0_0 e_21_0_0 rfl a_16_m_0 e_16_m_0 rfl (Or.inr (by decide +kernel)) (vp_in_nI (n := 0) (by decide) (by decide)) dJx4a65c_add_72be8_14 (fun E2 H locs (e_21_0_0 : _) fr hG => ?_)
  have e_14_m_0 := (fr 14 m 0 (by omega)).1.trans e_14_m_0
  have e_16_m_0 := (fr 16 m 0 (by omega)).1.trans e_16_m_0
  have frw := gFr.tr frw fr (fun k i j z => by omega)
  rw [show (nI 0).toNatClampNeg = 0 from nI_clamp (by decide)] at e_21_0_0
  refine lv_aload_n hx hb dJx4a65c_add_72be8_15 rfl (lv_at hl 1 rfl) ?_
  refine lv_iload_n hx hb dJx4a65c_add_72be8_16 rfl (lv_at hl 3 rfl) ?_
  refine lv_iconst (v := 1) hx hb dJx4a65c_add_72be8_17 (by decide) ?_
  refine lv_iadd hx hb dJx4a65c_add_72be8_18 ?_
  refine gq_top (nI (0 + 1)) (nI_1 0) ?_
  refine gk_put hC hG a_14_m_0 e_14_m_0 rfl inlJx4a65c tyJx4a65c tyJx4a65c_ok nmJx4a65c 2 (by decide) kf_RJx4a65c_48 (fun _ h => h) rfl rfl rfl (Nat.le_of_ble_eq_true rfl) dJx4a65c_add_72be8_19 (fun E3 H locs (e_14_m_0 : E3 14 m 0 = some (.inr (0, [.int mc, .ref r_7, .int (nI (0 + 1))]))) fr hG => ?_)
  have e_16_m_0 := (fr 16 m 0 (by omega)).1.trans e_16_m_0
  have e_21_0_0 := (fr 21 0 0 (by omega)).1.trans e_21_0_0
  have frw := gFr.tr frw fr (fun k i j z => by omega)
  obtain ⟨adr, Er, ha, he, fr, hG⟩ := gW.re (ke := 15) (il := m) (by decide) hG
  have e_14_m_0 := (fr 14 m 0 (by omega)).1.trans e_14_m_0
  have a_14_m_0 := (fr 14 m 0 (by omega)).2.trans a_14_m_0
  have e_15_m_0 := he.trans e_21_0_0
  have a_15_m_0 := ha.trans a_21_0_0
  have frw := gFr.tr frw fr (fun k i j z => by omega)
  exact gq_vret hC hz hG (⟨10, _, frw, a_14_m_0, by rw [a_15_m_0]; exact e_14_m_0, ⟨by omega, by decide⟩, e_15_m_0, fun i hi => absurd hi (by omega), va_up_self _ _ _⟩) (Nat.le_of_ble_eq_true rfl) (Nat.le_of_ble_eq_true rfl) dJx4a65c_add_72be8_22
set_option maxHeartbeats 4000000 in
set_option maxRecDepth 100000 in
theorem n_add_CE (l : Launch) (V : gV) (ad : gA) (E : gE) (m : Nat) (mc : Int32) (vs : List Value)  (e_14_m_0 : E 14 m 0 = some (.inr (0, [.int mc, .ref (V.2.2 1), .int (nI 0)]))) (e_16_m_0 : E 16 m 0 = some (.inr (3, vs))) : gMi l yJx4a65c_add_9ea2d cJx4a65c_add_9ea2d 2 (some .boolean) ({ frames := 6, cells := 1, slots := 22, locals := 160 } : Room) [.ref (ad 14 m 0), .ref (ad 16 m 0)] V ad E (fun r ad' E' => r = 1 ∧ ∃ (cap : Nat) (h' : Nat → Option Nat), gFr (fun k i j => (k = 14 ∧ i = m ∧ j = 0) ∨ (k = 15 ∧ i = m ∧ j = 0) ∨ k = 21) ad E ad' E' ∧ ad' 14 m 0 = ad 14 m 0 ∧ E' 14 m 0 = some (.inr (0, [.int (mc + 1), .ref (ad' 15 m 0), .int (nI (0 + 1))])) ∧ (0 + 1 ≤ cap ∧ (cap = 10 ∨ cap = 15 ∨ cap = 22)) ∧ E' 15 m 0 = some (.inl (V.2.1 4, cap, .inr (.inr (.inr (.inr h'))))) ∧ (∀ i, i < 0 → h' i = some (ad 16 m i)) ∧ h' 0 = some (ad 16 m 0)) := by
  intro sz
  refine g_ofN (by decide) (Nat.le_of_ble_eq_true rfl) ?_
  intro p e s m_ below meth c ls hname hC hz hG hl
  have hx := hC.1
  have hb := hC.2.1
  have hl : lv_has ls 2 [(0, .ref (ad 14 m 0)), (1, .ref (ad 16 m 0))] := hl
  have a_14_m_0 : ad 14 m 0 = ad 14 m 0 := rfl
  have a_16_m_0 : ad 16 m 0 = ad 16 m 0 := rfl
  have frw : gFr (fun k i j => (k = 14 ∧ i = m ∧ j = 0) ∨ (k = 15 ∧ i = m ∧ j = 0) ∨ k = 21) ad E ad E := gFr.rf
  refine lv_aload_n hx hb dJx4a65c_add_9ea2d_0 rfl (lv_at hl 0 rfl) ?_
  refine lv_dup hx hb dJx4a65c_add_9ea2d_1 rfl ?_
  refine gk_get hC hG a_14_m_0 e_14_m_0 rfl inlJx4a65c 0 (by decide) kf_RJx4a65c_63 (fun x9 h9 => u_same (hC.2.2.2.2.1 _ kw_7_18) x9 h9) rfl dJx4a65c_add_9ea2d_2 ?_
  refine lv_iconst (v := 1) hx hb dJx4a65c_add_9ea2d_5 (by decide) ?_
  refine lv_iadd hx hb dJx4a65c_add_9ea2d_6 ?_
  refine gk_put hC hG a_14_m_0 e_14_m_0 rfl inlJx4a65c tyJx4a65c tyJx4a65c_ok nmJx4a65c 0 (by decide) kf_RJx4a65c_63 (fun x9 h9 => u_same (hC.2.2.2.2.1 _ kw_7_18) x9 h9) rfl rfl rfl (Nat.le_of_ble_eq_true rfl) dJx4a65c_add_9ea2d_7 (fun E1 H locs (e_14_m_0 : E1 14 m 0 = some (.inr (0, [.int ((mc) + (1)), .ref (V.2.2 1), .int (nI 0)]))) fr hG => ?_)
  have e_16_m_0 := (fr 16 m 0 (by omega)).1.trans e_16_m_0
  have frw := gFr.tr frw fr (fun k i j z => by omega)
  refine lv_aload_n hx hb dJx4a65c_add_9ea2d_10 rfl (lv_at hl 0 rfl) ?_
  refine lv_aload_n hx hb dJx4a65c_add_9ea2d_11 rfl (lv_at hl 1 rfl) ?_
  refine lv_aload_n hx hb dJx4a65c_add_9ea2d_12 rfl (lv_at hl 0 rfl) ?_
  refine gk_get hC hG a_14_m_0 e_14_m_0 rfl inlJx4a65c 1 (by decide) kf_RJx4a65c_9 (fun _ h => h) rfl dJx4a65c_add_9ea2d_13 ?_
  refine lv_aload_n hx hb dJx4a65c_add_9ea2d_16 rfl (lv_at hl 0 rfl) ?_
  refine gk_get hC hG a_14_m_0 e_14_m_0 rfl inlJx4a65c 2 (by decide) kf_RJx4a65c_48 (fun _ h => h) rfl dJx4a65c_add_9ea2d_17 ?_
  refine gc_Vv hC hG e_14_m_0 rfl (n_ad2_CE l V ad E1 m (mc + 1) vs e_14_m_0 e_16_m_0) km_RJx4a65c_131 kn_yJx4a65c_add_72be8 ks_yJx4a65c_add_72be8 kz_RJx4a65c kd_yJx4a65c_add_72be8 dn_Jx4a65c_add_72be8 (by rw [a_14_m_0]; rfl) hl.1 ⟨by decide, by decide⟩ (Nat.le_of_ble_eq_true rfl) ⟨Nat.le_of_ble_eq_true rfl, Nat.le_of_ble_eq_true rfl⟩ dJx4a65c_add_9ea2d_20 (fun ad2 E2 H locs p_20 hG hgr => ?_)
  obtain ⟨cap_, h_, fr, h2, e_1, hcc, e_2, h3, h4⟩ := p_20
  refine lv_iconst (v := 1) hx hb dJx4a65c_add_9ea2d_23 (by decide) ?_
  exact gq_zret hC hz hG (by decide) (⟨rfl, cap_, h_, gFr.tr frw fr (fun k i j z => by omega), h2.trans a_14_m_0, e_1, hcc, e_2, h3, h4⟩) (Nat.le_of_ble_eq_true rfl) (Nat.le_of_ble_eq_true rfl) dJx4a65c_add_9ea2d_24
set_option maxHeartbeats 4000000 in
set_option maxRecDepth 100000 in
theorem n_ad2_C10 (l : Launch) (V : gV) (ad : gA) (E : gE) (m : Nat) (h : Nat → Option Nat) (hel : ∀ i, i < 10 → h i = some (ad 16 m i)) (ue_el : ∀ i, i < 10 → ∃ vs, E 16 m i = some (.inr (3, vs))) (mc : Int32) (vs : List Value)  (e_14_m_0 : E 14 m 0 = some (.inr (0, [.int mc, .ref (ad 15 m 0), .int (nI 10)]))) (e_15_m_0 : E 15 m 0 = some (.inl (V.2.1 4, 10, .inr (.inr (.inr (.inr (h))))))) (e_16_m_10 : E 16 m 10 = some (.inr (3, vs))) : gMv l yJx4a65c_add_72be8 cJx4a65c_add_72be8 4 none ({ frames := 5, cells := 1, slots := 22, locals := 135 } : Room) [.ref (ad 14 m 0), .ref (ad 16 m 10), .ref (ad 15 m 0), .int (nI 10)] V ad E (fun ad' E' => ∃ (cap : Nat) (h' : Nat → Option Nat), gFr (fun k i j => (k = 14 ∧ i = m ∧ j = 0) ∨ (k = 15 ∧ i = m ∧ j = 0) ∨ k = 21) ad E ad' E' ∧ ad' 14 m 0 = ad 14 m 0 ∧ E' 14 m 0 = some (.inr (0, [.int mc, .ref (ad' 15 m 0), .int (nI (10 + 1))])) ∧ (10 + 1 ≤ cap ∧ (cap = 10 ∨ cap = 15 ∨ cap = 22)) ∧ E' 15 m 0 = some (.inl (V.2.1 4, cap, .inr (.inr (.inr (.inr h'))))) ∧ (∀ i, i < 10 → h' i = some (ad 16 m i)) ∧ h' 10 = some (ad 16 m 10)) := by
  intro sz
  refine g_ofN (by decide) (Nat.le_of_ble_eq_true rfl) ?_
  intro p e s m_ below meth c ls hname hC hz hG hl
  have hx := hC.1
  have hb := hC.2.1
  have hl : lv_has ls 4 [(0, .ref (ad 14 m 0)), (1, .ref (ad 16 m 10)), (2, .ref (ad 15 m 0)), (3, .int (nI 10))] := hl
  have a_14_m_0 : ad 14 m 0 = ad 14 m 0 := rfl
  have a_15_m_0 : ad 15 m 0 = ad 15 m 0 := rfl
  have a_16_m_10 : ad 16 m 10 = ad 16 m 10 := rfl
  have frw : gFr (fun k i j => (k = 14 ∧ i = m ∧ j = 0) ∨ (k = 15 ∧ i = m ∧ j = 0) ∨ k = 21) ad E ad E := gFr.rf
  refine lv_iload_n hx hb dJx4a65c_add_72be8_0 rfl (lv_at hl 3 rfl) ?_
  refine lv_aload_n hx hb dJx4a65c_add_72be8_1 rfl (lv_at hl 2 rfl) ?_
  refine gk_alen hC hG a_15_m_0 e_15_m_0 dJx4a65c_add_72be8_2 ?_
  refine gn_icmp_ne (tgt := 11) hx hb (by decide) (by decide) dJx4a65c_add_72be8_3 (by decide) (fun c_3 => absurd c_3 (by decide)) (fun c_3 => ?_)
  refine lv_aload_n hx hb dJx4a65c_add_72be8_6 rfl (lv_at hl 0 rfl) ?_
  refine gc_Vr hC hG e_14_m_0 rfl (n_gr_C10 l V ad E m h hel ue_el mc e_14_m_0 e_15_m_0) km_RJx4a65c_129 kn_yJx4a65c_grow_d5877 ks_yJx4a65c_grow_d5877 kz_RJx4a65c kd_yJx4a65c_grow_d5877 dn_Jx4a65c_grow_d5877 (by rw [a_14_m_0]; rfl) hl.1 ⟨by decide, by decide⟩ (Nat.le_of_ble_eq_true rfl) ⟨Nat.le_of_ble_eq_true rfl, Nat.le_of_ble_eq_true rfl⟩ dJx4a65c_add_72be8_7 (fun r_7 ad1 E1 H locs p_7 hG hgr => ?_)
  obtain ⟨q_7, fr, h2, e_14_m_0, e_21_0_0⟩ := p_7
  have a_21_0_0 := q_7.symm
  have a_14_m_0 := h2.trans a_14_m_0
  have e_15_m_0 := (fr 15 m 0 (by omega)).1.trans e_15_m_0
  have a_15_m_0 := (fr 15 m 0 (by omega)).2.trans a_15_m_0
  have e_16_m_10 := (fr 16 m 10 (by omega)).1.trans e_16_m_10
  have a_16_m_10 := (fr 16 m 10 (by omega)).2.trans a_16_m_10
  have frw := gFr.tr frw fr (fun k i j z => by omega)
  refine lv_astore_n (lv' := [(2, .ref r_7), (0, .ref (ad 14 m 0)), (1, .ref (ad 16 m 10)), (3, .int (nI 10))]) hx hb dJx4a65c_add_72be8_10 rfl hl (by decide) rfl (fun ls hl => ?_)
  refine lv_aload_n hx hb dJx4a65c_add_72be8_11 rfl (lv_at hl 0 rfl) ?_
  refine lv_iload_n hx hb dJx4a65c_add_72be8_12 rfl (lv_at hl 3 rfl) ?_
  refine lv_aload_n hx hb dJx4a65c_add_72be8_13 rfl (lv_at hl 2 rfl) ?_
  refine gk_ast hC hG (t0 := 4) a_21_0_0 e_21_0_0 rfl a_16_m_10 e_16_m_10 rfl (Or.inr (by decide +kernel)) (vp_in_nI (n := 10) (by decide) (by decide)) dJx4a65c_add_72be8_14 (fun E2 H locs (e_21_0_0 : _) fr hG => ?_)
  have e_14_m_0 := (fr 14 m 0 (by omega)).1.trans e_14_m_0
  have e_15_m_0 := (fr 15 m 0 (by omega)).1.trans e_15_m_0
  have e_16_m_10 := (fr 16 m 10 (by omega)).1.trans e_16_m_10
  have frw := gFr.tr frw fr (fun k i j z => by omega)
  rw [show (nI 10).toNatClampNeg = 10 from nI_clamp (by decide)] at e_21_0_0
  refine lv_aload_n hx hb dJx4a65c_add_72be8_15 rfl (lv_at hl 1 rfl) ?_
  refine lv_iload_n hx hb dJx4a65c_add_72be8_16 rfl (lv_at hl 3 rfl) ?_
  refine lv_iconst (v := 1) hx hb dJx4a65c_add_72be8_17 (by decide) ?_
  refine lv_iadd hx hb dJx4a65c_add_72be8_18 ?_
  refine gq_top (nI (10 + 1)) (nI_1 10) ?_
  refine gk_put hC hG a_14_m_0 e_14_m_0 rfl inlJx4a65c tyJx4a65c tyJx4a65c_ok nmJx4a65c 2 (by decide) kf_RJx4a65c_48 (fun _ h => h) rfl rfl rfl (Nat.le_of_ble_eq_true rfl) dJx4a65c_add_72be8_19 (fun E3 H locs (e_14_m_0 : E3 14 m 0 = some (.inr (0, [.int mc, .ref r_7, .int (nI (10 + 1))]))) fr hG => ?_)
  have e_15_m_0 := (fr 15 m 0 (by omega)).1.trans e_15_m_0
  have e_16_m_10 := (fr 16 m 10 (by omega)).1.trans e_16_m_10
  have e_21_0_0 := (fr 21 0 0 (by omega)).1.trans e_21_0_0
  have frw := gFr.tr frw fr (fun k i j z => by omega)
  obtain ⟨adr, Er, ha, he, fr, hG⟩ := gW.re (ke := 15) (il := m) (by decide) hG
  have e_14_m_0 := (fr 14 m 0 (by omega)).1.trans e_14_m_0
  have a_14_m_0 := (fr 14 m 0 (by omega)).2.trans a_14_m_0
  have e_15_m_0 := he.trans e_21_0_0
  have a_15_m_0 := ha.trans a_21_0_0
  have frw := gFr.tr frw fr (fun k i j z => by omega)
  exact gq_vret hC hz hG (⟨15, _, frw, a_14_m_0, by rw [a_15_m_0]; exact e_14_m_0, ⟨by omega, by decide⟩, e_15_m_0, fun i hi => by rw [va_up_ne _ _ (by omega), if_pos hi]; exact hel i hi, va_up_self _ _ _⟩) (Nat.le_of_ble_eq_true rfl) (Nat.le_of_ble_eq_true rfl) dJx4a65c_add_72be8_22
set_option maxHeartbeats 4000000 in
set_option maxRecDepth 100000 in
theorem n_add_C10 (l : Launch) (V : gV) (ad : gA) (E : gE) (m : Nat) (h : Nat → Option Nat) (hel : ∀ i, i < 10 → h i = some (ad 16 m i)) (ue_el : ∀ i, i < 10 → ∃ vs, E 16 m i = some (.inr (3, vs))) (mc : Int32) (vs : List Value)  (e_14_m_0 : E 14 m 0 = some (.inr (0, [.int mc, .ref (ad 15 m 0), .int (nI 10)]))) (e_15_m_0 : E 15 m 0 = some (.inl (V.2.1 4, 10, .inr (.inr (.inr (.inr (h))))))) (e_16_m_10 : E 16 m 10 = some (.inr (3, vs))) : gMi l yJx4a65c_add_9ea2d cJx4a65c_add_9ea2d 2 (some .boolean) ({ frames := 6, cells := 1, slots := 22, locals := 160 } : Room) [.ref (ad 14 m 0), .ref (ad 16 m 10)] V ad E (fun r ad' E' => r = 1 ∧ ∃ (cap : Nat) (h' : Nat → Option Nat), gFr (fun k i j => (k = 14 ∧ i = m ∧ j = 0) ∨ (k = 15 ∧ i = m ∧ j = 0) ∨ k = 21) ad E ad' E' ∧ ad' 14 m 0 = ad 14 m 0 ∧ E' 14 m 0 = some (.inr (0, [.int (mc + 1), .ref (ad' 15 m 0), .int (nI (10 + 1))])) ∧ (10 + 1 ≤ cap ∧ (cap = 10 ∨ cap = 15 ∨ cap = 22)) ∧ E' 15 m 0 = some (.inl (V.2.1 4, cap, .inr (.inr (.inr (.inr h'))))) ∧ (∀ i, i < 10 → h' i = some (ad 16 m i)) ∧ h' 10 = some (ad 16 m 10)) := by
  intro sz
  refine g_ofN (by decide) (Nat.le_of_ble_eq_true rfl) ?_
  intro p e s m_ below meth c ls hname hC hz hG hl
  have hx := hC.1
  have hb := hC.2.1
  have hl : lv_has ls 2 [(0, .ref (ad 14 m 0)), (1, .ref (ad 16 m 10))] := hl
  have a_14_m_0 : ad 14 m 0 = ad 14 m 0 := rfl
  have a_15_m_0 : ad 15 m 0 = ad 15 m 0 := rfl
  have a_16_m_10 : ad 16 m 10 = ad 16 m 10 := rfl
  have frw : gFr (fun k i j => (k = 14 ∧ i = m ∧ j = 0) ∨ (k = 15 ∧ i = m ∧ j = 0) ∨ k = 21) ad E ad E := gFr.rf
  have ua_el : ∀ i, i < 10 → ad 16 m i = ad 16 m i := fun _ _ => rfl
  refine lv_aload_n hx hb dJx4a65c_add_9ea2d_0 rfl (lv_at hl 0 rfl) ?_
  refine lv_dup hx hb dJx4a65c_add_9ea2d_1 rfl ?_
  refine gk_get hC hG a_14_m_0 e_14_m_0 rfl inlJx4a65c 0 (by decide) kf_RJx4a65c_63 (fun x9 h9 => u_same (hC.2.2.2.2.1 _ kw_7_18) x9 h9) rfl dJx4a65c_add_9ea2d_2 ?_
  refine lv_iconst (v := 1) hx hb dJx4a65c_add_9ea2d_5 (by decide) ?_
  refine lv_iadd hx hb dJx4a65c_add_9ea2d_6 ?_
  refine gk_put hC hG a_14_m_0 e_14_m_0 rfl inlJx4a65c tyJx4a65c tyJx4a65c_ok nmJx4a65c 0 (by decide) kf_RJx4a65c_63 (fun x9 h9 => u_same (hC.2.2.2.2.1 _ kw_7_18) x9 h9) rfl rfl rfl (Nat.le_of_ble_eq_true rfl) dJx4a65c_add_9ea2d_7 (fun E1 H locs (e_14_m_0 : E1 14 m 0 = some (.inr (0, [.int ((mc) + (1)), .ref (ad 15 m 0), .int (nI 10)]))) fr hG => ?_)
  have e_15_m_0 := (fr 15 m 0 (by omega)).1.trans e_15_m_0
  have e_16_m_10 := (fr 16 m 10 (by omega)).1.trans e_16_m_10
  have ue_el : ∀ i, i < 10 → ∃ vs, E1 16 m i = some (.inr (3, vs)) := fun i hi => let ⟨vs, h⟩ := ue_el i hi; ⟨vs, (fr 16 m i (by omega)).1.trans h⟩
  have ua_el := fun i (hi : i < 10) => (fr 16 m i (by omega)).2.trans (ua_el i hi)
  have frw := gFr.tr frw fr (fun k i j z => by omega)
  refine lv_aload_n hx hb dJx4a65c_add_9ea2d_10 rfl (lv_at hl 0 rfl) ?_
  refine lv_aload_n hx hb dJx4a65c_add_9ea2d_11 rfl (lv_at hl 1 rfl) ?_
  refine lv_aload_n hx hb dJx4a65c_add_9ea2d_12 rfl (lv_at hl 0 rfl) ?_
  refine gk_get hC hG a_14_m_0 e_14_m_0 rfl inlJx4a65c 1 (by decide) kf_RJx4a65c_9 (fun _ h => h) rfl dJx4a65c_add_9ea2d_13 ?_
  refine lv_aload_n hx hb dJx4a65c_add_9ea2d_16 rfl (lv_at hl 0 rfl) ?_
  refine gk_get hC hG a_14_m_0 e_14_m_0 rfl inlJx4a65c 2 (by decide) kf_RJx4a65c_48 (fun _ h => h) rfl dJx4a65c_add_9ea2d_17 ?_
  refine gc_Vv hC hG e_14_m_0 rfl (n_ad2_C10 l V ad E1 m h hel ue_el (mc + 1) vs e_14_m_0 e_15_m_0 e_16_m_10) km_RJx4a65c_131 kn_yJx4a65c_add_72be8 ks_yJx4a65c_add_72be8 kz_RJx4a65c kd_yJx4a65c_add_72be8 dn_Jx4a65c_add_72be8 (by rw [a_14_m_0]; rfl) hl.1 ⟨by decide, by decide⟩ (Nat.le_of_ble_eq_true rfl) ⟨Nat.le_of_ble_eq_true rfl, Nat.le_of_ble_eq_true rfl⟩ dJx4a65c_add_9ea2d_20 (fun ad2 E2 H locs p_20 hG hgr => ?_)
  obtain ⟨cap_, h_, fr, h2, e_1, hcc, e_2, h3, h4⟩ := p_20
  refine lv_iconst (v := 1) hx hb dJx4a65c_add_9ea2d_23 (by decide) ?_
  exact gq_zret hC hz hG (by decide) (⟨rfl, cap_, h_, gFr.tr frw fr (fun k i j z => by omega), h2.trans a_14_m_0, e_1, hcc, e_2, h3, h4⟩) (Nat.le_of_ble_eq_true rfl) (Nat.le_of_ble_eq_true rfl) dJx4a65c_add_9ea2d_24
set_option maxHeartbeats 4000000 in
set_option maxRecDepth 100000 in
theorem n_ad2_C15 (l : Launch) (V : gV) (ad : gA) (E : gE) (m : Nat) (h : Nat → Option Nat) (hel : ∀ i, i < 15 → h i = some (ad 16 m i)) (ue_el : ∀ i, i < 15 → ∃ vs, E 16 m i = some (.inr (3, vs))) (mc : Int32) (vs : List Value)  (e_14_m_0 : E 14 m 0 = some (.inr (0, [.int mc, .ref (ad 15 m 0), .int (nI 15)]))) (e_15_m_0 : E 15 m 0 = some (.inl (V.2.1 4, 15, .inr (.inr (.inr (.inr (h))))))) (e_16_m_15 : E 16 m 15 = some (.inr (3, vs))) : gMv l yJx4a65c_add_72be8 cJx4a65c_add_72be8 4 none ({ frames := 5, cells := 1, slots := 22, locals := 135 } : Room) [.ref (ad 14 m 0), .ref (ad 16 m 15), .ref (ad 15 m 0), .int (nI 15)] V ad E (fun ad' E' => ∃ (cap : Nat) (h' : Nat → Option Nat), gFr (fun k i j => (k = 14 ∧ i = m ∧ j = 0) ∨ (k = 15 ∧ i = m ∧ j = 0) ∨ k = 21) ad E ad' E' ∧ ad' 14 m 0 = ad 14 m 0 ∧ E' 14 m 0 = some (.inr (0, [.int mc, .ref (ad' 15 m 0), .int (nI (15 + 1))])) ∧ (15 + 1 ≤ cap ∧ (cap = 10 ∨ cap = 15 ∨ cap = 22)) ∧ E' 15 m 0 = some (.inl (V.2.1 4, cap, .inr (.inr (.inr (.inr h'))))) ∧ (∀ i, i < 15 → h' i = some (ad 16 m i)) ∧ h' 15 = some (ad 16 m 15)) := by
  intro sz
  refine g_ofN (by decide) (Nat.le_of_ble_eq_true rfl) ?_
  intro p e s m_ below meth c ls hname hC hz hG hl
  have hx := hC.1
  have hb := hC.2.1
  have hl : lv_has ls 4 [(0, .ref (ad 14 m 0)), (1, .ref (ad 16 m 15)), (2, .ref (ad 15 m 0)), (3, .int (nI 15))] := hl
  have a_14_m_0 : ad 14 m 0 = ad 14 m 0 := rfl
  have a_15_m_0 : ad 15 m 0 = ad 15 m 0 := rfl
  have a_16_m_15 : ad 16 m 15 = ad 16 m 15 := rfl
  have frw : gFr (fun k i j => (k = 14 ∧ i = m ∧ j = 0) ∨ (k = 15 ∧ i = m ∧ j = 0) ∨ k = 21) ad E ad E := gFr.rf
  refine lv_iload_n hx hb dJx4a65c_add_72be8_0 rfl (lv_at hl 3 rfl) ?_
  refine lv_aload_n hx hb dJx4a65c_add_72be8_1 rfl (lv_at hl 2 rfl) ?_
  refine gk_alen hC hG a_15_m_0 e_15_m_0 dJx4a65c_add_72be8_2 ?_
  refine gn_icmp_ne (tgt := 11) hx hb (by decide) (by decide) dJx4a65c_add_72be8_3 (by decide) (fun c_3 => absurd c_3 (by decide)) (fun c_3 => ?_)
  refine lv_aload_n hx hb dJx4a65c_add_72be8_6 rfl (lv_at hl 0 rfl) ?_
  refine gc_Vr hC hG e_14_m_0 rfl (n_gr_C15 l V ad E m h hel ue_el mc e_14_m_0 e_15_m_0) km_RJx4a65c_129 kn_yJx4a65c_grow_d5877 ks_yJx4a65c_grow_d5877 kz_RJx4a65c kd_yJx4a65c_grow_d5877 dn_Jx4a65c_grow_d5877 (by rw [a_14_m_0]; rfl) hl.1 ⟨by decide, by decide⟩ (Nat.le_of_ble_eq_true rfl) ⟨Nat.le_of_ble_eq_true rfl, Nat.le_of_ble_eq_true rfl⟩ dJx4a65c_add_72be8_7 (fun r_7 ad1 E1 H locs p_7 hG hgr => ?_)
  obtain ⟨q_7, fr, h2, e_14_m_0, e_21_0_0⟩ := p_7
  have a_21_0_0 := q_7.symm
  have a_14_m_0 := h2.trans a_14_m_0
  have e_15_m_0 := (fr 15 m 0 (by omega)).1.trans e_15_m_0
  have a_15_m_0 := (fr 15 m 0 (by omega)).2.trans a_15_m_0
  have e_16_m_15 := (fr 16 m 15 (by omega)).1.trans e_16_m_15
  have a_16_m_15 := (fr 16 m 15 (by omega)).2.trans a_16_m_15
  have frw := gFr.tr frw fr (fun k i j z => by omega)
  refine lv_astore_n (lv' := [(2, .ref r_7), (0, .ref (ad 14 m 0)), (1, .ref (ad 16 m 15)), (3, .int (nI 15))]) hx hb dJx4a65c_add_72be8_10 rfl hl (by decide) rfl (fun ls hl => ?_)
  refine lv_aload_n hx hb dJx4a65c_add_72be8_11 rfl (lv_at hl 0 rfl) ?_
  refine lv_iload_n hx hb dJx4a65c_add_72be8_12 rfl (lv_at hl 3 rfl) ?_
  refine lv_aload_n hx hb dJx4a65c_add_72be8_13 rfl (lv_at hl 2 rfl) ?_
  refine gk_ast hC hG (t0 := 4) a_21_0_0 e_21_0_0 rfl a_16_m_15 e_16_m_15 rfl (Or.inr (by decide +kernel)) (vp_in_nI (n := 15) (by decide) (by decide)) dJx4a65c_add_72be8_14 (fun E2 H locs (e_21_0_0 : _) fr hG => ?_)
  have e_14_m_0 := (fr 14 m 0 (by omega)).1.trans e_14_m_0
  have e_15_m_0 := (fr 15 m 0 (by omega)).1.trans e_15_m_0
  have e_16_m_15 := (fr 16 m 15 (by omega)).1.trans e_16_m_15
  have frw := gFr.tr frw fr (fun k i j z => by omega)
  rw [show (nI 15).toNatClampNeg = 15 from nI_clamp (by decide)] at e_21_0_0
  refine lv_aload_n hx hb dJx4a65c_add_72be8_15 rfl (lv_at hl 1 rfl) ?_
  refine lv_iload_n hx hb dJx4a65c_add_72be8_16 rfl (lv_at hl 3 rfl) ?_
  refine lv_iconst (v := 1) hx hb dJx4a65c_add_72be8_17 (by decide) ?_
  refine lv_iadd hx hb dJx4a65c_add_72be8_18 ?_
  refine gq_top (nI (15 + 1)) (nI_1 15) ?_
  refine gk_put hC hG a_14_m_0 e_14_m_0 rfl inlJx4a65c tyJx4a65c tyJx4a65c_ok nmJx4a65c 2 (by decide) kf_RJx4a65c_48 (fun _ h => h) rfl rfl rfl (Nat.le_of_ble_eq_true rfl) dJx4a65c_add_72be8_19 (fun E3 H locs (e_14_m_0 : E3 14 m 0 = some (.inr (0, [.int mc, .ref r_7, .int (nI (15 + 1))]))) fr hG => ?_)
  have e_15_m_0 := (fr 15 m 0 (by omega)).1.trans e_15_m_0
  have e_16_m_15 := (fr 16 m 15 (by omega)).1.trans e_16_m_15
  have e_21_0_0 := (fr 21 0 0 (by omega)).1.trans e_21_0_0
  have frw := gFr.tr frw fr (fun k i j z => by omega)
  obtain ⟨adr, Er, ha, he, fr, hG⟩ := gW.re (ke := 15) (il := m) (by decide) hG
  have e_14_m_0 := (fr 14 m 0 (by omega)).1.trans e_14_m_0
  have a_14_m_0 := (fr 14 m 0 (by omega)).2.trans a_14_m_0
  have e_15_m_0 := he.trans e_21_0_0
  have a_15_m_0 := ha.trans a_21_0_0
  have frw := gFr.tr frw fr (fun k i j z => by omega)
  exact gq_vret hC hz hG (⟨22, _, frw, a_14_m_0, by rw [a_15_m_0]; exact e_14_m_0, ⟨by omega, by decide⟩, e_15_m_0, fun i hi => by rw [va_up_ne _ _ (by omega), if_pos hi]; exact hel i hi, va_up_self _ _ _⟩) (Nat.le_of_ble_eq_true rfl) (Nat.le_of_ble_eq_true rfl) dJx4a65c_add_72be8_22
set_option maxHeartbeats 4000000 in
set_option maxRecDepth 100000 in
theorem n_add_C15 (l : Launch) (V : gV) (ad : gA) (E : gE) (m : Nat) (h : Nat → Option Nat) (hel : ∀ i, i < 15 → h i = some (ad 16 m i)) (ue_el : ∀ i, i < 15 → ∃ vs, E 16 m i = some (.inr (3, vs))) (mc : Int32) (vs : List Value)  (e_14_m_0 : E 14 m 0 = some (.inr (0, [.int mc, .ref (ad 15 m 0), .int (nI 15)]))) (e_15_m_0 : E 15 m 0 = some (.inl (V.2.1 4, 15, .inr (.inr (.inr (.inr (h))))))) (e_16_m_15 : E 16 m 15 = some (.inr (3, vs))) : gMi l yJx4a65c_add_9ea2d cJx4a65c_add_9ea2d 2 (some .boolean) ({ frames := 6, cells := 1, slots := 22, locals := 160 } : Room) [.ref (ad 14 m 0), .ref (ad 16 m 15)] V ad E (fun r ad' E' => r = 1 ∧ ∃ (cap : Nat) (h' : Nat → Option Nat), gFr (fun k i j => (k = 14 ∧ i = m ∧ j = 0) ∨ (k = 15 ∧ i = m ∧ j = 0) ∨ k = 21) ad E ad' E' ∧ ad' 14 m 0 = ad 14 m 0 ∧ E' 14 m 0 = some (.inr (0, [.int (mc + 1), .ref (ad' 15 m 0), .int (nI (15 + 1))])) ∧ (15 + 1 ≤ cap ∧ (cap = 10 ∨ cap = 15 ∨ cap = 22)) ∧ E' 15 m 0 = some (.inl (V.2.1 4, cap, .inr (.inr (.inr (.inr h'))))) ∧ (∀ i, i < 15 → h' i = some (ad 16 m i)) ∧ h' 15 = some (ad 16 m 15)) := by
  intro sz
  refine g_ofN (by decide) (Nat.le_of_ble_eq_true rfl) ?_
  intro p e s m_ below meth c ls hname hC hz hG hl
  have hx := hC.1
  have hb := hC.2.1
  have hl : lv_has ls 2 [(0, .ref (ad 14 m 0)), (1, .ref (ad 16 m 15))] := hl
  have a_14_m_0 : ad 14 m 0 = ad 14 m 0 := rfl
  have a_15_m_0 : ad 15 m 0 = ad 15 m 0 := rfl
  have a_16_m_15 : ad 16 m 15 = ad 16 m 15 := rfl
  have frw : gFr (fun k i j => (k = 14 ∧ i = m ∧ j = 0) ∨ (k = 15 ∧ i = m ∧ j = 0) ∨ k = 21) ad E ad E := gFr.rf
  have ua_el : ∀ i, i < 15 → ad 16 m i = ad 16 m i := fun _ _ => rfl
  refine lv_aload_n hx hb dJx4a65c_add_9ea2d_0 rfl (lv_at hl 0 rfl) ?_
  refine lv_dup hx hb dJx4a65c_add_9ea2d_1 rfl ?_
  refine gk_get hC hG a_14_m_0 e_14_m_0 rfl inlJx4a65c 0 (by decide) kf_RJx4a65c_63 (fun x9 h9 => u_same (hC.2.2.2.2.1 _ kw_7_18) x9 h9) rfl dJx4a65c_add_9ea2d_2 ?_
  refine lv_iconst (v := 1) hx hb dJx4a65c_add_9ea2d_5 (by decide) ?_
  refine lv_iadd hx hb dJx4a65c_add_9ea2d_6 ?_
  refine gk_put hC hG a_14_m_0 e_14_m_0 rfl inlJx4a65c tyJx4a65c tyJx4a65c_ok nmJx4a65c 0 (by decide) kf_RJx4a65c_63 (fun x9 h9 => u_same (hC.2.2.2.2.1 _ kw_7_18) x9 h9) rfl rfl rfl (Nat.le_of_ble_eq_true rfl) dJx4a65c_add_9ea2d_7 (fun E1 H locs (e_14_m_0 : E1 14 m 0 = some (.inr (0, [.int ((mc) + (1)), .ref (ad 15 m 0), .int (nI 15)]))) fr hG => ?_)
  have e_15_m_0 := (fr 15 m 0 (by omega)).1.trans e_15_m_0
  have e_16_m_15 := (fr 16 m 15 (by omega)).1.trans e_16_m_15
  have ue_el : ∀ i, i < 15 → ∃ vs, E1 16 m i = some (.inr (3, vs)) := fun i hi => let ⟨vs, h⟩ := ue_el i hi; ⟨vs, (fr 16 m i (by omega)).1.trans h⟩
  have ua_el := fun i (hi : i < 15) => (fr 16 m i (by omega)).2.trans (ua_el i hi)
  have frw := gFr.tr frw fr (fun k i j z => by omega)
  refine lv_aload_n hx hb dJx4a65c_add_9ea2d_10 rfl (lv_at hl 0 rfl) ?_
  refine lv_aload_n hx hb dJx4a65c_add_9ea2d_11 rfl (lv_at hl 1 rfl) ?_
  refine lv_aload_n hx hb dJx4a65c_add_9ea2d_12 rfl (lv_at hl 0 rfl) ?_
  refine gk_get hC hG a_14_m_0 e_14_m_0 rfl inlJx4a65c 1 (by decide) kf_RJx4a65c_9 (fun _ h => h) rfl dJx4a65c_add_9ea2d_13 ?_
  refine lv_aload_n hx hb dJx4a65c_add_9ea2d_16 rfl (lv_at hl 0 rfl) ?_
  refine gk_get hC hG a_14_m_0 e_14_m_0 rfl inlJx4a65c 2 (by decide) kf_RJx4a65c_48 (fun _ h => h) rfl dJx4a65c_add_9ea2d_17 ?_
  refine gc_Vv hC hG e_14_m_0 rfl (n_ad2_C15 l V ad E1 m h hel ue_el (mc + 1) vs e_14_m_0 e_15_m_0 e_16_m_15) km_RJx4a65c_131 kn_yJx4a65c_add_72be8 ks_yJx4a65c_add_72be8 kz_RJx4a65c kd_yJx4a65c_add_72be8 dn_Jx4a65c_add_72be8 (by rw [a_14_m_0]; rfl) hl.1 ⟨by decide, by decide⟩ (Nat.le_of_ble_eq_true rfl) ⟨Nat.le_of_ble_eq_true rfl, Nat.le_of_ble_eq_true rfl⟩ dJx4a65c_add_9ea2d_20 (fun ad2 E2 H locs p_20 hG hgr => ?_)
  obtain ⟨cap_, h_, fr, h2, e_1, hcc, e_2, h3, h4⟩ := p_20
  refine lv_iconst (v := 1) hx hb dJx4a65c_add_9ea2d_23 (by decide) ?_
  exact gq_zret hC hz hG (by decide) (⟨rfl, cap_, h_, gFr.tr frw fr (fun k i j z => by omega), h2.trans a_14_m_0, e_1, hcc, e_2, h3, h4⟩) (Nat.le_of_ble_eq_true rfl) (Nat.le_of_ble_eq_true rfl) dJx4a65c_add_9ea2d_24
theorem n_add_C (l : Launch) (V : gV) (ad : gA) (E : gE) (m : Nat) (n : Nat) (hn : n < 20) (vs : List Value) (hL : lstOK V ad E 14 m 15 n (fun i => ad 16 m i)) (ue_el : ∀ i, i < n → ∃ vs, E 16 m i = some (.inr (3, vs))) (e_x : E 16 m n = some (.inr (3, vs))) : gMi l yJx4a65c_add_9ea2d cJx4a65c_add_9ea2d 2 (some .boolean) ({ frames := 6, cells := 1, slots := 22, locals := 160 } : Room) [.ref (ad 14 m 0), .ref (ad 16 m n)] V ad E (fun r ad' E' => r = 1 ∧ gFr (fun k i j => (k = 14 ∧ i = m ∧ j = 0) ∨ (k = 15 ∧ i = m ∧ j = 0) ∨ k = 21) ad E ad' E' ∧ ad' 14 m 0 = ad 14 m 0 ∧ lstOK V ad' E' 14 m 15 (n + 1) (fun i => ad 16 m i)) := by
  have key : ∀ (mc : Int32) (r : Int32) (ad' : gA) (E' : gE), (r = 1 ∧ ∃ (cap : Nat) (h' : Nat → Option Nat), gFr (fun k i j => (k = 14 ∧ i = m ∧ j = 0) ∨ (k = 15 ∧ i = m ∧ j = 0) ∨ k = 21) ad E ad' E' ∧ ad' 14 m 0 = ad 14 m 0 ∧ E' 14 m 0 = some (.inr (0, [.int (mc + 1), .ref (ad' 15 m 0), .int (nI (n + 1))])) ∧ (n + 1 ≤ cap ∧ (cap = 10 ∨ cap = 15 ∨ cap = 22)) ∧ E' 15 m 0 = some (.inl (V.2.1 4, cap, .inr (.inr (.inr (.inr h'))))) ∧ (∀ i, i < n → h' i = some (ad 16 m i)) ∧ h' n = some (ad 16 m n)) → (r = 1 ∧ gFr (fun k i j => (k = 14 ∧ i = m ∧ j = 0) ∨ (k = 15 ∧ i = m ∧ j = 0) ∨ k = 21) ad E ad' E' ∧ ad' 14 m 0 = ad 14 m 0 ∧ lstOK V ad' E' 14 m 15 (n + 1) (fun i => ad 16 m i)) := by
    rintro mc r ad' E' ⟨h0, cap, h', h1, h2, h3, h4, h5, h6, h7⟩
    refine ⟨h0, h1, h2, mc + 1, ad' 15 m 0, h3, Or.inr ⟨rfl, cap, h', h4.1, h4.2, h5, fun i hi => ?_⟩⟩
    by_cases e : i = n
    · subst e
      exact h7
    · exact h6 i (by omega)
  have up : ∀ (mc : Int32), gMi l yJx4a65c_add_9ea2d cJx4a65c_add_9ea2d 2 (some .boolean) ({ frames := 6, cells := 1, slots := 22, locals := 160 } : Room) [.ref (ad 14 m 0), .ref (ad 16 m n)] V ad E (fun r ad' E' => r = 1 ∧ ∃ (cap : Nat) (h' : Nat → Option Nat), gFr (fun k i j => (k = 14 ∧ i = m ∧ j = 0) ∨ (k = 15 ∧ i = m ∧ j = 0) ∨ k = 21) ad E ad' E' ∧ ad' 14 m 0 = ad 14 m 0 ∧ E' 14 m 0 = some (.inr (0, [.int (mc + 1), .ref (ad' 15 m 0), .int (nI (n + 1))])) ∧ (n + 1 ≤ cap ∧ (cap = 10 ∨ cap = 15 ∨ cap = 22)) ∧ E' 15 m 0 = some (.inl (V.2.1 4, cap, .inr (.inr (.inr (.inr h'))))) ∧ (∀ i, i < n → h' i = some (ad 16 m i)) ∧ h' n = some (ad 16 m n)) → gMi l yJx4a65c_add_9ea2d cJx4a65c_add_9ea2d 2 (some .boolean) ({ frames := 6, cells := 1, slots := 22, locals := 160 } : Room) [.ref (ad 14 m 0), .ref (ad 16 m n)] V ad E (fun r ad' E' => r = 1 ∧ gFr (fun k i j => (k = 14 ∧ i = m ∧ j = 0) ∨ (k = 15 ∧ i = m ∧ j = 0) ∨ k = 21) ad E ad' E' ∧ ad' 14 m 0 = ad 14 m 0 ∧ lstOK V ad' E' 14 m 15 (n + 1) (fun i => ad 16 m i)) := fun mc h sz => (h sz).mono (fun a st o t q => by
    obtain ⟨⟨r, u, h1, h2, h5⟩, h6⟩ := q
    exact ⟨⟨r, u, h1, key mc r u.1 u.2 h2, h5⟩, h6⟩)
  obtain ⟨mc, el, hk, hc⟩ := hL
  rcases hc with ⟨h0, h1⟩ | ⟨h1, cap, h, h2, h3, h4, h5⟩
  · subst h0
    subst h1
    exact up mc (n_add_CE l V ad E m mc vs hk e_x)
  · subst h1
    by_cases e : n < cap
    · exact up mc (n_add_CR l V ad E m n cap e h3 h h5 mc vs hk h4 e_x)
    · have e2 : n = cap := by omega
      subst e2
      rcases h3 with h3 | h3 | h3
      · subst h3
        exact up mc (n_add_C10 l V ad E m h h5 ue_el mc vs hk h4 e_x)
      · subst h3
        exact up mc (n_add_C15 l V ad E m h h5 ue_el mc vs hk h4 e_x)
      · omega
