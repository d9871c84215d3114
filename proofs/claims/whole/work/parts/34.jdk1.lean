theorem Met.mono {l : Launch} {y : MethodName} {ws : List Cond} {rm : Room} {Pc : Array Value → State → Prop} {Qc Qc2 : Array Value → State → Outcome → State → Prop} {mc ms : Nat} {free : Addr → Prop} (h : Met l y ws rm Pc Qc mc ms free) (hq : ∀ a st o t, Qc a st o t → Qc2 a st o t) : Met l y ws rm Pc Qc2 mc ms free := by
  intro p e ha hc hk s m args below hf happ hP hT
  obtain ⟨k, oc, h1, h2, h3, h4, h5⟩ := h p e ha hc hk s m args below hf happ hP hT
  exact ⟨k, oc, h1, h2, h3, hq _ _ _ _ h4, h5⟩
theorem k_up {l : Launch} {y : MethodName} {ws : List Cond} {rm : Room} {Pc : Array Value → State → Prop} {V : gV} {ad : gA} {E : gE} {T : rS} {sz mc ms : Nat} {free : Addr → Prop} {r0 : Int32} (h : Met l y ws rm Pc (gQi (fun r ad2 E2 => ad2 = ad ∧ E2 = E ∧ r = r0) V ad E sz) mc ms free) (hO : cmOK V ad T E) : Met l y ws rm Pc (gQi (kPi (fun r T2 => r = r0 ∧ T2 = T) V ad E) V ad E sz) mc ms free := by
  refine h.mono (fun a st o t q => ?_)
  obtain ⟨⟨r, u, h1, ⟨h2, h3, h4⟩, h5⟩, h6⟩ := q
  exact ⟨⟨r, u, h1, ⟨h2, by rw [h3]; exact cmX.rf, T, by rw [h3]; exact hO, h4, rfl⟩, h5⟩, h6⟩
theorem k_upr {l : Launch} {y : MethodName} {ws : List Cond} {rm : Room} {Pc : Array Value → State → Prop} {V : gV} {ad : gA} {E : gE} {T : rS} {sz mc ms : Nat} {free : Addr → Prop} {r0 : Nat} (h : Met l y ws rm Pc (gQr (fun r ad2 E2 => ad2 = ad ∧ E2 = E ∧ r = r0) V ad E sz) mc ms free) (hO : cmOK V ad T E) : Met l y ws rm Pc (gQr (kPr (fun r T2 => r = r0 ∧ T2 = T) V ad E) V ad E sz) mc ms free := by
  refine h.mono (fun a st o t q => ?_)
  obtain ⟨⟨u, r, h1, -, ⟨h2, h3, h4⟩, h5⟩, h6⟩ := q
  exact ⟨⟨u, r, h1, trivial, ⟨h2, by rw [h3]; exact cmX.rf, T, by rw [h3]; exact hO, h4, rfl⟩, h5⟩, h6⟩
set_option maxHeartbeats 4000000 in
set_option maxRecDepth 100000 in
theorem cJ3_checkIndex (l : Launch) (V : gV) (ad : gA) (E : gE) (x n : Nat) (hxn : x < n) (hn : n < 2 ^ 31) : gMi l yJ3_checkIndex_8e157 cJ3_checkIndex_8e157 3 (some .int) ({ frames := 0, cells := 0, slots := 0, locals := 0 } : Room) [.int (nI x), .int (nI n), .null] V ad E (fun r ad2 E2 => ad2 = ad ∧ E2 = E ∧ r = nI x) := by
  refine gMi.of (by decide) (Nat.le_of_ble_eq_true rfl) ?_
  intro sz p e s m_ below meth c ls hC hz hG hl
  have hx := hC.1
  have hb := hC.2.1
  have hl : lv_has ls 3 [(0, .int (nI x)), (1, .int (nI n)), (2, .null)] := hl
  refine lv_iload_n hx hb dJ3_checkIndex_8e157_0 rfl (lv_at hl 0 rfl) ?_
  refine lv_if_lt (tgt := 9) hx hb dJ3_checkIndex_8e157_1 (by decide) (fun c_1 => absurd c_1 (nI_pos (by omega))) (fun c_1 => ?_)
  refine lv_iload_n hx hb dJ3_checkIndex_8e157_4 rfl (lv_at hl 0 rfl) ?_
  refine lv_iload_n hx hb dJ3_checkIndex_8e157_5 rfl (lv_at hl 1 rfl) ?_
  refine gn_icmp_lt (tgt := 16) hx hb (by omega) (by omega) dJ3_checkIndex_8e157_6 (by decide) (fun c_6 => ?_) (fun c_6 => absurd c_6 (by omega))
  refine lv_iload_n hx hb dJ3_checkIndex_8e157_16 rfl (lv_at hl 0 rfl) ?_
  exact gq_iret hC hz hG (⟨rfl, rfl, rfl⟩) (by decide) (by decide) dJ3_checkIndex_8e157_17
set_option maxHeartbeats 4000000 in
set_option maxRecDepth 100000 in
theorem cJ15_checkIndex (l : Launch) (V : gV) (ad : gA) (E : gE) (x n : Nat) (hxn : x < n) (hn : n < 2 ^ 31) : gMi l yJ15_checkIndex_7cf53 cJ15_checkIndex_7cf53 2 (some .int) ({ frames := 1, cells := 0, slots := 0, locals := 22 } : Room) [.int (nI x), .int (nI n)] V ad E (fun r ad2 E2 => ad2 = ad ∧ E2 = E ∧ r = nI x) := by
  refine gMi.of (by decide) (Nat.le_of_ble_eq_true rfl) ?_
  intro sz p e s m_ below meth c ls hC hz hG hl
  have hx := hC.1
  have hb := hC.2.1
  have hl : lv_has ls 2 [(0, .int (nI x)), (1, .int (nI n))] := hl
  refine lv_iload_n hx hb dJ15_checkIndex_7cf53_0 rfl (lv_at hl 0 rfl) ?_
  refine lv_iload_n hx hb dJ15_checkIndex_7cf53_1 rfl (lv_at hl 1 rfl) ?_
  refine lv_null hx hb dJ15_checkIndex_7cf53_2 ?_
  refine gc_Si hC hG (cJ3_checkIndex l V ad E x n hxn hn) km_RJ15_105 kst_yJ3_checkIndex_8e157 kz_RJ3 kd_yJ3_checkIndex_8e157 dn_J3_checkIndex_8e157.2 rfl hl.1 ⟨by decide, by decide⟩ (Nat.le_of_ble_eq_true rfl) ⟨by decide, by decide⟩ dJ15_checkIndex_7cf53_3 (fun r_3 ad_3 E_3 H locs p_3 hG z_3 => ?_)
  obtain ⟨a_3, b_3, q_3⟩ := p_3
  subst a_3
  subst b_3
  rw [q_3]
  exact gq_iret hC hz hG (⟨rfl, rfl, rfl⟩) (by decide) (by decide) dJ15_checkIndex_7cf53_6
set_option maxHeartbeats 4000000 in
set_option maxRecDepth 100000 in
theorem cJ_size0 (l : Launch) (V : gV) (ad : gA) (E : gE) (kl il n el : Nat) (mc : Int32) (hL : E kl il 0 = some (.inr (0, [.int mc, .ref el, .int (nI n)]))) : gMi l yJx4a65c_size_8abf5 cJx4a65c_size_8abf5 1 (some .int) ({ frames := 0, cells := 0, slots := 0, locals := 0 } : Room) [.ref (ad kl il 0)] V ad E (fun r ad2 E2 => ad2 = ad ∧ E2 = E ∧ r = nI n) := by
  refine gMi.of (by decide) (Nat.le_of_ble_eq_true rfl) ?_
  intro sz p e s m_ below meth c ls hC hz hG hl
  have hx := hC.1
  have hb := hC.2.1
  have hl : lv_has ls 1 [(0, .ref (ad kl il 0))] := hl
  refine lv_aload_n hx hb dJx4a65c_size_8abf5_0 rfl (lv_at hl 0 rfl) ?_
  refine gq_get hC hG hL rfl inlJx4a65c 2 (by decide) kf_RJx4a65c_48 (fun _ h => h) rfl dJx4a65c_size_8abf5_1 ?_
  exact gq_iret hC hz hG (⟨rfl, rfl, rfl⟩) (by decide) (by decide) dJx4a65c_size_8abf5_4
set_option maxHeartbeats 4000000 in
set_option maxRecDepth 100000 in
theorem cJ_elem (l : Launch) (V : gV) (ad : gA) (E : gE) (kl il ke n cap : Nat) (mc : Int32) (h : Nat → Option Nat) (hL : E kl il 0 = some (.inr (0, [.int mc, .ref (ad ke il 0), .int (nI n)]))) (hE : E ke il 0 = some (.inl (V.2.1 4, cap, .inr (.inr (.inr (.inr h)))))) (hcap : n ≤ cap) (hc22 : cap ≤ 22) (x a : Nat) (hxn : x < n) (ha : h x = some a) : gMr l yJx4a65c_elementData_915e3 cJx4a65c_elementData_915e3 2 (some (.object "java/lang/Object")) ({ frames := 0, cells := 0, slots := 0, locals := 0 } : Room) [.ref (ad kl il 0), .int (nI x)] V ad E (fun r ad2 E2 => ad2 = ad ∧ E2 = E ∧ r = a) := by
  refine gMr.of (by decide) (Nat.le_of_ble_eq_true rfl) ?_
  intro sz p e s m_ below meth c ls hC hz hG hl
  have hx := hC.1
  have hb := hC.2.1
  have hl : lv_has ls 2 [(0, .ref (ad kl il 0)), (1, .int (nI x))] := hl
  refine lv_aload_n hx hb dJx4a65c_elementData_915e3_0 rfl (lv_at hl 0 rfl) ?_
  refine gq_get hC hG hL rfl inlJx4a65c 1 (by decide) kf_RJx4a65c_9 (fun _ h => h) rfl dJx4a65c_elementData_915e3_1 ?_
  refine lv_iload_n hx hb dJx4a65c_elementData_915e3_4 rfl (lv_at hl 1 rfl) ?_
  refine gq_aldq hC hG hE (t0 := 4) rfl (vp_in_nI (by omega) (by omega)) dJx4a65c_elementData_915e3_5 ?_
  rw [nI_clamp (by omega), ha]
  exact gq_aret hC (Or.inl ⟨_, rfl⟩) hz hG (⟨rfl, rfl, rfl⟩) (by decide) (by decide) dJx4a65c_elementData_915e3_6
set_option maxHeartbeats 4000000 in
set_option maxRecDepth 100000 in
theorem cJ_get0 (l : Launch) (V : gV) (ad : gA) (E : gE) (kl il ke n cap : Nat) (mc : Int32) (h : Nat → Option Nat) (hL : E kl il 0 = some (.inr (0, [.int mc, .ref (ad ke il 0), .int (nI n)]))) (hE : E ke il 0 = some (.inl (V.2.1 4, cap, .inr (.inr (.inr (.inr h)))))) (hcap : n ≤ cap) (hc22 : cap ≤ 22) (x a : Nat) (hxn : x < n) (ha : h x = some a) : gMr l yJx4a65c_get_915e3 cJx4a65c_get_915e3 2 (some (.object "java/lang/Object")) ({ frames := 2, cells := 0, slots := 0, locals := 43 } : Room) [.ref (ad kl il 0), .int (nI x)] V ad E (fun r ad2 E2 => ad2 = ad ∧ E2 = E ∧ r = a) := by
  refine gMr.of (by decide) (Nat.le_of_ble_eq_true rfl) ?_
  intro sz p e s m_ below meth c ls hC hz hG hl
  have hx := hC.1
  have hb := hC.2.1
  have hl : lv_has ls 2 [(0, .ref (ad kl il 0)), (1, .int (nI x))] := hl
  refine lv_iload_n hx hb dJx4a65c_get_915e3_0 rfl (lv_at hl 1 rfl) ?_
  refine lv_aload_n hx hb dJx4a65c_get_915e3_1 rfl (lv_at hl 0 rfl) ?_
  refine gq_get hC hG hL rfl inlJx4a65c 2 (by decide) kf_RJx4a65c_48 (fun _ h => h) rfl dJx4a65c_get_915e3_2 ?_
  refine gc_Si hC hG (cJ15_checkIndex l V ad E x n hxn (by omega)) km_RJx4a65c_118 kst_yJ15_checkIndex_7cf53 kz_RJ15 kd_yJ15_checkIndex_7cf53 dn_J15_checkIndex_7cf53.2 rfl hl.1 ⟨by decide, by decide⟩ (Nat.le_of_ble_eq_true rfl) ⟨by decide, by decide⟩ dJx4a65c_get_915e3_5 (fun r_5 ad_5 E_5 H locs p_5 hG z_5 => ?_)
  obtain ⟨a_5, b_5, q_5⟩ := p_5
  subst a_5
  subst b_5
  refine lv_pop hx hb dJx4a65c_get_915e3_8 rfl ?_
  refine lv_aload_n hx hb dJx4a65c_get_915e3_9 rfl (lv_at hl 0 rfl) ?_
  refine lv_iload_n hx hb dJx4a65c_get_915e3_10 rfl (lv_at hl 1 rfl) ?_
  refine gc_Vr hC hG hL rfl (cJ_elem l V ad_5 E_5 kl il ke n cap mc h hL hE hcap hc22 x a hxn ha) km_RJx4a65c_123 kn_yJx4a65c_elementData_915e3 ks_yJx4a65c_elementData_915e3 kz_RJx4a65c kd_yJx4a65c_elementData_915e3 dn_Jx4a65c_elementData_915e3 rfl hl.1 ⟨by decide, by decide⟩ (Nat.le_of_ble_eq_true rfl) ⟨by decide, by decide⟩ dJx4a65c_get_915e3_11 (fun r_11 ad_11 E_11 H locs p_11 hG z_11 => ?_)
  obtain ⟨a_11, b_11, q_11⟩ := p_11
  subst a_11
  subst b_11
  rw [q_11]
  exact gq_aret hC (Or.inl ⟨_, rfl⟩) hz hG (⟨rfl, rfl, rfl⟩) (by decide) (by decide) dJx4a65c_get_915e3_14
theorem kc_size_ml (l : Launch) (V : gV) (ad : gA) (T : rS) : kMi l yJx4a65c_size_8abf5 cJx4a65c_size_8abf5 1 (some .int) ({ frames := 0, cells := 0, slots := 0, locals := 0 } : Room) [.ref (ad 2 0 0)] V ad T (fun r T2 => r = nI (cnm T) ∧ T2 = T) := by
  intro E hO sz
  obtain ⟨mc, el, h, -⟩ := hO.2.2.2.2.2.2.2.2.2.2.2.1
  exact k_up (cJ_size0 l V ad E 2 0 (cnm T) el mc h sz) hO
theorem kc_size_cl (l : Launch) (V : gV) (ad : gA) (T : rS) {m : Nat} (hm : m < cnm T) : kMi l yJx4a65c_size_8abf5 cJx4a65c_size_8abf5 1 (some .int) ({ frames := 0, cells := 0, slots := 0, locals := 0 } : Room) [.ref (ad 14 m 0)] V ad T (fun r T2 => r = nI (csz T m) ∧ T2 = T) := by
  intro E hO sz
  obtain ⟨mc, el, h, -⟩ := hO.2.2.2.2.2.2.2.2.2.2.2.2.2.1 m hm
  exact k_up (cJ_size0 l V ad E 14 m (csz T m) el mc h sz) hO
theorem kc_get_ml (l : Launch) (V : gV) (ad : gA) (T : rS) {x : Nat} (hx : x < cnm T) : kMr l yJx4a65c_get_915e3 cJx4a65c_get_915e3 2 (some (.object "java/lang/Object")) ({ frames := 2, cells := 0, slots := 0, locals := 43 } : Room) [.ref (ad 2 0 0), .int (nI x)] V ad T (fun r T2 => r = ad 13 x 0 ∧ T2 = T) := by
  intro E hO sz
  obtain ⟨mc, el, h, ⟨z, -⟩ | ⟨h1, cap, hh, h2, h3, h4, h5⟩⟩ := hO.2.2.2.2.2.2.2.2.2.2.2.1
  · omega
  · subst h1
    exact k_upr (cJ_get0 l V ad E 2 0 9 (cnm T) cap mc hh h h4 h2 (by omega) x _ hx (h5 x hx) sz) hO
theorem kc_get_cl (l : Launch) (V : gV) (ad : gA) (T : rS) {m x : Nat} (hm : m < cnm T) (hx : x < csz T m) : kMr l yJx4a65c_get_915e3 cJx4a65c_get_915e3 2 (some (.object "java/lang/Object")) ({ frames := 2, cells := 0, slots := 0, locals := 43 } : Room) [.ref (ad 14 m 0), .int (nI x)] V ad T (fun r T2 => r = ad 16 m x ∧ T2 = T) := by
  intro E hO sz
  obtain ⟨mc, el, h, ⟨z, -⟩ | ⟨h1, cap, hh, h2, h3, h4, h5⟩⟩ := hO.2.2.2.2.2.2.2.2.2.2.2.2.2.1 m hm
  · omega
  · subst h1
    exact k_upr (cJ_get0 l V ad E 14 m 15 (csz T m) cap mc hh h h4 h2 (by omega) x _ hx (h5 x hx) sz) hO
