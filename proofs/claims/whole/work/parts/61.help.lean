set_option maxHeartbeats 4000000 in
set_option maxRecDepth 100000 in
theorem h_addClass_ok (l : Launch) (hST : l.stackTraces = false) (V : gV) (ad : gA) (E : gE) (T : rS) (hO : cmOK V ad T E) (g : Nat → Int64) (e60 : E 60 0 0 = some (gOut V g)) (nc nm : Nat) (hI : rI T nc nm) (hn8 : nc < 8) (x : Int32) (hx_ : x = -1 ∨ s_isC T x) : gMh l yL_addClass cL_addClass 4 [(0, 9, 12, 13), (0, 9, 15, 15)] ({ frames := 9, cells := 6, slots := 41, locals := 215 } : Room) [.ref (ad 0 0 0), .int x, .ref (ad 60 0 0)] V ad E (hQ V ad E (fun r v T' => r = 0 ∧ ∃ rr : Int32, v = rr.toInt64 ∧ (rr = nI nc ∧ T' = f_addC T nc x))) := by
  refine gMh.of (by decide) (Nat.le_of_ble_eq_true rfl) ?_
  intro sz p e s m_ below meth c ls htab hC hz hG hl
  have hx := hC.1
  have hb := hC.2.1
  have hl : lv_has ls 4 [(0, .ref (ad 0 0 0)), (1, .int x), (2, .ref (ad 60 0 0))] := hl
  refine lv_aload_n hx hb dL_addClass_0 rfl (lv_at hl 2 rfl) ?_
  refine lv_iconst (v := (nI 0)) hx hb dL_addClass_1 (by decide) ?_
  refine lv_aload_n hx hb dL_addClass_2 rfl (lv_at hl 0 rfl) ?_
  refine lv_iload_n hx hb dL_addClass_3 rfl (lv_at hl 1 rfl) ?_
  refine gc_Vi hC hG hO.1 rfl ((c5_addClass l V ad T nc nm hI hn8 x hx_) E hO) km_RL_7 kn_yX5_addClass ks_yX5_addClass kz_RX5 kd_yX5_addClass dn_X5_addClass rfl hl.1 ⟨by decide, by decide⟩ (Nat.le_of_ble_eq_true rfl) ⟨Nat.le_of_ble_eq_true rfl, Nat.le_of_ble_eq_true rfl⟩ dL_addClass_4 (fun r_ ad1 E1 H locs p_ hG hgr => ?_)
  obtain ⟨h1, hX1, T1, hO1, q_⟩ := p_
  rw [h1] at hG
  have e60 := (hX1 60 0 0 (by decide)).trans e60
  refine lv_i2l hx hb dL_addClass_7 rfl ?_
  refine gk_last hC hG rfl e60 (vp_in_nI (n := 0) (by decide) (by decide)) dL_addClass_8 (fun H locs hG => ?_)
  have e60 := gu_eq E1 60 0 0 (.inl (V.2.1 1, 1, .inr (.inl (va_up g (nI 0).toNatClampNeg ((r_).toInt64)))))
  have hO1 := cm_ext (E1 := gu E1 60 0 0 (.inl (V.2.1 1, 1, .inr (.inl (va_up g (nI 0).toNatClampNeg ((r_).toInt64)))))) (fun k i j h => gu_ne (by omega)) hO1
  refine lv_goto (tgt := 18) hx hb dL_addClass_9 (by decide) ?_
  refine lv_iconst (v := 0) hx hb dL_addClass_18 (by decide) ?_
  exact gq_iret hC hz hG ⟨fun k i j h => ⟨(gu_ne (by omega)).trans (hX1 k i j (by omega)), rfl⟩, rfl, rfl, _, _, hO1, e60, ⟨rfl, _, rfl, q_⟩⟩ (Nat.le_of_ble_eq_true rfl) (Nat.le_of_ble_eq_true rfl) dL_addClass_19
set_option maxHeartbeats 4000000 in
set_option maxRecDepth 100000 in
theorem h_addClass_x1 (l : Launch) (hST : l.stackTraces = false) (V : gV) (ad : gA) (E : gE) (T : rS) (hO : cmOK V ad T E) (g : Nat → Int64) (e60 : E 60 0 0 = some (gOut V g)) (x : Int32) (h1 : x ≠ -1) (h2 : ¬ s_isC T x) : gMh l yL_addClass cL_addClass 4 [(0, 9, 12, 13), (0, 9, 15, 15)] ({ frames := 9, cells := 6, slots := 41, locals := 215 } : Room) [.ref (ad 0 0 0), .int x, .ref (ad 60 0 0)] V ad E (hQ V ad E (fun r v T' => r = 1 ∧ T' = T)) := by
  refine gMh.of (by decide) (Nat.le_of_ble_eq_true rfl) ?_
  intro sz p e s m_ below meth c ls htab hC hz hG hl
  have hx := hC.1
  have hb := hC.2.1
  have hl : lv_has ls 4 [(0, .ref (ad 0 0 0)), (1, .int x), (2, .ref (ad 60 0 0))] := hl
  refine lv_aload_n hx hb dL_addClass_0 rfl (lv_at hl 2 rfl) ?_
  refine lv_iconst (v := (nI 0)) hx hb dL_addClass_1 (by decide) ?_
  refine lv_aload_n hx hb dL_addClass_2 rfl (lv_at hl 0 rfl) ?_
  refine lv_iload_n hx hb dL_addClass_3 rfl (lv_at hl 1 rfl) ?_
  refine gx_V hC hG hO.1 rfl ((x_ac1 l hST V ad T x h1 h2) E hO) km_RL_7 kn_yX5_addClass ks_yX5_addClass kz_RX5 kd_yX5_addClass dn_X5_addClass rfl hl.1 ⟨by decide, by decide⟩ (Nat.le_of_ble_eq_true rfl) ⟨Nat.le_of_ble_eq_true rfl, Nat.le_of_ble_eq_true rfl⟩ dL_addClass_4 (fun ad1 E1 H locs q9 ce p_ hG hce hcv hcl => ?_)
  obtain ⟨h1, hX1, hO1⟩ := p_
  rw [h1] at hG
  have e60 := (hX1 60 0 0 (by decide)).trans e60
  refine vx_catch (own := RL) (name := "java/lang/IndexOutOfBoundsException") hC.2.2.2.1 [] (⟨0, 9, 12, 13⟩ : ExceptionTableEntry) [(⟨0, 9, 15, 15⟩ : ExceptionTableEntry)] (htab.trans rfl) (fun z hz => nomatch hz) (by decide) (by decide) (hC.2.2.2.2.1 _ kc_RL_13) (h_cast hC (by decide +kernel)) hce hcv hcl ?_
  change W _ _ _ _ _ _ _ _ _ _ _ _ _ _ _ (F0 _ 12 _ _)
  refine lv_astore_n (lv' := [(3, .ref q9), (0, .ref (ad 0 0 0)), (1, .int x), (2, .ref (ad 60 0 0))]) hx hb dL_addClass_12 rfl hl (by decide) rfl (fun ls hl => ?_)
  refine lv_iconst (v := 1) hx hb dL_addClass_13 (by decide) ?_
  exact gq_iret hC hz hG ⟨fun k i j h => ⟨hX1 k i j (by omega), rfl⟩, rfl, rfl, _, _, hO1, e60, ⟨rfl, rfl⟩⟩ (Nat.le_of_ble_eq_true rfl) (Nat.le_of_ble_eq_true rfl) dL_addClass_14
set_option maxHeartbeats 4000000 in
set_option maxRecDepth 100000 in
theorem h_addClass_x2 (l : Launch) (hST : l.stackTraces = false) (V : gV) (ad : gA) (E : gE) (T : rS) (hO : cmOK V ad T E) (g : Nat → Int64) (e60 : E 60 0 0 = some (gOut V g)) (nm : Nat) (hI : rI T 8 nm) (x : Int32) (hx_ : x = -1 ∨ s_isC T x) : gMh l yL_addClass cL_addClass 4 [(0, 9, 12, 13), (0, 9, 15, 15)] ({ frames := 9, cells := 6, slots := 41, locals := 215 } : Room) [.ref (ad 0 0 0), .int x, .ref (ad 60 0 0)] V ad E (hQ V ad E (fun r v T' => r = 2 ∧ T' = T)) := by
  refine gMh.of (by decide) (Nat.le_of_ble_eq_true rfl) ?_
  intro sz p e s m_ below meth c ls htab hC hz hG hl
  have hx := hC.1
  have hb := hC.2.1
  have hl : lv_has ls 4 [(0, .ref (ad 0 0 0)), (1, .int x), (2, .ref (ad 60 0 0))] := hl
  refine lv_aload_n hx hb dL_addClass_0 rfl (lv_at hl 2 rfl) ?_
  refine lv_iconst (v := (nI 0)) hx hb dL_addClass_1 (by decide) ?_
  refine lv_aload_n hx hb dL_addClass_2 rfl (lv_at hl 0 rfl) ?_
  refine lv_iload_n hx hb dL_addClass_3 rfl (lv_at hl 1 rfl) ?_
  refine gx_V hC hG hO.1 rfl ((x_ac2 l hST V ad T nm hI x hx_) E hO) km_RL_7 kn_yX5_addClass ks_yX5_addClass kz_RX5 kd_yX5_addClass dn_X5_addClass rfl hl.1 ⟨by decide, by decide⟩ (Nat.le_of_ble_eq_true rfl) ⟨Nat.le_of_ble_eq_true rfl, Nat.le_of_ble_eq_true rfl⟩ dL_addClass_4 (fun ad1 E1 H locs q9 ce p_ hG hce hcv hcl => ?_)
  obtain ⟨h1, hX1, hO1⟩ := p_
  rw [h1] at hG
  have e60 := (hX1 60 0 0 (by decide)).trans e60
  refine vx_catch (own := RL) (name := "java/lang/IllegalStateException") hC.2.2.2.1 [(⟨0, 9, 12, 13⟩ : ExceptionTableEntry)] (⟨0, 9, 15, 15⟩ : ExceptionTableEntry) [] (htab.trans rfl) (fun z hz => by
      cases List.mem_singleton.mp hz
      exact Or.inr ⟨by decide, "java/lang/IndexOutOfBoundsException", hC.2.2.2.2.1 _ kc_RL_13, (h_nc hC).1⟩) (by decide) (by decide) (hC.2.2.2.2.1 _ kc_RL_15) (h_cast hC (by decide +kernel)) hce hcv hcl ?_
  change W _ _ _ _ _ _ _ _ _ _ _ _ _ _ _ (F0 _ 15 _ _)
  refine lv_astore_n (lv' := [(3, .ref q9), (0, .ref (ad 0 0 0)), (1, .int x), (2, .ref (ad 60 0 0))]) hx hb dL_addClass_15 rfl hl (by decide) rfl (fun ls hl => ?_)
  refine lv_iconst (v := 2) hx hb dL_addClass_16 (by decide) ?_
  exact gq_iret hC hz hG ⟨fun k i j h => ⟨hX1 k i j (by omega), rfl⟩, rfl, rfl, _, _, hO1, e60, ⟨rfl, rfl⟩⟩ (Nat.le_of_ble_eq_true rfl) (Nat.le_of_ble_eq_true rfl) dL_addClass_17
set_option maxHeartbeats 4000000 in
set_option maxRecDepth 100000 in
theorem h_addMethod_ok (l : Launch) (hST : l.stackTraces = false) (V : gV) (ad : gA) (E : gE) (T : rS) (hO : cmOK V ad T E) (g : Nat → Int64) (e60 : E 60 0 0 = some (gOut V g)) (nc nm : Nat) (hI : rI T nc nm) (hn : nm < 12) (h10 : T.1 10 nm = 0) (h11 : T.1 11 nm = 0) (h12 : T.1 12 nm = 0) : gMh l yL_addMethod cL_addMethod 3 [(0, 8, 11, 15)] ({ frames := 9, cells := 6, slots := 41, locals := 215 } : Room) [.ref (ad 0 0 0), .ref (ad 60 0 0)] V ad E (hQ V ad E (fun r v T' => r = 0 ∧ ∃ rr : Int32, v = rr.toInt64 ∧ (rr = nI nm ∧ T' = su T 4 (fun _ => nI (nm + 1))))) := by
  refine gMh.of (by decide) (Nat.le_of_ble_eq_true rfl) ?_
  intro sz p e s m_ below meth c ls htab hC hz hG hl
  have hx := hC.1
  have hb := hC.2.1
  have hl : lv_has ls 3 [(0, .ref (ad 0 0 0)), (1, .ref (ad 60 0 0))] := hl
  refine lv_aload_n hx hb dL_addMethod_0 rfl (lv_at hl 1 rfl) ?_
  refine lv_iconst (v := (nI 0)) hx hb dL_addMethod_1 (by decide) ?_
  refine lv_aload_n hx hb dL_addMethod_2 rfl (lv_at hl 0 rfl) ?_
  refine gc_Vi hC hG hO.1 rfl ((c5_addMethod l V ad T nc nm hI hn h10 h11 h12) E hO) km_RL_17 kn_yX5_addMethod ks_yX5_addMethod kz_RX5 kd_yX5_addMethod dn_X5_addMethod rfl hl.1 ⟨by decide, by decide⟩ (Nat.le_of_ble_eq_true rfl) ⟨Nat.le_of_ble_eq_true rfl, Nat.le_of_ble_eq_true rfl⟩ dL_addMethod_3 (fun r_ ad1 E1 H locs p_ hG hgr => ?_)
  obtain ⟨fr1, a0, T1, hO1, q_⟩ := p_
  have e60 := (fr1 60 0 0 (by decide)).1.trans e60
  have a60 := (fr1 60 0 0 (by decide)).2
  refine lv_i2l hx hb dL_addMethod_6 rfl ?_
  refine gk_last hC hG a60 e60 (vp_in_nI (n := 0) (by decide) (by decide)) dL_addMethod_7 (fun H locs hG => ?_)
  have e60 := gu_eq E1 60 0 0 (.inl (V.2.1 1, 1, .inr (.inl (va_up g (nI 0).toNatClampNeg ((r_).toInt64)))))
  have hO1 := cm_ext (E1 := gu E1 60 0 0 (.inl (V.2.1 1, 1, .inr (.inl (va_up g (nI 0).toNatClampNeg ((r_).toInt64)))))) (fun k i j h => gu_ne (by omega)) hO1
  refine lv_goto (tgt := 14) hx hb dL_addMethod_8 (by decide) ?_
  refine lv_iconst (v := 0) hx hb dL_addMethod_14 (by decide) ?_
  exact gq_iret hC hz hG ⟨fun k i j h => ⟨(gu_ne (by omega)).trans (fr1 k i j (by omega)).1, (fr1 k i j (by omega)).2⟩, a0, a60, _, _, hO1, e60, ⟨rfl, _, rfl, q_⟩⟩ (Nat.le_of_ble_eq_true rfl) (Nat.le_of_ble_eq_true rfl) dL_addMethod_15
set_option maxHeartbeats 4000000 in
set_option maxRecDepth 100000 in
theorem h_addMethod_x1 (l : Launch) (hST : l.stackTraces = false) (V : gV) (ad : gA) (E : gE) (T : rS) (hO : cmOK V ad T E) (g : Nat → Int64) (e60 : E 60 0 0 = some (gOut V g)) (nc : Nat) (hI : rI T nc 12) : gMh l yL_addMethod cL_addMethod 3 [(0, 8, 11, 15)] ({ frames := 9, cells := 6, slots := 41, locals := 215 } : Room) [.ref (ad 0 0 0), .ref (ad 60 0 0)] V ad E (hQ V ad E (fun r v T' => r = 1 ∧ T' = T)) := by
  refine gMh.of (by decide) (Nat.le_of_ble_eq_true rfl) ?_
  intro sz p e s m_ below meth c ls htab hC hz hG hl
  have hx := hC.1
  have hb := hC.2.1
  have hl : lv_has ls 3 [(0, .ref (ad 0 0 0)), (1, .ref (ad 60 0 0))] := hl
  refine lv_aload_n hx hb dL_addMethod_0 rfl (lv_at hl 1 rfl) ?_
  refine lv_iconst (v := (nI 0)) hx hb dL_addMethod_1 (by decide) ?_
  refine lv_aload_n hx hb dL_addMethod_2 rfl (lv_at hl 0 rfl) ?_
  refine gx_V hC hG hO.1 rfl ((x_am l hST V ad T nc hI) E hO) km_RL_17 kn_yX5_addMethod ks_yX5_addMethod kz_RX5 kd_yX5_addMethod dn_X5_addMethod rfl hl.1 ⟨by decide, by decide⟩ (Nat.le_of_ble_eq_true rfl) ⟨Nat.le_of_ble_eq_true rfl, Nat.le_of_ble_eq_true rfl⟩ dL_addMethod_3 (fun ad1 E1 H locs q9 ce p_ hG hce hcv hcl => ?_)
  obtain ⟨h1, hX1, hO1⟩ := p_
  rw [h1] at hG
  have e60 := (hX1 60 0 0 (by decide)).trans e60
  refine vx_catch (own := RL) (name := "java/lang/IllegalStateException") hC.2.2.2.1 [] (⟨0, 8, 11, 15⟩ : ExceptionTableEntry) [] (htab.trans rfl) (fun z hz => nomatch hz) (by decide) (by decide) (hC.2.2.2.2.1 _ kc_RL_15) (h_cast hC (by decide +kernel)) hce hcv hcl ?_
  change W _ _ _ _ _ _ _ _ _ _ _ _ _ _ _ (F0 _ 11 _ _)
  refine lv_astore_n (lv' := [(2, .ref q9), (0, .ref (ad 0 0 0)), (1, .ref (ad 60 0 0))]) hx hb dL_addMethod_11 rfl hl (by decide) rfl (fun ls hl => ?_)
  refine lv_iconst (v := 1) hx hb dL_addMethod_12 (by decide) ?_
  exact gq_iret hC hz hG ⟨fun k i j h => ⟨hX1 k i j (by omega), rfl⟩, rfl, rfl, _, _, hO1, e60, ⟨rfl, rfl⟩⟩ (Nat.le_of_ble_eq_true rfl) (Nat.le_of_ble_eq_true rfl) dL_addMethod_13
set_option maxHeartbeats 4000000 in
set_option maxRecDepth 100000 in
theorem h_append_ok (l : Launch) (hST : l.stackTraces = false) (V : gV) (ad : gA) (E : gE) (T : rS) (hO : cmOK V ad T E) (g : Nat → Int64) (e60 : E 60 0 0 = some (gOut V g)) (nc nm m0 q0 : Nat) (hI : rI T nc nm) (hU : rU T) (hm : m0 < nm) (eq0 : csz T m0 = q0) (hq0 : q0 < 20) (k a b c_ d : Int32) (hfit : s_fit T k a b c_ d) : gMh l yL_append cL_append 9 [(0, 18, 21, 13), (0, 18, 25, 25), (0, 18, 29, 15)] ({ frames := 9, cells := 6, slots := 41, locals := 215 } : Room) [.ref (ad 0 0 0), .int (nI m0), .int k, .int a, .int b, .int c_, .int d, .ref (ad 60 0 0)] V ad E (hQ V ad E (fun r v T' => r = 0 ∧ ∃ rr : Int32, v = rr.toInt64 ∧ (rr = nI q0 ∧ T' = sp_unlearn (f_app T m0 q0 k a b c_ d) m0))) := by
  refine gMh.of (by decide) (Nat.le_of_ble_eq_true rfl) ?_
  intro sz p e s m_ below meth c ls htab hC hz hG hl
  have hx := hC.1
  have hb := hC.2.1
  have hl : lv_has ls 9 [(0, .ref (ad 0 0 0)), (1, .int (nI m0)), (2, .int k), (3, .int a), (4, .int b), (5, .int c_), (6, .int d), (7, .ref (ad 60 0 0))] := hl
  refine lv_aload hx hb dL_append_0 (lv_at hl 7 rfl) ?_
  refine lv_iconst (v := (nI 0)) hx hb dL_append_2 (by decide) ?_
  refine lv_aload_n hx hb dL_append_3 rfl (lv_at hl 0 rfl) ?_
  refine lv_iload_n hx hb dL_append_4 rfl (lv_at hl 1 rfl) ?_
  refine lv_iload_n hx hb dL_append_5 rfl (lv_at hl 2 rfl) ?_
  refine lv_iload_n hx hb dL_append_6 rfl (lv_at hl 3 rfl) ?_
  refine lv_iload hx hb dL_append_7 (lv_at hl 4 rfl) ?_
  refine lv_iload hx hb dL_append_9 (lv_at hl 5 rfl) ?_
  refine lv_iload hx hb dL_append_11 (lv_at hl 6 rfl) ?_
  refine gc_Vi hC hG hO.1 rfl ((c5_append l V ad T nc nm m0 q0 hI hU hm eq0 hq0 k a b c_ d hfit) E hO) km_RL_21 kn_yX5_append ks_yX5_append kz_RX5 kd_yX5_append dn_X5_append rfl hl.1 ⟨by decide, by decide⟩ (Nat.le_of_ble_eq_true rfl) ⟨Nat.le_of_ble_eq_true rfl, Nat.le_of_ble_eq_true rfl⟩ dL_append_13 (fun r_ ad1 E1 H locs p_ hG hgr => ?_)
  obtain ⟨fr1, a0, T1, hO1, q_⟩ := p_
  have e60 := (fr1 60 0 0 (by decide)).1.trans e60
  have a60 := (fr1 60 0 0 (by decide)).2
  refine lv_i2l hx hb dL_append_16 rfl ?_
  refine gk_last hC hG a60 e60 (vp_in_nI (n := 0) (by decide) (by decide)) dL_append_17 (fun H locs hG => ?_)
  have e60 := gu_eq E1 60 0 0 (.inl (V.2.1 1, 1, .inr (.inl (va_up g (nI 0).toNatClampNeg ((r_).toInt64)))))
  have hO1 := cm_ext (E1 := gu E1 60 0 0 (.inl (V.2.1 1, 1, .inr (.inl (va_up g (nI 0).toNatClampNeg ((r_).toInt64)))))) (fun k i j h => gu_ne (by omega)) hO1
  refine lv_goto (tgt := 33) hx hb dL_append_18 (by decide) ?_
  refine lv_iconst (v := 0) hx hb dL_append_33 (by decide) ?_
  exact gq_iret hC hz hG ⟨fun k i j h => ⟨(gu_ne (by omega)).trans (fr1 k i j (by omega)).1, (fr1 k i j (by omega)).2⟩, a0, a60, _, _, hO1, e60, ⟨rfl, _, rfl, q_⟩⟩ (Nat.le_of_ble_eq_true rfl) (Nat.le_of_ble_eq_true rfl) dL_append_34
set_option maxHeartbeats 4000000 in
set_option maxRecDepth 100000 in
theorem h_append_x1 (l : Launch) (hST : l.stackTraces = false) (V : gV) (ad : gA) (E : gE) (T : rS) (hO : cmOK V ad T E) (g : Nat → Int64) (e60 : E 60 0 0 = some (gOut V g)) (nc nm : Nat) (hI : rI T nc nm) (x : Int32) (hx_ : ¬ s_isM T x) (k a b c_ d : Int32) : gMh l yL_append cL_append 9 [(0, 18, 21, 13), (0, 18, 25, 25), (0, 18, 29, 15)] ({ frames := 9, cells := 6, slots := 41, locals := 215 } : Room) [.ref (ad 0 0 0), .int x, .int k, .int a, .int b, .int c_, .int d, .ref (ad 60 0 0)] V ad E (hQ V ad E (fun r v T' => r = 1 ∧ T' = T)) := by
  refine gMh.of (by decide) (Nat.le_of_ble_eq_true rfl) ?_
  intro sz p e s m_ below meth c ls htab hC hz hG hl
  have hx := hC.1
  have hb := hC.2.1
  have hl : lv_has ls 9 [(0, .ref (ad 0 0 0)), (1, .int x), (2, .int k), (3, .int a), (4, .int b), (5, .int c_), (6, .int d), (7, .ref (ad 60 0 0))] := hl
  refine lv_aload hx hb dL_append_0 (lv_at hl 7 rfl) ?_
  refine lv_iconst (v := (nI 0)) hx hb dL_append_2 (by decide) ?_
  refine lv_aload_n hx hb dL_append_3 rfl (lv_at hl 0 rfl) ?_
  refine lv_iload_n hx hb dL_append_4 rfl (lv_at hl 1 rfl) ?_
  refine lv_iload_n hx hb dL_append_5 rfl (lv_at hl 2 rfl) ?_
  refine lv_iload_n hx hb dL_append_6 rfl (lv_at hl 3 rfl) ?_
  refine lv_iload hx hb dL_append_7 (lv_at hl 4 rfl) ?_
  refine lv_iload hx hb dL_append_9 (lv_at hl 5 rfl) ?_
  refine lv_iload hx hb dL_append_11 (lv_at hl 6 rfl) ?_
  refine gx_V hC hG hO.1 rfl ((x_ap1 l hST V ad T nc nm hI x hx_ k a b c_ d) E hO) km_RL_21 kn_yX5_append ks_yX5_append kz_RX5 kd_yX5_append dn_X5_append rfl hl.1 ⟨by decide, by decide⟩ (Nat.le_of_ble_eq_true rfl) ⟨Nat.le_of_ble_eq_true rfl, Nat.le_of_ble_eq_true rfl⟩ dL_append_13 (fun ad1 E1 H locs q9 ce p_ hG hce hcv hcl => ?_)
  obtain ⟨h1, hX1, hO1⟩ := p_
  rw [h1] at hG
  have e60 := (hX1 60 0 0 (by decide)).trans e60
  refine vx_catch (own := RL) (name := "java/lang/IndexOutOfBoundsException") hC.2.2.2.1 [] (⟨0, 18, 21, 13⟩ : ExceptionTableEntry) [(⟨0, 18, 25, 25⟩ : ExceptionTableEntry), (⟨0, 18, 29, 15⟩ : ExceptionTableEntry)] (htab.trans rfl) (fun z hz => nomatch hz) (by decide) (by decide) (hC.2.2.2.2.1 _ kc_RL_13) (h_cast hC (by decide +kernel)) hce hcv hcl ?_
  change W _ _ _ _ _ _ _ _ _ _ _ _ _ _ _ (F0 _ 21 _ _)
  refine lv_astore (lv' := [(8, .ref q9), (0, .ref (ad 0 0 0)), (1, .int x), (2, .int k), (3, .int a), (4, .int b), (5, .int c_), (6, .int d), (7, .ref (ad 60 0 0))]) hx hb dL_append_21 hl (by decide) rfl (fun ls hl => ?_)
  refine lv_iconst (v := 1) hx hb dL_append_23 (by decide) ?_
  exact gq_iret hC hz hG ⟨fun k i j h => ⟨hX1 k i j (by omega), rfl⟩, rfl, rfl, _, _, hO1, e60, ⟨rfl, rfl⟩⟩ (Nat.le_of_ble_eq_true rfl) (Nat.le_of_ble_eq_true rfl) dL_append_24
set_option maxHeartbeats 4000000 in
set_option maxRecDepth 100000 in
theorem h_append_x2 (l : Launch) (hST : l.stackTraces = false) (V : gV) (ad : gA) (E : gE) (T : rS) (hO : cmOK V ad T E) (g : Nat → Int64) (e60 : E 60 0 0 = some (gOut V g)) (nc nm : Nat) (hI : rI T nc nm) (m : Nat) (hm : m < nm) (k a b c_ d : Int32) (hf : ¬ s_fit T k a b c_ d) : gMh l yL_append cL_append 9 [(0, 18, 21, 13), (0, 18, 25, 25), (0, 18, 29, 15)] ({ frames := 9, cells := 6, slots := 41, locals := 215 } : Room) [.ref (ad 0 0 0), .int (nI m), .int k, .int a, .int b, .int c_, .int d, .ref (ad 60 0 0)] V ad E (hQ V ad E (fun r v T' => r = 2 ∧ T' = T)) := by
  refine gMh.of (by decide) (Nat.le_of_ble_eq_true rfl) ?_
  intro sz p e s m_ below meth c ls htab hC hz hG hl
  have hx := hC.1
  have hb := hC.2.1
  have hl : lv_has ls 9 [(0, .ref (ad 0 0 0)), (1, .int (nI m)), (2, .int k), (3, .int a), (4, .int b), (5, .int c_), (6, .int d), (7, .ref (ad 60 0 0))] := hl
  refine lv_aload hx hb dL_append_0 (lv_at hl 7 rfl) ?_
  refine lv_iconst (v := (nI 0)) hx hb dL_append_2 (by decide) ?_
  refine lv_aload_n hx hb dL_append_3 rfl (lv_at hl 0 rfl) ?_
  refine lv_iload_n hx hb dL_append_4 rfl (lv_at hl 1 rfl) ?_
  refine lv_iload_n hx hb dL_append_5 rfl (lv_at hl 2 rfl) ?_
  refine lv_iload_n hx hb dL_append_6 rfl (lv_at hl 3 rfl) ?_
  refine lv_iload hx hb dL_append_7 (lv_at hl 4 rfl) ?_
  refine lv_iload hx hb dL_append_9 (lv_at hl 5 rfl) ?_
  refine lv_iload hx hb dL_append_11 (lv_at hl 6 rfl) ?_
  refine gx_V hC hG hO.1 rfl ((x_ap2 l hST V ad T nc nm hI m hm k a b c_ d hf) E hO) km_RL_21 kn_yX5_append ks_yX5_append kz_RX5 kd_yX5_append dn_X5_append rfl hl.1 ⟨by decide, by decide⟩ (Nat.le_of_ble_eq_true rfl) ⟨Nat.le_of_ble_eq_true rfl, Nat.le_of_ble_eq_true rfl⟩ dL_append_13 (fun ad1 E1 H locs q9 ce p_ hG hce hcv hcl => ?_)
  obtain ⟨h1, hX1, hO1⟩ := p_
  rw [h1] at hG
  have e60 := (hX1 60 0 0 (by decide)).trans e60
  refine vx_catch (own := RL) (name := "java/lang/IllegalArgumentException") hC.2.2.2.1 [(⟨0, 18, 21, 13⟩ : ExceptionTableEntry)] (⟨0, 18, 25, 25⟩ : ExceptionTableEntry) [(⟨0, 18, 29, 15⟩ : ExceptionTableEntry)] (htab.trans rfl) (fun z hz => by
      cases List.mem_singleton.mp hz
      exact Or.inr ⟨by decide, "java/lang/IndexOutOfBoundsException", hC.2.2.2.2.1 _ kc_RL_13, (h_nc hC).2.1⟩) (by decide) (by decide) (hC.2.2.2.2.1 _ kc_RL_25) (h_cast hC (by decide +kernel)) hce hcv hcl ?_
  change W _ _ _ _ _ _ _ _ _ _ _ _ _ _ _ (F0 _ 25 _ _)
  refine lv_astore (lv' := [(8, .ref q9), (0, .ref (ad 0 0 0)), (1, .int (nI m)), (2, .int k), (3, .int a), (4, .int b), (5, .int c_), (6, .int d), (7, .ref (ad 60 0 0))]) hx hb dL_append_25 hl (by decide) rfl (fun ls hl => ?_)
  refine lv_iconst (v := 2) hx hb dL_append_27 (by decide) ?_
  exact gq_iret hC hz hG ⟨fun k i j h => ⟨hX1 k i j (by omega), rfl⟩, rfl, rfl, _, _, hO1, e60, ⟨rfl, rfl⟩⟩ (Nat.le_of_ble_eq_true rfl) (Nat.le_of_ble_eq_true rfl) dL_append_28
set_option maxHeartbeats 4000000 in
set_option maxRecDepth 100000 in
theorem h_append_x3 (l : Launch) (hST : l.stackTraces = false) (V : gV) (ad : gA) (E : gE) (T : rS) (hO : cmOK V ad T E) (g : Nat → Int64) (e60 : E 60 0 0 = some (gOut V g)) (nc nm : Nat) (hI : rI T nc nm) (m : Nat) (hm : m < nm) (k a b c_ d : Int32) (hf : s_fit T k a b c_ d) (h5 : csz T m = 20) : gMh l yL_append cL_append 9 [(0, 18, 21, 13), (0, 18, 25, 25), (0, 18, 29, 15)] ({ frames := 9, cells := 6, slots := 41, locals := 215 } : Room) [.ref (ad 0 0 0), .int (nI m), .int k, .int a, .int b, .int c_, .int d, .ref (ad 60 0 0)] V ad E (hQ V ad E (fun r v T' => r = 3 ∧ T' = T)) := by
  refine gMh.of (by decide) (Nat.le_of_ble_eq_true rfl) ?_
  intro sz p e s m_ below meth c ls htab hC hz hG hl
  have hx := hC.1
  have hb := hC.2.1
  have hl : lv_has ls 9 [(0, .ref (ad 0 0 0)), (1, .int (nI m)), (2, .int k), (3, .int a), (4, .int b), (5, .int c_), (6, .int d), (7, .ref (ad 60 0 0))] := hl
  refine lv_aload hx hb dL_append_0 (lv_at hl 7 rfl) ?_
  refine lv_iconst (v := (nI 0)) hx hb dL_append_2 (by decide) ?_
  refine lv_aload_n hx hb dL_append_3 rfl (lv_at hl 0 rfl) ?_
  refine lv_iload_n hx hb dL_append_4 rfl (lv_at hl 1 rfl) ?_
  refine lv_iload_n hx hb dL_append_5 rfl (lv_at hl 2 rfl) ?_
  refine lv_iload_n hx hb dL_append_6 rfl (lv_at hl 3 rfl) ?_
  refine lv_iload hx hb dL_append_7 (lv_at hl 4 rfl) ?_
  refine lv_iload hx hb dL_append_9 (lv_at hl 5 rfl) ?_
  refine lv_iload hx hb dL_append_11 (lv_at hl 6 rfl) ?_
  refine gx_V hC hG hO.1 rfl ((x_ap3 l hST V ad T nc nm hI m hm k a b c_ d hf h5) E hO) km_RL_21 kn_yX5_append ks_yX5_append kz_RX5 kd_yX5_append dn_X5_append rfl hl.1 ⟨by decide, by decide⟩ (Nat.le_of_ble_eq_true rfl) ⟨Nat.le_of_ble_eq_true rfl, Nat.le_of_ble_eq_true rfl⟩ dL_append_13 (fun ad1 E1 H locs q9 ce p_ hG hce hcv hcl => ?_)
  obtain ⟨h1, hX1, hO1⟩ := p_
  rw [h1] at hG
  have e60 := (hX1 60 0 0 (by decide)).trans e60
  refine vx_catch (own := RL) (name := "java/lang/IllegalStateException") hC.2.2.2.1 [(⟨0, 18, 21, 13⟩ : ExceptionTableEntry), (⟨0, 18, 25, 25⟩ : ExceptionTableEntry)] (⟨0, 18, 29, 15⟩ : ExceptionTableEntry) [] (htab.trans rfl) (fun z hz => by
      rcases List.mem_cons.mp hz with h | h
      · subst h
        exact Or.inr ⟨by decide, "java/lang/IndexOutOfBoundsException", hC.2.2.2.2.1 _ kc_RL_13, (h_nc hC).1⟩
      · cases List.mem_singleton.mp h
        exact Or.inr ⟨by decide, "java/lang/IllegalArgumentException", hC.2.2.2.2.1 _ kc_RL_25, (h_nc hC).2.2⟩) (by decide) (by decide) (hC.2.2.2.2.1 _ kc_RL_15) (h_cast hC (by decide +kernel)) hce hcv hcl ?_
  change W _ _ _ _ _ _ _ _ _ _ _ _ _ _ _ (F0 _ 29 _ _)
  refine lv_astore (lv' := [(8, .ref q9), (0, .ref (ad 0 0 0)), (1, .int (nI m)), (2, .int k), (3, .int a), (4, .int b), (5, .int c_), (6, .int d), (7, .ref (ad 60 0 0))]) hx hb dL_append_29 hl (by decide) rfl (fun ls hl => ?_)
  refine lv_iconst (v := 3) hx hb dL_append_31 (by decide) ?_
  exact gq_iret hC hz hG ⟨fun k i j h => ⟨hX1 k i j (by omega), rfl⟩, rfl, rfl, _, _, hO1, e60, ⟨rfl, rfl⟩⟩ (Nat.le_of_ble_eq_true rfl) (Nat.le_of_ble_eq_true rfl) dL_append_32
set_option maxHeartbeats 4000000 in
set_option maxRecDepth 100000 in
theorem h_implement_ok (l : Launch) (hST : l.stackTraces = false) (V : gV) (ad : gA) (E : gE) (T : rS) (hO : cmOK V ad T E) (g : Nat → Int64) (e60 : E 60 0 0 = some (gOut V g)) (c_ g_ nc nm : Nat) (hI : rI T nc nm) (hc : c_ < nc) (hg : g_ < 6) (w_ : Int32) (hw : w_ = -1 ∨ s_isM T w_) : gMh l yL_implement cL_implement 6 [(0, 12, 15, 13)] ({ frames := 9, cells := 6, slots := 41, locals := 215 } : Room) [.ref (ad 0 0 0), .int (nI c_), .int (nI g_), .int w_, .ref (ad 60 0 0)] V ad E (hQ V ad E (fun r v T' => r = 0 ∧ ∃ rr : Int32, v = rr.toInt64 ∧ (rr = nI (s_il (c_i1 T c_ g_ nc w_) (c_sm (c_i1 T c_ g_ nc w_) g_) g_ nm).2 ∧ T' = (s_il (c_i1 T c_ g_ nc w_) (c_sm (c_i1 T c_ g_ nc w_) g_) g_ nm).1))) := by
  refine gMh.of (by decide) (Nat.le_of_ble_eq_true rfl) ?_
  intro sz p e s m_ below meth c ls htab hC hz hG hl
  have hx := hC.1
  have hb := hC.2.1
  have hl : lv_has ls 6 [(0, .ref (ad 0 0 0)), (1, .int (nI c_)), (2, .int (nI g_)), (3, .int w_), (4, .ref (ad 60 0 0))] := hl
  refine lv_aload hx hb dL_implement_0 (lv_at hl 4 rfl) ?_
  refine lv_iconst (v := (nI 0)) hx hb dL_implement_2 (by decide) ?_
  refine lv_aload_n hx hb dL_implement_3 rfl (lv_at hl 0 rfl) ?_
  refine lv_iload_n hx hb dL_implement_4 rfl (lv_at hl 1 rfl) ?_
  refine lv_iload_n hx hb dL_implement_5 rfl (lv_at hl 2 rfl) ?_
  refine lv_iload_n hx hb dL_implement_6 rfl (lv_at hl 3 rfl) ?_
  refine gc_Vi hC hG hO.1 rfl ((c5_implement l V ad T c_ g_ nc nm hI hc hg w_ hw) E hO) km_RL_27 kn_yX5_implement ks_yX5_implement kz_RX5 kd_yX5_implement dn_X5_implement rfl hl.1 ⟨by decide, by decide⟩ (Nat.le_of_ble_eq_true rfl) ⟨Nat.le_of_ble_eq_true rfl, Nat.le_of_ble_eq_true rfl⟩ dL_implement_7 (fun r_ ad1 E1 H locs p_ hG hgr => ?_)
  obtain ⟨h1, hX1, T1, hO1, q_⟩ := p_
  rw [h1] at hG
  have e60 := (hX1 60 0 0 (by decide)).trans e60
  refine lv_i2l hx hb dL_implement_10 rfl ?_
  refine gk_last hC hG rfl e60 (vp_in_nI (n := 0) (by decide) (by decide)) dL_implement_11 (fun H locs hG => ?_)
  have e60 := gu_eq E1 60 0 0 (.inl (V.2.1 1, 1, .inr (.inl (va_up g (nI 0).toNatClampNeg ((r_).toInt64)))))
  have hO1 := cm_ext (E1 := gu E1 60 0 0 (.inl (V.2.1 1, 1, .inr (.inl (va_up g (nI 0).toNatClampNeg ((r_).toInt64)))))) (fun k i j h => gu_ne (by omega)) hO1
  refine lv_goto (tgt := 19) hx hb dL_implement_12 (by decide) ?_
  refine lv_iconst (v := 0) hx hb dL_implement_19 (by decide) ?_
  exact gq_iret hC hz hG ⟨fun k i j h => ⟨(gu_ne (by omega)).trans (hX1 k i j (by omega)), rfl⟩, rfl, rfl, _, _, hO1, e60, ⟨rfl, _, rfl, q_⟩⟩ (Nat.le_of_ble_eq_true rfl) (Nat.le_of_ble_eq_true rfl) dL_implement_20
set_option maxHeartbeats 4000000 in
set_option maxRecDepth 100000 in
theorem h_implement_x1 (l : Launch) (hST : l.stackTraces = false) (V : gV) (ad : gA) (E : gE) (T : rS) (hO : cmOK V ad T E) (g : Nat → Int64) (e60 : E 60 0 0 = some (gOut V g)) (x y w_ : Int32) (hx_ : ¬ (s_isC T x ∧ s_sl y)) : gMh l yL_implement cL_implement 6 [(0, 12, 15, 13)] ({ frames := 9, cells := 6, slots := 41, locals := 215 } : Room) [.ref (ad 0 0 0), .int x, .int y, .int w_, .ref (ad 60 0 0)] V ad E (hQ V ad E (fun r v T' => r = 1 ∧ T' = T)) := by
  refine gMh.of (by decide) (Nat.le_of_ble_eq_true rfl) ?_
  intro sz p e s m_ below meth c ls htab hC hz hG hl
  have hx := hC.1
  have hb := hC.2.1
  have hl : lv_has ls 6 [(0, .ref (ad 0 0 0)), (1, .int x), (2, .int y), (3, .int w_), (4, .ref (ad 60 0 0))] := hl
  refine lv_aload hx hb dL_implement_0 (lv_at hl 4 rfl) ?_
  refine lv_iconst (v := (nI 0)) hx hb dL_implement_2 (by decide) ?_
  refine lv_aload_n hx hb dL_implement_3 rfl (lv_at hl 0 rfl) ?_
  refine lv_iload_n hx hb dL_implement_4 rfl (lv_at hl 1 rfl) ?_
  refine lv_iload_n hx hb dL_implement_5 rfl (lv_at hl 2 rfl) ?_
  refine lv_iload_n hx hb dL_implement_6 rfl (lv_at hl 3 rfl) ?_
  refine gx_V hC hG hO.1 rfl ((x_im1 l hST V ad T x y w_ hx_) E hO) km_RL_27 kn_yX5_implement ks_yX5_implement kz_RX5 kd_yX5_implement dn_X5_implement rfl hl.1 ⟨by decide, by decide⟩ (Nat.le_of_ble_eq_true rfl) ⟨Nat.le_of_ble_eq_true rfl, Nat.le_of_ble_eq_true rfl⟩ dL_implement_7 (fun ad1 E1 H locs q9 ce p_ hG hce hcv hcl => ?_)
  obtain ⟨h1, hX1, hO1⟩ := p_
  rw [h1] at hG
  have e60 := (hX1 60 0 0 (by decide)).trans e60
  refine vx_catch (own := RL) (name := "java/lang/IndexOutOfBoundsException") hC.2.2.2.1 [] (⟨0, 12, 15, 13⟩ : ExceptionTableEntry) [] (htab.trans rfl) (fun z hz => nomatch hz) (by decide) (by decide) (hC.2.2.2.2.1 _ kc_RL_13) (h_cast hC (by decide +kernel)) hce hcv hcl ?_
  change W _ _ _ _ _ _ _ _ _ _ _ _ _ _ _ (F0 _ 15 _ _)
  refine lv_astore (lv' := [(5, .ref q9), (0, .ref (ad 0 0 0)), (1, .int x), (2, .int y), (3, .int w_), (4, .ref (ad 60 0 0))]) hx hb dL_implement_15 hl (by decide) rfl (fun ls hl => ?_)
  refine lv_iconst (v := 1) hx hb dL_implement_17 (by decide) ?_
  exact gq_iret hC hz hG ⟨fun k i j h => ⟨hX1 k i j (by omega), rfl⟩, rfl, rfl, _, _, hO1, e60, ⟨rfl, rfl⟩⟩ (Nat.le_of_ble_eq_true rfl) (Nat.le_of_ble_eq_true rfl) dL_implement_18
set_option maxHeartbeats 4000000 in
set_option maxRecDepth 100000 in
theorem h_implement_x2 (l : Launch) (hST : l.stackTraces = false) (V : gV) (ad : gA) (E : gE) (T : rS) (hO : cmOK V ad T E) (g : Nat → Int64) (e60 : E 60 0 0 = some (gOut V g)) (nc nm : Nat) (hI : rI T nc nm) (c_ g_ : Nat) (hc : c_ < nc) (hg : g_ < 6) (w_ : Int32) (hw : w_ ≠ -1) (hw2 : ¬ s_isM T w_) : gMh l yL_implement cL_implement 6 [(0, 12, 15, 13)] ({ frames := 9, cells := 6, slots := 41, locals := 215 } : Room) [.ref (ad 0 0 0), .int (nI c_), .int (nI g_), .int w_, .ref (ad 60 0 0)] V ad E (hQ V ad E (fun r v T' => r = 1 ∧ T' = T)) := by
  refine gMh.of (by decide) (Nat.le_of_ble_eq_true rfl) ?_
  intro sz p e s m_ below meth c ls htab hC hz hG hl
  have hx := hC.1
  have hb := hC.2.1
  have hl : lv_has ls 6 [(0, .ref (ad 0 0 0)), (1, .int (nI c_)), (2, .int (nI g_)), (3, .int w_), (4, .ref (ad 60 0 0))] := hl
  refine lv_aload hx hb dL_implement_0 (lv_at hl 4 rfl) ?_
  refine lv_iconst (v := (nI 0)) hx hb dL_implement_2 (by decide) ?_
  refine lv_aload_n hx hb dL_implement_3 rfl (lv_at hl 0 rfl) ?_
  refine lv_iload_n hx hb dL_implement_4 rfl (lv_at hl 1 rfl) ?_
  refine lv_iload_n hx hb dL_implement_5 rfl (lv_at hl 2 rfl) ?_
  refine lv_iload_n hx hb dL_implement_6 rfl (lv_at hl 3 rfl) ?_
  refine gx_V hC hG hO.1 rfl ((x_im2 l hST V ad T nc nm hI c_ g_ hc hg w_ hw hw2) E hO) km_RL_27 kn_yX5_implement ks_yX5_implement kz_RX5 kd_yX5_implement dn_X5_implement rfl hl.1 ⟨by decide, by decide⟩ (Nat.le_of_ble_eq_true rfl) ⟨Nat.le_of_ble_eq_true rfl, Nat.le_of_ble_eq_true rfl⟩ dL_implement_7 (fun ad1 E1 H locs q9 ce p_ hG hce hcv hcl => ?_)
  obtain ⟨h1, hX1, hO1⟩ := p_
  rw [h1] at hG
  have e60 := (hX1 60 0 0 (by decide)).trans e60
  refine vx_catch (own := RL) (name := "java/lang/IndexOutOfBoundsException") hC.2.2.2.1 [] (⟨0, 12, 15, 13⟩ : ExceptionTableEntry) [] (htab.trans rfl) (fun z hz => nomatch hz) (by decide) (by decide) (hC.2.2.2.2.1 _ kc_RL_13) (h_cast hC (by decide +kernel)) hce hcv hcl ?_
  change W _ _ _ _ _ _ _ _ _ _ _ _ _ _ _ (F0 _ 15 _ _)
  refine lv_astore (lv' := [(5, .ref q9), (0, .ref (ad 0 0 0)), (1, .int (nI c_)), (2, .int (nI g_)), (3, .int w_), (4, .ref (ad 60 0 0))]) hx hb dL_implement_15 hl (by decide) rfl (fun ls hl => ?_)
  refine lv_iconst (v := 1) hx hb dL_implement_17 (by decide) ?_
  exact gq_iret hC hz hG ⟨fun k i j h => ⟨hX1 k i j (by omega), rfl⟩, rfl, rfl, _, _, hO1, e60, ⟨rfl, rfl⟩⟩ (Nat.le_of_ble_eq_true rfl) (Nat.le_of_ble_eq_true rfl) dL_implement_18
set_option maxHeartbeats 4000000 in
set_option maxRecDepth 100000 in
theorem h_understands_ok (l : Launch) (hST : l.stackTraces = false) (V : gV) (ad : gA) (E : gE) (T : rS) (hO : cmOK V ad T E) (g : Nat → Int64) (e60 : E 60 0 0 = some (gOut V g)) (c_ g_ nc nm : Nat) (hI : rI T nc nm) (hc : c_ < nc) (hg : g_ < 6) : gMh l yL_understands cL_understands 5 [(0, 10, 13, 13)] ({ frames := 9, cells := 6, slots := 41, locals := 215 } : Room) [.ref (ad 0 0 0), .int (nI c_), .int (nI g_), .ref (ad 60 0 0)] V ad E (hQ V ad E (fun r v T' => r = 0 ∧ ∃ rr : Int32, v = rr.toInt64 ∧ (rr = s_und T (c_ + 1) g_ ∧ T' = T))) := by
  refine gMh.of (by decide) (Nat.le_of_ble_eq_true rfl) ?_
  intro sz p e s m_ below meth c ls htab hC hz hG hl
  have hx := hC.1
  have hb := hC.2.1
  have hl : lv_has ls 5 [(0, .ref (ad 0 0 0)), (1, .int (nI c_)), (2, .int (nI g_)), (3, .ref (ad 60 0 0))] := hl
  refine lv_aload_n hx hb dL_understands_0 rfl (lv_at hl 3 rfl) ?_
  refine lv_iconst (v := (nI 0)) hx hb dL_understands_1 (by decide) ?_
  refine lv_aload_n hx hb dL_understands_2 rfl (lv_at hl 0 rfl) ?_
  refine lv_iload_n hx hb dL_understands_3 rfl (lv_at hl 1 rfl) ?_
  refine lv_iload_n hx hb dL_understands_4 rfl (lv_at hl 2 rfl) ?_
  refine gc_Vi hC hG hO.1 rfl ((c5_understands l V ad T c_ g_ nc nm hI hc hg) E hO) km_RL_31 kn_yX5_understands ks_yX5_understands kz_RX5 kd_yX5_understands dn_X5_understands rfl hl.1 ⟨by decide, by decide⟩ (Nat.le_of_ble_eq_true rfl) ⟨Nat.le_of_ble_eq_true rfl, Nat.le_of_ble_eq_true rfl⟩ dL_understands_5 (fun r_ ad1 E1 H locs p_ hG hgr => ?_)
  obtain ⟨h1, hX1, T1, hO1, q_⟩ := p_
  rw [h1] at hG
  have e60 := (hX1 60 0 0 (by decide)).trans e60
  refine lv_i2l hx hb dL_understands_8 rfl ?_
  refine gk_last hC hG rfl e60 (vp_in_nI (n := 0) (by decide) (by decide)) dL_understands_9 (fun H locs hG => ?_)
  have e60 := gu_eq E1 60 0 0 (.inl (V.2.1 1, 1, .inr (.inl (va_up g (nI 0).toNatClampNeg ((r_).toInt64)))))
  have hO1 := cm_ext (E1 := gu E1 60 0 0 (.inl (V.2.1 1, 1, .inr (.inl (va_up g (nI 0).toNatClampNeg ((r_).toInt64)))))) (fun k i j h => gu_ne (by omega)) hO1
  refine lv_goto (tgt := 17) hx hb dL_understands_10 (by decide) ?_
  refine lv_iconst (v := 0) hx hb dL_understands_17 (by decide) ?_
  exact gq_iret hC hz hG ⟨fun k i j h => ⟨(gu_ne (by omega)).trans (hX1 k i j (by omega)), rfl⟩, rfl, rfl, _, _, hO1, e60, ⟨rfl, _, rfl, q_⟩⟩ (Nat.le_of_ble_eq_true rfl) (Nat.le_of_ble_eq_true rfl) dL_understands_18
set_option maxHeartbeats 4000000 in
set_option maxRecDepth 100000 in
theorem h_understands_x1 (l : Launch) (hST : l.stackTraces = false) (V : gV) (ad : gA) (E : gE) (T : rS) (hO : cmOK V ad T E) (g : Nat → Int64) (e60 : E 60 0 0 = some (gOut V g)) (x y : Int32) (hx_ : ¬ (s_isC T x ∧ s_sl y)) : gMh l yL_understands cL_understands 5 [(0, 10, 13, 13)] ({ frames := 9, cells := 6, slots := 41, locals := 215 } : Room) [.ref (ad 0 0 0), .int x, .int y, .ref (ad 60 0 0)] V ad E (hQ V ad E (fun r v T' => r = 1 ∧ T' = T)) := by
  refine gMh.of (by decide) (Nat.le_of_ble_eq_true rfl) ?_
  intro sz p e s m_ below meth c ls htab hC hz hG hl
  have hx := hC.1
  have hb := hC.2.1
  have hl : lv_has ls 5 [(0, .ref (ad 0 0 0)), (1, .int x), (2, .int y), (3, .ref (ad 60 0 0))] := hl
  refine lv_aload_n hx hb dL_understands_0 rfl (lv_at hl 3 rfl) ?_
  refine lv_iconst (v := (nI 0)) hx hb dL_understands_1 (by decide) ?_
  refine lv_aload_n hx hb dL_understands_2 rfl (lv_at hl 0 rfl) ?_
  refine lv_iload_n hx hb dL_understands_3 rfl (lv_at hl 1 rfl) ?_
  refine lv_iload_n hx hb dL_understands_4 rfl (lv_at hl 2 rfl) ?_
  refine gx_V hC hG hO.1 rfl ((x_un l hST V ad T x y hx_) E hO) km_RL_31 kn_yX5_understands ks_yX5_understands kz_RX5 kd_yX5_understands dn_X5_understands rfl hl.1 ⟨by decide, by decide⟩ (Nat.le_of_ble_eq_true rfl) ⟨Nat.le_of_ble_eq_true rfl, Nat.le_of_ble_eq_true rfl⟩ dL_understands_5 (fun ad1 E1 H locs q9 ce p_ hG hce hcv hcl => ?_)
  obtain ⟨h1, hX1, hO1⟩ := p_
  rw [h1] at hG
  have e60 := (hX1 60 0 0 (by decide)).trans e60
  refine vx_catch (own := RL) (name := "java/lang/IndexOutOfBoundsException") hC.2.2.2.1 [] (⟨0, 10, 13, 13⟩ : ExceptionTableEntry) [] (htab.trans rfl) (fun z hz => nomatch hz) (by decide) (by decide) (hC.2.2.2.2.1 _ kc_RL_13) (h_cast hC (by decide +kernel)) hce hcv hcl ?_
  change W _ _ _ _ _ _ _ _ _ _ _ _ _ _ _ (F0 _ 13 _ _)
  refine lv_astore (lv' := [(4, .ref q9), (0, .ref (ad 0 0 0)), (1, .int x), (2, .int y), (3, .ref (ad 60 0 0))]) hx hb dL_understands_13 hl (by decide) rfl (fun ls hl => ?_)
  refine lv_iconst (v := 1) hx hb dL_understands_15 (by decide) ?_
  exact gq_iret hC hz hG ⟨fun k i j h => ⟨hX1 k i j (by omega), rfl⟩, rfl, rfl, _, _, hO1, e60, ⟨rfl, rfl⟩⟩ (Nat.le_of_ble_eq_true rfl) (Nat.le_of_ble_eq_true rfl) dL_understands_16
set_option maxHeartbeats 4000000 in
set_option maxRecDepth 100000 in
theorem h_setPolicy_ok (l : Launch) (hST : l.stackTraces = false) (V : gV) (ad : gA) (E : gE) (T : rS) (hO : cmOK V ad T E) (g : Nat → Int64) (e60 : E 60 0 0 = some (gOut V g)) (a b c_ : Int32) (hok : s_pok a b c_) : gMh l yL_setPolicy cL_setPolicy 6 [(0, 19, 22, 25)] ({ frames := 9, cells := 6, slots := 41, locals := 215 } : Room) [.ref (ad 0 0 0), .int a, .int b, .int c_, .ref (ad 60 0 0)] V ad E (hQ V ad E (fun r v T' => r = 0 ∧ ∃ rr : Int32, v = (if rr = 0 then 0 else 1) ∧ (rr = rb (T.1 7 0 ≠ a ∨ T.1 8 0 ≠ b ∨ T.1 9 0 ≠ c_) ∧ T' = su (su (su T 7 (fun _ => a)) 8 (fun _ => b)) 9 (fun _ => c_)))) := by
  refine gMh.of (by decide) (Nat.le_of_ble_eq_true rfl) ?_
  intro sz p e s m_ below meth c ls htab hC hz hG hl
  have hx := hC.1
  have hb := hC.2.1
  have hl : lv_has ls 6 [(0, .ref (ad 0 0 0)), (1, .int a), (2, .int b), (3, .int c_), (4, .ref (ad 60 0 0))] := hl
  refine lv_aload hx hb dL_setPolicy_0 (lv_at hl 4 rfl) ?_
  refine lv_iconst (v := (nI 0)) hx hb dL_setPolicy_2 (by decide) ?_
  refine lv_aload_n hx hb dL_setPolicy_3 rfl (lv_at hl 0 rfl) ?_
  refine lv_iload_n hx hb dL_setPolicy_4 rfl (lv_at hl 1 rfl) ?_
  refine lv_iload_n hx hb dL_setPolicy_5 rfl (lv_at hl 2 rfl) ?_
  refine lv_iload_n hx hb dL_setPolicy_6 rfl (lv_at hl 3 rfl) ?_
  refine gc_Vi hC hG hO.1 rfl ((c5_setPolicy l V ad T a b c_ hok) E hO) km_RL_35 kn_yX5_setPolicy ks_yX5_setPolicy kz_RX5 kd_yX5_setPolicy dn_X5_setPolicy rfl hl.1 ⟨by decide, by decide⟩ (Nat.le_of_ble_eq_true rfl) ⟨Nat.le_of_ble_eq_true rfl, Nat.le_of_ble_eq_true rfl⟩ dL_setPolicy_7 (fun r_ ad1 E1 H locs p_ hG hgr => ?_)
  obtain ⟨h1, hX1, T1, hO1, q_⟩ := p_
  rw [h1] at hG
  have e60 := (hX1 60 0 0 (by decide)).trans e60
  refine lv_if_eq (tgt := 17) hx hb dL_setPolicy_10 (by decide) (fun c_10 => ?_) (fun c_10 => ?_)
  · refine lv_lconst (v := 0) hx hb dL_setPolicy_17 (by decide) ?_
    refine gk_last hC hG rfl e60 (vp_in_nI (n := 0) (by decide) (by decide)) dL_setPolicy_18 (fun H locs hG => ?_)
    have e60 := gu_eq E1 60 0 0 (.inl (V.2.1 1, 1, .inr (.inl (va_up g (nI 0).toNatClampNeg (0)))))
    have hO1 := cm_ext (E1 := gu E1 60 0 0 (.inl (V.2.1 1, 1, .inr (.inl (va_up g (nI 0).toNatClampNeg (0)))))) (fun k i j h => gu_ne (by omega)) hO1
    refine lv_goto (tgt := 26) hx hb dL_setPolicy_19 (by decide) ?_
    refine lv_iconst (v := 0) hx hb dL_setPolicy_26 (by decide) ?_
    exact gq_iret hC hz hG ⟨fun k i j h => ⟨(gu_ne (by omega)).trans (hX1 k i j (by omega)), rfl⟩, rfl, rfl, _, _, hO1, e60, ⟨rfl, r_, (if_pos c_10).symm, q_⟩⟩ (Nat.le_of_ble_eq_true rfl) (Nat.le_of_ble_eq_true rfl) dL_setPolicy_27
  · refine lv_lconst (v := 1) hx hb dL_setPolicy_13 (by decide) ?_
    refine lv_goto (tgt := 18) hx hb dL_setPolicy_14 (by decide) ?_
    refine gk_last hC hG rfl e60 (vp_in_nI (n := 0) (by decide) (by decide)) dL_setPolicy_18 (fun H locs hG => ?_)
    have e60 := gu_eq E1 60 0 0 (.inl (V.2.1 1, 1, .inr (.inl (va_up g (nI 0).toNatClampNeg (1)))))
    have hO1 := cm_ext (E1 := gu E1 60 0 0 (.inl (V.2.1 1, 1, .inr (.inl (va_up g (nI 0).toNatClampNeg (1)))))) (fun k i j h => gu_ne (by omega)) hO1
    refine lv_goto (tgt := 26) hx hb dL_setPolicy_19 (by decide) ?_
    refine lv_iconst (v := 0) hx hb dL_setPolicy_26 (by decide) ?_
    exact gq_iret hC hz hG ⟨fun k i j h => ⟨(gu_ne (by omega)).trans (hX1 k i j (by omega)), rfl⟩, rfl, rfl, _, _, hO1, e60, ⟨rfl, r_, (if_neg c_10).symm, q_⟩⟩ (Nat.le_of_ble_eq_true rfl) (Nat.le_of_ble_eq_true rfl) dL_setPolicy_27
set_option maxHeartbeats 4000000 in
set_option maxRecDepth 100000 in
theorem h_setPolicy_x1 (l : Launch) (hST : l.stackTraces = false) (V : gV) (ad : gA) (E : gE) (T : rS) (hO : cmOK V ad T E) (g : Nat → Int64) (e60 : E 60 0 0 = some (gOut V g)) (a b c_ : Int32) (hx_ : ¬ s_pok a b c_) : gMh l yL_setPolicy cL_setPolicy 6 [(0, 19, 22, 25)] ({ frames := 9, cells := 6, slots := 41, locals := 215 } : Room) [.ref (ad 0 0 0), .int a, .int b, .int c_, .ref (ad 60 0 0)] V ad E (hQ V ad E (fun r v T' => r = 1 ∧ T' = T)) := by
  refine gMh.of (by decide) (Nat.le_of_ble_eq_true rfl) ?_
  intro sz p e s m_ below meth c ls htab hC hz hG hl
  have hx := hC.1
  have hb := hC.2.1
  have hl : lv_has ls 6 [(0, .ref (ad 0 0 0)), (1, .int a), (2, .int b), (3, .int c_), (4, .ref (ad 60 0 0))] := hl
  refine lv_aload hx hb dL_setPolicy_0 (lv_at hl 4 rfl) ?_
  refine lv_iconst (v := (nI 0)) hx hb dL_setPolicy_2 (by decide) ?_
  refine lv_aload_n hx hb dL_setPolicy_3 rfl (lv_at hl 0 rfl) ?_
  refine lv_iload_n hx hb dL_setPolicy_4 rfl (lv_at hl 1 rfl) ?_
  refine lv_iload_n hx hb dL_setPolicy_5 rfl (lv_at hl 2 rfl) ?_
  refine lv_iload_n hx hb dL_setPolicy_6 rfl (lv_at hl 3 rfl) ?_
  refine gx_V hC hG hO.1 rfl ((x_sp l hST V ad T a b c_ hx_) E hO) km_RL_35 kn_yX5_setPolicy ks_yX5_setPolicy kz_RX5 kd_yX5_setPolicy dn_X5_setPolicy rfl hl.1 ⟨by decide, by decide⟩ (Nat.le_of_ble_eq_true rfl) ⟨Nat.le_of_ble_eq_true rfl, Nat.le_of_ble_eq_true rfl⟩ dL_setPolicy_7 (fun ad1 E1 H locs q9 ce p_ hG hce hcv hcl => ?_)
  obtain ⟨h1, hX1, hO1⟩ := p_
  rw [h1] at hG
  have e60 := (hX1 60 0 0 (by decide)).trans e60
  refine vx_catch (own := RL) (name := "java/lang/IllegalArgumentException") hC.2.2.2.1 [] (⟨0, 19, 22, 25⟩ : ExceptionTableEntry) [] (htab.trans rfl) (fun z hz => nomatch hz) (by decide) (by decide) (hC.2.2.2.2.1 _ kc_RL_25) (h_cast hC (by decide +kernel)) hce hcv hcl ?_
  change W _ _ _ _ _ _ _ _ _ _ _ _ _ _ _ (F0 _ 22 _ _)
  refine lv_astore (lv' := [(5, .ref q9), (0, .ref (ad 0 0 0)), (1, .int a), (2, .int b), (3, .int c_), (4, .ref (ad 60 0 0))]) hx hb dL_setPolicy_22 hl (by decide) rfl (fun ls hl => ?_)
  refine lv_iconst (v := 1) hx hb dL_setPolicy_24 (by decide) ?_
  exact gq_iret hC hz hG ⟨fun k i j h => ⟨hX1 k i j (by omega), rfl⟩, rfl, rfl, _, _, hO1, e60, ⟨rfl, rfl⟩⟩ (Nat.le_of_ble_eq_true rfl) (Nat.le_of_ble_eq_true rfl) dL_setPolicy_25
set_option maxHeartbeats 4000000 in
set_option maxRecDepth 100000 in
theorem h_run_ok (l : Launch) (hST : l.stackTraces = false) (V : gV) (ad : gA) (E : gE) (T : rS) (hO : cmOK V ad T E) (g : Nat → Int64) (e60 : E 60 0 0 = some (gOut V g)) (S : rS) (nc nm m0 mo : Nat) (hI : rI S nc nm) (hQ_ : rQ S) (he : er T = er S) (hm0 : m0 < nm) (hmo : mo ≤ 2000) (v_ : Int32) : gMh l yL_run cL_run 6 [(0, 12, 15, 13), (0, 12, 19, 25)] ({ frames := 9, cells := 6, slots := 41, locals := 215 } : Room) [.ref (ad 0 0 0), .int (nI m0), .int v_, .int (nI mo), .ref (ad 60 0 0)] V ad E (hQ V ad E (fun r v T' => r = 0 ∧ ∃ rr : Int32, v = rr.toInt64 ∧ (∃ S' : rS, runR mo (s_run0 S m0 v_) S' ∧ rr = s_rr S' ∧ rI S' nc nm ∧ rQ S' ∧ er T' = er S'))) := by
  refine gMh.of (by decide) (Nat.le_of_ble_eq_true rfl) ?_
  intro sz p e s m_ below meth c ls htab hC hz hG hl
  have hx := hC.1
  have hb := hC.2.1
  have hl : lv_has ls 6 [(0, .ref (ad 0 0 0)), (1, .int (nI m0)), (2, .int v_), (3, .int (nI mo)), (4, .ref (ad 60 0 0))] := hl
  refine lv_aload hx hb dL_run_0 (lv_at hl 4 rfl) ?_
  refine lv_iconst (v := (nI 0)) hx hb dL_run_2 (by decide) ?_
  refine lv_aload_n hx hb dL_run_3 rfl (lv_at hl 0 rfl) ?_
  refine lv_iload_n hx hb dL_run_4 rfl (lv_at hl 1 rfl) ?_
  refine lv_iload_n hx hb dL_run_5 rfl (lv_at hl 2 rfl) ?_
  refine lv_iload_n hx hb dL_run_6 rfl (lv_at hl 3 rfl) ?_
  refine gc_Vi hC hG hO.1 rfl ((c5_run l V ad T S nc nm m0 mo hI hQ_ he hm0 hmo v_) E hO) km_RL_39 kn_yX5_run ks_yX5_run kz_RX5 kd_yX5_run dn_X5_run rfl hl.1 ⟨by decide, by decide⟩ (Nat.le_of_ble_eq_true rfl) ⟨Nat.le_of_ble_eq_true rfl, Nat.le_of_ble_eq_true rfl⟩ dL_run_7 (fun r_ ad1 E1 H locs p_ hG hgr => ?_)
  obtain ⟨h1, hX1, T1, hO1, q_⟩ := p_
  rw [h1] at hG
  have e60 := (hX1 60 0 0 (by decide)).trans e60
  refine lv_i2l hx hb dL_run_10 rfl ?_
  refine gk_last hC hG rfl e60 (vp_in_nI (n := 0) (by decide) (by decide)) dL_run_11 (fun H locs hG => ?_)
  have e60 := gu_eq E1 60 0 0 (.inl (V.2.1 1, 1, .inr (.inl (va_up g (nI 0).toNatClampNeg ((r_).toInt64)))))
  have hO1 := cm_ext (E1 := gu E1 60 0 0 (.inl (V.2.1 1, 1, .inr (.inl (va_up g (nI 0).toNatClampNeg ((r_).toInt64)))))) (fun k i j h => gu_ne (by omega)) hO1
  refine lv_goto (tgt := 23) hx hb dL_run_12 (by decide) ?_
  refine lv_iconst (v := 0) hx hb dL_run_23 (by decide) ?_
  exact gq_iret hC hz hG ⟨fun k i j h => ⟨(gu_ne (by omega)).trans (hX1 k i j (by omega)), rfl⟩, rfl, rfl, _, _, hO1, e60, ⟨rfl, _, rfl, q_⟩⟩ (Nat.le_of_ble_eq_true rfl) (Nat.le_of_ble_eq_true rfl) dL_run_24
set_option maxHeartbeats 4000000 in
set_option maxRecDepth 100000 in
theorem h_run_x1 (l : Launch) (hST : l.stackTraces = false) (V : gV) (ad : gA) (E : gE) (T : rS) (hO : cmOK V ad T E) (g : Nat → Int64) (e60 : E 60 0 0 = some (gOut V g)) (nc nm : Nat) (hI : rI T nc nm) (x v_ y : Int32) (hx_ : ¬ s_isM T x) : gMh l yL_run cL_run 6 [(0, 12, 15, 13), (0, 12, 19, 25)] ({ frames := 9, cells := 6, slots := 41, locals := 215 } : Room) [.ref (ad 0 0 0), .int x, .int v_, .int y, .ref (ad 60 0 0)] V ad E (hQ V ad E (fun r v T' => r = 1 ∧ T' = T)) := by
  refine gMh.of (by decide) (Nat.le_of_ble_eq_true rfl) ?_
  intro sz p e s m_ below meth c ls htab hC hz hG hl
  have hx := hC.1
  have hb := hC.2.1
  have hl : lv_has ls 6 [(0, .ref (ad 0 0 0)), (1, .int x), (2, .int v_), (3, .int y), (4, .ref (ad 60 0 0))] := hl
  refine lv_aload hx hb dL_run_0 (lv_at hl 4 rfl) ?_
  refine lv_iconst (v := (nI 0)) hx hb dL_run_2 (by decide) ?_
  refine lv_aload_n hx hb dL_run_3 rfl (lv_at hl 0 rfl) ?_
  refine lv_iload_n hx hb dL_run_4 rfl (lv_at hl 1 rfl) ?_
  refine lv_iload_n hx hb dL_run_5 rfl (lv_at hl 2 rfl) ?_
  refine lv_iload_n hx hb dL_run_6 rfl (lv_at hl 3 rfl) ?_
  refine gx_V hC hG hO.1 rfl ((x_ru1 l hST V ad T nc nm hI x v_ y hx_) E hO) km_RL_39 kn_yX5_run ks_yX5_run kz_RX5 kd_yX5_run dn_X5_run rfl hl.1 ⟨by decide, by decide⟩ (Nat.le_of_ble_eq_true rfl) ⟨Nat.le_of_ble_eq_true rfl, Nat.le_of_ble_eq_true rfl⟩ dL_run_7 (fun ad1 E1 H locs q9 ce p_ hG hce hcv hcl => ?_)
  obtain ⟨h1, hX1, hO1⟩ := p_
  rw [h1] at hG
  have e60 := (hX1 60 0 0 (by decide)).trans e60
  refine vx_catch (own := RL) (name := "java/lang/IndexOutOfBoundsException") hC.2.2.2.1 [] (⟨0, 12, 15, 13⟩ : ExceptionTableEntry) [(⟨0, 12, 19, 25⟩ : ExceptionTableEntry)] (htab.trans rfl) (fun z hz => nomatch hz) (by decide) (by decide) (hC.2.2.2.2.1 _ kc_RL_13) (h_cast hC (by decide +kernel)) hce hcv hcl ?_
  change W _ _ _ _ _ _ _ _ _ _ _ _ _ _ _ (F0 _ 15 _ _)
  refine lv_astore (lv' := [(5, .ref q9), (0, .ref (ad 0 0 0)), (1, .int x), (2, .int v_), (3, .int y), (4, .ref (ad 60 0 0))]) hx hb dL_run_15 hl (by decide) rfl (fun ls hl => ?_)
  refine lv_iconst (v := 1) hx hb dL_run_17 (by decide) ?_
  exact gq_iret hC hz hG ⟨fun k i j h => ⟨hX1 k i j (by omega), rfl⟩, rfl, rfl, _, _, hO1, e60, ⟨rfl, rfl⟩⟩ (Nat.le_of_ble_eq_true rfl) (Nat.le_of_ble_eq_true rfl) dL_run_18
set_option maxHeartbeats 4000000 in
set_option maxRecDepth 100000 in
theorem h_run_x2 (l : Launch) (hST : l.stackTraces = false) (V : gV) (ad : gA) (E : gE) (T : rS) (hO : cmOK V ad T E) (g : Nat → Int64) (e60 : E 60 0 0 = some (gOut V g)) (nc nm : Nat) (hI : rI T nc nm) (m : Nat) (hm : m < nm) (v_ y : Int32) (hy : y < 0 ∨ 2000 < y) : gMh l yL_run cL_run 6 [(0, 12, 15, 13), (0, 12, 19, 25)] ({ frames := 9, cells := 6, slots := 41, locals := 215 } : Room) [.ref (ad 0 0 0), .int (nI m), .int v_, .int y, .ref (ad 60 0 0)] V ad E (hQ V ad E (fun r v T' => r = 2 ∧ T' = T)) := by
  refine gMh.of (by decide) (Nat.le_of_ble_eq_true rfl) ?_
  intro sz p e s m_ below meth c ls htab hC hz hG hl
  have hx := hC.1
  have hb := hC.2.1
  have hl : lv_has ls 6 [(0, .ref (ad 0 0 0)), (1, .int (nI m)), (2, .int v_), (3, .int y), (4, .ref (ad 60 0 0))] := hl
  refine lv_aload hx hb dL_run_0 (lv_at hl 4 rfl) ?_
  refine lv_iconst (v := (nI 0)) hx hb dL_run_2 (by decide) ?_
  refine lv_aload_n hx hb dL_run_3 rfl (lv_at hl 0 rfl) ?_
  refine lv_iload_n hx hb dL_run_4 rfl (lv_at hl 1 rfl) ?_
  refine lv_iload_n hx hb dL_run_5 rfl (lv_at hl 2 rfl) ?_
  refine lv_iload_n hx hb dL_run_6 rfl (lv_at hl 3 rfl) ?_
  refine gx_V hC hG hO.1 rfl ((x_ru2 l hST V ad T nc nm hI m hm v_ y hy) E hO) km_RL_39 kn_yX5_run ks_yX5_run kz_RX5 kd_yX5_run dn_X5_run rfl hl.1 ⟨by decide, by decide⟩ (Nat.le_of_ble_eq_true rfl) ⟨Nat.le_of_ble_eq_true rfl, Nat.le_of_ble_eq_true rfl⟩ dL_run_7 (fun ad1 E1 H locs q9 ce p_ hG hce hcv hcl => ?_)
  obtain ⟨h1, hX1, hO1⟩ := p_
  rw [h1] at hG
  have e60 := (hX1 60 0 0 (by decide)).trans e60
  refine vx_catch (own := RL) (name := "java/lang/IllegalArgumentException") hC.2.2.2.1 [(⟨0, 12, 15, 13⟩ : ExceptionTableEntry)] (⟨0, 12, 19, 25⟩ : ExceptionTableEntry) [] (htab.trans rfl) (fun z hz => by
      cases List.mem_singleton.mp hz
      exact Or.inr ⟨by decide, "java/lang/IndexOutOfBoundsException", hC.2.2.2.2.1 _ kc_RL_13, (h_nc hC).2.1⟩) (by decide) (by decide) (hC.2.2.2.2.1 _ kc_RL_25) (h_cast hC (by decide +kernel)) hce hcv hcl ?_
  change W _ _ _ _ _ _ _ _ _ _ _ _ _ _ _ (F0 _ 19 _ _)
  refine lv_astore (lv' := [(5, .ref q9), (0, .ref (ad 0 0 0)), (1, .int (nI m)), (2, .int v_), (3, .int y), (4, .ref (ad 60 0 0))]) hx hb dL_run_19 hl (by decide) rfl (fun ls hl => ?_)
  refine lv_iconst (v := 2) hx hb dL_run_21 (by decide) ?_
  exact gq_iret hC hz hG ⟨fun k i j h => ⟨hX1 k i j (by omega), rfl⟩, rfl, rfl, _, _, hO1, e60, ⟨rfl, rfl⟩⟩ (Nat.le_of_ble_eq_true rfl) (Nat.le_of_ble_eq_true rfl) dL_run_22
set_option maxHeartbeats 4000000 in
set_option maxRecDepth 100000 in
theorem h_total_ok (l : Launch) (hST : l.stackTraces = false) (V : gV) (ad : gA) (E : gE) (T : rS) (hO : cmOK V ad T E) (g : Nat → Int64) (e60 : E 60 0 0 = some (gOut V g)) (x : Nat) (hx4 : x < 4) : gMh l yL_total cL_total 4 [(0, 8, 11, 13)] ({ frames := 9, cells := 6, slots := 41, locals := 215 } : Room) [.ref (ad 0 0 0), .int (nI x), .ref (ad 60 0 0)] V ad E (hQ V ad E (fun r v T' => r = 0 ∧ v = T.2 16 x ∧ T' = T)) := by
  refine gMh.of (by decide) (Nat.le_of_ble_eq_true rfl) ?_
  intro sz p e s m_ below meth c ls htab hC hz hG hl
  have hx := hC.1
  have hb := hC.2.1
  have hl : lv_has ls 4 [(0, .ref (ad 0 0 0)), (1, .int (nI x)), (2, .ref (ad 60 0 0))] := hl
  refine lv_aload_n hx hb dL_total_0 rfl (lv_at hl 2 rfl) ?_
  refine lv_iconst (v := (nI 0)) hx hb dL_total_1 (by decide) ?_
  refine lv_aload_n hx hb dL_total_2 rfl (lv_at hl 0 rfl) ?_
  refine lv_iload_n hx hb dL_total_3 rfl (lv_at hl 1 rfl) ?_
  refine gc_Vl hC hG hO.1 rfl ((c5_total l V ad T x hx4) E hO) km_RL_42 kn_yX5_total ks_yX5_total kz_RX5 kd_yX5_total dn_X5_total rfl hl.1 ⟨by decide, by decide⟩ (Nat.le_of_ble_eq_true rfl) ⟨Nat.le_of_ble_eq_true rfl, Nat.le_of_ble_eq_true rfl⟩ dL_total_4 (fun r_ ad1 E1 H locs p_ hG hgr => ?_)
  obtain ⟨h1, hX1, T1, hO1, q_⟩ := p_
  rw [h1] at hG
  have e60 := (hX1 60 0 0 (by decide)).trans e60
  refine gk_last hC hG rfl e60 (vp_in_nI (n := 0) (by decide) (by decide)) dL_total_7 (fun H locs hG => ?_)
  have e60 := gu_eq E1 60 0 0 (.inl (V.2.1 1, 1, .inr (.inl (va_up g (nI 0).toNatClampNeg (r_)))))
  have hO1 := cm_ext (E1 := gu E1 60 0 0 (.inl (V.2.1 1, 1, .inr (.inl (va_up g (nI 0).toNatClampNeg (r_)))))) (fun k i j h => gu_ne (by omega)) hO1
  refine lv_goto (tgt := 14) hx hb dL_total_8 (by decide) ?_
  refine lv_iconst (v := 0) hx hb dL_total_14 (by decide) ?_
  exact gq_iret hC hz hG ⟨fun k i j h => ⟨(gu_ne (by omega)).trans (hX1 k i j (by omega)), rfl⟩, rfl, rfl, _, _, hO1, e60, ⟨rfl, q_.1, q_.2⟩⟩ (Nat.le_of_ble_eq_true rfl) (Nat.le_of_ble_eq_true rfl) dL_total_15
set_option maxHeartbeats 4000000 in
set_option maxRecDepth 100000 in
theorem h_total_x1 (l : Launch) (hST : l.stackTraces = false) (V : gV) (ad : gA) (E : gE) (T : rS) (hO : cmOK V ad T E) (g : Nat → Int64) (e60 : E 60 0 0 = some (gOut V g)) (x : Int32) (hx_ : ¬ (¬ x < 0 ∧ x ≤ 3)) : gMh l yL_total cL_total 4 [(0, 8, 11, 13)] ({ frames := 9, cells := 6, slots := 41, locals := 215 } : Room) [.ref (ad 0 0 0), .int x, .ref (ad 60 0 0)] V ad E (hQ V ad E (fun r v T' => r = 1 ∧ T' = T)) := by
  refine gMh.of (by decide) (Nat.le_of_ble_eq_true rfl) ?_
  intro sz p e s m_ below meth c ls htab hC hz hG hl
  have hx := hC.1
  have hb := hC.2.1
  have hl : lv_has ls 4 [(0, .ref (ad 0 0 0)), (1, .int x), (2, .ref (ad 60 0 0))] := hl
  refine lv_aload_n hx hb dL_total_0 rfl (lv_at hl 2 rfl) ?_
  refine lv_iconst (v := (nI 0)) hx hb dL_total_1 (by decide) ?_
  refine lv_aload_n hx hb dL_total_2 rfl (lv_at hl 0 rfl) ?_
  refine lv_iload_n hx hb dL_total_3 rfl (lv_at hl 1 rfl) ?_
  refine gx_V hC hG hO.1 rfl ((x_to l hST V ad T x hx_) E hO) km_RL_42 kn_yX5_total ks_yX5_total kz_RX5 kd_yX5_total dn_X5_total rfl hl.1 ⟨by decide, by decide⟩ (Nat.le_of_ble_eq_true rfl) ⟨Nat.le_of_ble_eq_true rfl, Nat.le_of_ble_eq_true rfl⟩ dL_total_4 (fun ad1 E1 H locs q9 ce p_ hG hce hcv hcl => ?_)
  obtain ⟨h1, hX1, hO1⟩ := p_
  rw [h1] at hG
  have e60 := (hX1 60 0 0 (by decide)).trans e60
  refine vx_catch (own := RL) (name := "java/lang/IndexOutOfBoundsException") hC.2.2.2.1 [] (⟨0, 8, 11, 13⟩ : ExceptionTableEntry) [] (htab.trans rfl) (fun z hz => nomatch hz) (by decide) (by decide) (hC.2.2.2.2.1 _ kc_RL_13) (h_cast hC (by decide +kernel)) hce hcv hcl ?_
  change W _ _ _ _ _ _ _ _ _ _ _ _ _ _ _ (F0 _ 11 _ _)
  refine lv_astore_n (lv' := [(3, .ref q9), (0, .ref (ad 0 0 0)), (1, .int x), (2, .ref (ad 60 0 0))]) hx hb dL_total_11 rfl hl (by decide) rfl (fun ls hl => ?_)
  refine lv_iconst (v := 1) hx hb dL_total_12 (by decide) ?_
  exact gq_iret hC hz hG ⟨fun k i j h => ⟨hX1 k i j (by omega), rfl⟩, rfl, rfl, _, _, hO1, e60, ⟨rfl, rfl⟩⟩ (Nat.le_of_ble_eq_true rfl) (Nat.le_of_ble_eq_true rfl) dL_total_13
set_option maxHeartbeats 4000000 in
set_option maxRecDepth 100000 in
theorem h_tier_ok (l : Launch) (hST : l.stackTraces = false) (V : gV) (ad : gA) (E : gE) (T : rS) (hO : cmOK V ad T E) (g : Nat → Int64) (e60 : E 60 0 0 = some (gOut V g)) (m : Nat) (hm : m < cnm T) (hm12 : cnm T ≤ 12) : gMh l yL_tier cL_tier 4 [(0, 9, 12, 13)] ({ frames := 9, cells := 6, slots := 41, locals := 215 } : Room) [.ref (ad 0 0 0), .int (nI m), .ref (ad 60 0 0)] V ad E (hQ V ad E (fun r v T' => r = 0 ∧ ∃ rr : Int32, v = rr.toInt64 ∧ (rr = T.1 10 m ∧ T' = T))) := by
  refine gMh.of (by decide) (Nat.le_of_ble_eq_true rfl) ?_
  intro sz p e s m_ below meth c ls htab hC hz hG hl
  have hx := hC.1
  have hb := hC.2.1
  have hl : lv_has ls 4 [(0, .ref (ad 0 0 0)), (1, .int (nI m)), (2, .ref (ad 60 0 0))] := hl
  refine lv_aload_n hx hb dL_tier_0 rfl (lv_at hl 2 rfl) ?_
  refine lv_iconst (v := (nI 0)) hx hb dL_tier_1 (by decide) ?_
  refine lv_aload_n hx hb dL_tier_2 rfl (lv_at hl 0 rfl) ?_
  refine lv_iload_n hx hb dL_tier_3 rfl (lv_at hl 1 rfl) ?_
  refine gc_Vi hC hG hO.1 rfl ((c5_tier l V ad T m hm hm12) E hO) km_RL_46 kn_yX5_tier ks_yX5_tier kz_RX5 kd_yX5_tier dn_X5_tier rfl hl.1 ⟨by decide, by decide⟩ (Nat.le_of_ble_eq_true rfl) ⟨Nat.le_of_ble_eq_true rfl, Nat.le_of_ble_eq_true rfl⟩ dL_tier_4 (fun r_ ad1 E1 H locs p_ hG hgr => ?_)
  obtain ⟨h1, hX1, T1, hO1, q_⟩ := p_
  rw [h1] at hG
  have e60 := (hX1 60 0 0 (by decide)).trans e60
  refine lv_i2l hx hb dL_tier_7 rfl ?_
  refine gk_last hC hG rfl e60 (vp_in_nI (n := 0) (by decide) (by decide)) dL_tier_8 (fun H locs hG => ?_)
  have e60 := gu_eq E1 60 0 0 (.inl (V.2.1 1, 1, .inr (.inl (va_up g (nI 0).toNatClampNeg ((r_).toInt64)))))
  have hO1 := cm_ext (E1 := gu E1 60 0 0 (.inl (V.2.1 1, 1, .inr (.inl (va_up g (nI 0).toNatClampNeg ((r_).toInt64)))))) (fun k i j h => gu_ne (by omega)) hO1
  refine lv_goto (tgt := 15) hx hb dL_tier_9 (by decide) ?_
  refine lv_iconst (v := 0) hx hb dL_tier_15 (by decide) ?_
  exact gq_iret hC hz hG ⟨fun k i j h => ⟨(gu_ne (by omega)).trans (hX1 k i j (by omega)), rfl⟩, rfl, rfl, _, _, hO1, e60, ⟨rfl, _, rfl, q_⟩⟩ (Nat.le_of_ble_eq_true rfl) (Nat.le_of_ble_eq_true rfl) dL_tier_16
set_option maxHeartbeats 4000000 in
set_option maxRecDepth 100000 in
theorem h_tier_x1 (l : Launch) (hST : l.stackTraces = false) (V : gV) (ad : gA) (E : gE) (T : rS) (hO : cmOK V ad T E) (g : Nat → Int64) (e60 : E 60 0 0 = some (gOut V g)) (nc nm : Nat) (hI : rI T nc nm) (x : Int32) (hx_ : ¬ s_isM T x) : gMh l yL_tier cL_tier 4 [(0, 9, 12, 13)] ({ frames := 9, cells := 6, slots := 41, locals := 215 } : Room) [.ref (ad 0 0 0), .int x, .ref (ad 60 0 0)] V ad E (hQ V ad E (fun r v T' => r = 1 ∧ T' = T)) := by
  refine gMh.of (by decide) (Nat.le_of_ble_eq_true rfl) ?_
  intro sz p e s m_ below meth c ls htab hC hz hG hl
  have hx := hC.1
  have hb := hC.2.1
  have hl : lv_has ls 4 [(0, .ref (ad 0 0 0)), (1, .int x), (2, .ref (ad 60 0 0))] := hl
  refine lv_aload_n hx hb dL_tier_0 rfl (lv_at hl 2 rfl) ?_
  refine lv_iconst (v := (nI 0)) hx hb dL_tier_1 (by decide) ?_
  refine lv_aload_n hx hb dL_tier_2 rfl (lv_at hl 0 rfl) ?_
  refine lv_iload_n hx hb dL_tier_3 rfl (lv_at hl 1 rfl) ?_
  refine gx_V hC hG hO.1 rfl ((x_ti l hST V ad T nc nm hI x hx_) E hO) km_RL_46 kn_yX5_tier ks_yX5_tier kz_RX5 kd_yX5_tier dn_X5_tier rfl hl.1 ⟨by decide, by decide⟩ (Nat.le_of_ble_eq_true rfl) ⟨Nat.le_of_ble_eq_true rfl, Nat.le_of_ble_eq_true rfl⟩ dL_tier_4 (fun ad1 E1 H locs q9 ce p_ hG hce hcv hcl => ?_)
  obtain ⟨h1, hX1, hO1⟩ := p_
  rw [h1] at hG
  have e60 := (hX1 60 0 0 (by decide)).trans e60
  refine vx_catch (own := RL) (name := "java/lang/IndexOutOfBoundsException") hC.2.2.2.1 [] (⟨0, 9, 12, 13⟩ : ExceptionTableEntry) [] (htab.trans rfl) (fun z hz => nomatch hz) (by decide) (by decide) (hC.2.2.2.2.1 _ kc_RL_13) (h_cast hC (by decide +kernel)) hce hcv hcl ?_
  change W _ _ _ _ _ _ _ _ _ _ _ _ _ _ _ (F0 _ 12 _ _)
  refine lv_astore_n (lv' := [(3, .ref q9), (0, .ref (ad 0 0 0)), (1, .int x), (2, .ref (ad 60 0 0))]) hx hb dL_tier_12 rfl hl (by decide) rfl (fun ls hl => ?_)
  refine lv_iconst (v := 1) hx hb dL_tier_13 (by decide) ?_
  exact gq_iret hC hz hG ⟨fun k i j h => ⟨hX1 k i j (by omega), rfl⟩, rfl, rfl, _, _, hO1, e60, ⟨rfl, rfl⟩⟩ (Nat.le_of_ble_eq_true rfl) (Nat.le_of_ble_eq_true rfl) dL_tier_14
set_option maxHeartbeats 4000000 in
set_option maxRecDepth 100000 in
theorem h_heat_ok (l : Launch) (hST : l.stackTraces = false) (V : gV) (ad : gA) (E : gE) (T : rS) (hO : cmOK V ad T E) (g : Nat → Int64) (e60 : E 60 0 0 = some (gOut V g)) (m : Nat) (hm : m < cnm T) (hm12 : cnm T ≤ 12) : gMh l yL_heat cL_heat 4 [(0, 9, 12, 13)] ({ frames := 9, cells := 6, slots := 41, locals := 215 } : Room) [.ref (ad 0 0 0), .int (nI m), .ref (ad 60 0 0)] V ad E (hQ V ad E (fun r v T' => r = 0 ∧ ∃ rr : Int32, v = rr.toInt64 ∧ (rr = T.1 11 m ∧ T' = T))) := by
  refine gMh.of (by decide) (Nat.le_of_ble_eq_true rfl) ?_
  intro sz p e s m_ below meth c ls htab hC hz hG hl
  have hx := hC.1
  have hb := hC.2.1
  have hl : lv_has ls 4 [(0, .ref (ad 0 0 0)), (1, .int (nI m)), (2, .ref (ad 60 0 0))] := hl
  refine lv_aload_n hx hb dL_heat_0 rfl (lv_at hl 2 rfl) ?_
  refine lv_iconst (v := (nI 0)) hx hb dL_heat_1 (by decide) ?_
  refine lv_aload_n hx hb dL_heat_2 rfl (lv_at hl 0 rfl) ?_
  refine lv_iload_n hx hb dL_heat_3 rfl (lv_at hl 1 rfl) ?_
  refine gc_Vi hC hG hO.1 rfl ((c5_heat l V ad T m hm hm12) E hO) km_RL_49 kn_yX5_heat ks_yX5_heat kz_RX5 kd_yX5_heat dn_X5_heat rfl hl.1 ⟨by decide, by decide⟩ (Nat.le_of_ble_eq_true rfl) ⟨Nat.le_of_ble_eq_true rfl, Nat.le_of_ble_eq_true rfl⟩ dL_heat_4 (fun r_ ad1 E1 H locs p_ hG hgr => ?_)
  obtain ⟨h1, hX1, T1, hO1, q_⟩ := p_
  rw [h1] at hG
  have e60 := (hX1 60 0 0 (by decide)).trans e60
  refine lv_i2l hx hb dL_heat_7 rfl ?_
  refine gk_last hC hG rfl e60 (vp_in_nI (n := 0) (by decide) (by decide)) dL_heat_8 (fun H locs hG => ?_)
  have e60 := gu_eq E1 60 0 0 (.inl (V.2.1 1, 1, .inr (.inl (va_up g (nI 0).toNatClampNeg ((r_).toInt64)))))
  have hO1 := cm_ext (E1 := gu E1 60 0 0 (.inl (V.2.1 1, 1, .inr (.inl (va_up g (nI 0).toNatClampNeg ((r_).toInt64)))))) (fun k i j h => gu_ne (by omega)) hO1
  refine lv_goto (tgt := 15) hx hb dL_heat_9 (by decide) ?_
  refine lv_iconst (v := 0) hx hb dL_heat_15 (by decide) ?_
  exact gq_iret hC hz hG ⟨fun k i j h => ⟨(gu_ne (by omega)).trans (hX1 k i j (by omega)), rfl⟩, rfl, rfl, _, _, hO1, e60, ⟨rfl, _, rfl, q_⟩⟩ (Nat.le_of_ble_eq_true rfl) (Nat.le_of_ble_eq_true rfl) dL_heat_16
set_option maxHeartbeats 4000000 in
set_option maxRecDepth 100000 in
theorem h_heat_x1 (l : Launch) (hST : l.stackTraces = false) (V : gV) (ad : gA) (E : gE) (T : rS) (hO : cmOK V ad T E) (g : Nat → Int64) (e60 : E 60 0 0 = some (gOut V g)) (nc nm : Nat) (hI : rI T nc nm) (x : Int32) (hx_ : ¬ s_isM T x) : gMh l yL_heat cL_heat 4 [(0, 9, 12, 13)] ({ frames := 9, cells := 6, slots := 41, locals := 215 } : Room) [.ref (ad 0 0 0), .int x, .ref (ad 60 0 0)] V ad E (hQ V ad E (fun r v T' => r = 1 ∧ T' = T)) := by
  refine gMh.of (by decide) (Nat.le_of_ble_eq_true rfl) ?_
  intro sz p e s m_ below meth c ls htab hC hz hG hl
  have hx := hC.1
  have hb := hC.2.1
  have hl : lv_has ls 4 [(0, .ref (ad 0 0 0)), (1, .int x), (2, .ref (ad 60 0 0))] := hl
  refine lv_aload_n hx hb dL_heat_0 rfl (lv_at hl 2 rfl) ?_
  refine lv_iconst (v := (nI 0)) hx hb dL_heat_1 (by decide) ?_
  refine lv_aload_n hx hb dL_heat_2 rfl (lv_at hl 0 rfl) ?_
  refine lv_iload_n hx hb dL_heat_3 rfl (lv_at hl 1 rfl) ?_
  refine gx_V hC hG hO.1 rfl ((x_he l hST V ad T nc nm hI x hx_) E hO) km_RL_49 kn_yX5_heat ks_yX5_heat kz_RX5 kd_yX5_heat dn_X5_heat rfl hl.1 ⟨by decide, by decide⟩ (Nat.le_of_ble_eq_true rfl) ⟨Nat.le_of_ble_eq_true rfl, Nat.le_of_ble_eq_true rfl⟩ dL_heat_4 (fun ad1 E1 H locs q9 ce p_ hG hce hcv hcl => ?_)
  obtain ⟨h1, hX1, hO1⟩ := p_
  rw [h1] at hG
  have e60 := (hX1 60 0 0 (by decide)).trans e60
  refine vx_catch (own := RL) (name := "java/lang/IndexOutOfBoundsException") hC.2.2.2.1 [] (⟨0, 9, 12, 13⟩ : ExceptionTableEntry) [] (htab.trans rfl) (fun z hz => nomatch hz) (by decide) (by decide) (hC.2.2.2.2.1 _ kc_RL_13) (h_cast hC (by decide +kernel)) hce hcv hcl ?_
  change W _ _ _ _ _ _ _ _ _ _ _ _ _ _ _ (F0 _ 12 _ _)
  refine lv_astore_n (lv' := [(3, .ref q9), (0, .ref (ad 0 0 0)), (1, .int x), (2, .ref (ad 60 0 0))]) hx hb dL_heat_12 rfl hl (by decide) rfl (fun ls hl => ?_)
  refine lv_iconst (v := 1) hx hb dL_heat_13 (by decide) ?_
  exact gq_iret hC hz hG ⟨fun k i j h => ⟨hX1 k i j (by omega), rfl⟩, rfl, rfl, _, _, hO1, e60, ⟨rfl, rfl⟩⟩ (Nat.le_of_ble_eq_true rfl) (Nat.le_of_ble_eq_true rfl) dL_heat_14
set_option maxHeartbeats 4000000 in
set_option maxRecDepth 100000 in
theorem h_disappointments_ok (l : Launch) (hST : l.stackTraces = false) (V : gV) (ad : gA) (E : gE) (T : rS) (hO : cmOK V ad T E) (g : Nat → Int64) (e60 : E 60 0 0 = some (gOut V g)) (m : Nat) (hm : m < cnm T) (hm12 : cnm T ≤ 12) : gMh l yL_disappointments cL_disappointments 4 [(0, 9, 12, 13)] ({ frames := 9, cells := 6, slots := 41, locals := 215 } : Room) [.ref (ad 0 0 0), .int (nI m), .ref (ad 60 0 0)] V ad E (hQ V ad E (fun r v T' => r = 0 ∧ ∃ rr : Int32, v = rr.toInt64 ∧ (rr = T.1 12 m ∧ T' = T))) := by
  refine gMh.of (by decide) (Nat.le_of_ble_eq_true rfl) ?_
  intro sz p e s m_ below meth c ls htab hC hz hG hl
  have hx := hC.1
  have hb := hC.2.1
  have hl : lv_has ls 4 [(0, .ref (ad 0 0 0)), (1, .int (nI m)), (2, .ref (ad 60 0 0))] := hl
  refine lv_aload_n hx hb dL_disappointments_0 rfl (lv_at hl 2 rfl) ?_
  refine lv_iconst (v := (nI 0)) hx hb dL_disappointments_1 (by decide) ?_
  refine lv_aload_n hx hb dL_disappointments_2 rfl (lv_at hl 0 rfl) ?_
  refine lv_iload_n hx hb dL_disappointments_3 rfl (lv_at hl 1 rfl) ?_
  refine gc_Vi hC hG hO.1 rfl ((c5_disappointments l V ad T m hm hm12) E hO) km_RL_52 kn_yX5_disappointments ks_yX5_disappointments kz_RX5 kd_yX5_disappointments dn_X5_disappointments rfl hl.1 ⟨by decide, by decide⟩ (Nat.le_of_ble_eq_true rfl) ⟨Nat.le_of_ble_eq_true rfl, Nat.le_of_ble_eq_true rfl⟩ dL_disappointments_4 (fun r_ ad1 E1 H locs p_ hG hgr => ?_)
  obtain ⟨h1, hX1, T1, hO1, q_⟩ := p_
  rw [h1] at hG
  have e60 := (hX1 60 0 0 (by decide)).trans e60
  refine lv_i2l hx hb dL_disappointments_7 rfl ?_
  refine gk_last hC hG rfl e60 (vp_in_nI (n := 0) (by decide) (by decide)) dL_disappointments_8 (fun H locs hG => ?_)
  have e60 := gu_eq E1 60 0 0 (.inl (V.2.1 1, 1, .inr (.inl (va_up g (nI 0).toNatClampNeg ((r_).toInt64)))))
  have hO1 := cm_ext (E1 := gu E1 60 0 0 (.inl (V.2.1 1, 1, .inr (.inl (va_up g (nI 0).toNatClampNeg ((r_).toInt64)))))) (fun k i j h => gu_ne (by omega)) hO1
  refine lv_goto (tgt := 15) hx hb dL_disappointments_9 (by decide) ?_
  refine lv_iconst (v := 0) hx hb dL_disappointments_15 (by decide) ?_
  exact gq_iret hC hz hG ⟨fun k i j h => ⟨(gu_ne (by omega)).trans (hX1 k i j (by omega)), rfl⟩, rfl, rfl, _, _, hO1, e60, ⟨rfl, _, rfl, q_⟩⟩ (Nat.le_of_ble_eq_true rfl) (Nat.le_of_ble_eq_true rfl) dL_disappointments_16
set_option maxHeartbeats 4000000 in
set_option maxRecDepth 100000 in
theorem h_disappointments_x1 (l : Launch) (hST : l.stackTraces = false) (V : gV) (ad : gA) (E : gE) (T : rS) (hO : cmOK V ad T E) (g : Nat → Int64) (e60 : E 60 0 0 = some (gOut V g)) (nc nm : Nat) (hI : rI T nc nm) (x : Int32) (hx_ : ¬ s_isM T x) : gMh l yL_disappointments cL_disappointments 4 [(0, 9, 12, 13)] ({ frames := 9, cells := 6, slots := 41, locals := 215 } : Room) [.ref (ad 0 0 0), .int x, .ref (ad 60 0 0)] V ad E (hQ V ad E (fun r v T' => r = 1 ∧ T' = T)) := by
  refine gMh.of (by decide) (Nat.le_of_ble_eq_true rfl) ?_
  intro sz p e s m_ below meth c ls htab hC hz hG hl
  have hx := hC.1
  have hb := hC.2.1
  have hl : lv_has ls 4 [(0, .ref (ad 0 0 0)), (1, .int x), (2, .ref (ad 60 0 0))] := hl
  refine lv_aload_n hx hb dL_disappointments_0 rfl (lv_at hl 2 rfl) ?_
  refine lv_iconst (v := (nI 0)) hx hb dL_disappointments_1 (by decide) ?_
  refine lv_aload_n hx hb dL_disappointments_2 rfl (lv_at hl 0 rfl) ?_
  refine lv_iload_n hx hb dL_disappointments_3 rfl (lv_at hl 1 rfl) ?_
  refine gx_V hC hG hO.1 rfl ((x_di l hST V ad T nc nm hI x hx_) E hO) km_RL_52 kn_yX5_disappointments ks_yX5_disappointments kz_RX5 kd_yX5_disappointments dn_X5_disappointments rfl hl.1 ⟨by decide, by decide⟩ (Nat.le_of_ble_eq_true rfl) ⟨Nat.le_of_ble_eq_true rfl, Nat.le_of_ble_eq_true rfl⟩ dL_disappointments_4 (fun ad1 E1 H locs q9 ce p_ hG hce hcv hcl => ?_)
  obtain ⟨h1, hX1, hO1⟩ := p_
  rw [h1] at hG
  have e60 := (hX1 60 0 0 (by decide)).trans e60
  refine vx_catch (own := RL) (name := "java/lang/IndexOutOfBoundsException") hC.2.2.2.1 [] (⟨0, 9, 12, 13⟩ : ExceptionTableEntry) [] (htab.trans rfl) (fun z hz => nomatch hz) (by decide) (by decide) (hC.2.2.2.2.1 _ kc_RL_13) (h_cast hC (by decide +kernel)) hce hcv hcl ?_
  change W _ _ _ _ _ _ _ _ _ _ _ _ _ _ _ (F0 _ 12 _ _)
  refine lv_astore_n (lv' := [(3, .ref q9), (0, .ref (ad 0 0 0)), (1, .int x), (2, .ref (ad 60 0 0))]) hx hb dL_disappointments_12 rfl hl (by decide) rfl (fun ls hl => ?_)
  refine lv_iconst (v := 1) hx hb dL_disappointments_13 (by decide) ?_
  exact gq_iret hC hz hG ⟨fun k i j h => ⟨hX1 k i j (by omega), rfl⟩, rfl, rfl, _, _, hO1, e60, ⟨rfl, rfl⟩⟩ (Nat.le_of_ble_eq_true rfl) (Nat.le_of_ble_eq_true rfl) dL_disappointments_14
set_option maxHeartbeats 4000000 in
set_option maxRecDepth 100000 in
theorem h_met_ok (l : Launch) (hST : l.stackTraces = false) (V : gV) (ad : gA) (E : gE) (T : rS) (hO : cmOK V ad T E) (g : Nat → Int64) (e60 : E 60 0 0 = some (gOut V g)) (m q : Nat) (hm : m < cnm T) (hm12 : cnm T ≤ 12) (hq : q < csz T m) (hz20 : csz T m ≤ 20) (hk : T.1 6 (5 * (20 * m + q)) = 5) : gMh l yL_met cL_met 5 [(0, 10, 13, 13)] ({ frames := 9, cells := 6, slots := 41, locals := 215 } : Room) [.ref (ad 0 0 0), .int (nI m), .int (nI q), .ref (ad 60 0 0)] V ad E (hQ V ad E (fun r v T' => r = 0 ∧ ∃ rr : Int32, v = rr.toInt64 ∧ (rr = s_mat T m q ∧ T' = T))) := by
  refine gMh.of (by decide) (Nat.le_of_ble_eq_true rfl) ?_
  intro sz p e s m_ below meth c ls htab hC hz hG hl
  have hx := hC.1
  have hb := hC.2.1
  have hl : lv_has ls 5 [(0, .ref (ad 0 0 0)), (1, .int (nI m)), (2, .int (nI q)), (3, .ref (ad 60 0 0))] := hl
  refine lv_aload_n hx hb dL_met_0 rfl (lv_at hl 3 rfl) ?_
  refine lv_iconst (v := (nI 0)) hx hb dL_met_1 (by decide) ?_
  refine lv_aload_n hx hb dL_met_2 rfl (lv_at hl 0 rfl) ?_
  refine lv_iload_n hx hb dL_met_3 rfl (lv_at hl 1 rfl) ?_
  refine lv_iload_n hx hb dL_met_4 rfl (lv_at hl 2 rfl) ?_
  refine gc_Vi hC hG hO.1 rfl ((c5_met l V ad T m q hm hm12 hq hz20 hk) E hO) km_RL_55 kn_yX5_met ks_yX5_met kz_RX5 kd_yX5_met dn_X5_met rfl hl.1 ⟨by decide, by decide⟩ (Nat.le_of_ble_eq_true rfl) ⟨Nat.le_of_ble_eq_true rfl, Nat.le_of_ble_eq_true rfl⟩ dL_met_5 (fun r_ ad1 E1 H locs p_ hG hgr => ?_)
  obtain ⟨h1, hX1, T1, hO1, q_⟩ := p_
  rw [h1] at hG
  have e60 := (hX1 60 0 0 (by decide)).trans e60
  refine lv_i2l hx hb dL_met_8 rfl ?_
  refine gk_last hC hG rfl e60 (vp_in_nI (n := 0) (by decide) (by decide)) dL_met_9 (fun H locs hG => ?_)
  have e60 := gu_eq E1 60 0 0 (.inl (V.2.1 1, 1, .inr (.inl (va_up g (nI 0).toNatClampNeg ((r_).toInt64)))))
  have hO1 := cm_ext (E1 := gu E1 60 0 0 (.inl (V.2.1 1, 1, .inr (.inl (va_up g (nI 0).toNatClampNeg ((r_).toInt64)))))) (fun k i j h => gu_ne (by omega)) hO1
  refine lv_goto (tgt := 17) hx hb dL_met_10 (by decide) ?_
  refine lv_iconst (v := 0) hx hb dL_met_17 (by decide) ?_
  exact gq_iret hC hz hG ⟨fun k i j h => ⟨(gu_ne (by omega)).trans (hX1 k i j (by omega)), rfl⟩, rfl, rfl, _, _, hO1, e60, ⟨rfl, _, rfl, q_⟩⟩ (Nat.le_of_ble_eq_true rfl) (Nat.le_of_ble_eq_true rfl) dL_met_18
set_option maxHeartbeats 4000000 in
set_option maxRecDepth 100000 in
theorem h_met_x1 (l : Launch) (hST : l.stackTraces = false) (V : gV) (ad : gA) (E : gE) (T : rS) (hO : cmOK V ad T E) (g : Nat → Int64) (e60 : E 60 0 0 = some (gOut V g)) (nc nm : Nat) (hI : rI T nc nm) (x y : Int32) (hx_ : ¬ s_isM T x) : gMh l yL_met cL_met 5 [(0, 10, 13, 13)] ({ frames := 9, cells := 6, slots := 41, locals := 215 } : Room) [.ref (ad 0 0 0), .int x, .int y, .ref (ad 60 0 0)] V ad E (hQ V ad E (fun r v T' => r = 1 ∧ T' = T)) := by
  refine gMh.of (by decide) (Nat.le_of_ble_eq_true rfl) ?_
  intro sz p e s m_ below meth c ls htab hC hz hG hl
  have hx := hC.1
  have hb := hC.2.1
  have hl : lv_has ls 5 [(0, .ref (ad 0 0 0)), (1, .int x), (2, .int y), (3, .ref (ad 60 0 0))] := hl
  refine lv_aload_n hx hb dL_met_0 rfl (lv_at hl 3 rfl) ?_
  refine lv_iconst (v := (nI 0)) hx hb dL_met_1 (by decide) ?_
  refine lv_aload_n hx hb dL_met_2 rfl (lv_at hl 0 rfl) ?_
  refine lv_iload_n hx hb dL_met_3 rfl (lv_at hl 1 rfl) ?_
  refine lv_iload_n hx hb dL_met_4 rfl (lv_at hl 2 rfl) ?_
  refine gx_V hC hG hO.1 rfl ((x_me1 l hST V ad T nc nm hI x y hx_) E hO) km_RL_55 kn_yX5_met ks_yX5_met kz_RX5 kd_yX5_met dn_X5_met rfl hl.1 ⟨by decide, by decide⟩ (Nat.le_of_ble_eq_true rfl) ⟨Nat.le_of_ble_eq_true rfl, Nat.le_of_ble_eq_true rfl⟩ dL_met_5 (fun ad1 E1 H locs q9 ce p_ hG hce hcv hcl => ?_)
  obtain ⟨h1, hX1, hO1⟩ := p_
  rw [h1] at hG
  have e60 := (hX1 60 0 0 (by decide)).trans e60
  refine vx_catch (own := RL) (name := "java/lang/IndexOutOfBoundsException") hC.2.2.2.1 [] (⟨0, 10, 13, 13⟩ : ExceptionTableEntry) [] (htab.trans rfl) (fun z hz => nomatch hz) (by decide) (by decide) (hC.2.2.2.2.1 _ kc_RL_13) (h_cast hC (by decide +kernel)) hce hcv hcl ?_
  change W _ _ _ _ _ _ _ _ _ _ _ _ _ _ _ (F0 _ 13 _ _)
  refine lv_astore (lv' := [(4, .ref q9), (0, .ref (ad 0 0 0)), (1, .int x), (2, .int y), (3, .ref (ad 60 0 0))]) hx hb dL_met_13 hl (by decide) rfl (fun ls hl => ?_)
  refine lv_iconst (v := 1) hx hb dL_met_15 (by decide) ?_
  exact gq_iret hC hz hG ⟨fun k i j h => ⟨hX1 k i j (by omega), rfl⟩, rfl, rfl, _, _, hO1, e60, ⟨rfl, rfl⟩⟩ (Nat.le_of_ble_eq_true rfl) (Nat.le_of_ble_eq_true rfl) dL_met_16
set_option maxHeartbeats 4000000 in
set_option maxRecDepth 100000 in
theorem h_met_x2 (l : Launch) (hST : l.stackTraces = false) (V : gV) (ad : gA) (E : gE) (T : rS) (hO : cmOK V ad T E) (g : Nat → Int64) (e60 : E 60 0 0 = some (gOut V g)) (nc nm : Nat) (hI : rI T nc nm) (m : Nat) (hm : m < nm) (y : Int32) (hx_ : ¬ (¬ y < 0 ∧ y < T.1 5 m ∧ T.1 6 (5 * (20 * m + tn y)) = 5)) : gMh l yL_met cL_met 5 [(0, 10, 13, 13)] ({ frames := 9, cells := 6, slots := 41, locals := 215 } : Room) [.ref (ad 0 0 0), .int (nI m), .int y, .ref (ad 60 0 0)] V ad E (hQ V ad E (fun r v T' => r = 1 ∧ T' = T)) := by
  refine gMh.of (by decide) (Nat.le_of_ble_eq_true rfl) ?_
  intro sz p e s m_ below meth c ls htab hC hz hG hl
  have hx := hC.1
  have hb := hC.2.1
  have hl : lv_has ls 5 [(0, .ref (ad 0 0 0)), (1, .int (nI m)), (2, .int y), (3, .ref (ad 60 0 0))] := hl
  refine lv_aload_n hx hb dL_met_0 rfl (lv_at hl 3 rfl) ?_
  refine lv_iconst (v := (nI 0)) hx hb dL_met_1 (by decide) ?_
  refine lv_aload_n hx hb dL_met_2 rfl (lv_at hl 0 rfl) ?_
  refine lv_iload_n hx hb dL_met_3 rfl (lv_at hl 1 rfl) ?_
  refine lv_iload_n hx hb dL_met_4 rfl (lv_at hl 2 rfl) ?_
  refine gx_V hC hG hO.1 rfl ((x_me2 l hST V ad T nc nm hI m hm y hx_) E hO) km_RL_55 kn_yX5_met ks_yX5_met kz_RX5 kd_yX5_met dn_X5_met rfl hl.1 ⟨by decide, by decide⟩ (Nat.le_of_ble_eq_true rfl) ⟨Nat.le_of_ble_eq_true rfl, Nat.le_of_ble_eq_true rfl⟩ dL_met_5 (fun ad1 E1 H locs q9 ce p_ hG hce hcv hcl => ?_)
  obtain ⟨h1, hX1, hO1⟩ := p_
  rw [h1] at hG
  have e60 := (hX1 60 0 0 (by decide)).trans e60
  refine vx_catch (own := RL) (name := "java/lang/IndexOutOfBoundsException") hC.2.2.2.1 [] (⟨0, 10, 13, 13⟩ : ExceptionTableEntry) [] (htab.trans rfl) (fun z hz => nomatch hz) (by decide) (by decide) (hC.2.2.2.2.1 _ kc_RL_13) (h_cast hC (by decide +kernel)) hce hcv hcl ?_
  change W _ _ _ _ _ _ _ _ _ _ _ _ _ _ _ (F0 _ 13 _ _)
  refine lv_astore (lv' := [(4, .ref q9), (0, .ref (ad 0 0 0)), (1, .int (nI m)), (2, .int y), (3, .ref (ad 60 0 0))]) hx hb dL_met_13 hl (by decide) rfl (fun ls hl => ?_)
  refine lv_iconst (v := 1) hx hb dL_met_15 (by decide) ?_
  exact gq_iret hC hz hG ⟨fun k i j h => ⟨hX1 k i j (by omega), rfl⟩, rfl, rfl, _, _, hO1, e60, ⟨rfl, rfl⟩⟩ (Nat.le_of_ble_eq_true rfl) (Nat.le_of_ble_eq_true rfl) dL_met_16
set_option maxHeartbeats 4000000 in
set_option maxRecDepth 100000 in
theorem h_metClass_ok (l : Launch) (hST : l.stackTraces = false) (V : gV) (ad : gA) (E : gE) (T : rS) (hO : cmOK V ad T E) (g : Nat → Int64) (e60 : E 60 0 0 = some (gOut V g)) (m q : Nat) (hm : m < cnm T) (hm12 : cnm T ≤ 12) (hq : q < csz T m) (hz20 : csz T m ≤ 20) (hk : T.1 6 (5 * (20 * m + q)) = 5) (x n : Nat) (hn : T.1 13 (20 * m + q) = nI n) (hn3 : n ≤ 3) (hxn : x < n) : gMh l yL_metClass cL_metClass 6 [(0, 12, 15, 13)] ({ frames := 9, cells := 6, slots := 41, locals := 215 } : Room) [.ref (ad 0 0 0), .int (nI m), .int (nI q), .int (nI x), .ref (ad 60 0 0)] V ad E (hQ V ad E (fun r v T' => r = 0 ∧ ∃ rr : Int32, v = rr.toInt64 ∧ (rr = T.1 14 (3 * (20 * m + q) + x) ∧ T' = T))) := by
  refine gMh.of (by decide) (Nat.le_of_ble_eq_true rfl) ?_
  intro sz p e s m_ below meth c ls htab hC hz hG hl
  have hx := hC.1
  have hb := hC.2.1
  have hl : lv_has ls 6 [(0, .ref (ad 0 0 0)), (1, .int (nI m)), (2, .int (nI q)), (3, .int (nI x)), (4, .ref (ad 60 0 0))] := hl
  refine lv_aload hx hb dL_metClass_0 (lv_at hl 4 rfl) ?_
  refine lv_iconst (v := (nI 0)) hx hb dL_metClass_2 (by decide) ?_
  refine lv_aload_n hx hb dL_metClass_3 rfl (lv_at hl 0 rfl) ?_
  refine lv_iload_n hx hb dL_metClass_4 rfl (lv_at hl 1 rfl) ?_
  refine lv_iload_n hx hb dL_metClass_5 rfl (lv_at hl 2 rfl) ?_
  refine lv_iload_n hx hb dL_metClass_6 rfl (lv_at hl 3 rfl) ?_
  refine gc_Vi hC hG hO.1 rfl ((c5_metClass l V ad T m q hm hm12 hq hz20 hk x n hn hn3 hxn) E hO) km_RL_58 kn_yX5_metClass ks_yX5_metClass kz_RX5 kd_yX5_metClass dn_X5_metClass rfl hl.1 ⟨by decide, by decide⟩ (Nat.le_of_ble_eq_true rfl) ⟨Nat.le_of_ble_eq_true rfl, Nat.le_of_ble_eq_true rfl⟩ dL_metClass_7 (fun r_ ad1 E1 H locs p_ hG hgr => ?_)
  obtain ⟨h1, hX1, T1, hO1, q_⟩ := p_
  rw [h1] at hG
  have e60 := (hX1 60 0 0 (by decide)).trans e60
  refine lv_i2l hx hb dL_metClass_10 rfl ?_
  refine gk_last hC hG rfl e60 (vp_in_nI (n := 0) (by decide) (by decide)) dL_metClass_11 (fun H locs hG => ?_)
  have e60 := gu_eq E1 60 0 0 (.inl (V.2.1 1, 1, .inr (.inl (va_up g (nI 0).toNatClampNeg ((r_).toInt64)))))
  have hO1 := cm_ext (E1 := gu E1 60 0 0 (.inl (V.2.1 1, 1, .inr (.inl (va_up g (nI 0).toNatClampNeg ((r_).toInt64)))))) (fun k i j h => gu_ne (by omega)) hO1
  refine lv_goto (tgt := 19) hx hb dL_metClass_12 (by decide) ?_
  refine lv_iconst (v := 0) hx hb dL_metClass_19 (by decide) ?_
  exact gq_iret hC hz hG ⟨fun k i j h => ⟨(gu_ne (by omega)).trans (hX1 k i j (by omega)), rfl⟩, rfl, rfl, _, _, hO1, e60, ⟨rfl, _, rfl, q_⟩⟩ (Nat.le_of_ble_eq_true rfl) (Nat.le_of_ble_eq_true rfl) dL_metClass_20
set_option maxHeartbeats 4000000 in
set_option maxRecDepth 100000 in
theorem h_metClass_x1 (l : Launch) (hST : l.stackTraces = false) (V : gV) (ad : gA) (E : gE) (T : rS) (hO : cmOK V ad T E) (g : Nat → Int64) (e60 : E 60 0 0 = some (gOut V g)) (nc nm : Nat) (hI : rI T nc nm) (x y z_ : Int32) (hx_ : ¬ s_isM T x) : gMh l yL_metClass cL_metClass 6 [(0, 12, 15, 13)] ({ frames := 9, cells := 6, slots := 41, locals := 215 } : Room) [.ref (ad 0 0 0), .int x, .int y, .int z_, .ref (ad 60 0 0)] V ad E (hQ V ad E (fun r v T' => r = 1 ∧ T' = T)) := by
  refine gMh.of (by decide) (Nat.le_of_ble_eq_true rfl) ?_
  intro sz p e s m_ below meth c ls htab hC hz hG hl
  have hx := hC.1
  have hb := hC.2.1
  have hl : lv_has ls 6 [(0, .ref (ad 0 0 0)), (1, .int x), (2, .int y), (3, .int z_), (4, .ref (ad 60 0 0))] := hl
  refine lv_aload hx hb dL_metClass_0 (lv_at hl 4 rfl) ?_
  refine lv_iconst (v := (nI 0)) hx hb dL_metClass_2 (by decide) ?_
  refine lv_aload_n hx hb dL_metClass_3 rfl (lv_at hl 0 rfl) ?_
  refine lv_iload_n hx hb dL_metClass_4 rfl (lv_at hl 1 rfl) ?_
  refine lv_iload_n hx hb dL_metClass_5 rfl (lv_at hl 2 rfl) ?_
  refine lv_iload_n hx hb dL_metClass_6 rfl (lv_at hl 3 rfl) ?_
  refine gx_V hC hG hO.1 rfl ((x_mc1 l hST V ad T nc nm hI x y z_ hx_) E hO) km_RL_58 kn_yX5_metClass ks_yX5_metClass kz_RX5 kd_yX5_metClass dn_X5_metClass rfl hl.1 ⟨by decide, by decide⟩ (Nat.le_of_ble_eq_true rfl) ⟨Nat.le_of_ble_eq_true rfl, Nat.le_of_ble_eq_true rfl⟩ dL_metClass_7 (fun ad1 E1 H locs q9 ce p_ hG hce hcv hcl => ?_)
  obtain ⟨h1, hX1, hO1⟩ := p_
  rw [h1] at hG
  have e60 := (hX1 60 0 0 (by decide)).trans e60
  refine vx_catch (own := RL) (name := "java/lang/IndexOutOfBoundsException") hC.2.2.2.1 [] (⟨0, 12, 15, 13⟩ : ExceptionTableEntry) [] (htab.trans rfl) (fun z hz => nomatch hz) (by decide) (by decide) (hC.2.2.2.2.1 _ kc_RL_13) (h_cast hC (by decide +kernel)) hce hcv hcl ?_
  change W _ _ _ _ _ _ _ _ _ _ _ _ _ _ _ (F0 _ 15 _ _)
  refine lv_astore (lv' := [(5, .ref q9), (0, .ref (ad 0 0 0)), (1, .int x), (2, .int y), (3, .int z_), (4, .ref (ad 60 0 0))]) hx hb dL_metClass_15 hl (by decide) rfl (fun ls hl => ?_)
  refine lv_iconst (v := 1) hx hb dL_metClass_17 (by decide) ?_
  exact gq_iret hC hz hG ⟨fun k i j h => ⟨hX1 k i j (by omega), rfl⟩, rfl, rfl, _, _, hO1, e60, ⟨rfl, rfl⟩⟩ (Nat.le_of_ble_eq_true rfl) (Nat.le_of_ble_eq_true rfl) dL_metClass_18
set_option maxHeartbeats 4000000 in
set_option maxRecDepth 100000 in
theorem h_metClass_x2 (l : Launch) (hST : l.stackTraces = false) (V : gV) (ad : gA) (E : gE) (T : rS) (hO : cmOK V ad T E) (g : Nat → Int64) (e60 : E 60 0 0 = some (gOut V g)) (nc nm : Nat) (hI : rI T nc nm) (m : Nat) (hm : m < nm) (y z_ : Int32) (hx_ : ¬ (¬ y < 0 ∧ y < T.1 5 m ∧ T.1 6 (5 * (20 * m + tn y)) = 5)) : gMh l yL_metClass cL_metClass 6 [(0, 12, 15, 13)] ({ frames := 9, cells := 6, slots := 41, locals := 215 } : Room) [.ref (ad 0 0 0), .int (nI m), .int y, .int z_, .ref (ad 60 0 0)] V ad E (hQ V ad E (fun r v T' => r = 1 ∧ T' = T)) := by
  refine gMh.of (by decide) (Nat.le_of_ble_eq_true rfl) ?_
  intro sz p e s m_ below meth c ls htab hC hz hG hl
  have hx := hC.1
  have hb := hC.2.1
  have hl : lv_has ls 6 [(0, .ref (ad 0 0 0)), (1, .int (nI m)), (2, .int y), (3, .int z_), (4, .ref (ad 60 0 0))] := hl
  refine lv_aload hx hb dL_metClass_0 (lv_at hl 4 rfl) ?_
  refine lv_iconst (v := (nI 0)) hx hb dL_metClass_2 (by decide) ?_
  refine lv_aload_n hx hb dL_metClass_3 rfl (lv_at hl 0 rfl) ?_
  refine lv_iload_n hx hb dL_metClass_4 rfl (lv_at hl 1 rfl) ?_
  refine lv_iload_n hx hb dL_metClass_5 rfl (lv_at hl 2 rfl) ?_
  refine lv_iload_n hx hb dL_metClass_6 rfl (lv_at hl 3 rfl) ?_
  refine gx_V hC hG hO.1 rfl ((x_mc2 l hST V ad T nc nm hI m hm y z_ hx_) E hO) km_RL_58 kn_yX5_metClass ks_yX5_metClass kz_RX5 kd_yX5_metClass dn_X5_metClass rfl hl.1 ⟨by decide, by decide⟩ (Nat.le_of_ble_eq_true rfl) ⟨Nat.le_of_ble_eq_true rfl, Nat.le_of_ble_eq_true rfl⟩ dL_metClass_7 (fun ad1 E1 H locs q9 ce p_ hG hce hcv hcl => ?_)
  obtain ⟨h1, hX1, hO1⟩ := p_
  rw [h1] at hG
  have e60 := (hX1 60 0 0 (by decide)).trans e60
  refine vx_catch (own := RL) (name := "java/lang/IndexOutOfBoundsException") hC.2.2.2.1 [] (⟨0, 12, 15, 13⟩ : ExceptionTableEntry) [] (htab.trans rfl) (fun z hz => nomatch hz) (by decide) (by decide) (hC.2.2.2.2.1 _ kc_RL_13) (h_cast hC (by decide +kernel)) hce hcv hcl ?_
  change W _ _ _ _ _ _ _ _ _ _ _ _ _ _ _ (F0 _ 15 _ _)
  refine lv_astore (lv' := [(5, .ref q9), (0, .ref (ad 0 0 0)), (1, .int (nI m)), (2, .int y), (3, .int z_), (4, .ref (ad 60 0 0))]) hx hb dL_metClass_15 hl (by decide) rfl (fun ls hl => ?_)
  refine lv_iconst (v := 1) hx hb dL_metClass_17 (by decide) ?_
  exact gq_iret hC hz hG ⟨fun k i j h => ⟨hX1 k i j (by omega), rfl⟩, rfl, rfl, _, _, hO1, e60, ⟨rfl, rfl⟩⟩ (Nat.le_of_ble_eq_true rfl) (Nat.le_of_ble_eq_true rfl) dL_metClass_18
set_option maxHeartbeats 4000000 in
set_option maxRecDepth 100000 in
theorem h_metClass_x3 (l : Launch) (hST : l.stackTraces = false) (V : gV) (ad : gA) (E : gE) (T : rS) (hO : cmOK V ad T E) (g : Nat → Int64) (e60 : E 60 0 0 = some (gOut V g)) (m q : Nat) (hm : m < cnm T) (hm12 : cnm T ≤ 12) (hq : q < csz T m) (hz20 : csz T m ≤ 20) (hk : T.1 6 (5 * (20 * m + q)) = 5) (z_ : Int32) (hz_ : ¬ (¬ z_ < 0 ∧ z_ < T.1 13 (20 * m + q))) : gMh l yL_metClass cL_metClass 6 [(0, 12, 15, 13)] ({ frames := 9, cells := 6, slots := 41, locals := 215 } : Room) [.ref (ad 0 0 0), .int (nI m), .int (nI q), .int z_, .ref (ad 60 0 0)] V ad E (hQ V ad E (fun r v T' => r = 1 ∧ T' = T)) := by
  refine gMh.of (by decide) (Nat.le_of_ble_eq_true rfl) ?_
  intro sz p e s m_ below meth c ls htab hC hz hG hl
  have hx := hC.1
  have hb := hC.2.1
  have hl : lv_has ls 6 [(0, .ref (ad 0 0 0)), (1, .int (nI m)), (2, .int (nI q)), (3, .int z_), (4, .ref (ad 60 0 0))] := hl
  refine lv_aload hx hb dL_metClass_0 (lv_at hl 4 rfl) ?_
  refine lv_iconst (v := (nI 0)) hx hb dL_metClass_2 (by decide) ?_
  refine lv_aload_n hx hb dL_metClass_3 rfl (lv_at hl 0 rfl) ?_
  refine lv_iload_n hx hb dL_metClass_4 rfl (lv_at hl 1 rfl) ?_
  refine lv_iload_n hx hb dL_metClass_5 rfl (lv_at hl 2 rfl) ?_
  refine lv_iload_n hx hb dL_metClass_6 rfl (lv_at hl 3 rfl) ?_
  refine gx_V hC hG hO.1 rfl ((x_mc3 l hST V ad T m q hm hm12 hq hz20 hk z_ hz_) E hO) km_RL_58 kn_yX5_metClass ks_yX5_metClass kz_RX5 kd_yX5_metClass dn_X5_metClass rfl hl.1 ⟨by decide, by decide⟩ (Nat.le_of_ble_eq_true rfl) ⟨Nat.le_of_ble_eq_true rfl, Nat.le_of_ble_eq_true rfl⟩ dL_metClass_7 (fun ad1 E1 H locs q9 ce p_ hG hce hcv hcl => ?_)
  obtain ⟨h1, hX1, hO1⟩ := p_
  rw [h1] at hG
  have e60 := (hX1 60 0 0 (by decide)).trans e60
  refine vx_catch (own := RL) (name := "java/lang/IndexOutOfBoundsException") hC.2.2.2.1 [] (⟨0, 12, 15, 13⟩ : ExceptionTableEntry) [] (htab.trans rfl) (fun z hz => nomatch hz) (by decide) (by decide) (hC.2.2.2.2.1 _ kc_RL_13) (h_cast hC (by decide +kernel)) hce hcv hcl ?_
  change W _ _ _ _ _ _ _ _ _ _ _ _ _ _ _ (F0 _ 15 _ _)
  refine lv_astore (lv' := [(5, .ref q9), (0, .ref (ad 0 0 0)), (1, .int (nI m)), (2, .int (nI q)), (3, .int z_), (4, .ref (ad 60 0 0))]) hx hb dL_metClass_15 hl (by decide) rfl (fun ls hl => ?_)
  refine lv_iconst (v := 1) hx hb dL_metClass_17 (by decide) ?_
  exact gq_iret hC hz hG ⟨fun k i j h => ⟨hX1 k i j (by omega), rfl⟩, rfl, rfl, _, _, hO1, e60, ⟨rfl, rfl⟩⟩ (Nat.le_of_ble_eq_true rfl) (Nat.le_of_ble_eq_true rfl) dL_metClass_18
