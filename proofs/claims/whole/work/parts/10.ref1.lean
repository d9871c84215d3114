set_option maxHeartbeats 4000000 in
set_option maxRecDepth 100000 in
theorem c6_isSelector (l : Launch) (x : Int32) : gSi l yX6_isSelector cX6_isSelector 1 (some .boolean) ({ frames := 0, cells := 0, slots := 0, locals := 0 } : Room) [.int x] (fun r => r = rb (¬ x < 0 ∧ x < 6)) := by
  refine gSi.of (by decide) (Nat.le_of_ble_eq_true rfl) ?_
  intro V ad E p e s m_ below meth c ls sz hC hz hG hl
  have hx := hC.1
  have hb := hC.2.1
  have hl : lv_has ls 1 [(0, .int x)] := hl
  refine lv_iload_n hx hb dX6_isSelector_0 rfl (lv_at hl 0 rfl) ?_
  refine lv_if_lt (tgt := 14) hx hb dX6_isSelector_1 (by decide) (fun c_1 => ?_) (fun c_1 => ?_)
  · refine lv_iconst (v := 0) hx hb dX6_isSelector_14 (by decide) ?_
    exact gq_zret hC hz hG (by decide) ⟨rfl, rfl, by simp_all [rb]⟩ (by decide) (by decide) dX6_isSelector_15
  · refine lv_iload_n hx hb dX6_isSelector_4 rfl (lv_at hl 0 rfl) ?_
    refine lv_bipush (v := 6) hx hb dX6_isSelector_5 (by decide) ?_
    refine lv_icmp_ge (tgt := 14) hx hb dX6_isSelector_7 (by decide) (fun c_7 => ?_) (fun c_7 => ?_)
    · refine lv_iconst (v := 0) hx hb dX6_isSelector_14 (by decide) ?_
      exact gq_zret hC hz hG (by decide) ⟨rfl, rfl, by simp_all [rb]⟩ (by decide) (by decide) dX6_isSelector_15
    · refine lv_iconst (v := 1) hx hb dX6_isSelector_10 (by decide) ?_
      refine lv_goto (tgt := 15) hx hb dX6_isSelector_11 (by decide) ?_
      exact gq_zret hC hz hG (by decide) ⟨rfl, rfl, by simp_all [rb]⟩ (by decide) (by decide) dX6_isSelector_15
set_option maxHeartbeats 4000000 in
set_option maxRecDepth 100000 in
theorem c6_isRegister (l : Launch) (x : Int32) : gSi l yX6_isRegister cX6_isRegister 1 (some .boolean) ({ frames := 0, cells := 0, slots := 0, locals := 0 } : Room) [.int x] (fun r => r = rb (¬ x < 0 ∧ x < 4)) := by
  refine gSi.of (by decide) (Nat.le_of_ble_eq_true rfl) ?_
  intro V ad E p e s m_ below meth c ls sz hC hz hG hl
  have hx := hC.1
  have hb := hC.2.1
  have hl : lv_has ls 1 [(0, .int x)] := hl
  refine lv_iload_n hx hb dX6_isRegister_0 rfl (lv_at hl 0 rfl) ?_
  refine lv_if_lt (tgt := 13) hx hb dX6_isRegister_1 (by decide) (fun c_1 => ?_) (fun c_1 => ?_)
  · refine lv_iconst (v := 0) hx hb dX6_isRegister_13 (by decide) ?_
    exact gq_zret hC hz hG (by decide) ⟨rfl, rfl, by simp_all [rb]⟩ (by decide) (by decide) dX6_isRegister_14
  · refine lv_iload_n hx hb dX6_isRegister_4 rfl (lv_at hl 0 rfl) ?_
    refine lv_iconst (v := 4) hx hb dX6_isRegister_5 (by decide) ?_
    refine lv_icmp_ge (tgt := 13) hx hb dX6_isRegister_6 (by decide) (fun c_6 => ?_) (fun c_6 => ?_)
    · refine lv_iconst (v := 0) hx hb dX6_isRegister_13 (by decide) ?_
      exact gq_zret hC hz hG (by decide) ⟨rfl, rfl, by simp_all [rb]⟩ (by decide) (by decide) dX6_isRegister_14
    · refine lv_iconst (v := 1) hx hb dX6_isRegister_9 (by decide) ?_
      refine lv_goto (tgt := 14) hx hb dX6_isRegister_10 (by decide) ?_
      exact gq_zret hC hz hG (by decide) ⟨rfl, rfl, by simp_all [rb]⟩ (by decide) (by decide) dX6_isRegister_14
set_option maxHeartbeats 4000000 in
set_option maxRecDepth 100000 in
theorem c6_isPlace (l : Launch) (x : Int32) : gSi l yX6_isPlace cX6_isPlace 1 (some .boolean) ({ frames := 0, cells := 0, slots := 0, locals := 0 } : Room) [.int x] (fun r => r = rb (¬ x < 0 ∧ x ≤ 20)) := by
  refine gSi.of (by decide) (Nat.le_of_ble_eq_true rfl) ?_
  intro V ad E p e s m_ below meth c ls sz hC hz hG hl
  have hx := hC.1
  have hb := hC.2.1
  have hl : lv_has ls 1 [(0, .int x)] := hl
  refine lv_iload_n hx hb dX6_isPlace_0 rfl (lv_at hl 0 rfl) ?_
  refine lv_if_lt (tgt := 14) hx hb dX6_isPlace_1 (by decide) (fun c_1 => ?_) (fun c_1 => ?_)
  · refine lv_iconst (v := 0) hx hb dX6_isPlace_14 (by decide) ?_
    exact gq_zret hC hz hG (by decide) ⟨rfl, rfl, by simp_all [rb]⟩ (by decide) (by decide) dX6_isPlace_15
  · refine lv_iload_n hx hb dX6_isPlace_4 rfl (lv_at hl 0 rfl) ?_
    refine lv_bipush (v := 20) hx hb dX6_isPlace_5 (by decide) ?_
    refine lv_icmp_gt (tgt := 14) hx hb dX6_isPlace_7 (by decide) (fun c_7 => ?_) (fun c_7 => ?_)
    · refine lv_iconst (v := 0) hx hb dX6_isPlace_14 (by decide) ?_
      exact gq_zret hC hz hG (by decide) ⟨rfl, rfl, by simp_all [rb]⟩ (by decide) (by decide) dX6_isPlace_15
    · refine lv_iconst (v := 1) hx hb dX6_isPlace_10 (by decide) ?_
      refine lv_goto (tgt := 15) hx hb dX6_isPlace_11 (by decide) ?_
      exact gq_zret hC hz hG (by decide) ⟨rfl, rfl, by simp_all [rb]⟩ (by decide) (by decide) dX6_isPlace_15
set_option maxHeartbeats 4000000 in
set_option maxRecDepth 100000 in
theorem c6_thrown (l : Launch) (V : gV) (ad : gA) (S : rS)  : rMi l yX6_thrown cX6_thrown 1 (some .int) ({ frames := 0, cells := 0, slots := 0, locals := 0 } : Room) [] V ad S (fun r S' => r = S.1 0 0 ∧ S' = S) := by
  refine rMi.of (by decide) (Nat.le_of_ble_eq_true rfl) ?_
  intro p e s m_ below meth c ls E sz hC hz hR hl
  have hx := hC.1
  have hb := hC.2.1
  have hl : lv_has ls 1 [(0, .ref (ad 50 0 0))] := hl
  refine lv_aload_n hx hb dX6_thrown_0 rfl (lv_at hl 0 rfl) ?_
  refine rg_0 hC hR dX6_thrown_1 ?_
  exact rr_iret hC hz hR (⟨rfl, rfl⟩) (by decide) (by decide) dX6_thrown_4
set_option maxHeartbeats 4000000 in
set_option maxRecDepth 100000 in
theorem c6_fail (l : Launch) (V : gV) (ad : gA) (S : rS) (x : Int32) : rMi l yX6_fail cX6_fail 2 (some .int) ({ frames := 0, cells := 0, slots := 0, locals := 0 } : Room) [.int x] V ad S (fun r S' => r = 0 ∧ S' = su S 0 (fun _ => x)) := by
  refine rMi.of (by decide) (Nat.le_of_ble_eq_true rfl) ?_
  intro p e s m_ below meth c ls E sz hC hz hR hl
  have hx := hC.1
  have hb := hC.2.1
  have hl : lv_has ls 2 [(0, .ref (ad 50 0 0)), (1, .int x)] := hl
  refine lv_aload_n hx hb dX6_fail_0 rfl (lv_at hl 0 rfl) ?_
  refine lv_iload_n hx hb dX6_fail_1 rfl (lv_at hl 1 rfl) ?_
  refine rp_0 hC hR dX6_fail_2 (fun H locs hR => ?_)
  refine lv_iconst (v := 0) hx hb dX6_fail_5 (by decide) ?_
  exact rr_iret hC hz hR (⟨rfl, rfl⟩) (by decide) (by decide) dX6_fail_6
set_option maxHeartbeats 4000000 in
set_option maxRecDepth 100000 in
theorem c6_isClass (l : Launch) (V : gV) (ad : gA) (S : rS) (x : Int32) : rMi l yX6_isClass cX6_isClass 2 (some .boolean) ({ frames := 0, cells := 0, slots := 0, locals := 0 } : Room) [.int x] V ad S (fun r S' => r = rb (¬ x < 0 ∧ x < S.1 1 0) ∧ S' = S) := by
  refine rMi.of (by decide) (Nat.le_of_ble_eq_true rfl) ?_
  intro p e s m_ below meth c ls E sz hC hz hR hl
  have hx := hC.1
  have hb := hC.2.1
  have hl : lv_has ls 2 [(0, .ref (ad 50 0 0)), (1, .int x)] := hl
  refine lv_iload_n hx hb dX6_isClass_0 rfl (lv_at hl 1 rfl) ?_
  refine lv_if_lt (tgt := 16) hx hb dX6_isClass_1 (by decide) (fun c_1 => ?_) (fun c_1 => ?_)
  · refine lv_iconst (v := 0) hx hb dX6_isClass_16 (by decide) ?_
    exact rr_zret hC hz hR (by decide) (⟨by simp_all [rb], rfl⟩) (by decide) (by decide) dX6_isClass_17
  · refine lv_iload_n hx hb dX6_isClass_4 rfl (lv_at hl 1 rfl) ?_
    refine lv_aload_n hx hb dX6_isClass_5 rfl (lv_at hl 0 rfl) ?_
    refine rg_1 hC hR dX6_isClass_6 ?_
    refine lv_icmp_ge (tgt := 16) hx hb dX6_isClass_9 (by decide) (fun c_9 => ?_) (fun c_9 => ?_)
    · refine lv_iconst (v := 0) hx hb dX6_isClass_16 (by decide) ?_
      exact rr_zret hC hz hR (by decide) (⟨by simp_all [rb], rfl⟩) (by decide) (by decide) dX6_isClass_17
    · refine lv_iconst (v := 1) hx hb dX6_isClass_12 (by decide) ?_
      refine lv_goto (tgt := 17) hx hb dX6_isClass_13 (by decide) ?_
      exact rr_zret hC hz hR (by decide) (⟨by simp_all [rb], rfl⟩) (by decide) (by decide) dX6_isClass_17
set_option maxHeartbeats 4000000 in
set_option maxRecDepth 100000 in
theorem c6_isMethod (l : Launch) (V : gV) (ad : gA) (S : rS) (x : Int32) : rMi l yX6_isMethod cX6_isMethod 2 (some .boolean) ({ frames := 0, cells := 0, slots := 0, locals := 0 } : Room) [.int x] V ad S (fun r S' => r = rb (¬ x < 0 ∧ x < S.1 4 0) ∧ S' = S) := by
  refine rMi.of (by decide) (Nat.le_of_ble_eq_true rfl) ?_
  intro p e s m_ below meth c ls E sz hC hz hR hl
  have hx := hC.1
  have hb := hC.2.1
  have hl : lv_has ls 2 [(0, .ref (ad 50 0 0)), (1, .int x)] := hl
  refine lv_iload_n hx hb dX6_isMethod_0 rfl (lv_at hl 1 rfl) ?_
  refine lv_if_lt (tgt := 16) hx hb dX6_isMethod_1 (by decide) (fun c_1 => ?_) (fun c_1 => ?_)
  · refine lv_iconst (v := 0) hx hb dX6_isMethod_16 (by decide) ?_
    exact rr_zret hC hz hR (by decide) (⟨by simp_all [rb], rfl⟩) (by decide) (by decide) dX6_isMethod_17
  · refine lv_iload_n hx hb dX6_isMethod_4 rfl (lv_at hl 1 rfl) ?_
    refine lv_aload_n hx hb dX6_isMethod_5 rfl (lv_at hl 0 rfl) ?_
    refine rg_4 hC hR dX6_isMethod_6 ?_
    refine lv_icmp_ge (tgt := 16) hx hb dX6_isMethod_9 (by decide) (fun c_9 => ?_) (fun c_9 => ?_)
    · refine lv_iconst (v := 0) hx hb dX6_isMethod_16 (by decide) ?_
      exact rr_zret hC hz hR (by decide) (⟨by simp_all [rb], rfl⟩) (by decide) (by decide) dX6_isMethod_17
    · refine lv_iconst (v := 1) hx hb dX6_isMethod_12 (by decide) ?_
      refine lv_goto (tgt := 17) hx hb dX6_isMethod_13 (by decide) ?_
      exact rr_zret hC hz hR (by decide) (⟨by simp_all [rb], rfl⟩) (by decide) (by decide) dX6_isMethod_17
set_option maxHeartbeats 4000000 in
set_option maxRecDepth 100000 in
theorem c6_empty (l : Launch) (V : gV) (ad : gA) (S : rS) (x : Nat) (h : x < 480) : rMv l yX6_empty cX6_empty 2 none ({ frames := 0, cells := 0, slots := 0, locals := 0 } : Room) [.int (nI x)] V ad S (fun S' => S' = su (su S 13 (va_up (S.1 13) x 0)) 15 (va_up (S.1 15) x 0)) := by
  refine rMv.of (by decide) (Nat.le_of_ble_eq_true rfl) ?_
  intro p e s m_ below meth c ls E sz hC hz hR hl
  have hx := hC.1
  have hb := hC.2.1
  have hl : lv_has ls 2 [(0, .ref (ad 50 0 0)), (1, .int (nI x))] := hl
  refine lv_aload_n hx hb dX6_empty_0 rfl (lv_at hl 0 rfl) ?_
  refine rg_13 hC hR dX6_empty_1 ?_
  refine lv_iload_n hx hb dX6_empty_4 rfl (lv_at hl 1 rfl) ?_
  refine lv_iconst (v := 0) hx hb dX6_empty_5 (by decide) ?_
  refine rs_13 hC hR (by omega) dX6_empty_6 (fun H locs hR => ?_)
  refine lv_aload_n hx hb dX6_empty_7 rfl (lv_at hl 0 rfl) ?_
  refine rg_15 hC hR dX6_empty_8 ?_
  refine lv_iload_n hx hb dX6_empty_11 rfl (lv_at hl 1 rfl) ?_
  refine lv_iconst (v := 0) hx hb dX6_empty_12 (by decide) ?_
  refine rs_15 hC hR (by decide) (by omega) dX6_empty_13 (fun H locs hR => ?_)
  exact rr_vret hC hz hR (rfl) (by decide) (by decide) dX6_empty_14
set_option maxHeartbeats 4000000 in
set_option maxRecDepth 100000 in
theorem c6_kindAt (l : Launch) (V : gV) (ad : gA) (S : rS) (m q z : Nat) (hm : m < 12) (hq : q < 2 ^ 31) (hz5 : S.1 5 m = nI z) (hz20 : z ≤ 20) : rMi l yX6_kindAt cX6_kindAt 3 (some .int) ({ frames := 0, cells := 0, slots := 0, locals := 0 } : Room) [.int (nI m), .int (nI q)] V ad S (fun r S' => r = (if q < z then S.1 6 (5 * (20 * m + q)) else -1) ∧ S' = S) := by
  refine rMi.of (by decide) (Nat.le_of_ble_eq_true rfl) ?_
  intro p e s m_ below meth c ls E sz hC hz hR hl
  have hx := hC.1
  have hb := hC.2.1
  have hl : lv_has ls 3 [(0, .ref (ad 50 0 0)), (1, .int (nI m)), (2, .int (nI q))] := hl
  refine lv_iload_n hx hb dX6_kindAt_0 rfl (lv_at hl 2 rfl) ?_
  refine lv_aload_n hx hb dX6_kindAt_1 rfl (lv_at hl 0 rfl) ?_
  refine rg_5 hC hR dX6_kindAt_2 ?_
  refine lv_iload_n hx hb dX6_kindAt_5 rfl (lv_at hl 1 rfl) ?_
  refine ra_5 hC hR (by omega) dX6_kindAt_6 ?_
  refine gq_top (nI z) (hz5) ?_
  refine gn_icmp_ge (tgt := 26) hx hb (by omega) (by omega) dX6_kindAt_7 (by decide) (fun c_7 => ?_) (fun c_7 => ?_)
  · refine lv_iconst (v := (-1)) hx hb dX6_kindAt_26 (by decide) ?_
    exact rr_iret hC hz hR (⟨by first | rw [if_pos (by omega)] | rw [if_neg (by omega)], rfl⟩) (by decide) (by decide) dX6_kindAt_27
  · refine lv_aload_n hx hb dX6_kindAt_10 rfl (lv_at hl 0 rfl) ?_
    refine rg_6 hC hR dX6_kindAt_11 ?_
    refine lv_iconst (v := 5) hx hb dX6_kindAt_14 (by decide) ?_
    refine lv_bipush (v := 20) hx hb dX6_kindAt_15 (by decide) ?_
    refine lv_iload_n hx hb dX6_kindAt_17 rfl (lv_at hl 1 rfl) ?_
    refine lv_imul hx hb dX6_kindAt_18 ?_
    refine lv_iload_n hx hb dX6_kindAt_19 rfl (lv_at hl 2 rfl) ?_
    refine lv_iadd hx hb dX6_kindAt_20 ?_
    refine lv_imul hx hb dX6_kindAt_21 ?_
    refine gq_top (nI (5 * (20 * m + q))) (by simp only [nl3, nl4, nl5, nl6, nl20, nl240, nI_mul, nI_add]) ?_
    refine ra_6 hC hR (by omega) dX6_kindAt_22 ?_
    refine lv_goto (tgt := 27) hx hb dX6_kindAt_23 (by decide) ?_
    exact rr_iret hC hz hR (⟨by first | rw [if_pos (by omega)] | rw [if_neg (by omega)], rfl⟩) (by decide) (by decide) dX6_kindAt_27
set_option maxHeartbeats 4000000 in
set_option maxRecDepth 100000 in
theorem c6_operand (l : Launch) (V : gV) (ad : gA) (S : rS) (m q k : Nat) (hm : m < 12) (hq : q < 20) (hk : k < 5) : rMi l yX6_operand cX6_operand 4 (some .int) ({ frames := 0, cells := 0, slots := 0, locals := 0 } : Room) [.int (nI m), .int (nI q), .int (nI k)] V ad S (fun r S' => r = S.1 6 (5 * (20 * m + q) + k) ∧ S' = S) := by
  refine rMi.of (by decide) (Nat.le_of_ble_eq_true rfl) ?_
  intro p e s m_ below meth c ls E sz hC hz hR hl
  have hx := hC.1
  have hb := hC.2.1
  have hl : lv_has ls 4 [(0, .ref (ad 50 0 0)), (1, .int (nI m)), (2, .int (nI q)), (3, .int (nI k))] := hl
  refine lv_aload_n hx hb dX6_operand_0 rfl (lv_at hl 0 rfl) ?_
  refine rg_6 hC hR dX6_operand_1 ?_
  refine lv_iconst (v := 5) hx hb dX6_operand_4 (by decide) ?_
  refine lv_bipush (v := 20) hx hb dX6_operand_5 (by decide) ?_
  refine lv_iload_n hx hb dX6_operand_7 rfl (lv_at hl 1 rfl) ?_
  refine lv_imul hx hb dX6_operand_8 ?_
  refine lv_iload_n hx hb dX6_operand_9 rfl (lv_at hl 2 rfl) ?_
  refine lv_iadd hx hb dX6_operand_10 ?_
  refine lv_imul hx hb dX6_operand_11 ?_
  refine lv_iload_n hx hb dX6_operand_12 rfl (lv_at hl 3 rfl) ?_
  refine lv_iadd hx hb dX6_operand_13 ?_
  refine gq_top (nI (5 * (20 * m + q) + k)) (by simp only [nl3, nl4, nl5, nl6, nl20, nl240, nI_mul, nI_add]) ?_
  refine ra_6 hC hR (by omega) dX6_operand_14 ?_
  exact rr_iret hC hz hR (⟨rfl, rfl⟩) (by decide) (by decide) dX6_operand_15
set_option maxHeartbeats 4000000 in
set_option maxRecDepth 100000 in
theorem c6_put (l : Launch) (V : gV) (ad : gA) (S : rS) (f g : Nat) (hf : f < 20) (hg : g < 4) (x y : Int32) : rMv l yX6_put cX6_put 5 none ({ frames := 0, cells := 0, slots := 0, locals := 0 } : Room) [.int (nI f), .int (nI g), .int x, .int y] V ad S (fun S' => S' = su (su S 21 (va_up (S.1 21) (4 * f + g) x)) 22 (va_up (S.1 22) (4 * f + g) y)) := by
  refine rMv.of (by decide) (Nat.le_of_ble_eq_true rfl) ?_
  intro p e s m_ below meth c ls E sz hC hz hR hl
  have hx := hC.1
  have hb := hC.2.1
  have hl : lv_has ls 5 [(0, .ref (ad 50 0 0)), (1, .int (nI f)), (2, .int (nI g)), (3, .int x), (4, .int y)] := hl
  refine lv_aload_n hx hb dX6_put_0 rfl (lv_at hl 0 rfl) ?_
  refine rg_21 hC hR dX6_put_1 ?_
  refine lv_iconst (v := 4) hx hb dX6_put_4 (by decide) ?_
  refine lv_iload_n hx hb dX6_put_5 rfl (lv_at hl 1 rfl) ?_
  refine lv_imul hx hb dX6_put_6 ?_
  refine lv_iload_n hx hb dX6_put_7 rfl (lv_at hl 2 rfl) ?_
  refine lv_iadd hx hb dX6_put_8 ?_
  refine gq_top (nI (4 * f + g)) (by simp only [nl3, nl4, nl5, nl6, nl20, nl240, nI_mul, nI_add]) ?_
  refine lv_iload_n hx hb dX6_put_9 rfl (lv_at hl 3 rfl) ?_
  refine rs_21 hC hR (by omega) dX6_put_10 (fun H locs hR => ?_)
  refine lv_aload_n hx hb dX6_put_11 rfl (lv_at hl 0 rfl) ?_
  refine rg_22 hC hR dX6_put_12 ?_
  refine lv_iconst (v := 4) hx hb dX6_put_15 (by decide) ?_
  refine lv_iload_n hx hb dX6_put_16 rfl (lv_at hl 1 rfl) ?_
  refine lv_imul hx hb dX6_put_17 ?_
  refine lv_iload_n hx hb dX6_put_18 rfl (lv_at hl 2 rfl) ?_
  refine lv_iadd hx hb dX6_put_19 ?_
  refine gq_top (nI (4 * f + g)) (by simp only [nl3, nl4, nl5, nl6, nl20, nl240, nI_mul, nI_add]) ?_
  refine lv_iload hx hb dX6_put_20 (lv_at hl 4 rfl) ?_
  refine rs_22 hC hR (by omega) dX6_put_22 (fun H locs hR => ?_)
  exact rr_vret hC hz hR (rfl) (by decide) (by decide) dX6_put_23
