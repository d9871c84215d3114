theorem cm_clr {V : gV} {ad : gA} {T : rS} {E : gE} {m z : Nat} (hm : m < cnm T) (hz : csz T m ≤ z) (hz20 : z ≤ 20) (hO : cmOK V ad (s_clr T m z) E) : cmOK V ad (s_clr T m 20) E := by
  have hn : cnm T ≤ 12 := hO.2.2.2.2.2.2.2.2.2.2.2.2.2.2.2.2.2.2.2.1
  have key : ∀ (f : Nat → Int32) (i : Nat), ¬ (20 * m + z ≤ i ∧ i < 20 * m + 20) → (if 20 * m ≤ i ∧ i < 20 * m + 20 then 0 else f i) = (if 20 * m ≤ i ∧ i < 20 * m + z then 0 else f i) := fun f i h => by
    by_cases h1 : 20 * m ≤ i ∧ i < 20 * m + z
    · rw [if_pos h1, if_pos (by omega)]
    · rw [if_neg h1, if_neg (by omega)]
  refine ⟨hO.1, hO.2.1, hO.2.2.1, hO.2.2.2.1, hO.2.2.2.2.1, hO.2.2.2.2.2.1, hO.2.2.2.2.2.2.1, hO.2.2.2.2.2.2.2.1, hO.2.2.2.2.2.2.2.2.1, hO.2.2.2.2.2.2.2.2.2.1, hO.2.2.2.2.2.2.2.2.2.2.1, hO.2.2.2.2.2.2.2.2.2.2.2.1, hO.2.2.2.2.2.2.2.2.2.2.2.2.1, hO.2.2.2.2.2.2.2.2.2.2.2.2.2.1, hO.2.2.2.2.2.2.2.2.2.2.2.2.2.2.1, fun m2 q2 hm2 hq2 => ?_, hO.2.2.2.2.2.2.2.2.2.2.2.2.2.2.2.2.1, fun m2 q2 hm2 hq2 => ?_, hO.2.2.2.2.2.2.2.2.2.2.2.2.2.2.2.2.2.2.1, hO.2.2.2.2.2.2.2.2.2.2.2.2.2.2.2.2.2.2.2⟩
  · have hm3 : m2 < cnm T := hm2
    have hq3 : q2 < csz T m2 := hq2
    have hz2 : csz T m2 ≤ 20 := (hO.2.2.2.2.2.2.2.2.2.2.2.2.2.2.2.2.2.2.2.2.1 m2 hm2).1
    have hno : ¬ (20 * m + z ≤ 20 * m2 + q2 ∧ 20 * m2 + q2 < 20 * m + 20) := fun w => by
      have : m2 = m := by omega
      subst this
      omega
    refine (hO.2.2.2.2.2.2.2.2.2.2.2.2.2.2.2.1 m2 q2 hm2 hq2).trans ?_
    show some (Sum.inr (4, [_, Value.int (if 20 * m ≤ 20 * m2 + q2 ∧ 20 * m2 + q2 < 20 * m + z then 0 else T.1 13 (20 * m2 + q2)), Value.int (if 20 * m ≤ 20 * m2 + q2 ∧ 20 * m2 + q2 < 20 * m + z then 0 else T.1 15 (20 * m2 + q2))])) = some (Sum.inr (4, [_, Value.int (if 20 * m ≤ 20 * m2 + q2 ∧ 20 * m2 + q2 < 20 * m + 20 then 0 else T.1 13 (20 * m2 + q2)), Value.int (if 20 * m ≤ 20 * m2 + q2 ∧ 20 * m2 + q2 < 20 * m + 20 then 0 else T.1 15 (20 * m2 + q2))]))
    rw [key _ _ hno, key _ _ hno]
  · have hm3 : m2 < cnm T := hm2
    have hq3 : q2 < csz T m2 := hq2
    have hz2 : csz T m2 ≤ 20 := (hO.2.2.2.2.2.2.2.2.2.2.2.2.2.2.2.2.2.2.2.2.1 m2 hm2).1
    have hno : ¬ (20 * m + z ≤ 240 + (20 * m2 + q2) ∧ 240 + (20 * m2 + q2) < 20 * m + 20) := fun w => by
      have : m2 = m := by omega
      subst this
      omega
    refine (hO.2.2.2.2.2.2.2.2.2.2.2.2.2.2.2.2.2.1 m2 q2 hm2 hq2).trans ?_
    show some (Sum.inr (4, [_, Value.int (if 20 * m ≤ 240 + (20 * m2 + q2) ∧ 240 + (20 * m2 + q2) < 20 * m + z then 0 else T.1 13 (240 + (20 * m2 + q2))), Value.int (if 20 * m ≤ 240 + (20 * m2 + q2) ∧ 240 + (20 * m2 + q2) < 20 * m + z then 0 else T.1 15 (240 + (20 * m2 + q2)))])) = some (Sum.inr (4, [_, Value.int (if 20 * m ≤ 240 + (20 * m2 + q2) ∧ 240 + (20 * m2 + q2) < 20 * m + 20 then 0 else T.1 13 (240 + (20 * m2 + q2))), Value.int (if 20 * m ≤ 240 + (20 * m2 + q2) ∧ 240 + (20 * m2 + q2) < 20 * m + 20 then 0 else T.1 15 (240 + (20 * m2 + q2)))]))
    rw [key _ _ hno, key _ _ hno]
theorem cm_ta {V : gV} {ad : gA} {T : rS} {E : gE} {m z : Nat} (hm : m < cnm T) (hz : csz T m ≤ z) (hz20 : z ≤ 20) (hO : cmOK V ad (s_ta T m z) E) : cmOK V ad (s_ta T m 20) E := by
  have hn : cnm T ≤ 12 := hO.2.2.2.2.2.2.2.2.2.2.2.2.2.2.2.2.2.2.2.1
  have key : ∀ (f : Nat → Int32) (i : Nat), ¬ (240 + 20 * m + z ≤ i ∧ i < 240 + 20 * m + 20) → (if 240 + 20 * m ≤ i ∧ i < 240 + 20 * m + 20 then f (i - 240) else f i) = (if 240 + 20 * m ≤ i ∧ i < 240 + 20 * m + z then f (i - 240) else f i) := fun f i h => by
    by_cases h1 : 240 + 20 * m ≤ i ∧ i < 240 + 20 * m + z
    · rw [if_pos h1, if_pos (by omega)]
    · rw [if_neg h1, if_neg (by omega)]
  have key2 : ∀ (f : Nat → Int32) (i : Nat), ¬ (720 + 60 * m + 3 * z ≤ i ∧ i < 720 + 60 * m + 60) → (if 720 + 60 * m ≤ i ∧ i < 720 + 60 * m + 3 * 20 then f (i - 720) else f i) = (if 720 + 60 * m ≤ i ∧ i < 720 + 60 * m + 3 * z then f (i - 720) else f i) := fun f i h => by
    by_cases h1 : 720 + 60 * m ≤ i ∧ i < 720 + 60 * m + 3 * z
    · rw [if_pos h1, if_pos (by omega)]
    · rw [if_neg h1, if_neg (by omega)]
  refine ⟨hO.1, hO.2.1, hO.2.2.1, hO.2.2.2.1, hO.2.2.2.2.1, hO.2.2.2.2.2.1, hO.2.2.2.2.2.2.1, hO.2.2.2.2.2.2.2.1, hO.2.2.2.2.2.2.2.2.1, hO.2.2.2.2.2.2.2.2.2.1, hO.2.2.2.2.2.2.2.2.2.2.1, hO.2.2.2.2.2.2.2.2.2.2.2.1, hO.2.2.2.2.2.2.2.2.2.2.2.2.1, hO.2.2.2.2.2.2.2.2.2.2.2.2.2.1, hO.2.2.2.2.2.2.2.2.2.2.2.2.2.2.1, fun m2 q2 hm2 hq2 => ?_, fun m2 q2 hm2 hq2 => ?_, fun m2 q2 hm2 hq2 => ?_, fun m2 q2 hm2 hq2 => ?_, hO.2.2.2.2.2.2.2.2.2.2.2.2.2.2.2.2.2.2.2⟩
  · have hm3 : m2 < cnm T := hm2
    have hq3 : q2 < csz T m2 := hq2
    have hz2 : csz T m2 ≤ 20 := (hO.2.2.2.2.2.2.2.2.2.2.2.2.2.2.2.2.2.2.2.2.1 m2 hm2).1
    have hno : ¬ (240 + 20 * m + z ≤ 20 * m2 + q2 ∧ 20 * m2 + q2 < 240 + 20 * m + 20) := fun w => by
      have : m2 = m := by omega
      subst this
      omega
    refine (hO.2.2.2.2.2.2.2.2.2.2.2.2.2.2.2.1 m2 q2 hm2 hq2).trans ?_
    show some (Sum.inr (4, [_, Value.int (if 240 + 20 * m ≤ 20 * m2 + q2 ∧ 20 * m2 + q2 < 240 + 20 * m + z then T.1 13 (20 * m2 + q2 - 240) else T.1 13 (20 * m2 + q2)), Value.int (if 240 + 20 * m ≤ 20 * m2 + q2 ∧ 20 * m2 + q2 < 240 + 20 * m + z then T.1 15 (20 * m2 + q2 - 240) else T.1 15 (20 * m2 + q2))])) = some (Sum.inr (4, [_, Value.int (if 240 + 20 * m ≤ 20 * m2 + q2 ∧ 20 * m2 + q2 < 240 + 20 * m + 20 then T.1 13 (20 * m2 + q2 - 240) else T.1 13 (20 * m2 + q2)), Value.int (if 240 + 20 * m ≤ 20 * m2 + q2 ∧ 20 * m2 + q2 < 240 + 20 * m + 20 then T.1 15 (20 * m2 + q2 - 240) else T.1 15 (20 * m2 + q2))]))
    rw [key _ _ hno, key _ _ hno]
  · have hm3 : m2 < cnm T := hm2
    have hq3 : q2 < csz T m2 := hq2
    have hz2 : csz T m2 ≤ 20 := (hO.2.2.2.2.2.2.2.2.2.2.2.2.2.2.2.2.2.2.2.2.1 m2 hm2).1
    obtain ⟨f, h1, h2⟩ := hO.2.2.2.2.2.2.2.2.2.2.2.2.2.2.2.2.1 m2 q2 hm2 hq2
    refine ⟨f, h1, fun k hk => (h2 k hk).trans ?_⟩
    have hno : ¬ (720 + 60 * m + 3 * z ≤ 3 * (20 * m2 + q2) + k ∧ 3 * (20 * m2 + q2) + k < 720 + 60 * m + 60) := fun w => by
      have : m2 = m := by omega
      subst this
      omega
    exact (key2 _ _ hno).symm
  · have hm3 : m2 < cnm T := hm2
    have hq3 : q2 < csz T m2 := hq2
    have hz2 : csz T m2 ≤ 20 := (hO.2.2.2.2.2.2.2.2.2.2.2.2.2.2.2.2.2.2.2.2.1 m2 hm2).1
    have hno : ¬ (240 + 20 * m + z ≤ 240 + (20 * m2 + q2) ∧ 240 + (20 * m2 + q2) < 240 + 20 * m + 20) := fun w => by
      have : m2 = m := by omega
      subst this
      omega
    refine (hO.2.2.2.2.2.2.2.2.2.2.2.2.2.2.2.2.2.1 m2 q2 hm2 hq2).trans ?_
    show some (Sum.inr (4, [_, Value.int (if 240 + 20 * m ≤ 240 + (20 * m2 + q2) ∧ 240 + (20 * m2 + q2) < 240 + 20 * m + z then T.1 13 (240 + (20 * m2 + q2) - 240) else T.1 13 (240 + (20 * m2 + q2))), Value.int (if 240 + 20 * m ≤ 240 + (20 * m2 + q2) ∧ 240 + (20 * m2 + q2) < 240 + 20 * m + z then T.1 15 (240 + (20 * m2 + q2) - 240) else T.1 15 (240 + (20 * m2 + q2)))])) = some (Sum.inr (4, [_, Value.int (if 240 + 20 * m ≤ 240 + (20 * m2 + q2) ∧ 240 + (20 * m2 + q2) < 240 + 20 * m + 20 then T.1 13 (240 + (20 * m2 + q2) - 240) else T.1 13 (240 + (20 * m2 + q2))), Value.int (if 240 + 20 * m ≤ 240 + (20 * m2 + q2) ∧ 240 + (20 * m2 + q2) < 240 + 20 * m + 20 then T.1 15 (240 + (20 * m2 + q2) - 240) else T.1 15 (240 + (20 * m2 + q2)))]))
    rw [key _ _ hno, key _ _ hno]
  · have hm3 : m2 < cnm T := hm2
    have hq3 : q2 < csz T m2 := hq2
    have hz2 : csz T m2 ≤ 20 := (hO.2.2.2.2.2.2.2.2.2.2.2.2.2.2.2.2.2.2.2.2.1 m2 hm2).1
    obtain ⟨f, h1, h2⟩ := hO.2.2.2.2.2.2.2.2.2.2.2.2.2.2.2.2.2.2.1 m2 q2 hm2 hq2
    refine ⟨f, h1, fun k hk => (h2 k hk).trans ?_⟩
    have hno : ¬ (720 + 60 * m + 3 * z ≤ 3 * (240 + (20 * m2 + q2)) + k ∧ 3 * (240 + (20 * m2 + q2)) + k < 720 + 60 * m + 60) := fun w => by
      have : m2 = m := by omega
      subst this
      omega
    exact (key2 _ _ hno).symm
/-- the classes that have just changed what they understand -/
def c_sm (T : rS) (g : Nat) : Nat → Int32 := fun c => rb (T.1 30 c ≠ s_und T (c + 1) g)
theorem s_tk_t (S : rS) (sm : Nat → Int32) (r : Nat) : ∀ k : Nat, s_tk S sm r true k = true
  | 0 => rfl
  | k + 1 => by
    unfold s_tk
    rw [s_tk_t S sm r k]
    rfl
theorem s_tk_mono {S : rS} {sm : Nat → Int32} {r : Nat} {b : Bool} {k : Nat} (h : s_tk S sm r b k = true) : ∀ d : Nat, s_tk S sm r b (k + d) = true
  | 0 => h
  | d + 1 => by
    show (s_tk S sm r b (k + d) || _) = true
    rw [s_tk_mono h d]
    rfl
theorem s_tp_mono {S : rS} {sm : Nat → Int32} {m g k : Nat} (h : s_tp S sm m g k = true) : ∀ d : Nat, s_tp S sm m g (k + d) = true
  | 0 => h
  | d + 1 => by
    show (if s_tq S m g (k + d) then s_tk S sm (240 + 20 * m + (k + d)) (s_tp S sm m g (k + d)) _ else s_tp S sm m g (k + d)) = true
    rw [s_tp_mono h d]
    split
    · exact s_tk_t _ _ _ _
    · rfl
def s_tc (T : rS) (m g q : Nat) : Bool := if s_tq T m g q then s_tk T (c_sm T g) (240 + 20 * m + q) false (tn (T.1 13 (240 + 20 * m + q))) else false
set_option maxHeartbeats 4000000 in
set_option maxRecDepth 100000 in
theorem c2_trustsChange (l : Launch) (V : gV) (ad : gA) (T : rS) (m q : Nat) (hm : m < cnm T) (hq : q < csz T m) (hm12 : m < 12) (hq20 : q < 20) (g nc : Nat) (hp : s_par T nc) (h1 : T.1 1 0 = nI nc) (hg : g < 6) (hrec : ∀ r : Nat, r < 480 → ∃ n : Nat, n ≤ 3 ∧ T.1 13 r = nI n ∧ ∀ k : Nat, k < n → ∃ d : Nat, d < nc ∧ T.1 14 (3 * r + k) = nI d) : kMi l yX2_trustsChange cX2_trustsChange 4 (some .boolean) ({ frames := 3, cells := 0, slots := 0, locals := 67 } : Room) [.ref (ad 16 m q), .int (nI g), .ref (ad 1 0 0)] V ad T (fun r T' => r = bi (s_tc T m g q) ∧ T' = T) := by
  refine kMi.of (by decide) (Nat.le_of_ble_eq_true rfl) ?_
  intro p e s m_ below meth c ls E sz hC hz hW hl
  have hx := hC.1
  have hb := hC.2.1
  have hl : lv_has ls 4 [(0, .ref (ad 16 m q)), (1, .int (nI g)), (2, .ref (ad 1 0 0))] := hl
  have hnc := hp.1
  have ea : 240 + 20 * m + q = 240 + (20 * m + q) := Nat.add_assoc _ _ _
  obtain ⟨n, hn3, hn, hmet⟩ := hrec (240 + (20 * m + q)) (by omega)
  have htn : tn (T.1 13 (240 + 20 * m + q)) = n := by rw [ea, hn]; exact tn_nI (by omega)
  refine g_cut (pc2 := 26) (fun H locs ls => (¬ s_tq T m g q) ∧ cmW V (gAd ad E sz) s.heap ad E T H locs ∧ lv_has ls 4 [(0, .ref (ad 16 m q)), (1, .int (nI g)), (2, .ref (ad 1 0 0))]) (fun H locs ls hI => ?_) (fun k26 => ?_)
  · obtain ⟨hno, hW, hl⟩ := hI
    refine lv_iconst (v := 0) hx hb dX2_trustsChange_26 (by decide) ?_
    exact kr_zret hC hz hW (by decide) (⟨by unfold s_tc; rw [if_neg hno]; rfl, rfl⟩) (by decide) (by decide) dX2_trustsChange_27
  · refine lv_aload_n hx hb dX2_trustsChange_0 rfl (lv_at hl 0 rfl) ?_
    refine kg_ins_0 hC hW hm hq kf_RX2_21 dX2_trustsChange_1 ?_
    refine lv_iconst (v := 5) hx hb dX2_trustsChange_4 (by decide) ?_
    refine lv_icmp_ne (tgt := 26) hx hb dX2_trustsChange_5 (by decide) (fun c_5 => ?_) (fun c_5 => ?_)
    · exact k26 _ _ _ ⟨fun w => c_5 w.1, hW, lv_sub hl [0, 1, 2] rfl⟩
    · refine lv_aload_n hx hb dX2_trustsChange_8 rfl (lv_at hl 0 rfl) ?_
      refine kg_ins_2 hC hW hm hq kf_RX2_28 dX2_trustsChange_9 ?_
      refine lv_iload_n hx hb dX2_trustsChange_12 rfl (lv_at hl 1 rfl) ?_
      refine lv_icmp_ne (tgt := 26) hx hb dX2_trustsChange_13 (by decide) (fun c_13 => ?_) (fun c_13 => ?_)
      · exact k26 _ _ _ ⟨fun w => c_13 w.2.1, hW, lv_sub hl [0, 1, 2] rfl⟩
      · refine lv_aload_n hx hb dX2_trustsChange_16 rfl (lv_at hl 0 rfl) ?_
        refine kg_ins_6 hC hW hm hq kf_RX2_18 dX2_trustsChange_17 ?_
        refine kg_rt_2 hC hW hm hq kf_RX2_37 dX2_trustsChange_20 ?_
        refine lv_if_eq (tgt := 28) hx hb dX2_trustsChange_23 (by decide) (fun c_23 => ?_) (fun c_23 => ?_)
        · have hyes : s_tc T m g q = s_tk T (c_sm T g) (240 + 20 * m + q) false n := by unfold s_tc; rw [if_pos ⟨c_5, c_13, by rw [ea]; exact c_23⟩, htn]
          refine lv_iconst (v := (nI 0)) hx hb dX2_trustsChange_28 (by decide) ?_
          refine lv_istore_n (lv' := [(3, .int ((nI 0))), (0, .ref (ad 16 m q)), (1, .int (nI g)), (2, .ref (ad 1 0 0))]) hx hb dX2_trustsChange_29 rfl hl (by decide) rfl (fun ls hl => ?_)
          refine g_loop (T := Nat) (fun xx H locs ls => (xx ≤ n ∧ s_tk T (c_sm T g) (240 + 20 * m + q) false xx = false) ∧ cmW V (gAd ad E sz) s.heap ad E T H locs ∧ lv_has ls 4 [(3, .int (nI xx)), (0, .ref (ad 16 m q)), (1, .int (nI g)), (2, .ref (ad 1 0 0))]) (fun xx => n - xx) (fun xx ih H locs ls hI => ?_) (0) ⟨⟨by omega, rfl⟩, hW, lv_sub hl [0, 1, 2, 3] rfl⟩
          obtain ⟨⟨hxn, hno⟩, hW, hl⟩ := hI
          refine lv_iload_n hx hb dX2_trustsChange_30 rfl (lv_at hl 0 rfl) ?_
          refine lv_aload_n hx hb dX2_trustsChange_31 rfl (lv_at hl 1 rfl) ?_
          refine kg_ins_6 hC hW hm hq kf_RX2_18 dX2_trustsChange_32 ?_
          refine kg_rt_1 hC hW hm hq kf_RX2_41 dX2_trustsChange_35 ?_
          refine gq_top (nI n) (hn) ?_
          refine gn_icmp_ge (tgt := 66) hx hb (by omega) (by omega) dX2_trustsChange_38 (by decide) (fun c_38 => ?_) (fun c_38 => ?_)
          · refine lv_iconst (v := 0) hx hb dX2_trustsChange_66 (by decide) ?_
            exact kr_zret hC hz hW (by decide) (⟨by rw [hyes, show n = xx by omega, hno]; rfl, rfl⟩) (by decide) (by decide) dX2_trustsChange_67
          · obtain ⟨d, hdn, hd⟩ := hmet xx (by omega)
            have htd : tn (T.1 14 (3 * (240 + 20 * m + q) + xx)) = d := by rw [ea, hd]; exact tn_nI (by omega)
            have hstep : s_tk T (c_sm T g) (240 + 20 * m + q) false (xx + 1) = decide (c_sm T g d ≠ 0) := by
              show (s_tk T (c_sm T g) (240 + 20 * m + q) false xx || _) = _
              rw [hno, htd]
              rfl
            refine lv_aload_n hx hb dX2_trustsChange_41 rfl (lv_at hl 3 rfl) ?_
            refine lv_aload_n hx hb dX2_trustsChange_42 rfl (lv_at hl 1 rfl) ?_
            refine kg_ins_6 hC hW hm hq kf_RX2_18 dX2_trustsChange_43 ?_
            refine kg_rt_0 hC hW hm hq kf_RX2_44 dX2_trustsChange_46 ?_
            refine lv_iload_n hx hb dX2_trustsChange_49 rfl (lv_at hl 0 rfl) ?_
            refine ka_rtt hC hW hm hq (by omega) dX2_trustsChange_50 ?_
            refine gq_top (nI d) (hd) ?_
            refine lv_iload_n hx hb dX2_trustsChange_51 rfl (lv_at hl 2 rfl) ?_
            refine kc_Vi hC hW (kv_hi ) rfl (c1_hasChanged l V ad _ d g nc hp h1 hdn hg) km_RX2_48 kn_yX1_hasChanged ks_yX1_hasChanged kz_RX1 kd_yX1_hasChanged dn_X1_hasChanged rfl hl.1 ⟨by decide, by decide⟩ (Nat.le_of_ble_eq_true rfl) ⟨by decide, by decide⟩ dX2_trustsChange_52 (fun r_52 T_52 H locs p_52 hW => ?_)
            obtain ⟨q_52, p_52⟩ := p_52
            rw [p_52] at hW
            refine gq_top (c_sm T g d) (q_52) ?_
            refine lv_if_eq (tgt := 60) hx hb dX2_trustsChange_55 (by decide) (fun c_55 => ?_) (fun c_55 => ?_)
            · refine lv_iinc (v := (nI (xx + 1))) (lv' := [(3, .int ((nI (xx + 1)))), (0, .ref (ad 16 m q)), (1, .int (nI g)), (2, .ref (ad 1 0 0))]) hx hb dX2_trustsChange_60 hl (k := 0) rfl (nI_1 xx) (by decide) rfl (fun ls hl => ?_)
              refine lv_goto (tgt := 30) hx hb dX2_trustsChange_63 (by decide) ?_
              exact ih (xx + 1) (by omega) _ _ _ ⟨⟨by omega, hstep.trans (decide_eq_false (fun w => w c_55))⟩, hW, lv_sub hl [0, 1, 2, 3] rfl⟩
            · refine lv_iconst (v := 1) hx hb dX2_trustsChange_58 (by decide) ?_
              exact kr_zret hC hz hW (by decide) (⟨by rw [hyes, show n = (xx + 1) + (n - (xx + 1)) by omega, s_tk_mono (hstep.trans (decide_eq_true c_55))]; rfl, rfl⟩) (by decide) (by decide) dX2_trustsChange_59
        · exact k26 _ _ _ ⟨fun w => c_23 (by rw [← ea]; exact w.2.2), hW, lv_sub hl [0, 1, 2] rfl⟩
set_option maxHeartbeats 4000000 in
set_option maxRecDepth 100000 in
theorem c4_length (l : Launch) (V : gV) (ad : gA) (T : rS) (m : Nat) (hm : m < cnm T) : kMi l yX4_length cX4_length 1 (some .int) ({ frames := 1, cells := 0, slots := 0, locals := 20 } : Room) [.ref (ad 13 m 0)] V ad T (fun r T' => r = nI (csz T m) ∧ T' = T) := by
  refine kMi.of (by decide) (Nat.le_of_ble_eq_true rfl) ?_
  intro p e s m_ below meth c ls E sz hC hz hW hl
  have hx := hC.1
  have hb := hC.2.1
  have hl : lv_has ls 1 [(0, .ref (ad 13 m 0))] := hl
  refine lv_aload_n hx hb dX4_length_0 rfl (lv_at hl 0 rfl) ?_
  refine kg_me_0 hC hW hm kf_RX4_12 dX4_length_1 ?_
  refine kc_Vi hC hW (kv_cl hm) rfl (kc_size_cl l V ad _ hm) km_RX4_28 kn_yJx4a65c_size_8abf5 ks_yJx4a65c_size_8abf5 kz_RJx4a65c kd_yJx4a65c_size_8abf5 dn_Jx4a65c_size_8abf5 rfl hl.1 ⟨by decide, by decide⟩ (Nat.le_of_ble_eq_true rfl) ⟨by decide, by decide⟩ dX4_length_4 (fun r_4 T_4 H locs p_4 hW => ?_)
  obtain ⟨q_4, p_4⟩ := p_4
  rw [p_4] at hW
  refine gq_top (nI (csz T m)) (q_4) ?_
  exact kr_iret hC hz hW (⟨rfl, rfl⟩) (by decide) (by decide) dX4_length_7
set_option maxHeartbeats 4000000 in
set_option maxRecDepth 100000 in
theorem c4_hasPlace (l : Launch) (V : gV) (ad : gA) (T : rS) (m : Nat) (hm : m < cnm T) (x : Int32) : kMi l yX4_hasPlace cX4_hasPlace 2 (some .boolean) ({ frames := 1, cells := 0, slots := 0, locals := 20 } : Room) [.ref (ad 13 m 0), .int x] V ad T (fun r T' => r = rb (¬ x < 0 ∧ x < nI (csz T m)) ∧ T' = T) := by
  refine kMi.of (by decide) (Nat.le_of_ble_eq_true rfl) ?_
  intro p e s m_ below meth c ls E sz hC hz hW hl
  have hx := hC.1
  have hb := hC.2.1
  have hl : lv_has ls 2 [(0, .ref (ad 13 m 0)), (1, .int x)] := hl
  refine lv_iload_n hx hb dX4_hasPlace_0 rfl (lv_at hl 1 rfl) ?_
  refine lv_if_lt (tgt := 19) hx hb dX4_hasPlace_1 (by decide) (fun c_1 => ?_) (fun c_1 => ?_)
  · refine lv_iconst (v := 0) hx hb dX4_hasPlace_19 (by decide) ?_
    exact kr_zret hC hz hW (by decide) (⟨(rb_0 (fun w => w.1 c_1)).symm, rfl⟩) (by decide) (by decide) dX4_hasPlace_20
  · refine lv_iload_n hx hb dX4_hasPlace_4 rfl (lv_at hl 1 rfl) ?_
    refine lv_aload_n hx hb dX4_hasPlace_5 rfl (lv_at hl 0 rfl) ?_
    refine kg_me_0 hC hW hm kf_RX4_12 dX4_hasPlace_6 ?_
    refine kc_Vi hC hW (kv_cl hm) rfl (kc_size_cl l V ad _ hm) km_RX4_28 kn_yJx4a65c_size_8abf5 ks_yJx4a65c_size_8abf5 kz_RJx4a65c kd_yJx4a65c_size_8abf5 dn_Jx4a65c_size_8abf5 rfl hl.1 ⟨by decide, by decide⟩ (Nat.le_of_ble_eq_true rfl) ⟨by decide, by decide⟩ dX4_hasPlace_9 (fun r_9 T_9 H locs p_9 hW => ?_)
    obtain ⟨q_9, p_9⟩ := p_9
    rw [p_9] at hW
    refine gq_top (nI (csz T m)) (q_9) ?_
    refine lv_icmp_ge (tgt := 19) hx hb dX4_hasPlace_12 (by decide) (fun c_12 => ?_) (fun c_12 => ?_)
    · refine lv_iconst (v := 0) hx hb dX4_hasPlace_19 (by decide) ?_
      exact kr_zret hC hz hW (by decide) (⟨(rb_0 (fun w => Int32.not_le.mpr w.2 c_12)).symm, rfl⟩) (by decide) (by decide) dX4_hasPlace_20
    · refine lv_iconst (v := 1) hx hb dX4_hasPlace_15 (by decide) ?_
      refine lv_goto (tgt := 20) hx hb dX4_hasPlace_16 (by decide) ?_
      exact kr_zret hC hz hW (by decide) (⟨(rb_1 ⟨c_1, Int32.not_le.mp c_12⟩).symm, rfl⟩) (by decide) (by decide) dX4_hasPlace_20
set_option maxHeartbeats 4000000 in
set_option maxRecDepth 100000 in
theorem c4_cool (l : Launch) (V : gV) (ad : gA) (T : rS) (m : Nat) (hm : m < cnm T) : kMv l yX4_cool cX4_cool 1 none ({ frames := 0, cells := 0, slots := 0, locals := 0 } : Room) [.ref (ad 13 m 0)] V ad T (fun T' => T' = su (su T 10 (va_up (T.1 10) m 0)) 11 (va_up (T.1 11) m 0)) := by
  refine kMv.of (by decide) (Nat.le_of_ble_eq_true rfl) ?_
  intro p e s m_ below meth c ls E sz hC hz hW hl
  have hx := hC.1
  have hb := hC.2.1
  have hl : lv_has ls 1 [(0, .ref (ad 13 m 0))] := hl
  refine lv_aload_n hx hb dX4_cool_0 rfl (lv_at hl 0 rfl) ?_
  refine lv_iconst (v := 0) hx hb dX4_cool_1 (by decide) ?_
  refine kp_me_1 hC hW hm kf_RX4_18 dX4_cool_2 (fun H locs hW => ?_)
  refine lv_aload_n hx hb dX4_cool_5 rfl (lv_at hl 0 rfl) ?_
  refine lv_iconst (v := 0) hx hb dX4_cool_6 (by decide) ?_
  refine kp_me_2 hC hW hm kf_RX4_22 dX4_cool_7 (fun H locs hW => ?_)
  exact kr_vret hC hz hW (rfl) (by decide) (by decide) dX4_cool_10
set_option maxHeartbeats 4000000 in
set_option maxRecDepth 100000 in
theorem c4_unlearn (l : Launch) (V : gV) (ad : gA) (T : rS) (m : Nat) (hm : m < cnm T) (hz20 : csz T m ≤ 20) : kMv l yX4_unlearn cX4_unlearn 2 none ({ frames := 3, cells := 0, slots := 0, locals := 64 } : Room) [.ref (ad 13 m 0)] V ad T (fun T' => T' = sp_unlearn T m) := by
  refine kMv.of (by decide) (Nat.le_of_ble_eq_true rfl) ?_
  intro p e s m_ below meth c ls E sz hC hz hW hl
  have hx := hC.1
  have hb := hC.2.1
  have hl : lv_has ls 2 [(0, .ref (ad 13 m 0))] := hl
  refine lv_aload_n hx hb dX4_unlearn_0 rfl (lv_at hl 0 rfl) ?_
  refine kc_Vv hC hW (kv_me hm) rfl (c4_cool l V ad _ m hm) km_RX4_32 kn_yX4_cool ks_yX4_cool kz_RX4 kd_yX4_cool dn_X4_cool rfl hl.1 ⟨by decide, by decide⟩ (Nat.le_of_ble_eq_true rfl) ⟨by decide, by decide⟩ dX4_unlearn_1 (fun T_1 H locs p_1 hW => ?_)
  subst p_1
  refine lv_aload_n hx hb dX4_unlearn_4 rfl (lv_at hl 0 rfl) ?_
  refine lv_iconst (v := 0) hx hb dX4_unlearn_5 (by decide) ?_
  refine kp_me_3 hC hW hm kf_RX4_25 dX4_unlearn_6 (fun H locs hW => ?_)
  refine lv_iconst (v := (nI 0)) hx hb dX4_unlearn_9 (by decide) ?_
  refine lv_istore_n (lv' := [(1, .int ((nI 0))), (0, .ref (ad 13 m 0))]) hx hb dX4_unlearn_10 rfl hl (by decide) rfl (fun ls hl => ?_)
  refine g_loop (T := Nat) (fun xx H locs ls => xx ≤ csz T m ∧ cmW V (gAd ad E sz) s.heap ad E (s_clr (su (su (su T 10 (va_up (T.1 10) m 0)) 11 (va_up (T.1 11) m 0)) 12 (va_up (T.1 12) m 0)) m xx) H locs ∧ lv_has ls 2 [(1, .int (nI xx)), (0, .ref (ad 13 m 0))]) (fun xx => csz T m - xx) (fun xx ih H locs ls hI => ?_) (0) ⟨by omega, (by rw [s_clr_0]; exact hW), lv_sub hl [0, 1] rfl⟩
  obtain ⟨hxz, hW, hl⟩ := hI
  refine lv_iload_n hx hb dX4_unlearn_11 rfl (lv_at hl 0 rfl) ?_
  refine lv_aload_n hx hb dX4_unlearn_12 rfl (lv_at hl 1 rfl) ?_
  refine kg_me_0 hC hW hm kf_RX4_12 dX4_unlearn_13 ?_
  refine kc_Vi hC hW (kv_cl hm) rfl (kc_size_cl l V ad _ hm) km_RX4_28 kn_yJx4a65c_size_8abf5 ks_yJx4a65c_size_8abf5 kz_RJx4a65c kd_yJx4a65c_size_8abf5 dn_Jx4a65c_size_8abf5 rfl hl.1 ⟨by decide, by decide⟩ (Nat.le_of_ble_eq_true rfl) ⟨by decide, by decide⟩ dX4_unlearn_16 (fun r_16 T_16 H locs p_16 hW => ?_)
  obtain ⟨q_16, p_16⟩ := p_16
  rw [p_16] at hW
  refine gq_top (nI (csz T m)) (q_16) ?_
  refine gn_icmp_ge (tgt := 45) hx hb (by omega) (by omega) dX4_unlearn_19 (by decide) (fun c_19 => ?_) (fun c_19 => ?_)
  · have hW : cmW V (gAd ad E sz) s.heap ad E (sp_unlearn T m) H locs := by
      obtain ⟨E9, h1, h2, h3⟩ := hW
      exact ⟨E9, h1, cm_clr (T := (su (su (su T 10 (va_up (T.1 10) m 0)) 11 (va_up (T.1 11) m 0)) 12 (va_up (T.1 12) m 0))) hm (show csz T m ≤ xx by omega) (by omega) h2, h3⟩
    exact kr_vret hC hz hW (rfl) (by decide) (by decide) dX4_unlearn_45
  · refine lv_aload_n hx hb dX4_unlearn_22 rfl (lv_at hl 1 rfl) ?_
    refine kg_me_0 hC hW hm kf_RX4_12 dX4_unlearn_23 ?_
    refine lv_iload_n hx hb dX4_unlearn_26 rfl (lv_at hl 0 rfl) ?_
    refine kc_Vr hC hW (kv_cl hm) rfl (kc_get_cl l V ad _ hm (show xx < csz T m by omega)) km_RX4_35 kn_yJx4a65c_get_915e3 ks_yJx4a65c_get_915e3 kz_RJx4a65c kd_yJx4a65c_get_915e3 dn_Jx4a65c_get_915e3 rfl hl.1 ⟨by decide, by decide⟩ (Nat.le_of_ble_eq_true rfl) ⟨by decide, by decide⟩ dX4_unlearn_27 (fun r_27 T_27 H locs p_27 hW => ?_)
    obtain ⟨q_27, p_27⟩ := p_27
    rw [p_27] at hW
    rw [q_27]
    refine kx_cast hC hW (kv_ins hm (show xx < csz T m by omega)) rfl kc_RX4_39 dX4_unlearn_30 ?_
    refine kg_ins_5 hC hW hm (show xx < csz T m by omega) kf_RX4_41 dX4_unlearn_33 ?_
    refine kc_Vv hC hW (kv_rm hm (show xx < csz T m by omega)) rfl (c3_clear l V ad _ m xx hm (show xx < csz T m by omega)) km_RX4_45 kn_yX3_clear ks_yX3_clear kz_RX3 kd_yX3_clear dn_X3_clear rfl hl.1 ⟨by decide, by decide⟩ (Nat.le_of_ble_eq_true rfl) ⟨by decide, by decide⟩ dX4_unlearn_36 (fun T_36 H locs p_36 hW => ?_)
    subst p_36
    refine lv_iinc (v := (nI (xx + 1))) (lv' := [(1, .int ((nI (xx + 1)))), (0, .ref (ad 13 m 0))]) hx hb dX4_unlearn_39 hl (k := 0) rfl (nI_1 xx) (by decide) rfl (fun ls hl => ?_)
    refine lv_goto (tgt := 11) hx hb dX4_unlearn_42 (by decide) ?_
    exact ih (xx + 1) (by omega) _ _ _ ⟨by omega, (by rw [← s_clr_1]; exact hW), lv_sub hl [0, 1] rfl⟩
set_option maxHeartbeats 4000000 in
set_option maxRecDepth 100000 in
theorem c4_trustRecords (l : Launch) (V : gV) (ad : gA) (T : rS) (m : Nat) (hm : m < cnm T) (hm12 : m < 12) (hz20 : csz T m ≤ 20) (hcr : ∀ r : Nat, r < 480 → T.1 15 r = 0 ∨ T.1 15 r = 1) : kMv l yX4_trustRecords cX4_trustRecords 2 none ({ frames := 3, cells := 0, slots := 0, locals := 64 } : Room) [.ref (ad 13 m 0)] V ad T (fun T' => T' = s_ta T m 20) := by
  refine kMv.of (by decide) (Nat.le_of_ble_eq_true rfl) ?_
  intro p e s m_ below meth c ls E sz hC hz hW hl
  have hx := hC.1
  have hb := hC.2.1
  have hl : lv_has ls 2 [(0, .ref (ad 13 m 0))] := hl
  refine lv_iconst (v := (nI 0)) hx hb dX4_trustRecords_0 (by decide) ?_
  refine lv_istore_n (lv' := [(1, .int ((nI 0))), (0, .ref (ad 13 m 0))]) hx hb dX4_trustRecords_1 rfl hl (by decide) rfl (fun ls hl => ?_)
  refine g_loop (T := Nat) (fun xx H locs ls => xx ≤ csz T m ∧ cmW V (gAd ad E sz) s.heap ad E (s_ta T m xx) H locs ∧ lv_has ls 2 [(1, .int (nI xx)), (0, .ref (ad 13 m 0))]) (fun xx => csz T m - xx) (fun xx ih H locs ls hI => ?_) (0) ⟨by omega, (by rw [s_ta_0]; exact hW), lv_sub hl [0, 1] rfl⟩
  obtain ⟨hxz, hW, hl⟩ := hI
  refine lv_iload_n hx hb dX4_trustRecords_2 rfl (lv_at hl 0 rfl) ?_
  refine lv_aload_n hx hb dX4_trustRecords_3 rfl (lv_at hl 1 rfl) ?_
  refine kg_me_0 hC hW hm kf_RX4_12 dX4_trustRecords_4 ?_
  refine kc_Vi hC hW (kv_cl hm) rfl (kc_size_cl l V ad _ hm) km_RX4_28 kn_yJx4a65c_size_8abf5 ks_yJx4a65c_size_8abf5 kz_RJx4a65c kd_yJx4a65c_size_8abf5 dn_Jx4a65c_size_8abf5 rfl hl.1 ⟨by decide, by decide⟩ (Nat.le_of_ble_eq_true rfl) ⟨by decide, by decide⟩ dX4_trustRecords_7 (fun r_7 T_7 H locs p_7 hW => ?_)
  obtain ⟨q_7, p_7⟩ := p_7
  rw [p_7] at hW
  refine gq_top (nI (csz T m)) (q_7) ?_
  refine gn_icmp_ge (tgt := 50) hx hb (by omega) (by omega) dX4_trustRecords_10 (by decide) (fun c_10 => ?_) (fun c_10 => ?_)
  · have hW : cmW V (gAd ad E sz) s.heap ad E (s_ta T m 20) H locs := by
      obtain ⟨E9, h1, h2, h3⟩ := hW
      exact ⟨E9, h1, cm_ta hm (show csz T m ≤ xx by omega) (by omega) h2, h3⟩
    exact kr_vret hC hz hW (rfl) (by decide) (by decide) dX4_trustRecords_50
  · refine lv_aload_n hx hb dX4_trustRecords_13 rfl (lv_at hl 1 rfl) ?_
    refine kg_me_0 hC hW hm kf_RX4_12 dX4_trustRecords_14 ?_
    refine lv_iload_n hx hb dX4_trustRecords_17 rfl (lv_at hl 0 rfl) ?_
    refine kc_Vr hC hW (kv_cl hm) rfl (kc_get_cl l V ad _ hm (show xx < csz T m by omega)) km_RX4_35 kn_yJx4a65c_get_915e3 ks_yJx4a65c_get_915e3 kz_RJx4a65c kd_yJx4a65c_get_915e3 dn_Jx4a65c_get_915e3 rfl hl.1 ⟨by decide, by decide⟩ (Nat.le_of_ble_eq_true rfl) ⟨by decide, by decide⟩ dX4_trustRecords_18 (fun r_18 T_18 H locs p_18 hW => ?_)
    obtain ⟨q_18, p_18⟩ := p_18
    rw [p_18] at hW
    rw [q_18]
    refine kx_cast hC hW (kv_ins hm (show xx < csz T m by omega)) rfl kc_RX4_39 dX4_trustRecords_21 ?_
    refine kg_ins_6 hC hW hm (show xx < csz T m by omega) kf_RX4_50 dX4_trustRecords_24 ?_
    refine lv_aload_n hx hb dX4_trustRecords_27 rfl (lv_at hl 1 rfl) ?_
    refine kg_me_0 hC hW hm kf_RX4_12 dX4_trustRecords_28 ?_
    refine lv_iload_n hx hb dX4_trustRecords_31 rfl (lv_at hl 0 rfl) ?_
    refine kc_Vr hC hW (kv_cl hm) rfl (kc_get_cl l V ad _ hm (show xx < csz T m by omega)) km_RX4_35 kn_yJx4a65c_get_915e3 ks_yJx4a65c_get_915e3 kz_RJx4a65c kd_yJx4a65c_get_915e3 dn_Jx4a65c_get_915e3 rfl hl.1 ⟨by decide, by decide⟩ (Nat.le_of_ble_eq_true rfl) ⟨by decide, by decide⟩ dX4_trustRecords_32 (fun r_32 T_32 H locs p_32 hW => ?_)
    obtain ⟨q_32, p_32⟩ := p_32
    rw [p_32] at hW
    rw [q_32]
    refine kx_cast hC hW (kv_ins hm (show xx < csz T m by omega)) rfl kc_RX4_39 dX4_trustRecords_35 ?_
    refine kg_ins_5 hC hW hm (show xx < csz T m by omega) kf_RX4_41 dX4_trustRecords_38 ?_
    refine kc_Vv hC hW (kv_rt hm (show xx < csz T m by omega)) rfl (c3_copyFrom l V ad _ m xx hm (show xx < csz T m by omega) (by rw [s_ta_15 _ _ _ _ (by omega)]; exact hcr _ (by omega))) km_RX4_53 kn_yX3_copyFrom ks_yX3_copyFrom kz_RX3 kd_yX3_copyFrom dn_X3_copyFrom rfl hl.1 ⟨by decide, by decide⟩ (Nat.le_of_ble_eq_true rfl) ⟨by decide, by decide⟩ dX4_trustRecords_41 (fun T_41 H locs p_41 hW => ?_)
    subst p_41
    refine lv_iinc (v := (nI (xx + 1))) (lv' := [(1, .int ((nI (xx + 1)))), (0, .ref (ad 13 m 0))]) hx hb dX4_trustRecords_44 hl (k := 0) rfl (nI_1 xx) (by decide) rfl (fun ls hl => ?_)
    refine lv_goto (tgt := 2) hx hb dX4_trustRecords_47 (by decide) ?_
    exact ih (xx + 1) (by omega) _ _ _ ⟨by omega, (by rw [← s_ta_1 T m xx hm12 (by omega)]; exact hW), lv_sub hl [0, 1] rfl⟩
theorem bi_f {b : Bool} (h : bi b = 0) : b = false := by
  cases b
  · rfl
  · exact absurd h (by decide)
theorem bi_t {b : Bool} (h : ¬ bi b = 0) : b = true := by
  cases b
  · exact absurd rfl h
  · rfl
set_option maxHeartbeats 4000000 in
set_option maxRecDepth 100000 in
theorem c4_hasTrustingSend (l : Launch) (V : gV) (ad : gA) (T : rS) (m : Nat) (hm : m < cnm T) (hm12 : m < 12) (hz20 : csz T m ≤ 20) (g nc : Nat) (hp : s_par T nc) (h1 : T.1 1 0 = nI nc) (hg : g < 6) (hrec : ∀ r : Nat, r < 480 → ∃ n : Nat, n ≤ 3 ∧ T.1 13 r = nI n ∧ ∀ k : Nat, k < n → ∃ d : Nat, d < nc ∧ T.1 14 (3 * r + k) = nI d) : kMi l yX4_hasTrustingSend cX4_hasTrustingSend 4 (some .boolean) ({ frames := 4, cells := 0, slots := 0, locals := 90 } : Room) [.ref (ad 13 m 0), .int (nI g), .ref (ad 1 0 0)] V ad T (fun r T' => r = bi (s_tp T (c_sm T g) m g (csz T m)) ∧ T' = T) := by
  refine kMi.of (by decide) (Nat.le_of_ble_eq_true rfl) ?_
  intro p e s m_ below meth c ls E sz hC hz hW hl
  have hx := hC.1
  have hb := hC.2.1
  have hl : lv_has ls 4 [(0, .ref (ad 13 m 0)), (1, .int (nI g)), (2, .ref (ad 1 0 0))] := hl
  refine lv_iconst (v := (nI 0)) hx hb dX4_hasTrustingSend_0 (by decide) ?_
  refine lv_istore_n (lv' := [(3, .int ((nI 0))), (0, .ref (ad 13 m 0)), (1, .int (nI g)), (2, .ref (ad 1 0 0))]) hx hb dX4_hasTrustingSend_1 rfl hl (by decide) rfl (fun ls hl => ?_)
  refine g_loop (T := Nat) (fun xx H locs ls => (xx ≤ csz T m ∧ s_tp T (c_sm T g) m g xx = false) ∧ cmW V (gAd ad E sz) s.heap ad E T H locs ∧ lv_has ls 4 [(3, .int (nI xx)), (0, .ref (ad 13 m 0)), (1, .int (nI g)), (2, .ref (ad 1 0 0))]) (fun xx => csz T m - xx) (fun xx ih H locs ls hI => ?_) (0) ⟨⟨by omega, rfl⟩, hW, lv_sub hl [0, 1, 2, 3] rfl⟩
  obtain ⟨⟨hxz, hno⟩, hW, hl⟩ := hI
  refine lv_iload_n hx hb dX4_hasTrustingSend_2 rfl (lv_at hl 0 rfl) ?_
  refine lv_aload_n hx hb dX4_hasTrustingSend_3 rfl (lv_at hl 1 rfl) ?_
  refine kg_me_0 hC hW hm kf_RX4_12 dX4_hasTrustingSend_4 ?_
  refine kc_Vi hC hW (kv_cl hm) rfl (kc_size_cl l V ad _ hm) km_RX4_28 kn_yJx4a65c_size_8abf5 ks_yJx4a65c_size_8abf5 kz_RJx4a65c kd_yJx4a65c_size_8abf5 dn_Jx4a65c_size_8abf5 rfl hl.1 ⟨by decide, by decide⟩ (Nat.le_of_ble_eq_true rfl) ⟨by decide, by decide⟩ dX4_hasTrustingSend_7 (fun r_7 T_7 H locs p_7 hW => ?_)
  obtain ⟨q_7, p_7⟩ := p_7
  rw [p_7] at hW
  refine gq_top (nI (csz T m)) (q_7) ?_
  refine gn_icmp_ge (tgt := 40) hx hb (by omega) (by omega) dX4_hasTrustingSend_10 (by decide) (fun c_10 => ?_) (fun c_10 => ?_)
  · refine lv_iconst (v := 0) hx hb dX4_hasTrustingSend_40 (by decide) ?_
    exact kr_zret hC hz hW (by decide) (⟨by rw [show csz T m = xx by omega, hno]; rfl, rfl⟩) (by decide) (by decide) dX4_hasTrustingSend_41
  · have hst : s_tp T (c_sm T g) m g (xx + 1) = s_tc T m g xx := by
      show (if s_tq T m g xx then s_tk T (c_sm T g) (240 + 20 * m + xx) (s_tp T (c_sm T g) m g xx) _ else s_tp T (c_sm T g) m g xx) = _
      rw [hno]
      rfl
    refine lv_aload_n hx hb dX4_hasTrustingSend_13 rfl (lv_at hl 1 rfl) ?_
    refine kg_me_0 hC hW hm kf_RX4_12 dX4_hasTrustingSend_14 ?_
    refine lv_iload_n hx hb dX4_hasTrustingSend_17 rfl (lv_at hl 0 rfl) ?_
    refine kc_Vr hC hW (kv_cl hm) rfl (kc_get_cl l V ad _ hm (show xx < csz T m by omega)) km_RX4_35 kn_yJx4a65c_get_915e3 ks_yJx4a65c_get_915e3 kz_RJx4a65c kd_yJx4a65c_get_915e3 dn_Jx4a65c_get_915e3 rfl hl.1 ⟨by decide, by decide⟩ (Nat.le_of_ble_eq_true rfl) ⟨by decide, by decide⟩ dX4_hasTrustingSend_18 (fun r_18 T_18 H locs p_18 hW => ?_)
    obtain ⟨q_18, p_18⟩ := p_18
    rw [p_18] at hW
    rw [q_18]
    refine kx_cast hC hW (kv_ins hm (show xx < csz T m by omega)) rfl kc_RX4_39 dX4_hasTrustingSend_21 ?_
    refine lv_iload_n hx hb dX4_hasTrustingSend_24 rfl (lv_at hl 2 rfl) ?_
    refine lv_aload_n hx hb dX4_hasTrustingSend_25 rfl (lv_at hl 3 rfl) ?_
    refine kc_Vi hC hW (kv_ins hm (show xx < csz T m by omega)) rfl (c2_trustsChange l V ad _ m xx hm (show xx < csz T m by omega) hm12 (by omega) g nc hp h1 hg hrec) km_RX4_57 kn_yX2_trustsChange ks_yX2_trustsChange kz_RX2 kd_yX2_trustsChange dn_X2_trustsChange rfl hl.1 ⟨by decide, by decide⟩ (Nat.le_of_ble_eq_true rfl) ⟨by decide, by decide⟩ dX4_hasTrustingSend_26 (fun r_26 T_26 H locs p_26 hW => ?_)
    obtain ⟨q_26, p_26⟩ := p_26
    rw [p_26] at hW
    refine gq_top (bi (s_tc T m g xx)) (q_26) ?_
    refine lv_if_eq (tgt := 34) hx hb dX4_hasTrustingSend_29 (by decide) (fun c_29 => ?_) (fun c_29 => ?_)
    · refine lv_iinc (v := (nI (xx + 1))) (lv' := [(3, .int ((nI (xx + 1)))), (0, .ref (ad 13 m 0)), (1, .int (nI g)), (2, .ref (ad 1 0 0))]) hx hb dX4_hasTrustingSend_34 hl (k := 0) rfl (nI_1 xx) (by decide) rfl (fun ls hl => ?_)
      refine lv_goto (tgt := 2) hx hb dX4_hasTrustingSend_37 (by decide) ?_
      exact ih (xx + 1) (by omega) _ _ _ ⟨⟨by omega, hst.trans (bi_f c_29)⟩, hW, lv_sub hl [0, 1, 2, 3] rfl⟩
    · refine lv_iconst (v := 1) hx hb dX4_hasTrustingSend_32 (by decide) ?_
      exact kr_zret hC hz hW (by decide) (⟨by rw [show csz T m = (xx + 1) + (csz T m - (xx + 1)) by omega, s_tp_mono (hst.trans (bi_t c_29))]; rfl, rfl⟩) (by decide) (by decide) dX4_hasTrustingSend_33
set_option maxHeartbeats 4000000 in
set_option maxRecDepth 100000 in
theorem c4_mixInto (l : Launch) (V : gV) (ad : gA) (T : rS) (m : Nat) (hm : m < cnm T) (hz20 : csz T m ≤ 20) (h5 : T.1 5 m = nI (csz T m)) (d : Int64) : kMl l yX4_mixInto cX4_mixInto 6 (some .long) ({ frames := 3, cells := 0, slots := 0, locals := 64 } : Room) [.ref (ad 13 m 0), .long d] V ad T (fun r T' => r = s_dr T m (s_dh T m d) (csz T m) ∧ T' = T) := by
  refine kMl.of (by decide) (Nat.le_of_ble_eq_true rfl) ?_
  intro p e s m_ below meth c ls E sz hC hz hW hl
  have hx := hC.1
  have hb := hC.2.1
  have hl : lv_has ls 6 [(0, .ref (ad 13 m 0)), (1, .long d)] := hl
  obtain ⟨d1, hd1⟩ : ∃ d1, d1 = s_dh T m d := ⟨_, rfl⟩
  refine lv_lload_n hx hb dX4_mixInto_0 rfl (lv_at hl 1 rfl) ?_
  refine lv_lstore_n (lv' := [(3, .long d), (0, .ref (ad 13 m 0)), (1, .long d)]) hx hb dX4_mixInto_1 rfl hl (by decide) rfl (fun ls hl => ?_)
  refine lv_lload_n hx hb dX4_mixInto_2 rfl (lv_at hl 0 rfl) ?_
  refine gq_ldc2 hC kl_RX4_61 dX4_mixInto_3 ?_
  refine lv_lmul hx hb dX4_mixInto_6 ?_
  refine lv_aload_n hx hb dX4_mixInto_7 rfl (lv_at hl 1 rfl) ?_
  refine kg_me_0 hC hW hm kf_RX4_12 dX4_mixInto_8 ?_
  refine kc_Vi hC hW (kv_cl hm) rfl (kc_size_cl l V ad _ hm) km_RX4_28 kn_yJx4a65c_size_8abf5 ks_yJx4a65c_size_8abf5 kz_RJx4a65c kd_yJx4a65c_size_8abf5 dn_Jx4a65c_size_8abf5 rfl hl.1 ⟨by decide, by decide⟩ (Nat.le_of_ble_eq_true rfl) ⟨by decide, by decide⟩ dX4_mixInto_11 (fun r_11 T_11 H locs p_11 hW => ?_)
  obtain ⟨q_11, p_11⟩ := p_11
  rw [p_11] at hW
  refine gq_top (nI (csz T m)) (q_11) ?_
  refine lv_i2l hx hb dX4_mixInto_14 rfl ?_
  refine lv_ladd hx hb dX4_mixInto_15 ?_
  refine lv_topl (fun x_16 ex_16 => ?_)
  refine lv_lstore_n (lv' := [(3, .long x_16), (0, .ref (ad 13 m 0)), (1, .long d)]) hx hb dX4_mixInto_16 rfl hl (by decide) rfl (fun ls hl => ?_)
  refine lv_lload_n hx hb dX4_mixInto_17 rfl (lv_at hl 0 rfl) ?_
  refine gq_ldc2 hC kl_RX4_61 dX4_mixInto_18 ?_
  refine lv_lmul hx hb dX4_mixInto_21 ?_
  refine lv_aload_n hx hb dX4_mixInto_22 rfl (lv_at hl 1 rfl) ?_
  refine kg_me_1 hC hW hm kf_RX4_18 dX4_mixInto_23 ?_
  refine lv_i2l hx hb dX4_mixInto_26 rfl ?_
  refine lv_ladd hx hb dX4_mixInto_27 ?_
  refine lv_topl (fun x_28 ex_28 => ?_)
  refine lv_lstore_n (lv' := [(3, .long x_28), (0, .ref (ad 13 m 0)), (1, .long d)]) hx hb dX4_mixInto_28 rfl hl (by decide) rfl (fun ls hl => ?_)
  refine lv_lload_n hx hb dX4_mixInto_29 rfl (lv_at hl 0 rfl) ?_
  refine gq_ldc2 hC kl_RX4_61 dX4_mixInto_30 ?_
  refine lv_lmul hx hb dX4_mixInto_33 ?_
  refine lv_aload_n hx hb dX4_mixInto_34 rfl (lv_at hl 1 rfl) ?_
  refine kg_me_2 hC hW hm kf_RX4_22 dX4_mixInto_35 ?_
  refine lv_i2l hx hb dX4_mixInto_38 rfl ?_
  refine lv_ladd hx hb dX4_mixInto_39 ?_
  refine lv_topl (fun x_40 ex_40 => ?_)
  refine lv_lstore_n (lv' := [(3, .long x_40), (0, .ref (ad 13 m 0)), (1, .long d)]) hx hb dX4_mixInto_40 rfl hl (by decide) rfl (fun ls hl => ?_)
  refine lv_lload_n hx hb dX4_mixInto_41 rfl (lv_at hl 0 rfl) ?_
  refine gq_ldc2 hC kl_RX4_61 dX4_mixInto_42 ?_
  refine lv_lmul hx hb dX4_mixInto_45 ?_
  refine lv_aload_n hx hb dX4_mixInto_46 rfl (lv_at hl 1 rfl) ?_
  refine kg_me_3 hC hW hm kf_RX4_25 dX4_mixInto_47 ?_
  refine lv_i2l hx hb dX4_mixInto_50 rfl ?_
  refine lv_ladd hx hb dX4_mixInto_51 ?_
  refine lv_topl (fun x_52 ex_52 => ?_)
  refine lv_lstore_n (lv' := [(3, .long x_52), (0, .ref (ad 13 m 0)), (1, .long d)]) hx hb dX4_mixInto_52 rfl hl (by decide) rfl (fun ls hl => ?_)
  have hd2 : x_52 = d1 := by rw [ex_52, ex_40, ex_28, ex_16, hd1]; unfold s_dh; rw [h5]
  rw [hd2] at hl
  refine lv_iconst (v := (nI 0)) hx hb dX4_mixInto_53 (by decide) ?_
  refine lv_istore (lv' := [(5, .int ((nI 0))), (3, .long d1), (0, .ref (ad 13 m 0)), (1, .long d)]) hx hb dX4_mixInto_54 hl (by decide) rfl (fun ls hl => ?_)
  refine g_loop (T := Nat) (fun xx H locs ls => xx ≤ csz T m ∧ cmW V (gAd ad E sz) s.heap ad E T H locs ∧ lv_has ls 6 [(5, .int (nI xx)), (3, .long (s_dr T m d1 xx)), (0, .ref (ad 13 m 0)), (1, .long d)]) (fun xx => csz T m - xx) (fun xx ih H locs ls hI => ?_) (0) ⟨by omega, hW, lv_sub hl [0, 1, 2, 3] rfl⟩
  obtain ⟨hxz, hW, hl⟩ := hI
  refine lv_iload hx hb dX4_mixInto_56 (lv_at hl 0 rfl) ?_
  refine lv_aload_n hx hb dX4_mixInto_58 rfl (lv_at hl 2 rfl) ?_
  refine kg_me_0 hC hW hm kf_RX4_12 dX4_mixInto_59 ?_
  refine kc_Vi hC hW (kv_cl hm) rfl (kc_size_cl l V ad _ hm) km_RX4_28 kn_yJx4a65c_size_8abf5 ks_yJx4a65c_size_8abf5 kz_RJx4a65c kd_yJx4a65c_size_8abf5 dn_Jx4a65c_size_8abf5 rfl hl.1 ⟨by decide, by decide⟩ (Nat.le_of_ble_eq_true rfl) ⟨by decide, by decide⟩ dX4_mixInto_62 (fun r_62 T_62 H locs p_62 hW => ?_)
  obtain ⟨q_62, p_62⟩ := p_62
  rw [p_62] at hW
  refine gq_top (nI (csz T m)) (q_62) ?_
  refine gn_icmp_ge (tgt := 119) hx hb (by omega) (by omega) dX4_mixInto_65 (by decide) (fun c_65 => ?_) (fun c_65 => ?_)
  · refine lv_lload_n hx hb dX4_mixInto_119 rfl (lv_at hl 1 rfl) ?_
    exact kr_lret hC hz hW (⟨by rw [show csz T m = xx by omega, hd1], rfl⟩) (by decide) (by decide) dX4_mixInto_120
  · refine lv_aload_n hx hb dX4_mixInto_68 rfl (lv_at hl 2 rfl) ?_
    refine kg_me_0 hC hW hm kf_RX4_12 dX4_mixInto_69 ?_
    refine lv_iload hx hb dX4_mixInto_72 (lv_at hl 0 rfl) ?_
    refine kc_Vr hC hW (kv_cl hm) rfl (kc_get_cl l V ad _ hm (show xx < csz T m by omega)) km_RX4_35 kn_yJx4a65c_get_915e3 ks_yJx4a65c_get_915e3 kz_RJx4a65c kd_yJx4a65c_get_915e3 dn_Jx4a65c_get_915e3 rfl hl.1 ⟨by decide, by decide⟩ (Nat.le_of_ble_eq_true rfl) ⟨by decide, by decide⟩ dX4_mixInto_74 (fun r_74 T_74 H locs p_74 hW => ?_)
    obtain ⟨q_74, p_74⟩ := p_74
    rw [p_74] at hW
    rw [q_74]
    refine kx_cast hC hW (kv_ins hm (show xx < csz T m by omega)) rfl kc_RX4_39 dX4_mixInto_77 ?_
    refine kg_ins_0 hC hW hm (show xx < csz T m by omega) kf_RX4_63 dX4_mixInto_80 ?_
    refine lv_iconst (v := 5) hx hb dX4_mixInto_83 (by decide) ?_
    refine lv_icmp_ne (tgt := 113) hx hb dX4_mixInto_84 (by decide) (fun c_84 => ?_) (fun c_84 => ?_)
    · have hnx : s_dr T m d1 xx = s_dr T m d1 (xx + 1) := (if_neg c_84).symm
      rw [hnx] at hl
      refine lv_iinc (v := (nI (xx + 1))) (lv' := [(5, .int ((nI (xx + 1)))), (3, .long (s_dr T m d1 (xx + 1))), (0, .ref (ad 13 m 0)), (1, .long d)]) hx hb dX4_mixInto_113 hl (k := 0) rfl (nI_1 xx) (by decide) rfl (fun ls hl => ?_)
      refine lv_goto (tgt := 56) hx hb dX4_mixInto_116 (by decide) ?_
      exact ih (xx + 1) (by omega) _ _ _ ⟨by omega, hW, lv_sub hl [0, 1, 2, 3] rfl⟩
    · refine lv_lload_n hx hb dX4_mixInto_87 rfl (lv_at hl 1 rfl) ?_
      refine gq_ldc2 hC kl_RX4_61 dX4_mixInto_88 ?_
      refine lv_lmul hx hb dX4_mixInto_91 ?_
      refine lv_aload_n hx hb dX4_mixInto_92 rfl (lv_at hl 2 rfl) ?_
      refine kg_me_0 hC hW hm kf_RX4_12 dX4_mixInto_93 ?_
      refine lv_iload hx hb dX4_mixInto_96 (lv_at hl 0 rfl) ?_
      refine kc_Vr hC hW (kv_cl hm) rfl (kc_get_cl l V ad _ hm (show xx < csz T m by omega)) km_RX4_35 kn_yJx4a65c_get_915e3 ks_yJx4a65c_get_915e3 kz_RJx4a65c kd_yJx4a65c_get_915e3 dn_Jx4a65c_get_915e3 rfl hl.1 ⟨by decide, by decide⟩ (Nat.le_of_ble_eq_true rfl) ⟨by decide, by decide⟩ dX4_mixInto_98 (fun r_98 T_98 H locs p_98 hW => ?_)
      obtain ⟨q_98, p_98⟩ := p_98
      rw [p_98] at hW
      rw [q_98]
      refine kx_cast hC hW (kv_ins hm (show xx < csz T m by omega)) rfl kc_RX4_39 dX4_mixInto_101 ?_
      refine kg_ins_5 hC hW hm (show xx < csz T m by omega) kf_RX4_41 dX4_mixInto_104 ?_
      refine kc_Vi hC hW (kv_rm hm (show xx < csz T m by omega)) rfl (c3_told l V ad _ m xx hm (show xx < csz T m by omega)) km_RX4_66 kn_yX3_told ks_yX3_told kz_RX3 kd_yX3_told dn_X3_told rfl hl.1 ⟨by decide, by decide⟩ (Nat.le_of_ble_eq_true rfl) ⟨by decide, by decide⟩ dX4_mixInto_107 (fun r_107 T_107 H locs p_107 hW => ?_)
      obtain ⟨q_107, p_107⟩ := p_107
      rw [p_107] at hW
      refine gq_top (s_mat T m xx) (q_107) ?_
      refine lv_i2l hx hb dX4_mixInto_110 rfl ?_
      refine lv_ladd hx hb dX4_mixInto_111 ?_
      refine lv_topl (fun x_112 ex_112 => ?_)
      refine lv_lstore_n (lv' := [(3, .long x_112), (5, .int (nI xx)), (0, .ref (ad 13 m 0)), (1, .long d)]) hx hb dX4_mixInto_112 rfl hl (by decide) rfl (fun ls hl => ?_)
      have hnx : x_112 = s_dr T m d1 (xx + 1) := by rw [ex_112]; exact (if_pos c_84).symm
      rw [hnx] at hl
      refine lv_iinc (v := (nI (xx + 1))) (lv' := [(5, .int ((nI (xx + 1)))), (3, .long (s_dr T m d1 (xx + 1))), (0, .ref (ad 13 m 0)), (1, .long d)]) hx hb dX4_mixInto_113 hl (k := 1) rfl (nI_1 xx) (by decide) rfl (fun ls hl => ?_)
      refine lv_goto (tgt := 56) hx hb dX4_mixInto_116 (by decide) ?_
      exact ih (xx + 1) (by omega) _ _ _ ⟨by omega, hW, lv_sub hl [0, 1, 2, 3] rfl⟩
