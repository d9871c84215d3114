theorem cm_set_row {V : gV} {ad : gA} {T : rS} {E : gE} (hO : cmOK V ad T E) {i : Nat} (hi : i < 8) {f2 h : Nat → Int32} (hf : ∀ g, g < 6 → f2 g = h (6 * i + g)) : cmOK V ad (su T 3 (fun j => if 6 * i ≤ j ∧ j < 6 * i + 6 then h j else T.1 3 j)) (gu E 8 i 0 (.inl (V.2.1 0, 6, .inl f2))) := ⟨hO.1, hO.2.1, hO.2.2.1, hO.2.2.2.1, hO.2.2.2.2.1, fun i2 hi2 => by
    by_cases e : i2 = i
    · subst e
      refine ⟨_, gu_eq _ _ _ _ _, fun g hg => ?_⟩
      show f2 g = (if 6 * i2 ≤ 6 * i2 + g ∧ 6 * i2 + g < 6 * i2 + 6 then h (6 * i2 + g) else T.1 3 (6 * i2 + g))
      rw [if_pos (by omega)]
      exact hf g hg
    · obtain ⟨f3, g1, g2⟩ := hO.2.2.2.2.2.1 i2 hi2
      refine ⟨f3, (gu_ne (fun z => e z.2.1)).trans g1, fun g hg => ?_⟩
      show f3 g = (if 6 * i ≤ 6 * i2 + g ∧ 6 * i2 + g < 6 * i + 6 then h (6 * i2 + g) else T.1 3 (6 * i2 + g))
      rw [if_neg (by omega)]
      exact g2 g hg, hO.2.2.2.2.2.2.1, hO.2.2.2.2.2.2.2.1, hO.2.2.2.2.2.2.2.2.1, hO.2.2.2.2.2.2.2.2.2.1, hO.2.2.2.2.2.2.2.2.2.2.1, hO.2.2.2.2.2.2.2.2.2.2.2.1, hO.2.2.2.2.2.2.2.2.2.2.2.2.1, hO.2.2.2.2.2.2.2.2.2.2.2.2.2.1, hO.2.2.2.2.2.2.2.2.2.2.2.2.2.2.1, hO.2.2.2.2.2.2.2.2.2.2.2.2.2.2.2.1, hO.2.2.2.2.2.2.2.2.2.2.2.2.2.2.2.2.1, hO.2.2.2.2.2.2.2.2.2.2.2.2.2.2.2.2.2.1, hO.2.2.2.2.2.2.2.2.2.2.2.2.2.2.2.2.2.2.1, hO.2.2.2.2.2.2.2.2.2.2.2.2.2.2.2.2.2.2.2⟩
theorem cm_set_val {V : gV} {ad : gA} {T : rS} {E : gE} (hO : cmOK V ad T E) {i : Nat} (hi : i < 20) {f2 h : Nat → Int32} (hf : ∀ g, g < 4 → f2 g = h (4 * i + g)) : cmOK V ad (su T 22 (fun j => if 4 * i ≤ j ∧ j < 4 * i + 4 then h j else T.1 22 j)) (gu E 11 i 0 (.inl (V.2.1 0, 4, .inl f2))) := ⟨hO.1, hO.2.1, hO.2.2.1, hO.2.2.2.1, hO.2.2.2.2.1, hO.2.2.2.2.2.1, hO.2.2.2.2.2.2.1, hO.2.2.2.2.2.2.2.1, hO.2.2.2.2.2.2.2.2.1, fun i2 hi2 => by
    by_cases e : i2 = i
    · subst e
      refine ⟨_, gu_eq _ _ _ _ _, fun g hg => ?_⟩
      show f2 g = (if 4 * i2 ≤ 4 * i2 + g ∧ 4 * i2 + g < 4 * i2 + 4 then h (4 * i2 + g) else T.1 22 (4 * i2 + g))
      rw [if_pos (by omega)]
      exact hf g hg
    · obtain ⟨f3, g1, g2⟩ := hO.2.2.2.2.2.2.2.2.2.1 i2 hi2
      refine ⟨f3, (gu_ne (fun z => e z.2.1)).trans g1, fun g hg => ?_⟩
      show f3 g = (if 4 * i ≤ 4 * i2 + g ∧ 4 * i2 + g < 4 * i + 4 then h (4 * i2 + g) else T.1 22 (4 * i2 + g))
      rw [if_neg (by omega)]
      exact g2 g hg, hO.2.2.2.2.2.2.2.2.2.2.1, hO.2.2.2.2.2.2.2.2.2.2.2.1, hO.2.2.2.2.2.2.2.2.2.2.2.2.1, hO.2.2.2.2.2.2.2.2.2.2.2.2.2.1, hO.2.2.2.2.2.2.2.2.2.2.2.2.2.2.1, hO.2.2.2.2.2.2.2.2.2.2.2.2.2.2.2.1, hO.2.2.2.2.2.2.2.2.2.2.2.2.2.2.2.2.1, hO.2.2.2.2.2.2.2.2.2.2.2.2.2.2.2.2.2.1, hO.2.2.2.2.2.2.2.2.2.2.2.2.2.2.2.2.2.2.1, hO.2.2.2.2.2.2.2.2.2.2.2.2.2.2.2.2.2.2.2⟩
theorem cm_set_typ {V : gV} {ad : gA} {T : rS} {E : gE} (hO : cmOK V ad T E) {i : Nat} (hi : i < 20) {f2 h : Nat → Int32} (hf : ∀ g, g < 4 → f2 g = h (4 * i + g)) : cmOK V ad (su T 21 (fun j => if 4 * i ≤ j ∧ j < 4 * i + 4 then h j else T.1 21 j)) (gu E 12 i 0 (.inl (V.2.1 0, 4, .inl f2))) := ⟨hO.1, hO.2.1, hO.2.2.1, hO.2.2.2.1, hO.2.2.2.2.1, hO.2.2.2.2.2.1, hO.2.2.2.2.2.2.1, hO.2.2.2.2.2.2.2.1, hO.2.2.2.2.2.2.2.2.1, hO.2.2.2.2.2.2.2.2.2.1, fun i2 hi2 => by
    by_cases e : i2 = i
    · subst e
      refine ⟨_, gu_eq _ _ _ _ _, fun g hg => ?_⟩
      show f2 g = (if 4 * i2 ≤ 4 * i2 + g ∧ 4 * i2 + g < 4 * i2 + 4 then h (4 * i2 + g) else T.1 21 (4 * i2 + g))
      rw [if_pos (by omega)]
      exact hf g hg
    · obtain ⟨f3, g1, g2⟩ := hO.2.2.2.2.2.2.2.2.2.2.1 i2 hi2
      refine ⟨f3, (gu_ne (fun z => e z.2.1)).trans g1, fun g hg => ?_⟩
      show f3 g = (if 4 * i ≤ 4 * i2 + g ∧ 4 * i2 + g < 4 * i + 4 then h (4 * i2 + g) else T.1 21 (4 * i2 + g))
      rw [if_neg (by omega)]
      exact g2 g hg, hO.2.2.2.2.2.2.2.2.2.2.2.1, hO.2.2.2.2.2.2.2.2.2.2.2.2.1, hO.2.2.2.2.2.2.2.2.2.2.2.2.2.1, hO.2.2.2.2.2.2.2.2.2.2.2.2.2.2.1, hO.2.2.2.2.2.2.2.2.2.2.2.2.2.2.2.1, hO.2.2.2.2.2.2.2.2.2.2.2.2.2.2.2.2.1, hO.2.2.2.2.2.2.2.2.2.2.2.2.2.2.2.2.2.1, hO.2.2.2.2.2.2.2.2.2.2.2.2.2.2.2.2.2.2.1, hO.2.2.2.2.2.2.2.2.2.2.2.2.2.2.2.2.2.2.2⟩
theorem cm_set_rtt {V : gV} {ad : gA} {T : rS} {E : gE} (hO : cmOK V ad T E) {m q : Nat} (hm : m < cnm T) (hq : q < csz T m) {f2 h : Nat → Int32} (hf : ∀ g, g < 3 → f2 g = h (3 * (240 + (20 * m + q)) + g)) : cmOK V ad (su T 14 (fun j => if 3 * (240 + (20 * m + q)) ≤ j ∧ j < 3 * (240 + (20 * m + q)) + 3 then h j else T.1 14 j)) (gu E 20 m q (.inl (V.2.1 0, 3, .inl f2))) := ⟨hO.1, hO.2.1, hO.2.2.1, hO.2.2.2.1, hO.2.2.2.2.1, hO.2.2.2.2.2.1, hO.2.2.2.2.2.2.1, hO.2.2.2.2.2.2.2.1, hO.2.2.2.2.2.2.2.2.1, hO.2.2.2.2.2.2.2.2.2.1, hO.2.2.2.2.2.2.2.2.2.2.1, hO.2.2.2.2.2.2.2.2.2.2.2.1, hO.2.2.2.2.2.2.2.2.2.2.2.2.1, hO.2.2.2.2.2.2.2.2.2.2.2.2.2.1, hO.2.2.2.2.2.2.2.2.2.2.2.2.2.2.1, hO.2.2.2.2.2.2.2.2.2.2.2.2.2.2.2.1, fun m2 q2 hm2 hq2 => by
      have hq2 : q2 < csz T m2 := hq2
      obtain ⟨f3, g1, g2⟩ := hO.2.2.2.2.2.2.2.2.2.2.2.2.2.2.2.2.1 m2 q2 hm2 hq2
      have hm3 : m2 < cnm T := hm2
      have hz2 := (hO.2.2.2.2.2.2.2.2.2.2.2.2.2.2.2.2.2.2.2.2.1 m2 hm2).1
      have hz1 := (hO.2.2.2.2.2.2.2.2.2.2.2.2.2.2.2.2.2.2.2.2.1 m hm).1
      have hn := hO.2.2.2.2.2.2.2.2.2.2.2.2.2.2.2.2.2.2.2.1
      refine ⟨f3, g1, fun g hg => ?_⟩
      show f3 g = (if 3 * (240 + (20 * m + q)) ≤ 3 * (20 * m2 + q2) + g ∧ 3 * (20 * m2 + q2) + g < 3 * (240 + (20 * m + q)) + 3 then h (3 * (20 * m2 + q2) + g) else T.1 14 (3 * (20 * m2 + q2) + g))
      rw [if_neg (by omega)]
      exact g2 g hg, hO.2.2.2.2.2.2.2.2.2.2.2.2.2.2.2.2.2.1, fun m2 q2 hm2 hq2 => by
    have hq2 : q2 < csz T m2 := hq2
    by_cases e : m2 = m ∧ q2 = q
    · obtain ⟨rfl, rfl⟩ := e
      refine ⟨_, gu_eq _ _ _ _ _, fun g hg => ?_⟩
      show f2 g = (if 3 * (240 + (20 * m2 + q2)) ≤ 3 * (240 + (20 * m2 + q2)) + g ∧ 3 * (240 + (20 * m2 + q2)) + g < 3 * (240 + (20 * m2 + q2)) + 3 then h (3 * (240 + (20 * m2 + q2)) + g) else T.1 14 (3 * (240 + (20 * m2 + q2)) + g))
      rw [if_pos (by omega)]
      exact hf g hg
    · obtain ⟨f3, g1, g2⟩ := hO.2.2.2.2.2.2.2.2.2.2.2.2.2.2.2.2.2.2.1 m2 q2 hm2 hq2
      have hm3 : m2 < cnm T := hm2
      have hz2 := (hO.2.2.2.2.2.2.2.2.2.2.2.2.2.2.2.2.2.2.2.2.1 m2 hm2).1
      have hz1 := (hO.2.2.2.2.2.2.2.2.2.2.2.2.2.2.2.2.2.2.2.2.1 m hm).1
      have hn := hO.2.2.2.2.2.2.2.2.2.2.2.2.2.2.2.2.2.2.2.1
      refine ⟨f3, (gu_ne (fun z => e z.2)).trans g1, fun g hg => ?_⟩
      show f3 g = (if 3 * (240 + (20 * m + q)) ≤ 3 * (240 + (20 * m2 + q2)) + g ∧ 3 * (240 + (20 * m2 + q2)) + g < 3 * (240 + (20 * m + q)) + 3 then h (3 * (240 + (20 * m2 + q2)) + g) else T.1 14 (3 * (240 + (20 * m2 + q2)) + g))
      rw [if_neg (by omega)]
      exact g2 g hg, hO.2.2.2.2.2.2.2.2.2.2.2.2.2.2.2.2.2.2.2⟩
theorem gu_id {E : gE} {k i j : Nat} {x : va_E} (h : E k i j = some x) : gu E k i j x = E := by
  funext k2 i2 j2
  by_cases q : k2 = k ∧ i2 = i ∧ j2 = j
  · obtain ⟨rfl, rfl, rfl⟩ := q
    rw [gu_eq, h]
  · rw [gu_ne q]
set_option maxHeartbeats 4000000 in
set_option maxRecDepth 100000 in
theorem cJ_fill (l : Launch) (V : gV) (ad : gA) (E : gE) (k i j n : Nat) (f : Nat → Int32) (v : Int32) (hn : n < 100) (hA : E k i j = some (.inl (V.2.1 0, n, .inl f))) : gMv l yJ7_fill_53178 cJ7_fill_53178 4 none ({ frames := 0, cells := 0, slots := 0, locals := 0 } : Room) [.ref (ad k i j), .int v] V ad E (fun ad2 E2 => ad2 = ad ∧ E2 = gu E k i j (.inl (V.2.1 0, n, .inl (fun q => if q < n then v else f q)))) := by
  refine gMv.of (by decide) (Nat.le_of_ble_eq_true rfl) ?_
  intro sz p e s m_ below meth c ls hC hz hG hl
  have hx := hC.1
  have hb := hC.2.1
  have hl : lv_has ls 4 [(0, .ref (ad k i j)), (1, .int v)] := hl
  refine lv_iconst (v := (nI 0)) hx hb dJ7_fill_53178_0 (by decide) ?_
  refine lv_istore_n (lv' := [(2, .int ((nI 0))), (0, .ref (ad k i j)), (1, .int v)]) hx hb dJ7_fill_53178_1 rfl hl (by decide) rfl (fun ls hl => ?_)
  refine lv_aload_n hx hb dJ7_fill_53178_2 rfl (lv_at hl 1 rfl) ?_
  refine gq_alen hC hG hA 0 rfl dJ7_fill_53178_3 ?_
  refine lv_istore_n (lv' := [(3, .int (nI n)), (2, .int ((nI 0))), (0, .ref (ad k i j)), (1, .int v)]) hx hb dJ7_fill_53178_4 rfl hl (by decide) rfl (fun ls hl => ?_)
  refine g_loop (T := Nat) (fun xx H locs ls => xx ≤ n ∧ gW V (gAd ad E sz) s.heap ad (gu E k i j (.inl (V.2.1 0, n, .inl (fun q => if q < xx then v else f q)))) H locs ∧ lv_has ls 4 [(2, .int (nI xx)), (3, .int (nI n)), (0, .ref (ad k i j)), (1, .int v)]) (fun xx => n - xx) (fun xx ih H locs ls hI => ?_) (0) ⟨by omega, (by rw [show (fun q => if q < 0 then v else f q) = f from funext fun q => if_neg (by omega), gu_id hA]; exact hG), lv_sub hl [1, 0, 2, 3] rfl⟩
  obtain ⟨hxn, hG, hl⟩ := hI
  refine lv_iload_n hx hb dJ7_fill_53178_5 rfl (lv_at hl 0 rfl) ?_
  refine lv_iload_n hx hb dJ7_fill_53178_6 rfl (lv_at hl 1 rfl) ?_
  refine gn_icmp_ge (tgt := 20) hx hb (by omega) (by omega) dJ7_fill_53178_7 (by decide) (fun c_7 => ?_) (fun c_7 => ?_)
  · exact gq_vret hC hz hG (⟨rfl, by rw [show xx = n by omega]⟩) (by decide) (by decide) dJ7_fill_53178_20
  · refine lv_aload_n hx hb dJ7_fill_53178_10 rfl (lv_at hl 2 rfl) ?_
    refine lv_iload_n hx hb dJ7_fill_53178_11 rfl (lv_at hl 0 rfl) ?_
    refine lv_iload_n hx hb dJ7_fill_53178_12 rfl (lv_at hl 3 rfl) ?_
    refine gq_iast hC hG (gu_eq _ _ _ _ _) (vp_in_nI (by omega) (by omega)) dJ7_fill_53178_13 (fun H locs hG => ?_)
    rw [nI_clamp (by omega), gu_gu] at hG
    refine lv_iinc (v := (nI (xx + 1))) (lv' := [(2, .int ((nI (xx + 1)))), (3, .int (nI n)), (0, .ref (ad k i j)), (1, .int v)]) hx hb dJ7_fill_53178_14 hl (k := 0) rfl (nI_1 xx) (by decide) rfl (fun ls hl => ?_)
    refine lv_goto (tgt := 5) hx hb dJ7_fill_53178_17 (by decide) ?_
    exact ih (xx + 1) (by omega) _ _ _ ⟨by omega, (by rw [show (fun q => if q < xx + 1 then v else f q) = va_up (fun q => if q < xx then v else f q) xx v from funext fun q => by simp only [va_up]; by_cases e : q = xx; (rw [if_pos (by omega), if_pos e]); (rw [if_neg e]; by_cases e2 : q < xx; (rw [if_pos (by omega), if_pos e2]); (rw [if_neg (by omega), if_neg e2]))]; exact hG), lv_sub hl [0, 1, 2, 3] rfl⟩
theorem kc_fill_row (l : Launch) (V : gV) (ad : gA) (T : rS) {i : Nat} (hi : i < 8) (v : Int32) : kMv l yJ7_fill_53178 cJ7_fill_53178 4 none ({ frames := 0, cells := 0, slots := 0, locals := 0 } : Room) [.ref (ad 8 i 0), .int v] V ad T (fun T2 => T2 = su T 3 (fun j => if 6 * i ≤ j ∧ j < 6 * i + 6 then v else T.1 3 j)) := by
  intro E hO sz
  obtain ⟨f, h1, h2⟩ := hO.2.2.2.2.2.1 i hi
  refine (cJ_fill l V ad E 8 i 0 6 f v (by decide) h1 sz).mono (fun a st o t q => ?_)
  obtain ⟨⟨u, q1, ⟨q2, q3⟩, q5⟩, q6⟩ := q
  refine ⟨⟨u, q1, ⟨q2, by rw [q3]; exact cmX.rf.put (by decide), _, ?_, rfl⟩, q5⟩, q6⟩
  rw [q3]
  exact cm_set_row hO hi (h := fun _ => v) (fun g hg => if_pos hg)
theorem kc_fill_val (l : Launch) (V : gV) (ad : gA) (T : rS) {i : Nat} (hi : i < 20) (v : Int32) : kMv l yJ7_fill_53178 cJ7_fill_53178 4 none ({ frames := 0, cells := 0, slots := 0, locals := 0 } : Room) [.ref (ad 11 i 0), .int v] V ad T (fun T2 => T2 = su T 22 (fun j => if 4 * i ≤ j ∧ j < 4 * i + 4 then v else T.1 22 j)) := by
  intro E hO sz
  obtain ⟨f, h1, h2⟩ := hO.2.2.2.2.2.2.2.2.2.1 i hi
  refine (cJ_fill l V ad E 11 i 0 4 f v (by decide) h1 sz).mono (fun a st o t q => ?_)
  obtain ⟨⟨u, q1, ⟨q2, q3⟩, q5⟩, q6⟩ := q
  refine ⟨⟨u, q1, ⟨q2, by rw [q3]; exact cmX.rf.put (by decide), _, ?_, rfl⟩, q5⟩, q6⟩
  rw [q3]
  exact cm_set_val hO hi (h := fun _ => v) (fun g hg => if_pos hg)
theorem kc_fill_typ (l : Launch) (V : gV) (ad : gA) (T : rS) {i : Nat} (hi : i < 20) (v : Int32) : kMv l yJ7_fill_53178 cJ7_fill_53178 4 none ({ frames := 0, cells := 0, slots := 0, locals := 0 } : Room) [.ref (ad 12 i 0), .int v] V ad T (fun T2 => T2 = su T 21 (fun j => if 4 * i ≤ j ∧ j < 4 * i + 4 then v else T.1 21 j)) := by
  intro E hO sz
  obtain ⟨f, h1, h2⟩ := hO.2.2.2.2.2.2.2.2.2.2.1 i hi
  refine (cJ_fill l V ad E 12 i 0 4 f v (by decide) h1 sz).mono (fun a st o t q => ?_)
  obtain ⟨⟨u, q1, ⟨q2, q3⟩, q5⟩, q6⟩ := q
  refine ⟨⟨u, q1, ⟨q2, by rw [q3]; exact cmX.rf.put (by decide), _, ?_, rfl⟩, q5⟩, q6⟩
  rw [q3]
  exact cm_set_typ hO hi (h := fun _ => v) (fun g hg => if_pos hg)
section KC2
variable {p : Program} {l : Launch} {e : Env} {R : Room} {s : State} {m_ : MethodId} {args : Array Value} {below : List Frame} {meth : Method} {c : Code} {H : Heap} {locs : List Loc} {cells slots : Nat} {Q : State → Prop}
variable {cc : ByteArray} {pc nL : Nat} {ls : Array Slot} {rest : List Value} {V : gV} {A : Nat → Prop} {H0 : Heap} {ad : gA} {E0 : gE} {own : String} {ret : Option FieldType} {T : rS}
theorem k_copy (hC : gC p s m_ meth c own cc nL ret args V) (hW : cmW V A H0 ad E0 T H locs) {m q : Nat} (hm : m < cnm T) (hq : q < csz T m) {index : Nat} (k1 : Cond.methodLink own index arraycopyName ∈ wsL_law) (k2 : Cond.native arraycopyName ∈ wsL_law) (k3 : Cond.static arraycopyName ∈ wsL_law) (k4 : Cond.initialized "java/lang/System" ∈ wsL_law) (hsz : ls.size = nL) (hframes : 1 ≤ R.frames) (hlocals : (rest.map fun v => v.category).sum + (nativeFrameWords "java/lang/System" "arraycopy" 5 + 11) ≤ R.locals) (hdg : decode cc pc = .ok (.invokestatic index, 3))
    (kk : ∀ (H1 : Heap) (locs1 : List Loc), cmW V A H0 ad E0 (su T 14 (fun j => if 3 * (240 + (20 * m + q)) ≤ j ∧ j < 3 * (240 + (20 * m + q)) + 3 then T.1 14 (j - 720) else T.1 14 j)) H1 locs1 → W p l e R s m_ args below meth c H1 locs1 cells slots Q (F0 m_ (pc + 3) ls rest)) : W p l e R s m_ args below meth c H locs cells slots Q (F0 m_ pc ls (.int (nI 3) :: .int (nI 0) :: .ref (ad 20 m q) :: .int (nI 0) :: .ref (ad 18 m q) :: rest)) := by
  obtain ⟨E, hG, hO, hX⟩ := hW
  obtain ⟨f, h1, h2⟩ := hO.2.2.2.2.2.2.2.2.2.2.2.2.2.2.2.2.1 m q hm hq
  obtain ⟨g, h3, h4⟩ := hO.2.2.2.2.2.2.2.2.2.2.2.2.2.2.2.2.2.2.1 m q hm hq
  refine gq_copyi hC hG k1 k2 k3 k4 hsz h1 h3 (by decide) (Nat.le_refl 3) (Nat.le_refl 3) hframes hlocals hdg (fun H1 locs1 hG1 => kk H1 locs1 ⟨_, hG1, ?_, hX.put (by decide)⟩)
  refine cm_set_rtt hO hm hq (h := fun j => T.1 14 (j - 720)) (fun k hk => ?_)
  rw [if_pos hk, h2 k hk]
  show T.1 14 (3 * (20 * m + q) + k) = T.1 14 (3 * (240 + (20 * m + q)) + k - 720)
  rw [show 3 * (240 + (20 * m + q)) + k - 720 = 3 * (20 * m + q) + k by omega]
end KC2
