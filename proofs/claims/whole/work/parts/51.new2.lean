section GN
variable {p : Program} {l : Launch} {e : Env} {R : Room} {s : State} {m : MethodId} {args : Array Value} {below : List Frame} {meth : Method} {c : Code} {H : Heap} {locs : List Loc} {cells slots : Nat} {Q : State → Prop}
variable {cc : ByteArray} {pc nL : Nat} {ls : Array Slot} {rest : List Value} {V : gV} {A : Nat → Prop} {H0 : Heap} {ad : gA} {E : gE} {own : String} {ret : Option FieldType}
theorem gq_mmin (hC : gC p s m meth c own cc nL ret args V) {index : Nat} (hk : Cond.methodLink own index Lib.Math.min.name ∈ wsL_law) (k1 : Cond.static Lib.Math.min.name ∈ wsL_law) (k2 : Cond.initialized "java/lang/Math" ∈ wsL_law) (k3 : Cond.code Lib.Math.min.name Lib.Math.min.code 2 (some .int) ∈ wsL_law) (hsz : ls.size = nL)
    (hframes : 1 ≤ R.frames) (hlocals : (rest.map fun v => v.category).sum + 13 ≤ R.locals) (hc : cells ≤ R.cells) (hs : slots ≤ R.slots) {x y : Int32} (hdg : decode cc pc = .ok (.invokestatic index, 3))
    (kk : W p l e R s m args below meth c H locs cells slots Q (F0 m (pc + 3) ls (.int (if y < x then y else x) :: rest))) : W p l e R s m args below meth c H locs cells slots Q (F0 m pc ls (.int y :: .int x :: rest)) :=
  va_mmin hC.1 hC.2.1 (hC.2.2.1.trans hsz.symm) hC.2.2.2.1 (hC.2.2.2.2.1 _ hk) (hC.2.2.2.2.1 _ k1) (hC.2.2.2.2.1 _ k2) (hC.2.2.2.2.1 _ k3) hframes hlocals hc hs hdg kk
/-- a loop whose rounds make cells -/
theorem g_loopC {T : Type} (I : T → Heap → List Loc → Array Slot → Prop) (cf sf mu : T → Nat) (body : ∀ x : T, (∀ y : T, mu y < mu x → ∀ (H : Heap) (locs : List Loc) (ls : Array Slot), I y H locs ls → W p l e R s m args below meth c H locs (cf y) (sf y) Q (F0 m pc ls [])) → ∀ (H : Heap) (locs : List Loc) (ls : Array Slot), I x H locs ls → W p l e R s m args below meth c H locs (cf x) (sf x) Q (F0 m pc ls [])) (x0 : T) (h0 : I x0 H locs ls) (hcf : cells ≤ cf x0) (hsf : slots ≤ sf x0) : W p l e R s m args below meth c H locs cells slots Q (F0 m pc ls []) := by
  have key : ∀ (n : Nat) (x : T), mu x = n → ∀ (H : Heap) (locs : List Loc) (ls : Array Slot), I x H locs ls → W p l e R s m args below meth c H locs (cf x) (sf x) Q (F0 m pc ls []) := by
    intro n
    induction n using Nat.strongRecOn with
    | ind n ih =>
      intro x hx
      exact body x (fun y hy => ih (mu y) (by omega) y rfl)
  exact W.widen hcf hsf (key _ x0 rfl H locs ls h0)
/-- the label 21 goes over to another -/
theorem gW.re {ke il : Nat} (hk : ke ≠ 21) (h : gW V A H0 ad E H locs) : ∃ (ad1 : gA) (E1 : gE), ad1 ke il 0 = ad 21 0 0 ∧ E1 ke il 0 = E 21 0 0 ∧ gFr (fun k i j => (k = ke ∧ i = il ∧ j = 0) ∨ k = 21) ad E ad1 E1 ∧ gW V A H0 ad1 E1 H locs := by
  obtain ⟨hP, hD, hA, hO, hS⟩ := h
  obtain ⟨ad1, had⟩ : ∃ ad1 : gA, ad1 = fun k i j => if k = ke ∧ i = il ∧ j = 0 then ad 21 0 0 else ad k i j := ⟨_, rfl⟩
  obtain ⟨E1, hE⟩ : ∃ E1 : gE, E1 = fun k i j => if k = ke ∧ i = il ∧ j = 0 then E 21 0 0 else if k = 21 then none else E k i j := ⟨_, rfl⟩
  have a1 : ad1 ke il 0 = ad 21 0 0 := by rw [had]; exact if_pos ⟨rfl, rfl, rfl⟩
  have b1 : E1 ke il 0 = E 21 0 0 := by rw [hE]; exact if_pos ⟨rfl, rfl, rfl⟩
  have ao : ∀ k i j, ¬ (k = ke ∧ i = il ∧ j = 0) → ad1 k i j = ad k i j := fun k i j h => by rw [had]; exact if_neg h
  have bo : ∀ k i j, ¬ (k = ke ∧ i = il ∧ j = 0) → k ≠ 21 → E1 k i j = E k i j := fun k i j h h2 => by rw [hE]; exact (if_neg h).trans (if_neg h2)
  have bn : ∀ k i j, ¬ (k = ke ∧ i = il ∧ j = 0) → k = 21 → E1 k i j = none := fun k i j h h2 => by rw [hE]; exact (if_neg h).trans (if_pos h2)
  have hcase : ∀ (k i j : Nat) (x : va_E), E1 k i j = some x → ((k = ke ∧ i = il ∧ j = 0) ∧ E 21 0 0 = some x ∧ ad1 k i j = ad 21 0 0) ∨ (¬ (k = ke ∧ i = il ∧ j = 0) ∧ k ≠ 21 ∧ E k i j = some x ∧ ad1 k i j = ad k i j) := fun k i j x h => by
    by_cases h1 : k = ke ∧ i = il ∧ j = 0
    · obtain ⟨rfl, rfl, rfl⟩ := h1
      exact Or.inl ⟨⟨rfl, rfl, rfl⟩, b1.symm.trans h, a1⟩
    · by_cases h2 : k = 21
      · rw [bn _ _ _ h1 h2] at h
        cases h
      · exact Or.inr ⟨h1, h2, (bo _ _ _ h1 h2).symm.trans h, ao _ _ _ h1⟩
  refine ⟨ad1, E1, a1, b1, fun k i j h => ⟨bo _ _ _ (fun z => h (Or.inl z)) (fun z => h (Or.inr z)), ao _ _ _ (fun z => h (Or.inl z))⟩, ⟨fun k i j x h => ?_, fun k i j x k' i' j' x' h h' z => ?_⟩, fun k i j x h => ?_, hA, hO, hS⟩
  · rcases hcase k i j x h with ⟨-, h1, h2⟩ | ⟨-, -, h1, h2⟩ <;> (rw [h2]; exact hP.1 _ _ _ _ h1)
  · rcases hcase k i j x h with ⟨h0, h1, h2⟩ | ⟨h0, h01, h1, h2⟩ <;> rcases hcase k' i' j' x' h' with ⟨g0, g1, g2⟩ | ⟨g0, g01, g1, g2⟩ <;> rw [h2, g2] at z <;> have hh := hP.2 _ _ _ _ _ _ _ _ h1 g1 z <;> omega
  · rcases hcase k i j x h with ⟨-, h1, h2⟩ | ⟨-, -, h1, h2⟩ <;> (rw [h2]; exact hD _ _ _ _ h1)
end GN
set_option maxHeartbeats 4000000 in
set_option maxRecDepth 100000 in
theorem n_nlen (l : Launch) (V : gV) (ad : gA) (E : gE) (a b c_ : Nat) (h0 : 0 < a) (hbc : b ≤ c_) (hs : a + c_ ≤ 1000)  : gMi l yJ8_newLength_cabcc cJ8_newLength_cabcc 4 (some .int) ({ frames := 1, cells := 0, slots := 0, locals := 21 } : Room) [.int (nI a), .int (nI b), .int (nI c_)] V ad E (fun r ad' E' => r = nI (a + c_) ∧ ad' = ad ∧ E' = E) := by
  intro sz
  refine g_ofN (by decide) (Nat.le_of_ble_eq_true rfl) ?_
  intro p e s m_ below meth c ls hname hC hz hG hl
  have hx := hC.1
  have hb := hC.2.1
  have hl : lv_has ls 4 [(0, .int (nI a)), (1, .int (nI b)), (2, .int (nI c_))] := hl
  have frw : gFr (fun _ _ _ => False) ad E ad E := gFr.rf
  refine lv_iload_n hx hb dJ8_newLength_cabcc_0 rfl (lv_at hl 0 rfl) ?_
  refine lv_iload_n hx hb dJ8_newLength_cabcc_1 rfl (lv_at hl 1 rfl) ?_
  refine lv_iload_n hx hb dJ8_newLength_cabcc_2 rfl (lv_at hl 2 rfl) ?_
  refine gq_mmax hC km_RJ8_194 kst_Lib_Math_max_name kz_java_lang_Math kd_Lib_Math_max_name hl.1 (by decide) (Nat.le_of_ble_eq_true rfl) (by decide) (by decide) dJ8_newLength_cabcc_3 ?_
  refine gq_top (nI c_) (by by_cases h : nI b < nI c_; (rw [if_pos h]); (rw [if_neg h, show b = c_ from Nat.le_antisymm hbc (Nat.not_lt.mp (fun z => h (nI_lt z (by omega))))])) ?_
  refine lv_iadd hx hb dJ8_newLength_cabcc_6 ?_
  refine gq_top (nI (a + c_)) (nI_add a c_) ?_
  refine lv_istore_n (lv' := [(3, .int (nI (a + c_))), (0, .int (nI a)), (1, .int (nI b)), (2, .int (nI c_))]) hx hb dJ8_newLength_cabcc_7 rfl hl (by decide) rfl (fun ls hl => ?_)
  refine lv_iconst (v := (nI 0)) hx hb dJ8_newLength_cabcc_8 (by decide) ?_
  refine lv_iload_n hx hb dJ8_newLength_cabcc_9 rfl (lv_at hl 0 rfl) ?_
  refine gn_icmp_ge (tgt := 21) hx hb (by omega) (by omega) dJ8_newLength_cabcc_10 (by decide) (fun c_10 => absurd c_10 (by omega)) (fun c_10 => ?_)
  refine lv_iload_n hx hb dJ8_newLength_cabcc_13 rfl (lv_at hl 0 rfl) ?_
  refine lv_ldc hx hb hC.2.2.2.1 (hC.2.2.2.2.1 _ kw_8_17) dJ8_newLength_cabcc_14 ?_
  refine lv_icmp_gt (tgt := 21) hx hb dJ8_newLength_cabcc_16 (by decide) (fun c_16 => absurd c_16 (fun z => by have z := Int32.lt_iff_toInt_lt.mp z; rw [nI_toInt (by omega)] at z; have e9 : (2147483639 : Int32).toInt = 2147483639 := rfl; omega)) (fun c_16 => ?_)
  refine lv_iload_n hx hb dJ8_newLength_cabcc_19 rfl (lv_at hl 0 rfl) ?_
  exact gq_iret hC hz hG (⟨rfl, rfl, rfl⟩) (Nat.le_of_ble_eq_true rfl) (Nat.le_of_ble_eq_true rfl) dJ8_newLength_cabcc_20
set_option maxHeartbeats 4000000 in
set_option maxRecDepth 100000 in
theorem n_cp2_M10 (l : Launch) (V : gV) (ad : gA) (E : gE) (h : Nat → Option Nat) (hel : ∀ i, i < 10 → h i = some (ad 13 i 0)) (ue_el : ∀ i, i < 10 → ∃ vs, E 13 i 0 = some (.inr (5, vs))) (e_9_0_0 : E 9 0 0 = some (.inl (V.2.1 4, 10, .inr (.inr (.inr (.inr (h))))))) : gMr l yJ7_copyOf_6403c cJ7_copyOf_6403c 4 (some (.array (.object "java/lang/Object"))) ({ frames := 1, cells := 1, slots := 15, locals := 40 } : Room) [.ref (ad 9 0 0), .int (nI 15), .ref (V.2.2 2)] V ad E (fun r ad' E' => r = ad' 21 0 0 ∧ gFr (fun k i j => k = 21 ∧ i = 0 ∧ j = 0) ad E ad' E' ∧ E' 21 0 0 = some (.inl (V.2.1 4, 15, .inr (.inr (.inr (.inr (fun q => if q < 10 then h q else none))))))) := by
  intro sz
  refine g_ofN (by decide) (Nat.le_of_ble_eq_true rfl) ?_
  intro p e s m_ below meth c ls hname hC hz hG hl
  have hx := hC.1
  have hb := hC.2.1
  have hl : lv_has ls 4 [(0, .ref (ad 9 0 0)), (1, .int (nI 15)), (2, .ref (V.2.2 2))] := hl
  have a_9_0_0 : ad 9 0 0 = ad 9 0 0 := rfl
  have frw : gFr (fun k i j => k = 21 ∧ i = 0 ∧ j = 0) ad E ad E := gFr.rf
  have ua_el : ∀ i, i < 10 → ad 13 i 0 = ad 13 i 0 := fun _ _ => rfl
  refine lv_aload_n hx hb dJ7_copyOf_6403c_0 rfl (lv_at hl 2 rfl) ?_
  refine gk_ldcM hC kc_RJ7_110 dJ7_copyOf_6403c_1 ?_
  refine lv_acmp_ne (rx := some (V.2.2 2)) (ry := some (V.2.2 2)) (tgt := 13) hx hb dJ7_copyOf_6403c_3 (by decide) (fun c_3 => absurd rfl c_3) (fun c_3 => ?_)
  refine lv_iload_n hx hb dJ7_copyOf_6403c_6 rfl (lv_at hl 1 rfl) ?_
  refine gk_newq hC hG (t0 := 4) kc_RJ7_2 (by decide +kernel) rfl (by decide) (Nat.le_of_ble_eq_true rfl) (Nat.le_of_ble_eq_true rfl) dJ7_copyOf_6403c_7 21 0 0 (fun a1 ad1 E1 H a_21_0_0 e_21_0_0 fr hG => ?_)
  have e_9_0_0 := (fr 9 0 0 (by omega)).1.trans e_9_0_0
  have a_9_0_0 := (fr 9 0 0 (by omega)).2.trans a_9_0_0
  have ue_el : ∀ i, i < 10 → ∃ vs, E1 13 i 0 = some (.inr (5, vs)) := fun i hi => let ⟨vs, h⟩ := ue_el i hi; ⟨vs, (fr 13 i 0 (by omega)).1.trans h⟩
  have ua_el := fun i (hi : i < 10) => (fr 13 i 0 (by omega)).2.trans (ua_el i hi)
  have frw := gFr.tr frw fr (fun k i j z => by omega)
  refine lv_goto (tgt := 24) hx hb dJ7_copyOf_6403c_10 (by decide) ?_
  refine lv_astore_n (lv' := [(3, .ref a1), (0, .ref (ad 9 0 0)), (1, .int (nI 15)), (2, .ref (V.2.2 2))]) hx hb dJ7_copyOf_6403c_24 rfl hl (by decide) rfl (fun ls hl => ?_)
  refine lv_aload_n hx hb dJ7_copyOf_6403c_25 rfl (lv_at hl 1 rfl) ?_
  refine lv_iconst (v := (nI 0)) hx hb dJ7_copyOf_6403c_26 (by decide) ?_
  refine lv_aload_n hx hb dJ7_copyOf_6403c_27 rfl (lv_at hl 0 rfl) ?_
  refine lv_iconst (v := (nI 0)) hx hb dJ7_copyOf_6403c_28 (by decide) ?_
  refine lv_aload_n hx hb dJ7_copyOf_6403c_29 rfl (lv_at hl 1 rfl) ?_
  refine gk_alen hC hG a_9_0_0 e_9_0_0 dJ7_copyOf_6403c_30 ?_
  refine lv_iload_n hx hb dJ7_copyOf_6403c_31 rfl (lv_at hl 2 rfl) ?_
  refine gq_mmin hC km_RJ7_304 kst_Lib_Math_min_name kz_java_lang_Math kd_Lib_Math_min_name hl.1 (by decide) (Nat.le_of_ble_eq_true rfl) (by decide) (by decide) dJ7_copyOf_6403c_32 ?_
  refine gq_top (nI 10) (by decide) ?_
  refine gk_copyq hC hG km_RJ7_150 kw_9_13 kst_arraycopyName kz_java_lang_System hl.1 a_9_0_0 a_21_0_0 e_9_0_0 e_21_0_0 (n := 10) (by decide) (by decide) (by decide) (fun i hi y hy => by obtain ⟨vs, hv⟩ := ue_el i hi; exact ⟨13, i, 0, 5, _, vs, hv, (ua_el i hi).trans (Option.some.inj ((hel i hi).symm.trans hy)), rfl, by decide +kernel⟩) (by decide) (Nat.le_of_ble_eq_true rfl) dJ7_copyOf_6403c_35 (fun E2 H locs e_21_0_0 fr hG => ?_)
  have e_9_0_0 := (fr 9 0 0 (by omega)).1.trans e_9_0_0
  have ue_el : ∀ i, i < 10 → ∃ vs, E2 13 i 0 = some (.inr (5, vs)) := fun i hi => let ⟨vs, h⟩ := ue_el i hi; ⟨vs, (fr 13 i 0 (by omega)).1.trans h⟩
  have ua_el := fun i (hi : i < 10) => (fr 13 i 0 (by omega)).2.trans (ua_el i hi)
  have frw := gFr.tr frw fr (fun k i j z => by omega)
  refine lv_aload_n hx hb dJ7_copyOf_6403c_38 rfl (lv_at hl 0 rfl) ?_
  exact gq_aret hC (by first | exact Or.inl ⟨_, rfl⟩ | exact Or.inr ⟨_, rfl⟩) hz hG (⟨a_21_0_0.symm, frw, e_21_0_0⟩) (Nat.le_of_ble_eq_true rfl) (Nat.le_of_ble_eq_true rfl) dJ7_copyOf_6403c_39
set_option maxHeartbeats 4000000 in
set_option maxRecDepth 100000 in
theorem n_cp_M10 (l : Launch) (V : gV) (ad : gA) (E : gE) (h : Nat → Option Nat) (hel : ∀ i, i < 10 → h i = some (ad 13 i 0)) (ue_el : ∀ i, i < 10 → ∃ vs, E 13 i 0 = some (.inr (5, vs))) (e_9_0_0 : E 9 0 0 = some (.inl (V.2.1 4, 10, .inr (.inr (.inr (.inr (h))))))) : gMr l yJ7_copyOf_1904c cJ7_copyOf_1904c 2 (some (.array (.object "java/lang/Object"))) ({ frames := 2, cells := 1, slots := 15, locals := 63 } : Room) [.ref (ad 9 0 0), .int (nI 15)] V ad E (fun r ad' E' => r = ad' 21 0 0 ∧ gFr (fun k i j => k = 21 ∧ i = 0 ∧ j = 0) ad E ad' E' ∧ E' 21 0 0 = some (.inl (V.2.1 4, 15, .inr (.inr (.inr (.inr (fun q => if q < 10 then h q else none))))))) := by
  intro sz
  refine g_ofN (by decide) (Nat.le_of_ble_eq_true rfl) ?_
  intro p e s m_ below meth c ls hname hC hz hG hl
  have hx := hC.1
  have hb := hC.2.1
  have hl : lv_has ls 2 [(0, .ref (ad 9 0 0)), (1, .int (nI 15))] := hl
  have a_9_0_0 : ad 9 0 0 = ad 9 0 0 := rfl
  have frw : gFr (fun k i j => k = 21 ∧ i = 0 ∧ j = 0) ad E ad E := gFr.rf
  refine lv_aload_n hx hb dJ7_copyOf_1904c_0 rfl (lv_at hl 0 rfl) ?_
  refine lv_iload_n hx hb dJ7_copyOf_1904c_1 rfl (lv_at hl 1 rfl) ?_
  refine lv_aload_n hx hb dJ7_copyOf_1904c_2 rfl (lv_at hl 0 rfl) ?_
  refine gk_getC hC hG a_9_0_0 e_9_0_0 km_RJ7_86 hl.1 (by decide) (Nat.le_of_ble_eq_true rfl) dJ7_copyOf_1904c_3 ?_
  refine gc_Sr hC hG (n_cp2_M10 l V ad E h hel ue_el e_9_0_0) km_RJ7_300 kst_yJ7_copyOf_6403c kz_RJ7 kd_yJ7_copyOf_6403c dn_J7_copyOf_6403c.2 rfl hl.1 ⟨by decide, by decide⟩ (Nat.le_of_ble_eq_true rfl) ⟨Nat.le_of_ble_eq_true rfl, Nat.le_of_ble_eq_true rfl⟩ dJ7_copyOf_1904c_6 (fun r_6 ad1 E1 H locs p_6 hG hgr => ?_)
  exact gq_aret hC (by first | exact Or.inl ⟨_, rfl⟩ | exact Or.inr ⟨_, rfl⟩) hz hG (p_6) (Nat.le_of_ble_eq_true rfl) (Nat.le_of_ble_eq_true rfl) dJ7_copyOf_1904c_9
set_option maxHeartbeats 4000000 in
set_option maxRecDepth 100000 in
theorem n_gr2_M10 (l : Launch) (V : gV) (ad : gA) (E : gE) (h : Nat → Option Nat) (hel : ∀ i, i < 10 → h i = some (ad 13 i 0)) (ue_el : ∀ i, i < 10 → ∃ vs, E 13 i 0 = some (.inr (5, vs))) (mc : Int32) (e_2_0_0 : E 2 0 0 = some (.inr (0, [.int mc, .ref (ad 9 0 0), .int (nI 10)]))) (e_9_0_0 : E 9 0 0 = some (.inl (V.2.1 4, 10, .inr (.inr (.inr (.inr (h))))))) : gMr l yJx4a65c_grow_92f84 cJx4a65c_grow_92f84 4 (some (.array (.object "java/lang/Object"))) ({ frames := 3, cells := 1, slots := 15, locals := 84 } : Room) [.ref (ad 2 0 0), .int (nI 11)] V ad E (fun r ad' E' => r = ad' 21 0 0 ∧ gFr (fun k i j => (k = 2 ∧ i = 0 ∧ j = 0) ∨ (k = 21 ∧ i = 0 ∧ j = 0)) ad E ad' E' ∧ ad' 2 0 0 = ad 2 0 0 ∧ E' 2 0 0 = some (.inr (0, [.int mc, .ref r, .int (nI 10)])) ∧ E' 21 0 0 = some (.inl (V.2.1 4, 15, .inr (.inr (.inr (.inr (fun q => if q < 10 then h q else none))))))) := by
  intro sz
  refine g_ofN (by decide) (Nat.le_of_ble_eq_true rfl) ?_
  intro p e s m_ below meth c ls hname hC hz hG hl
  have hx := hC.1
  have hb := hC.2.1
  have hl : lv_has ls 4 [(0, .ref (ad 2 0 0)), (1, .int (nI 11))] := hl
  have a_2_0_0 : ad 2 0 0 = ad 2 0 0 := rfl
  have a_9_0_0 : ad 9 0 0 = ad 9 0 0 := rfl
  have frw : gFr (fun k i j => (k = 2 ∧ i = 0 ∧ j = 0) ∨ (k = 21 ∧ i = 0 ∧ j = 0)) ad E ad E := gFr.rf
  refine lv_aload_n hx hb dJx4a65c_grow_92f84_0 rfl (lv_at hl 0 rfl) ?_
  refine gk_get hC hG a_2_0_0 e_2_0_0 rfl inlJx4a65c 1 (by decide) kf_RJx4a65c_9 (fun _ h => h) rfl dJx4a65c_grow_92f84_1 ?_
  refine gk_alen hC hG a_9_0_0 e_9_0_0 dJx4a65c_grow_92f84_4 ?_
  refine lv_istore_n (lv' := [(2, .int (nI 10)), (0, .ref (ad 2 0 0)), (1, .int (nI 11))]) hx hb dJx4a65c_grow_92f84_5 rfl hl (by decide) rfl (fun ls hl => ?_)
  refine lv_iload_n hx hb dJx4a65c_grow_92f84_6 rfl (lv_at hl 0 rfl) ?_
  refine lv_if_gt (tgt := 20) hx hb dJx4a65c_grow_92f84_7 (by decide) (fun c_7 => ?_) (fun c_7 => absurd (by decide) c_7)
  refine lv_iload_n hx hb dJx4a65c_grow_92f84_20 rfl (lv_at hl 0 rfl) ?_
  refine lv_iload_n hx hb dJx4a65c_grow_92f84_21 rfl (lv_at hl 2 rfl) ?_
  refine lv_iload_n hx hb dJx4a65c_grow_92f84_22 rfl (lv_at hl 0 rfl) ?_
  refine lv_isub hx hb dJx4a65c_grow_92f84_23 ?_
  refine gq_top (nI 1) (by decide) ?_
  refine lv_iload_n hx hb dJx4a65c_grow_92f84_24 rfl (lv_at hl 0 rfl) ?_
  refine lv_iconst (v := (nI 1)) hx hb dJx4a65c_grow_92f84_25 (by decide) ?_
  refine lv_ishr hx hb dJx4a65c_grow_92f84_26 ?_
  refine gq_top (nI 5) (by decide) ?_
  refine gc_Si hC hG (n_nlen l V ad E 10 1 5 (by decide) (by decide) (by decide)) km_RJx4a65c_73 kst_yJ8_newLength_cabcc kz_RJ8 kd_yJ8_newLength_cabcc dn_J8_newLength_cabcc.2 rfl hl.1 ⟨by decide, by decide⟩ (Nat.le_of_ble_eq_true rfl) ⟨Nat.le_of_ble_eq_true rfl, Nat.le_of_ble_eq_true rfl⟩ dJx4a65c_grow_92f84_27 (fun r_27 ad1 E1 H locs p_27 hG hgr => ?_)
  obtain ⟨q_27, h1, h2⟩ := p_27
  refine gq_top (nI 15) q_27 ?_
  rw [h1, h2] at hG
  refine lv_istore_n (lv' := [(3, .int (nI 15)), (2, .int (nI 10)), (0, .ref (ad 2 0 0)), (1, .int (nI 11))]) hx hb dJx4a65c_grow_92f84_30 rfl hl (by decide) rfl (fun ls hl => ?_)
  refine lv_aload_n hx hb dJx4a65c_grow_92f84_31 rfl (lv_at hl 2 rfl) ?_
  refine lv_aload_n hx hb dJx4a65c_grow_92f84_32 rfl (lv_at hl 2 rfl) ?_
  refine gk_get hC hG a_2_0_0 e_2_0_0 rfl inlJx4a65c 1 (by decide) kf_RJx4a65c_9 (fun _ h => h) rfl dJx4a65c_grow_92f84_33 ?_
  refine lv_iload_n hx hb dJx4a65c_grow_92f84_36 rfl (lv_at hl 0 rfl) ?_
  refine gc_Sr hC hG (n_cp_M10 l V ad E h hel ue_el e_9_0_0) km_RJx4a65c_66 kst_yJ7_copyOf_1904c kz_RJ7 kd_yJ7_copyOf_1904c dn_J7_copyOf_1904c.2 rfl hl.1 ⟨by decide, by decide⟩ (Nat.le_of_ble_eq_true rfl) ⟨Nat.le_of_ble_eq_true rfl, Nat.le_of_ble_eq_true rfl⟩ dJx4a65c_grow_92f84_37 (fun r_37 ad2 E2 H locs p_37 hG hgr => ?_)
  obtain ⟨q_37, fr, e_21_0_0⟩ := p_37
  have a_21_0_0 := q_37.symm
  have e_2_0_0 := (fr 2 0 0 (by omega)).1.trans e_2_0_0
  have a_2_0_0 := (fr 2 0 0 (by omega)).2.trans a_2_0_0
  have e_9_0_0 := (fr 9 0 0 (by omega)).1.trans e_9_0_0
  have a_9_0_0 := (fr 9 0 0 (by omega)).2.trans a_9_0_0
  have frw := gFr.tr frw fr (fun k i j z => by omega)
  refine lv_dup_x1 hx hb dJx4a65c_grow_92f84_40 rfl rfl ?_
  refine gk_put hC hG a_2_0_0 e_2_0_0 rfl inlJx4a65c tyJx4a65c tyJx4a65c_ok nmJx4a65c 1 (by decide) kf_RJx4a65c_9 (fun _ h => h) rfl rfl rfl (Nat.le_of_ble_eq_true rfl) dJx4a65c_grow_92f84_41 (fun E3 H locs (e_2_0_0 : E3 2 0 0 = some (.inr (0, [.int mc, .ref r_37, .int (nI 10)]))) fr hG => ?_)
  have e_9_0_0 := (fr 9 0 0 (by omega)).1.trans e_9_0_0
  have e_21_0_0 := (fr 21 0 0 (by omega)).1.trans e_21_0_0
  have frw := gFr.tr frw fr (fun k i j z => by omega)
  exact gq_aret hC (by first | exact Or.inl ⟨_, rfl⟩ | exact Or.inr ⟨_, rfl⟩) hz hG (⟨a_21_0_0.symm, frw, a_2_0_0, e_2_0_0, e_21_0_0⟩) (Nat.le_of_ble_eq_true rfl) (Nat.le_of_ble_eq_true rfl) dJx4a65c_grow_92f84_44
set_option maxHeartbeats 4000000 in
set_option maxRecDepth 100000 in
theorem n_gr_M10 (l : Launch) (V : gV) (ad : gA) (E : gE) (h : Nat → Option Nat) (hel : ∀ i, i < 10 → h i = some (ad 13 i 0)) (ue_el : ∀ i, i < 10 → ∃ vs, E 13 i 0 = some (.inr (5, vs))) (mc : Int32) (e_2_0_0 : E 2 0 0 = some (.inr (0, [.int mc, .ref (ad 9 0 0), .int (nI 10)]))) (e_9_0_0 : E 9 0 0 = some (.inl (V.2.1 4, 10, .inr (.inr (.inr (.inr (h))))))) : gMr l yJx4a65c_grow_d5877 cJx4a65c_grow_d5877 1 (some (.array (.object "java/lang/Object"))) ({ frames := 4, cells := 1, slots := 15, locals := 107 } : Room) [.ref (ad 2 0 0)] V ad E (fun r ad' E' => r = ad' 21 0 0 ∧ gFr (fun k i j => (k = 2 ∧ i = 0 ∧ j = 0) ∨ (k = 21 ∧ i = 0 ∧ j = 0)) ad E ad' E' ∧ ad' 2 0 0 = ad 2 0 0 ∧ E' 2 0 0 = some (.inr (0, [.int mc, .ref r, .int (nI 10)])) ∧ E' 21 0 0 = some (.inl (V.2.1 4, 15, .inr (.inr (.inr (.inr (fun q => if q < 10 then h q else none))))))) := by
  intro sz
  refine g_ofN (by decide) (Nat.le_of_ble_eq_true rfl) ?_
  intro p e s m_ below meth c ls hname hC hz hG hl
  have hx := hC.1
  have hb := hC.2.1
  have hl : lv_has ls 1 [(0, .ref (ad 2 0 0))] := hl
  have a_2_0_0 : ad 2 0 0 = ad 2 0 0 := rfl
  have a_9_0_0 : ad 9 0 0 = ad 9 0 0 := rfl
  have frw : gFr (fun k i j => (k = 2 ∧ i = 0 ∧ j = 0) ∨ (k = 21 ∧ i = 0 ∧ j = 0)) ad E ad E := gFr.rf
  refine lv_aload_n hx hb dJx4a65c_grow_d5877_0 rfl (lv_at hl 0 rfl) ?_
  refine lv_aload_n hx hb dJx4a65c_grow_d5877_1 rfl (lv_at hl 0 rfl) ?_
  refine gk_get hC hG a_2_0_0 e_2_0_0 rfl inlJx4a65c 2 (by decide) kf_RJx4a65c_48 (fun _ h => h) rfl dJx4a65c_grow_d5877_2 ?_
  refine lv_iconst (v := 1) hx hb dJx4a65c_grow_d5877_5 (by decide) ?_
  refine lv_iadd hx hb dJx4a65c_grow_d5877_6 ?_
  refine gq_top (nI 11) (by decide) ?_
  refine gc_Vr hC hG e_2_0_0 rfl (n_gr2_M10 l V ad E h hel ue_el mc e_2_0_0 e_9_0_0) km_RJx4a65c_69 kn_yJx4a65c_grow_92f84 ks_yJx4a65c_grow_92f84 kz_RJx4a65c kd_yJx4a65c_grow_92f84 dn_Jx4a65c_grow_92f84 (by rw [a_2_0_0]; rfl) hl.1 ⟨by decide, by decide⟩ (Nat.le_of_ble_eq_true rfl) ⟨Nat.le_of_ble_eq_true rfl, Nat.le_of_ble_eq_true rfl⟩ dJx4a65c_grow_d5877_7 (fun r_7 ad1 E1 H locs p_7 hG hgr => ?_)
  exact gq_aret hC (by first | exact Or.inl ⟨_, rfl⟩ | exact Or.inr ⟨_, rfl⟩) hz hG (p_7) (Nat.le_of_ble_eq_true rfl) (Nat.le_of_ble_eq_true rfl) dJx4a65c_grow_d5877_10
set_option maxHeartbeats 4000000 in
set_option maxRecDepth 100000 in
theorem n_gr2_ME (l : Launch) (V : gV) (ad : gA) (E : gE) (mc : Int32) (e_2_0_0 : E 2 0 0 = some (.inr (0, [.int mc, .ref (V.2.2 1), .int (nI 0)]))) : gMr l yJx4a65c_grow_92f84 cJx4a65c_grow_92f84 4 (some (.array (.object "java/lang/Object"))) ({ frames := 1, cells := 1, slots := 10, locals := 21 } : Room) [.ref (ad 2 0 0), .int (nI 1)] V ad E (fun r ad' E' => r = ad' 21 0 0 ∧ gFr (fun k i j => (k = 2 ∧ i = 0 ∧ j = 0) ∨ (k = 21 ∧ i = 0 ∧ j = 0)) ad E ad' E' ∧ ad' 2 0 0 = ad 2 0 0 ∧ E' 2 0 0 = some (.inr (0, [.int mc, .ref r, .int (nI 0)])) ∧ E' 21 0 0 = some (.inl (V.2.1 4, 10, .inr (.inr (.inr (.inr (fun _ => none))))))) := by
  intro sz
  refine g_ofN (by decide) (Nat.le_of_ble_eq_true rfl) ?_
  intro p e s m_ below meth c ls hname hC hz hG hl
  have hx := hC.1
  have hb := hC.2.1
  have hl : lv_has ls 4 [(0, .ref (ad 2 0 0)), (1, .int (nI 1))] := hl
  have a_2_0_0 : ad 2 0 0 = ad 2 0 0 := rfl
  have frw : gFr (fun k i j => (k = 2 ∧ i = 0 ∧ j = 0) ∨ (k = 21 ∧ i = 0 ∧ j = 0)) ad E ad E := gFr.rf
  refine lv_aload_n hx hb dJx4a65c_grow_92f84_0 rfl (lv_at hl 0 rfl) ?_
  refine gk_get hC hG a_2_0_0 e_2_0_0 rfl inlJx4a65c 1 (by decide) kf_RJx4a65c_9 (fun _ h => h) rfl dJx4a65c_grow_92f84_1 ?_
  refine gq_elen hC hG dJx4a65c_grow_92f84_4 ?_
  refine lv_istore_n (lv' := [(2, .int (nI 0)), (0, .ref (ad 2 0 0)), (1, .int (nI 1))]) hx hb dJx4a65c_grow_92f84_5 rfl hl (by decide) rfl (fun ls hl => ?_)
  refine lv_iload_n hx hb dJx4a65c_grow_92f84_6 rfl (lv_at hl 0 rfl) ?_
  refine lv_if_gt (tgt := 20) hx hb dJx4a65c_grow_92f84_7 (by decide) (fun c_7 => absurd c_7 (by decide)) (fun c_7 => ?_)
  refine lv_aload_n hx hb dJx4a65c_grow_92f84_10 rfl (lv_at hl 1 rfl) ?_
  refine gk_get hC hG a_2_0_0 e_2_0_0 rfl inlJx4a65c 1 (by decide) kf_RJx4a65c_9 (fun _ h => h) rfl dJx4a65c_grow_92f84_11 ?_
  refine gq_empty hC hG kf_RJx4a65c_39 dJx4a65c_grow_92f84_14 ?_
  refine lv_acmp_eq (rx := some (V.2.2 1)) (ry := some (V.2.2 1)) (tgt := 45) hx hb dJx4a65c_grow_92f84_17 (by decide) (fun c_17 => ?_) (fun c_17 => absurd rfl c_17)
  refine lv_aload_n hx hb dJx4a65c_grow_92f84_45 rfl (lv_at hl 1 rfl) ?_
  refine lv_bipush (v := (nI 10)) hx hb dJx4a65c_grow_92f84_46 (by decide) ?_
  refine lv_iload_n hx hb dJx4a65c_grow_92f84_48 rfl (lv_at hl 2 rfl) ?_
  refine gq_mmax hC km_RJx4a65c_79 kst_Lib_Math_max_name kz_java_lang_Math kd_Lib_Math_max_name hl.1 (by decide) (Nat.le_of_ble_eq_true rfl) (by decide) (by decide) dJx4a65c_grow_92f84_49 ?_
  refine gq_top (nI 10) (by decide) ?_
  refine gk_newq hC hG (t0 := 4) kc_RJx4a65c_7 (by decide +kernel) rfl (by decide) (Nat.le_of_ble_eq_true rfl) (Nat.le_of_ble_eq_true rfl) dJx4a65c_grow_92f84_52 21 0 0 (fun a1 ad1 E1 H a_21_0_0 e_21_0_0 fr hG => ?_)
  have e_2_0_0 := (fr 2 0 0 (by omega)).1.trans e_2_0_0
  have a_2_0_0 := (fr 2 0 0 (by omega)).2.trans a_2_0_0
  have frw := gFr.tr frw fr (fun k i j z => by omega)
  refine lv_dup_x1 hx hb dJx4a65c_grow_92f84_55 rfl rfl ?_
  refine gk_put hC hG a_2_0_0 e_2_0_0 rfl inlJx4a65c tyJx4a65c tyJx4a65c_ok nmJx4a65c 1 (by decide) kf_RJx4a65c_9 (fun _ h => h) rfl rfl rfl (Nat.le_of_ble_eq_true rfl) dJx4a65c_grow_92f84_56 (fun E2 H locs (e_2_0_0 : E2 2 0 0 = some (.inr (0, [.int mc, .ref a1, .int (nI 0)]))) fr hG => ?_)
  have e_21_0_0 := (fr 21 0 0 (by omega)).1.trans e_21_0_0
  have frw := gFr.tr frw fr (fun k i j z => by omega)
  exact gq_aret hC (by first | exact Or.inl ⟨_, rfl⟩ | exact Or.inr ⟨_, rfl⟩) hz hG (⟨a_21_0_0.symm, frw, a_2_0_0, e_2_0_0, e_21_0_0⟩) (Nat.le_of_ble_eq_true rfl) (Nat.le_of_ble_eq_true rfl) dJx4a65c_grow_92f84_59
set_option maxHeartbeats 4000000 in
set_option maxRecDepth 100000 in
theorem n_gr_ME (l : Launch) (V : gV) (ad : gA) (E : gE) (mc : Int32) (e_2_0_0 : E 2 0 0 = some (.inr (0, [.int mc, .ref (V.2.2 1), .int (nI 0)]))) : gMr l yJx4a65c_grow_d5877 cJx4a65c_grow_d5877 1 (some (.array (.object "java/lang/Object"))) ({ frames := 2, cells := 1, slots := 10, locals := 44 } : Room) [.ref (ad 2 0 0)] V ad E (fun r ad' E' => r = ad' 21 0 0 ∧ gFr (fun k i j => (k = 2 ∧ i = 0 ∧ j = 0) ∨ (k = 21 ∧ i = 0 ∧ j = 0)) ad E ad' E' ∧ ad' 2 0 0 = ad 2 0 0 ∧ E' 2 0 0 = some (.inr (0, [.int mc, .ref r, .int (nI 0)])) ∧ E' 21 0 0 = some (.inl (V.2.1 4, 10, .inr (.inr (.inr (.inr (fun _ => none))))))) := by
  intro sz
  refine g_ofN (by decide) (Nat.le_of_ble_eq_true rfl) ?_
  intro p e s m_ below meth c ls hname hC hz hG hl
  have hx := hC.1
  have hb := hC.2.1
  have hl : lv_has ls 1 [(0, .ref (ad 2 0 0))] := hl
  have a_2_0_0 : ad 2 0 0 = ad 2 0 0 := rfl
  have frw : gFr (fun k i j => (k = 2 ∧ i = 0 ∧ j = 0) ∨ (k = 21 ∧ i = 0 ∧ j = 0)) ad E ad E := gFr.rf
  refine lv_aload_n hx hb dJx4a65c_grow_d5877_0 rfl (lv_at hl 0 rfl) ?_
  refine lv_aload_n hx hb dJx4a65c_grow_d5877_1 rfl (lv_at hl 0 rfl) ?_
  refine gk_get hC hG a_2_0_0 e_2_0_0 rfl inlJx4a65c 2 (by decide) kf_RJx4a65c_48 (fun _ h => h) rfl dJx4a65c_grow_d5877_2 ?_
  refine lv_iconst (v := 1) hx hb dJx4a65c_grow_d5877_5 (by decide) ?_
  refine lv_iadd hx hb dJx4a65c_grow_d5877_6 ?_
  refine gq_top (nI 1) (by decide) ?_
  refine gc_Vr hC hG e_2_0_0 rfl (n_gr2_ME l V ad E mc e_2_0_0) km_RJx4a65c_69 kn_yJx4a65c_grow_92f84 ks_yJx4a65c_grow_92f84 kz_RJx4a65c kd_yJx4a65c_grow_92f84 dn_Jx4a65c_grow_92f84 (by rw [a_2_0_0]; rfl) hl.1 ⟨by decide, by decide⟩ (Nat.le_of_ble_eq_true rfl) ⟨Nat.le_of_ble_eq_true rfl, Nat.le_of_ble_eq_true rfl⟩ dJx4a65c_grow_d5877_7 (fun r_7 ad1 E1 H locs p_7 hG hgr => ?_)
  exact gq_aret hC (by first | exact Or.inl ⟨_, rfl⟩ | exact Or.inr ⟨_, rfl⟩) hz hG (p_7) (Nat.le_of_ble_eq_true rfl) (Nat.le_of_ble_eq_true rfl) dJx4a65c_grow_d5877_10
set_option maxHeartbeats 4000000 in
set_option maxRecDepth 100000 in
theorem n_cp2_C10 (l : Launch) (V : gV) (ad : gA) (E : gE) (m : Nat) (h : Nat → Option Nat) (hel : ∀ i, i < 10 → h i = some (ad 16 m i)) (ue_el : ∀ i, i < 10 → ∃ vs, E 16 m i = some (.inr (3, vs))) (e_15_m_0 : E 15 m 0 = some (.inl (V.2.1 4, 10, .inr (.inr (.inr (.inr (h))))))) : gMr l yJ7_copyOf_6403c cJ7_copyOf_6403c 4 (some (.array (.object "java/lang/Object"))) ({ frames := 1, cells := 1, slots := 15, locals := 40 } : Room) [.ref (ad 15 m 0), .int (nI 15), .ref (V.2.2 2)] V ad E (fun r ad' E' => r = ad' 21 0 0 ∧ gFr (fun k i j => k = 21 ∧ i = 0 ∧ j = 0) ad E ad' E' ∧ E' 21 0 0 = some (.inl (V.2.1 4, 15, .inr (.inr (.inr (.inr (fun q => if q < 10 then h q else none))))))) := by
  intro sz
  refine g_ofN (by decide) (Nat.le_of_ble_eq_true rfl) ?_
  intro p e s m_ below meth c ls hname hC hz hG hl
  have hx := hC.1
  have hb := hC.2.1
  have hl : lv_has ls 4 [(0, .ref (ad 15 m 0)), (1, .int (nI 15)), (2, .ref (V.2.2 2))] := hl
  have a_15_m_0 : ad 15 m 0 = ad 15 m 0 := rfl
  have frw : gFr (fun k i j => k = 21 ∧ i = 0 ∧ j = 0) ad E ad E := gFr.rf
  have ua_el : ∀ i, i < 10 → ad 16 m i = ad 16 m i := fun _ _ => rfl
  refine lv_aload_n hx hb dJ7_copyOf_6403c_0 rfl (lv_at hl 2 rfl) ?_
  refine gk_ldcM hC kc_RJ7_110 dJ7_copyOf_6403c_1 ?_
  refine lv_acmp_ne (rx := some (V.2.2 2)) (ry := some (V.2.2 2)) (tgt := 13) hx hb dJ7_copyOf_6403c_3 (by decide) (fun c_3 => absurd rfl c_3) (fun c_3 => ?_)
  refine lv_iload_n hx hb dJ7_copyOf_6403c_6 rfl (lv_at hl 1 rfl) ?_
  refine gk_newq hC hG (t0 := 4) kc_RJ7_2 (by decide +kernel) rfl (by decide) (Nat.le_of_ble_eq_true rfl) (Nat.le_of_ble_eq_true rfl) dJ7_copyOf_6403c_7 21 0 0 (fun a1 ad1 E1 H a_21_0_0 e_21_0_0 fr hG => ?_)
  have e_15_m_0 := (fr 15 m 0 (by omega)).1.trans e_15_m_0
  have a_15_m_0 := (fr 15 m 0 (by omega)).2.trans a_15_m_0
  have ue_el : ∀ i, i < 10 → ∃ vs, E1 16 m i = some (.inr (3, vs)) := fun i hi => let ⟨vs, h⟩ := ue_el i hi; ⟨vs, (fr 16 m i (by omega)).1.trans h⟩
  have ua_el := fun i (hi : i < 10) => (fr 16 m i (by omega)).2.trans (ua_el i hi)
  have frw := gFr.tr frw fr (fun k i j z => by omega)
  refine lv_goto (tgt := 24) hx hb dJ7_copyOf_6403c_10 (by decide) ?_
  refine lv_astore_n (lv' := [(3, .ref a1), (0, .ref (ad 15 m 0)), (1, .int (nI 15)), (2, .ref (V.2.2 2))]) hx hb dJ7_copyOf_6403c_24 rfl hl (by decide) rfl (fun ls hl => ?_)
  refine lv_aload_n hx hb dJ7_copyOf_6403c_25 rfl (lv_at hl 1 rfl) ?_
  refine lv_iconst (v := (nI 0)) hx hb dJ7_copyOf_6403c_26 (by decide) ?_
  refine lv_aload_n hx hb dJ7_copyOf_6403c_27 rfl (lv_at hl 0 rfl) ?_
  refine lv_iconst (v := (nI 0)) hx hb dJ7_copyOf_6403c_28 (by decide) ?_
  refine lv_aload_n hx hb dJ7_copyOf_6403c_29 rfl (lv_at hl 1 rfl) ?_
  refine gk_alen hC hG a_15_m_0 e_15_m_0 dJ7_copyOf_6403c_30 ?_
  refine lv_iload_n hx hb dJ7_copyOf_6403c_31 rfl (lv_at hl 2 rfl) ?_
  refine gq_mmin hC km_RJ7_304 kst_Lib_Math_min_name kz_java_lang_Math kd_Lib_Math_min_name hl.1 (by decide) (Nat.le_of_ble_eq_true rfl) (by decide) (by decide) dJ7_copyOf_6403c_32 ?_
  refine gq_top (nI 10) (by decide) ?_
  refine gk_copyq hC hG km_RJ7_150 kw_9_13 kst_arraycopyName kz_java_lang_System hl.1 a_15_m_0 a_21_0_0 e_15_m_0 e_21_0_0 (n := 10) (by decide) (by decide) (by decide) (fun i hi y hy => by obtain ⟨vs, hv⟩ := ue_el i hi; exact ⟨16, m, i, 3, _, vs, hv, (ua_el i hi).trans (Option.some.inj ((hel i hi).symm.trans hy)), rfl, by decide +kernel⟩) (by decide) (Nat.le_of_ble_eq_true rfl) dJ7_copyOf_6403c_35 (fun E2 H locs e_21_0_0 fr hG => ?_)
  have e_15_m_0 := (fr 15 m 0 (by omega)).1.trans e_15_m_0
  have ue_el : ∀ i, i < 10 → ∃ vs, E2 16 m i = some (.inr (3, vs)) := fun i hi => let ⟨vs, h⟩ := ue_el i hi; ⟨vs, (fr 16 m i (by omega)).1.trans h⟩
  have ua_el := fun i (hi : i < 10) => (fr 16 m i (by omega)).2.trans (ua_el i hi)
  have frw := gFr.tr frw fr (fun k i j z => by omega)
  refine lv_aload_n hx hb dJ7_copyOf_6403c_38 rfl (lv_at hl 0 rfl) ?_
  exact gq_aret hC (by first | exact Or.inl ⟨_, rfl⟩ | exact Or.inr ⟨_, rfl⟩) hz hG (⟨a_21_0_0.symm, frw, e_21_0_0⟩) (Nat.le_of_ble_eq_true rfl) (Nat.le_of_ble_eq_true rfl) dJ7_copyOf_6403c_39
set_option maxHeartbeats 4000000 in
set_option maxRecDepth 100000 in
theorem n_cp_C10 (l : Launch) (V : gV) (ad : gA) (E : gE) (m : Nat) (h : Nat → Option Nat) (hel : ∀ i, i < 10 → h i = some (ad 16 m i)) (ue_el : ∀ i, i < 10 → ∃ vs, E 16 m i = some (.inr (3, vs))) (e_15_m_0 : E 15 m 0 = some (.inl (V.2.1 4, 10, .inr (.inr (.inr (.inr (h))))))) : gMr l yJ7_copyOf_1904c cJ7_copyOf_1904c 2 (some (.array (.object "java/lang/Object"))) ({ frames := 2, cells := 1, slots := 15, locals := 63 } : Room) [.ref (ad 15 m 0), .int (nI 15)] V ad E (fun r ad' E' => r = ad' 21 0 0 ∧ gFr (fun k i j => k = 21 ∧ i = 0 ∧ j = 0) ad E ad' E' ∧ E' 21 0 0 = some (.inl (V.2.1 4, 15, .inr (.inr (.inr (.inr (fun q => if q < 10 then h q else none))))))) := by
  intro sz
  refine g_ofN (by decide) (Nat.le_of_ble_eq_true rfl) ?_
  intro p e s m_ below meth c ls hname hC hz hG hl
  have hx := hC.1
  have hb := hC.2.1
  have hl : lv_has ls 2 [(0, .ref (ad 15 m 0)), (1, .int (nI 15))] := hl
  have a_15_m_0 : ad 15 m 0 = ad 15 m 0 := rfl
  have frw : gFr (fun k i j => k = 21 ∧ i = 0 ∧ j = 0) ad E ad E := gFr.rf
  refine lv_aload_n hx hb dJ7_copyOf_1904c_0 rfl (lv_at hl 0 rfl) ?_
  refine lv_iload_n hx hb dJ7_copyOf_1904c_1 rfl (lv_at hl 1 rfl) ?_
  refine lv_aload_n hx hb dJ7_copyOf_1904c_2 rfl (lv_at hl 0 rfl) ?_
  refine gk_getC hC hG a_15_m_0 e_15_m_0 km_RJ7_86 hl.1 (by decide) (Nat.le_of_ble_eq_true rfl) dJ7_copyOf_1904c_3 ?_
  refine gc_Sr hC hG (n_cp2_C10 l V ad E m h hel ue_el e_15_m_0) km_RJ7_300 kst_yJ7_copyOf_6403c kz_RJ7 kd_yJ7_copyOf_6403c dn_J7_copyOf_6403c.2 rfl hl.1 ⟨by decide, by decide⟩ (Nat.le_of_ble_eq_true rfl) ⟨Nat.le_of_ble_eq_true rfl, Nat.le_of_ble_eq_true rfl⟩ dJ7_copyOf_1904c_6 (fun r_6 ad1 E1 H locs p_6 hG hgr => ?_)
  exact gq_aret hC (by first | exact Or.inl ⟨_, rfl⟩ | exact Or.inr ⟨_, rfl⟩) hz hG (p_6) (Nat.le_of_ble_eq_true rfl) (Nat.le_of_ble_eq_true rfl) dJ7_copyOf_1904c_9
set_option maxHeartbeats 4000000 in
set_option maxRecDepth 100000 in
theorem n_gr2_C10 (l : Launch) (V : gV) (ad : gA) (E : gE) (m : Nat) (h : Nat → Option Nat) (hel : ∀ i, i < 10 → h i = some (ad 16 m i)) (ue_el : ∀ i, i < 10 → ∃ vs, E 16 m i = some (.inr (3, vs))) (mc : Int32) (e_14_m_0 : E 14 m 0 = some (.inr (0, [.int mc, .ref (ad 15 m 0), .int (nI 10)]))) (e_15_m_0 : E 15 m 0 = some (.inl (V.2.1 4, 10, .inr (.inr (.inr (.inr (h))))))) : gMr l yJx4a65c_grow_92f84 cJx4a65c_grow_92f84 4 (some (.array (.object "java/lang/Object"))) ({ frames := 3, cells := 1, slots := 15, locals := 84 } : Room) [.ref (ad 14 m 0), .int (nI 11)] V ad E (fun r ad' E' => r = ad' 21 0 0 ∧ gFr (fun k i j => (k = 14 ∧ i = m ∧ j = 0) ∨ (k = 21 ∧ i = 0 ∧ j = 0)) ad E ad' E' ∧ ad' 14 m 0 = ad 14 m 0 ∧ E' 14 m 0 = some (.inr (0, [.int mc, .ref r, .int (nI 10)])) ∧ E' 21 0 0 = some (.inl (V.2.1 4, 15, .inr (.inr (.inr (.inr (fun q => if q < 10 then h q else none))))))) := by
  intro sz
  refine g_ofN (by decide) (Nat.le_of_ble_eq_true rfl) ?_
  intro p e s m_ below meth c ls hname hC hz hG hl
  have hx := hC.1
  have hb := hC.2.1
  have hl : lv_has ls 4 [(0, .ref (ad 14 m 0)), (1, .int (nI 11))] := hl
  have a_14_m_0 : ad 14 m 0 = ad 14 m 0 := rfl
  have a_15_m_0 : ad 15 m 0 = ad 15 m 0 := rfl
  have frw : gFr (fun k i j => (k = 14 ∧ i = m ∧ j = 0) ∨ (k = 21 ∧ i = 0 ∧ j = 0)) ad E ad E := gFr.rf
  refine lv_aload_n hx hb dJx4a65c_grow_92f84_0 rfl (lv_at hl 0 rfl) ?_
  refine gk_get hC hG a_14_m_0 e_14_m_0 rfl inlJx4a65c 1 (by decide) kf_RJx4a65c_9 (fun _ h => h) rfl dJx4a65c_grow_92f84_1 ?_
  refine gk_alen hC hG a_15_m_0 e_15_m_0 dJx4a65c_grow_92f84_4 ?_
  refine lv_istore_n (lv' := [(2, .int (nI 10)), (0, .ref (ad 14 m 0)), (1, .int (nI 11))]) hx hb dJx4a65c_grow_92f84_5 rfl hl (by decide) rfl (fun ls hl => ?_)
  refine lv_iload_n hx hb dJx4a65c_grow_92f84_6 rfl (lv_at hl 0 rfl) ?_
  refine lv_if_gt (tgt := 20) hx hb dJx4a65c_grow_92f84_7 (by decide) (fun c_7 => ?_) (fun c_7 => absurd (by decide) c_7)
  refine lv_iload_n hx hb dJx4a65c_grow_92f84_20 rfl (lv_at hl 0 rfl) ?_
  refine lv_iload_n hx hb dJx4a65c_grow_92f84_21 rfl (lv_at hl 2 rfl) ?_
  refine lv_iload_n hx hb dJx4a65c_grow_92f84_22 rfl (lv_at hl 0 rfl) ?_
  refine lv_isub hx hb dJx4a65c_grow_92f84_23 ?_
  refine gq_top (nI 1) (by decide) ?_
  refine lv_iload_n hx hb dJx4a65c_grow_92f84_24 rfl (lv_at hl 0 rfl) ?_
  refine lv_iconst (v := (nI 1)) hx hb dJx4a65c_grow_92f84_25 (by decide) ?_
  refine lv_ishr hx hb dJx4a65c_grow_92f84_26 ?_
  refine gq_top (nI 5) (by decide) ?_
  refine gc_Si hC hG (n_nlen l V ad E 10 1 5 (by decide) (by decide) (by decide)) km_RJx4a65c_73 kst_yJ8_newLength_cabcc kz_RJ8 kd_yJ8_newLength_cabcc dn_J8_newLength_cabcc.2 rfl hl.1 ⟨by decide, by decide⟩ (Nat.le_of_ble_eq_true rfl) ⟨Nat.le_of_ble_eq_true rfl, Nat.le_of_ble_eq_true rfl⟩ dJx4a65c_grow_92f84_27 (fun r_27 ad1 E1 H locs p_27 hG hgr => ?_)
  obtain ⟨q_27, h1, h2⟩ := p_27
  refine gq_top (nI 15) q_27 ?_
  rw [h1, h2] at hG
  refine lv_istore_n (lv' := [(3, .int (nI 15)), (2, .int (nI 10)), (0, .ref (ad 14 m 0)), (1, .int (nI 11))]) hx hb dJx4a65c_grow_92f84_30 rfl hl (by decide) rfl (fun ls hl => ?_)
  refine lv_aload_n hx hb dJx4a65c_grow_92f84_31 rfl (lv_at hl 2 rfl) ?_
  refine lv_aload_n hx hb dJx4a65c_grow_92f84_32 rfl (lv_at hl 2 rfl) ?_
  refine gk_get hC hG a_14_m_0 e_14_m_0 rfl inlJx4a65c 1 (by decide) kf_RJx4a65c_9 (fun _ h => h) rfl dJx4a65c_grow_92f84_33 ?_
  refine lv_iload_n hx hb dJx4a65c_grow_92f84_36 rfl (lv_at hl 0 rfl) ?_
  refine gc_Sr hC hG (n_cp_C10 l V ad E m h hel ue_el e_15_m_0) km_RJx4a65c_66 kst_yJ7_copyOf_1904c kz_RJ7 kd_yJ7_copyOf_1904c dn_J7_copyOf_1904c.2 rfl hl.1 ⟨by decide, by decide⟩ (Nat.le_of_ble_eq_true rfl) ⟨Nat.le_of_ble_eq_true rfl, Nat.le_of_ble_eq_true rfl⟩ dJx4a65c_grow_92f84_37 (fun r_37 ad2 E2 H locs p_37 hG hgr => ?_)
  obtain ⟨q_37, fr, e_21_0_0⟩ := p_37
  have a_21_0_0 := q_37.symm
  have e_14_m_0 := (fr 14 m 0 (by omega)).1.trans e_14_m_0
  have a_14_m_0 := (fr 14 m 0 (by omega)).2.trans a_14_m_0
  have e_15_m_0 := (fr 15 m 0 (by omega)).1.trans e_15_m_0
  have a_15_m_0 := (fr 15 m 0 (by omega)).2.trans a_15_m_0
  have frw := gFr.tr frw fr (fun k i j z => by omega)
  refine lv_dup_x1 hx hb dJx4a65c_grow_92f84_40 rfl rfl ?_
  refine gk_put hC hG a_14_m_0 e_14_m_0 rfl inlJx4a65c tyJx4a65c tyJx4a65c_ok nmJx4a65c 1 (by decide) kf_RJx4a65c_9 (fun _ h => h) rfl rfl rfl (Nat.le_of_ble_eq_true rfl) dJx4a65c_grow_92f84_41 (fun E3 H locs (e_14_m_0 : E3 14 m 0 = some (.inr (0, [.int mc, .ref r_37, .int (nI 10)]))) fr hG => ?_)
  have e_15_m_0 := (fr 15 m 0 (by omega)).1.trans e_15_m_0
  have e_21_0_0 := (fr 21 0 0 (by omega)).1.trans e_21_0_0
  have frw := gFr.tr frw fr (fun k i j z => by omega)
  exact gq_aret hC (by first | exact Or.inl ⟨_, rfl⟩ | exact Or.inr ⟨_, rfl⟩) hz hG (⟨a_21_0_0.symm, frw, a_14_m_0, e_14_m_0, e_21_0_0⟩) (Nat.le_of_ble_eq_true rfl) (Nat.le_of_ble_eq_true rfl) dJx4a65c_grow_92f84_44
set_option maxHeartbeats 4000000 in
set_option maxRecDepth 100000 in
theorem n_gr_C10 (l : Launch) (V : gV) (ad : gA) (E : gE) (m : Nat) (h : Nat → Option Nat) (hel : ∀ i, i < 10 → h i = some (ad 16 m i)) (ue_el : ∀ i, i < 10 → ∃ vs, E 16 m i = some (.inr (3, vs))) (mc : Int32) (e_14_m_0 : E 14 m 0 = some (.inr (0, [.int mc, .ref (ad 15 m 0), .int (nI 10)]))) (e_15_m_0 : E 15 m 0 = some (.inl (V.2.1 4, 10, .inr (.inr (.inr (.inr (h))))))) : gMr l yJx4a65c_grow_d5877 cJx4a65c_grow_d5877 1 (some (.array (.object "java/lang/Object"))) ({ frames := 4, cells := 1, slots := 15, locals := 107 } : Room) [.ref (ad 14 m 0)] V ad E (fun r ad' E' => r = ad' 21 0 0 ∧ gFr (fun k i j => (k = 14 ∧ i = m ∧ j = 0) ∨ (k = 21 ∧ i = 0 ∧ j = 0)) ad E ad' E' ∧ ad' 14 m 0 = ad 14 m 0 ∧ E' 14 m 0 = some (.inr (0, [.int mc, .ref r, .int (nI 10)])) ∧ E' 21 0 0 = some (.inl (V.2.1 4, 15, .inr (.inr (.inr (.inr (fun q => if q < 10 then h q else none))))))) := by
  intro sz
  refine g_ofN (by decide) (Nat.le_of_ble_eq_true rfl) ?_
  intro p e s m_ below meth c ls hname hC hz hG hl
  have hx := hC.1
  have hb := hC.2.1
  have hl : lv_has ls 1 [(0, .ref (ad 14 m 0))] := hl
  have a_14_m_0 : ad 14 m 0 = ad 14 m 0 := rfl
  have a_15_m_0 : ad 15 m 0 = ad 15 m 0 := rfl
  have frw : gFr (fun k i j => (k = 14 ∧ i = m ∧ j = 0) ∨ (k = 21 ∧ i = 0 ∧ j = 0)) ad E ad E := gFr.rf
  refine lv_aload_n hx hb dJx4a65c_grow_d5877_0 rfl (lv_at hl 0 rfl) ?_
  refine lv_aload_n hx hb dJx4a65c_grow_d5877_1 rfl (lv_at hl 0 rfl) ?_
  refine gk_get hC hG a_14_m_0 e_14_m_0 rfl inlJx4a65c 2 (by decide) kf_RJx4a65c_48 (fun _ h => h) rfl dJx4a65c_grow_d5877_2 ?_
  refine lv_iconst (v := 1) hx hb dJx4a65c_grow_d5877_5 (by decide) ?_
  refine lv_iadd hx hb dJx4a65c_grow_d5877_6 ?_
  refine gq_top (nI 11) (by decide) ?_
  refine gc_Vr hC hG e_14_m_0 rfl (n_gr2_C10 l V ad E m h hel ue_el mc e_14_m_0 e_15_m_0) km_RJx4a65c_69 kn_yJx4a65c_grow_92f84 ks_yJx4a65c_grow_92f84 kz_RJx4a65c kd_yJx4a65c_grow_92f84 dn_Jx4a65c_grow_92f84 (by rw [a_14_m_0]; rfl) hl.1 ⟨by decide, by decide⟩ (Nat.le_of_ble_eq_true rfl) ⟨Nat.le_of_ble_eq_true rfl, Nat.le_of_ble_eq_true rfl⟩ dJx4a65c_grow_d5877_7 (fun r_7 ad1 E1 H locs p_7 hG hgr => ?_)
  exact gq_aret hC (by first | exact Or.inl ⟨_, rfl⟩ | exact Or.inr ⟨_, rfl⟩) hz hG (p_7) (Nat.le_of_ble_eq_true rfl) (Nat.le_of_ble_eq_true rfl) dJx4a65c_grow_d5877_10
set_option maxHeartbeats 4000000 in
set_option maxRecDepth 100000 in
theorem n_cp2_C15 (l : Launch) (V : gV) (ad : gA) (E : gE) (m : Nat) (h : Nat → Option Nat) (hel : ∀ i, i < 15 → h i = some (ad 16 m i)) (ue_el : ∀ i, i < 15 → ∃ vs, E 16 m i = some (.inr (3, vs))) (e_15_m_0 : E 15 m 0 = some (.inl (V.2.1 4, 15, .inr (.inr (.inr (.inr (h))))))) : gMr l yJ7_copyOf_6403c cJ7_copyOf_6403c 4 (some (.array (.object "java/lang/Object"))) ({ frames := 1, cells := 1, slots := 22, locals := 40 } : Room) [.ref (ad 15 m 0), .int (nI 22), .ref (V.2.2 2)] V ad E (fun r ad' E' => r = ad' 21 0 0 ∧ gFr (fun k i j => k = 21 ∧ i = 0 ∧ j = 0) ad E ad' E' ∧ E' 21 0 0 = some (.inl (V.2.1 4, 22, .inr (.inr (.inr (.inr (fun q => if q < 15 then h q else none))))))) := by
  intro sz
  refine g_ofN (by decide) (Nat.le_of_ble_eq_true rfl) ?_
  intro p e s m_ below meth c ls hname hC hz hG hl
  have hx := hC.1
  have hb := hC.2.1
  have hl : lv_has ls 4 [(0, .ref (ad 15 m 0)), (1, .int (nI 22)), (2, .ref (V.2.2 2))] := hl
  have a_15_m_0 : ad 15 m 0 = ad 15 m 0 := rfl
  have frw : gFr (fun k i j => k = 21 ∧ i = 0 ∧ j = 0) ad E ad E := gFr.rf
  have ua_el : ∀ i, i < 15 → ad 16 m i = ad 16 m i := fun _ _ => rfl
  refine lv_aload_n hx hb dJ7_copyOf_6403c_0 rfl (lv_at hl 2 rfl) ?_
  refine gk_ldcM hC kc_RJ7_110 dJ7_copyOf_6403c_1 ?_
  refine lv_acmp_ne (rx := some (V.2.2 2)) (ry := some (V.2.2 2)) (tgt := 13) hx hb dJ7_copyOf_6403c_3 (by decide) (fun c_3 => absurd rfl c_3) (fun c_3 => ?_)
  refine lv_iload_n hx hb dJ7_copyOf_6403c_6 rfl (lv_at hl 1 rfl) ?_
  refine gk_newq hC hG (t0 := 4) kc_RJ7_2 (by decide +kernel) rfl (by decide) (Nat.le_of_ble_eq_true rfl) (Nat.le_of_ble_eq_true rfl) dJ7_copyOf_6403c_7 21 0 0 (fun a1 ad1 E1 H a_21_0_0 e_21_0_0 fr hG => ?_)
  have e_15_m_0 := (fr 15 m 0 (by omega)).1.trans e_15_m_0
  have a_15_m_0 := (fr 15 m 0 (by omega)).2.trans a_15_m_0
  have ue_el : ∀ i, i < 15 → ∃ vs, E1 16 m i = some (.inr (3, vs)) := fun i hi => let ⟨vs, h⟩ := ue_el i hi; ⟨vs, (fr 16 m i (by omega)).1.trans h⟩
  have ua_el := fun i (hi : i < 15) => (fr 16 m i (by omega)).2.trans (ua_el i hi)
  have frw := gFr.tr frw fr (fun k i j z => by omega)
  refine lv_goto (tgt := 24) hx hb dJ7_copyOf_6403c_10 (by decide) ?_
  refine lv_astore_n (lv' := [(3, .ref a1), (0, .ref (ad 15 m 0)), (1, .int (nI 22)), (2, .ref (V.2.2 2))]) hx hb dJ7_copyOf_6403c_24 rfl hl (by decide) rfl (fun ls hl => ?_)
  refine lv_aload_n hx hb dJ7_copyOf_6403c_25 rfl (lv_at hl 1 rfl) ?_
  refine lv_iconst (v := (nI 0)) hx hb dJ7_copyOf_6403c_26 (by decide) ?_
  refine lv_aload_n hx hb dJ7_copyOf_6403c_27 rfl (lv_at hl 0 rfl) ?_
  refine lv_iconst (v := (nI 0)) hx hb dJ7_copyOf_6403c_28 (by decide) ?_
  refine lv_aload_n hx hb dJ7_copyOf_6403c_29 rfl (lv_at hl 1 rfl) ?_
  refine gk_alen hC hG a_15_m_0 e_15_m_0 dJ7_copyOf_6403c_30 ?_
  refine lv_iload_n hx hb dJ7_copyOf_6403c_31 rfl (lv_at hl 2 rfl) ?_
  refine gq_mmin hC km_RJ7_304 kst_Lib_Math_min_name kz_java_lang_Math kd_Lib_Math_min_name hl.1 (by decide) (Nat.le_of_ble_eq_true rfl) (by decide) (by decide) dJ7_copyOf_6403c_32 ?_
  refine gq_top (nI 15) (by decide) ?_
  refine gk_copyq hC hG km_RJ7_150 kw_9_13 kst_arraycopyName kz_java_lang_System hl.1 a_15_m_0 a_21_0_0 e_15_m_0 e_21_0_0 (n := 15) (by decide) (by decide) (by decide) (fun i hi y hy => by obtain ⟨vs, hv⟩ := ue_el i hi; exact ⟨16, m, i, 3, _, vs, hv, (ua_el i hi).trans (Option.some.inj ((hel i hi).symm.trans hy)), rfl, by decide +kernel⟩) (by decide) (Nat.le_of_ble_eq_true rfl) dJ7_copyOf_6403c_35 (fun E2 H locs e_21_0_0 fr hG => ?_)
  have e_15_m_0 := (fr 15 m 0 (by omega)).1.trans e_15_m_0
  have ue_el : ∀ i, i < 15 → ∃ vs, E2 16 m i = some (.inr (3, vs)) := fun i hi => let ⟨vs, h⟩ := ue_el i hi; ⟨vs, (fr 16 m i (by omega)).1.trans h⟩
  have ua_el := fun i (hi : i < 15) => (fr 16 m i (by omega)).2.trans (ua_el i hi)
  have frw := gFr.tr frw fr (fun k i j z => by omega)
  refine lv_aload_n hx hb dJ7_copyOf_6403c_38 rfl (lv_at hl 0 rfl) ?_
  exact gq_aret hC (by first | exact Or.inl ⟨_, rfl⟩ | exact Or.inr ⟨_, rfl⟩) hz hG (⟨a_21_0_0.symm, frw, e_21_0_0⟩) (Nat.le_of_ble_eq_true rfl) (Nat.le_of_ble_eq_true rfl) dJ7_copyOf_6403c_39
set_option maxHeartbeats 4000000 in
set_option maxRecDepth 100000 in
theorem n_cp_C15 (l : Launch) (V : gV) (ad : gA) (E : gE) (m : Nat) (h : Nat → Option Nat) (hel : ∀ i, i < 15 → h i = some (ad 16 m i)) (ue_el : ∀ i, i < 15 → ∃ vs, E 16 m i = some (.inr (3, vs))) (e_15_m_0 : E 15 m 0 = some (.inl (V.2.1 4, 15, .inr (.inr (.inr (.inr (h))))))) : gMr l yJ7_copyOf_1904c cJ7_copyOf_1904c 2 (some (.array (.object "java/lang/Object"))) ({ frames := 2, cells := 1, slots := 22, locals := 63 } : Room) [.ref (ad 15 m 0), .int (nI 22)] V ad E (fun r ad' E' => r = ad' 21 0 0 ∧ gFr (fun k i j => k = 21 ∧ i = 0 ∧ j = 0) ad E ad' E' ∧ E' 21 0 0 = some (.inl (V.2.1 4, 22, .inr (.inr (.inr (.inr (fun q => if q < 15 then h q else none))))))) := by
  intro sz
  refine g_ofN (by decide) (Nat.le_of_ble_eq_true rfl) ?_
  intro p e s m_ below meth c ls hname hC hz hG hl
  have hx := hC.1
  have hb := hC.2.1
  have hl : lv_has ls 2 [(0, .ref (ad 15 m 0)), (1, .int (nI 22))] := hl
  have a_15_m_0 : ad 15 m 0 = ad 15 m 0 := rfl
  have frw : gFr (fun k i j => k = 21 ∧ i = 0 ∧ j = 0) ad E ad E := gFr.rf
  refine lv_aload_n hx hb dJ7_copyOf_1904c_0 rfl (lv_at hl 0 rfl) ?_
  refine lv_iload_n hx hb dJ7_copyOf_1904c_1 rfl (lv_at hl 1 rfl) ?_
  refine lv_aload_n hx hb dJ7_copyOf_1904c_2 rfl (lv_at hl 0 rfl) ?_
  refine gk_getC hC hG a_15_m_0 e_15_m_0 km_RJ7_86 hl.1 (by decide) (Nat.le_of_ble_eq_true rfl) dJ7_copyOf_1904c_3 ?_
  refine gc_Sr hC hG (n_cp2_C15 l V ad E m h hel ue_el e_15_m_0) km_RJ7_300 kst_yJ7_copyOf_6403c kz_RJ7 kd_yJ7_copyOf_6403c dn_J7_copyOf_6403c.2 rfl hl.1 ⟨by decide, by decide⟩ (Nat.le_of_ble_eq_true rfl) ⟨Nat.le_of_ble_eq_true rfl, Nat.le_of_ble_eq_true rfl⟩ dJ7_copyOf_1904c_6 (fun r_6 ad1 E1 H locs p_6 hG hgr => ?_)
  exact gq_aret hC (by first | exact Or.inl ⟨_, rfl⟩ | exact Or.inr ⟨_, rfl⟩) hz hG (p_6) (Nat.le_of_ble_eq_true rfl) (Nat.le_of_ble_eq_true rfl) dJ7_copyOf_1904c_9
set_option maxHeartbeats 4000000 in
set_option maxRecDepth 100000 in
theorem n_gr2_C15 (l : Launch) (V : gV) (ad : gA) (E : gE) (m : Nat) (h : Nat → Option Nat) (hel : ∀ i, i < 15 → h i = some (ad 16 m i)) (ue_el : ∀ i, i < 15 → ∃ vs, E 16 m i = some (.inr (3, vs))) (mc : Int32) (e_14_m_0 : E 14 m 0 = some (.inr (0, [.int mc, .ref (ad 15 m 0), .int (nI 15)]))) (e_15_m_0 : E 15 m 0 = some (.inl (V.2.1 4, 15, .inr (.inr (.inr (.inr (h))))))) : gMr l yJx4a65c_grow_92f84 cJx4a65c_grow_92f84 4 (some (.array (.object "java/lang/Object"))) ({ frames := 3, cells := 1, slots := 22, locals := 84 } : Room) [.ref (ad 14 m 0), .int (nI 16)] V ad E (fun r ad' E' => r = ad' 21 0 0 ∧ gFr (fun k i j => (k = 14 ∧ i = m ∧ j = 0) ∨ (k = 21 ∧ i = 0 ∧ j = 0)) ad E ad' E' ∧ ad' 14 m 0 = ad 14 m 0 ∧ E' 14 m 0 = some (.inr (0, [.int mc, .ref r, .int (nI 15)])) ∧ E' 21 0 0 = some (.inl (V.2.1 4, 22, .inr (.inr (.inr (.inr (fun q => if q < 15 then h q else none))))))) := by
  intro sz
  refine g_ofN (by decide) (Nat.le_of_ble_eq_true rfl) ?_
  intro p e s m_ below meth c ls hname hC hz hG hl
  have hx := hC.1
  have hb := hC.2.1
  have hl : lv_has ls 4 [(0, .ref (ad 14 m 0)), (1, .int (nI 16))] := hl
  have a_14_m_0 : ad 14 m 0 = ad 14 m 0 := rfl
  have a_15_m_0 : ad 15 m 0 = ad 15 m 0 := rfl
  have frw : gFr (fun k i j => (k = 14 ∧ i = m ∧ j = 0) ∨ (k = 21 ∧ i = 0 ∧ j = 0)) ad E ad E := gFr.rf
  refine lv_aload_n hx hb dJx4a65c_grow_92f84_0 rfl (lv_at hl 0 rfl) ?_
  refine gk_get hC hG a_14_m_0 e_14_m_0 rfl inlJx4a65c 1 (by decide) kf_RJx4a65c_9 (fun _ h => h) rfl dJx4a65c_grow_92f84_1 ?_
  refine gk_alen hC hG a_15_m_0 e_15_m_0 dJx4a65c_grow_92f84_4 ?_
  refine lv_istore_n (lv' := [(2, .int (nI 15)), (0, .ref (ad 14 m 0)), (1, .int (nI 16))]) hx hb dJx4a65c_grow_92f84_5 rfl hl (by decide) rfl (fun ls hl => ?_)
  refine lv_iload_n hx hb dJx4a65c_grow_92f84_6 rfl (lv_at hl 0 rfl) ?_
  refine lv_if_gt (tgt := 20) hx hb dJx4a65c_grow_92f84_7 (by decide) (fun c_7 => ?_) (fun c_7 => absurd (by decide) c_7)
  refine lv_iload_n hx hb dJx4a65c_grow_92f84_20 rfl (lv_at hl 0 rfl) ?_
  refine lv_iload_n hx hb dJx4a65c_grow_92f84_21 rfl (lv_at hl 2 rfl) ?_
  refine lv_iload_n hx hb dJx4a65c_grow_92f84_22 rfl (lv_at hl 0 rfl) ?_
  refine lv_isub hx hb dJx4a65c_grow_92f84_23 ?_
  refine gq_top (nI 1) (by decide) ?_
  refine lv_iload_n hx hb dJx4a65c_grow_92f84_24 rfl (lv_at hl 0 rfl) ?_
  refine lv_iconst (v := (nI 1)) hx hb dJx4a65c_grow_92f84_25 (by decide) ?_
  refine lv_ishr hx hb dJx4a65c_grow_92f84_26 ?_
  refine gq_top (nI 7) (by decide) ?_
  refine gc_Si hC hG (n_nlen l V ad E 15 1 7 (by decide) (by decide) (by decide)) km_RJx4a65c_73 kst_yJ8_newLength_cabcc kz_RJ8 kd_yJ8_newLength_cabcc dn_J8_newLength_cabcc.2 rfl hl.1 ⟨by decide, by decide⟩ (Nat.le_of_ble_eq_true rfl) ⟨Nat.le_of_ble_eq_true rfl, Nat.le_of_ble_eq_true rfl⟩ dJx4a65c_grow_92f84_27 (fun r_27 ad1 E1 H locs p_27 hG hgr => ?_)
  obtain ⟨q_27, h1, h2⟩ := p_27
  refine gq_top (nI 22) q_27 ?_
  rw [h1, h2] at hG
  refine lv_istore_n (lv' := [(3, .int (nI 22)), (2, .int (nI 15)), (0, .ref (ad 14 m 0)), (1, .int (nI 16))]) hx hb dJx4a65c_grow_92f84_30 rfl hl (by decide) rfl (fun ls hl => ?_)
  refine lv_aload_n hx hb dJx4a65c_grow_92f84_31 rfl (lv_at hl 2 rfl) ?_
  refine lv_aload_n hx hb dJx4a65c_grow_92f84_32 rfl (lv_at hl 2 rfl) ?_
  refine gk_get hC hG a_14_m_0 e_14_m_0 rfl inlJx4a65c 1 (by decide) kf_RJx4a65c_9 (fun _ h => h) rfl dJx4a65c_grow_92f84_33 ?_
  refine lv_iload_n hx hb dJx4a65c_grow_92f84_36 rfl (lv_at hl 0 rfl) ?_
  refine gc_Sr hC hG (n_cp_C15 l V ad E m h hel ue_el e_15_m_0) km_RJx4a65c_66 kst_yJ7_copyOf_1904c kz_RJ7 kd_yJ7_copyOf_1904c dn_J7_copyOf_1904c.2 rfl hl.1 ⟨by decide, by decide⟩ (Nat.le_of_ble_eq_true rfl) ⟨Nat.le_of_ble_eq_true rfl, Nat.le_of_ble_eq_true rfl⟩ dJx4a65c_grow_92f84_37 (fun r_37 ad2 E2 H locs p_37 hG hgr => ?_)
  obtain ⟨q_37, fr, e_21_0_0⟩ := p_37
  have a_21_0_0 := q_37.symm
  have e_14_m_0 := (fr 14 m 0 (by omega)).1.trans e_14_m_0
  have a_14_m_0 := (fr 14 m 0 (by omega)).2.trans a_14_m_0
  have e_15_m_0 := (fr 15 m 0 (by omega)).1.trans e_15_m_0
  have a_15_m_0 := (fr 15 m 0 (by omega)).2.trans a_15_m_0
  have frw := gFr.tr frw fr (fun k i j z => by omega)
  refine lv_dup_x1 hx hb dJx4a65c_grow_92f84_40 rfl rfl ?_
  refine gk_put hC hG a_14_m_0 e_14_m_0 rfl inlJx4a65c tyJx4a65c tyJx4a65c_ok nmJx4a65c 1 (by decide) kf_RJx4a65c_9 (fun _ h => h) rfl rfl rfl (Nat.le_of_ble_eq_true rfl) dJx4a65c_grow_92f84_41 (fun E3 H locs (e_14_m_0 : E3 14 m 0 = some (.inr (0, [.int mc, .ref r_37, .int (nI 15)]))) fr hG => ?_)
  have e_15_m_0 := (fr 15 m 0 (by omega)).1.trans e_15_m_0
  have e_21_0_0 := (fr 21 0 0 (by omega)).1.trans e_21_0_0
  have frw := gFr.tr frw fr (fun k i j z => by omega)
  exact gq_aret hC (by first | exact Or.inl ⟨_, rfl⟩ | exact Or.inr ⟨_, rfl⟩) hz hG (⟨a_21_0_0.symm, frw, a_14_m_0, e_14_m_0, e_21_0_0⟩) (Nat.le_of_ble_eq_true rfl) (Nat.le_of_ble_eq_true rfl) dJx4a65c_grow_92f84_44
set_option maxHeartbeats 4000000 in
set_option maxRecDepth 100000 in
theorem n_gr_C15 (l : Launch) (V : gV) (ad : gA) (E : gE) (m : Nat) (h : Nat → Option Nat) (hel : ∀ i, i < 15 → h i = some (ad 16 m i)) (ue_el : ∀ i, i < 15 → ∃ vs, E 16 m i = some (.inr (3, vs))) (mc : Int32) (e_14_m_0 : E 14 m 0 = some (.inr (0, [.int mc, .ref (ad 15 m 0), .int (nI 15)]))) (e_15_m_0 : E 15 m 0 = some (.inl (V.2.1 4, 15, .inr (.inr (.inr (.inr (h))))))) : gMr l yJx4a65c_grow_d5877 cJx4a65c_grow_d5877 1 (some (.array (.object "java/lang/Object"))) ({ frames := 4, cells := 1, slots := 22, locals := 107 } : Room) [.ref (ad 14 m 0)] V ad E (fun r ad' E' => r = ad' 21 0 0 ∧ gFr (fun k i j => (k = 14 ∧ i = m ∧ j = 0) ∨ (k = 21 ∧ i = 0 ∧ j = 0)) ad E ad' E' ∧ ad' 14 m 0 = ad 14 m 0 ∧ E' 14 m 0 = some (.inr (0, [.int mc, .ref r, .int (nI 15)])) ∧ E' 21 0 0 = some (.inl (V.2.1 4, 22, .inr (.inr (.inr (.inr (fun q => if q < 15 then h q else none))))))) := by
  intro sz
  refine g_ofN (by decide) (Nat.le_of_ble_eq_true rfl) ?_
  intro p e s m_ below meth c ls hname hC hz hG hl
  have hx := hC.1
  have hb := hC.2.1
  have hl : lv_has ls 1 [(0, .ref (ad 14 m 0))] := hl
  have a_14_m_0 : ad 14 m 0 = ad 14 m 0 := rfl
  have a_15_m_0 : ad 15 m 0 = ad 15 m 0 := rfl
  have frw : gFr (fun k i j => (k = 14 ∧ i = m ∧ j = 0) ∨ (k = 21 ∧ i = 0 ∧ j = 0)) ad E ad E := gFr.rf
  refine lv_aload_n hx hb dJx4a65c_grow_d5877_0 rfl (lv_at hl 0 rfl) ?_
  refine lv_aload_n hx hb dJx4a65c_grow_d5877_1 rfl (lv_at hl 0 rfl) ?_
  refine gk_get hC hG a_14_m_0 e_14_m_0 rfl inlJx4a65c 2 (by decide) kf_RJx4a65c_48 (fun _ h => h) rfl dJx4a65c_grow_d5877_2 ?_
  refine lv_iconst (v := 1) hx hb dJx4a65c_grow_d5877_5 (by decide) ?_
  refine lv_iadd hx hb dJx4a65c_grow_d5877_6 ?_
  refine gq_top (nI 16) (by decide) ?_
  refine gc_Vr hC hG e_14_m_0 rfl (n_gr2_C15 l V ad E m h hel ue_el mc e_14_m_0 e_15_m_0) km_RJx4a65c_69 kn_yJx4a65c_grow_92f84 ks_yJx4a65c_grow_92f84 kz_RJx4a65c kd_yJx4a65c_grow_92f84 dn_Jx4a65c_grow_92f84 (by rw [a_14_m_0]; rfl) hl.1 ⟨by decide, by decide⟩ (Nat.le_of_ble_eq_true rfl) ⟨Nat.le_of_ble_eq_true rfl, Nat.le_of_ble_eq_true rfl⟩ dJx4a65c_grow_d5877_7 (fun r_7 ad1 E1 H locs p_7 hG hgr => ?_)
  exact gq_aret hC (by first | exact Or.inl ⟨_, rfl⟩ | exact Or.inr ⟨_, rfl⟩) hz hG (p_7) (Nat.le_of_ble_eq_true rfl) (Nat.le_of_ble_eq_true rfl) dJx4a65c_grow_d5877_10
set_option maxHeartbeats 4000000 in
set_option maxRecDepth 100000 in
theorem n_gr2_CE (l : Launch) (V : gV) (ad : gA) (E : gE) (m : Nat) (mc : Int32) (e_14_m_0 : E 14 m 0 = some (.inr (0, [.int mc, .ref (V.2.2 1), .int (nI 0)]))) : gMr l yJx4a65c_grow_92f84 cJx4a65c_grow_92f84 4 (some (.array (.object "java/lang/Object"))) ({ frames := 1, cells := 1, slots := 10, locals := 21 } : Room) [.ref (ad 14 m 0), .int (nI 1)] V ad E (fun r ad' E' => r = ad' 21 0 0 ∧ gFr (fun k i j => (k = 14 ∧ i = m ∧ j = 0) ∨ (k = 21 ∧ i = 0 ∧ j = 0)) ad E ad' E' ∧ ad' 14 m 0 = ad 14 m 0 ∧ E' 14 m 0 = some (.inr (0, [.int mc, .ref r, .int (nI 0)])) ∧ E' 21 0 0 = some (.inl (V.2.1 4, 10, .inr (.inr (.inr (.inr (fun _ => none))))))) := by
  intro sz
  refine g_ofN (by decide) (Nat.le_of_ble_eq_true rfl) ?_
  intro p e s m_ below meth c ls hname hC hz hG hl
  have hx := hC.1
  have hb := hC.2.1
  have hl : lv_has ls 4 [(0, .ref (ad 14 m 0)), (1, .int (nI 1))] := hl
  have a_14_m_0 : ad 14 m 0 = ad 14 m 0 := rfl
  have frw : gFr (fun k i j => (k = 14 ∧ i = m ∧ j = 0) ∨ (k = 21 ∧ i = 0 ∧ j = 0)) ad E ad E := gFr.rf
  refine lv_aload_n hx hb dJx4a65c_grow_92f84_0 rfl (lv_at hl 0 rfl) ?_
  refine gk_get hC hG a_14_m_0 e_14_m_0 rfl inlJx4a65c 1 (by decide) kf_RJx4a65c_9 (fun _ h => h) rfl dJx4a65c_grow_92f84_1 ?_
  refine gq_elen hC hG dJx4a65c_grow_92f84_4 ?_
  refine lv_istore_n (lv' := [(2, .int (nI 0)), (0, .ref (ad 14 m 0)), (1, .int (nI 1))]) hx hb dJx4a65c_grow_92f84_5 rfl hl (by decide) rfl (fun ls hl => ?_)
  refine lv_iload_n hx hb dJx4a65c_grow_92f84_6 rfl (lv_at hl 0 rfl) ?_
  refine lv_if_gt (tgt := 20) hx hb dJx4a65c_grow_92f84_7 (by decide) (fun c_7 => absurd c_7 (by decide)) (fun c_7 => ?_)
  refine lv_aload_n hx hb dJx4a65c_grow_92f84_10 rfl (lv_at hl 1 rfl) ?_
  refine gk_get hC hG a_14_m_0 e_14_m_0 rfl inlJx4a65c 1 (by decide) kf_RJx4a65c_9 (fun _ h => h) rfl dJx4a65c_grow_92f84_11 ?_
  refine gq_empty hC hG kf_RJx4a65c_39 dJx4a65c_grow_92f84_14 ?_
  refine lv_acmp_eq (rx := some (V.2.2 1)) (ry := some (V.2.2 1)) (tgt := 45) hx hb dJx4a65c_grow_92f84_17 (by decide) (fun c_17 => ?_) (fun c_17 => absurd rfl c_17)
  refine lv_aload_n hx hb dJx4a65c_grow_92f84_45 rfl (lv_at hl 1 rfl) ?_
  refine lv_bipush (v := (nI 10)) hx hb dJx4a65c_grow_92f84_46 (by decide) ?_
  refine lv_iload_n hx hb dJx4a65c_grow_92f84_48 rfl (lv_at hl 2 rfl) ?_
  refine gq_mmax hC km_RJx4a65c_79 kst_Lib_Math_max_name kz_java_lang_Math kd_Lib_Math_max_name hl.1 (by decide) (Nat.le_of_ble_eq_true rfl) (by decide) (by decide) dJx4a65c_grow_92f84_49 ?_
  refine gq_top (nI 10) (by decide) ?_
  refine gk_newq hC hG (t0 := 4) kc_RJx4a65c_7 (by decide +kernel) rfl (by decide) (Nat.le_of_ble_eq_true rfl) (Nat.le_of_ble_eq_true rfl) dJx4a65c_grow_92f84_52 21 0 0 (fun a1 ad1 E1 H a_21_0_0 e_21_0_0 fr hG => ?_)
  have e_14_m_0 := (fr 14 m 0 (by omega)).1.trans e_14_m_0
  have a_14_m_0 := (fr 14 m 0 (by omega)).2.trans a_14_m_0
  have frw := gFr.tr frw fr (fun k i j z => by omega)
  refine lv_dup_x1 hx hb dJx4a65c_grow_92f84_55 rfl rfl ?_
  refine gk_put hC hG a_14_m_0 e_14_m_0 rfl inlJx4a65c tyJx4a65c tyJx4a65c_ok nmJx4a65c 1 (by decide) kf_RJx4a65c_9 (fun _ h => h) rfl rfl rfl (Nat.le_of_ble_eq_true rfl) dJx4a65c_grow_92f84_56 (fun E2 H locs (e_14_m_0 : E2 14 m 0 = some (.inr (0, [.int mc, .ref a1, .int (nI 0)]))) fr hG => ?_)
  have e_21_0_0 := (fr 21 0 0 (by omega)).1.trans e_21_0_0
  have frw := gFr.tr frw fr (fun k i j z => by omega)
  exact gq_aret hC (by first | exact Or.inl ⟨_, rfl⟩ | exact Or.inr ⟨_, rfl⟩) hz hG (⟨a_21_0_0.symm, frw, a_14_m_0, e_14_m_0, e_21_0_0⟩) (Nat.le_of_ble_eq_true rfl) (Nat.le_of_ble_eq_true rfl) dJx4a65c_grow_92f84_59
set_option maxHeartbeats 4000000 in
set_option maxRecDepth 100000 in
theorem n_gr_CE (l : Launch) (V : gV) (ad : gA) (E : gE) (m : Nat) (mc : Int32) (e_14_m_0 : E 14 m 0 = some (.inr (0, [.int mc, .ref (V.2.2 1), .int (nI 0)]))) : gMr l yJx4a65c_grow_d5877 cJx4a65c_grow_d5877 1 (some (.array (.object "java/lang/Object"))) ({ frames := 2, cells := 1, slots := 10, locals := 44 } : Room) [.ref (ad 14 m 0)] V ad E (fun r ad' E' => r = ad' 21 0 0 ∧ gFr (fun k i j => (k = 14 ∧ i = m ∧ j = 0) ∨ (k = 21 ∧ i = 0 ∧ j = 0)) ad E ad' E' ∧ ad' 14 m 0 = ad 14 m 0 ∧ E' 14 m 0 = some (.inr (0, [.int mc, .ref r, .int (nI 0)])) ∧ E' 21 0 0 = some (.inl (V.2.1 4, 10, .inr (.inr (.inr (.inr (fun _ => none))))))) := by
  intro sz
  refine g_ofN (by decide) (Nat.le_of_ble_eq_true rfl) ?_
  intro p e s m_ below meth c ls hname hC hz hG hl
  have hx := hC.1
  have hb := hC.2.1
  have hl : lv_has ls 1 [(0, .ref (ad 14 m 0))] := hl
  have a_14_m_0 : ad 14 m 0 = ad 14 m 0 := rfl
  have frw : gFr (fun k i j => (k = 14 ∧ i = m ∧ j = 0) ∨ (k = 21 ∧ i = 0 ∧ j = 0)) ad E ad E := gFr.rf
  refine lv_aload_n hx hb dJx4a65c_grow_d5877_0 rfl (lv_at hl 0 rfl) ?_
  refine lv_aload_n hx hb dJx4a65c_grow_d5877_1 rfl (lv_at hl 0 rfl) ?_
  refine gk_get hC hG a_14_m_0 e_14_m_0 rfl inlJx4a65c 2 (by decide) kf_RJx4a65c_48 (fun _ h => h) rfl dJx4a65c_grow_d5877_2 ?_
  refine lv_iconst (v := 1) hx hb dJx4a65c_grow_d5877_5 (by decide) ?_
  refine lv_iadd hx hb dJx4a65c_grow_d5877_6 ?_
  refine gq_top (nI 1) (by decide) ?_
  refine gc_Vr hC hG e_14_m_0 rfl (n_gr2_CE l V ad E m mc e_14_m_0) km_RJx4a65c_69 kn_yJx4a65c_grow_92f84 ks_yJx4a65c_grow_92f84 kz_RJx4a65c kd_yJx4a65c_grow_92f84 dn_Jx4a65c_grow_92f84 (by rw [a_14_m_0]; rfl) hl.1 ⟨by decide, by decide⟩ (Nat.le_of_ble_eq_true rfl) ⟨Nat.le_of_ble_eq_true rfl, Nat.le_of_ble_eq_true rfl⟩ dJx4a65c_grow_d5877_7 (fun r_7 ad1 E1 H locs p_7 hG hgr => ?_)
  exact gq_aret hC (by first | exact Or.inl ⟨_, rfl⟩ | exact Or.inr ⟨_, rfl⟩) hz hG (p_7) (Nat.le_of_ble_eq_true rfl) (Nat.le_of_ble_eq_true rfl) dJx4a65c_grow_d5877_10
