/-! the world's numbers -/
theorem st_arr {U : State} {ty : FieldType} (hno : ∀ C, ty ≠ .object C) (h : ∃ (c : ClassId) (k : Class) (comp : ClassId), U.vm.findClass ("[" ++ ty.toString) = some c ∧ U.vm.classes[c]? = some k ∧ k.kind = .array comp ty) : ∃ c : ClassId, ArrOfT U c ty ∧ va_RA U c ty := by
  obtain ⟨c, k, comp, h1, h2, h3⟩ := h
  refine ⟨c, fun n z => ⟨fun k h => (by cases h), k, h2, comp, h3⟩, ?_⟩
  cases ty with
  | object C => exact absurd rfl (hno C)
  | _ => exact h1
theorem st_arq {U : State} {n : String} (h : ∃ (comp c : ClassId) (k : Class), U.vm.findClass n = some comp ∧ U.vm.classes[c]? = some k ∧ k.kind = .array comp (.object n) ∧ U.vm.findClass ("[" ++ (FieldType.object n).toString) = some c) : ∃ c : ClassId, ArrOfT U c (.object n) ∧ va_RA U c (.object n) := by
  obtain ⟨comp, c, k, h1, h2, h3, h4⟩ := h
  exact ⟨c, fun n z => ⟨fun k h => (by cases h), k, h2, comp, h3⟩, k, comp, h2, h3, h1, h4⟩
theorem st_K {s : State} {args : Array Value} (hts : ∀ w ∈ wsL_law, w.before args s = true) (hgx : ∀ w ∈ gxw, w.before args s = true) : ∃ (D : va_G) (t : Nat → ClassId), ∀ a : Nat → Nat, va_K D vwCl (gT (D, t, a)) s := by
  obtain ⟨c0, i0, h0⟩ := u_known hts inlJx4a65c (hts _ ki_RJx4a65c)
  obtain ⟨c1, i1, h1⟩ := u_known hts inlX0 (hts _ ki_RX0)
  obtain ⟨c2, i2, h2⟩ := u_known hts inlX1 (hts _ ki_RX1)
  obtain ⟨c3, i3, h3⟩ := u_known hts inlX2 (hts _ ki_RX2)
  obtain ⟨c4, i4, h4⟩ := u_known hts inlX3 (hts _ ki_RX3)
  obtain ⟨c5, i5, h5⟩ := u_known hts inlX4 (hts _ ki_RX4)
  obtain ⟨c6, i6, h6⟩ := u_known hts inlX5 (hts _ ki_RX5)
  obtain ⟨c7, i7, h7⟩ := u_known hts inlX6 (hts _ ki_RX6)
  obtain ⟨a0, g0⟩ := st_arr (ty := .int) (fun C h => by cases h) (Cond.arrayClass_spec (hts _ ka__int))
  obtain ⟨a1, g1⟩ := st_arr (ty := .long) (fun C h => by cases h) (Cond.arrayClass_spec (hts _ ka__long))
  obtain ⟨a2, g2⟩ := st_arr (ty := .boolean) (fun C h => by cases h) (Cond.arrayClass_spec (hts _ ka__boolean))
  obtain ⟨a3, g3⟩ := st_arq (n := "TieredMachine$Frame") (let ⟨comp, c, k, h1, _, h3, h4, h5⟩ := Cond.arrayOver_spec (hgx (.arrayOver (.object "TieredMachine$Frame")) (by decide +kernel)); ⟨comp, c, k, h1, h3, h4, h5⟩)
  obtain ⟨a4, g4⟩ := st_arq (n := "java/lang/Object") (let ⟨comp, c, k, h1, _, h3, h4, h5⟩ := Cond.arrayOver_spec (hgx (.arrayOver (.object "java/lang/Object")) (by decide +kernel)); ⟨comp, c, k, h1, h3, h4, h5⟩)
  obtain ⟨a5, g5⟩ := st_arr (ty := .array .int) (fun C h => by cases h) (let ⟨comp, c, k, _, h3, h4, h5⟩ := Cond.arrayOver_specA (hgx (.arrayOver (.array .int)) (by decide +kernel)); ⟨c, k, comp, h5, h3, h4⟩)
  refine ⟨(fun k => match k with | 0 => c0 | 1 => c1 | 2 => c2 | 3 => c3 | 4 => c4 | 5 => c5 | 6 => c6 | _ => c7, fun k => match k with | 0 => i0 | 1 => i1 | 2 => i2 | 3 => i3 | 4 => i4 | 5 => i5 | 6 => i6 | _ => i7), fun k => match k with | 0 => a0 | 1 => a1 | 2 => a2 | 3 => a3 | 4 => a4 | _ => a5, fun a => ⟨fun c q hq => ?_, fun k q hk => ?_⟩⟩
  · rcases (show c = 0 ∨ c = 1 ∨ c = 2 ∨ c = 3 ∨ c = 4 ∨ c = 5 ∨ c = 6 ∨ c = 7 ∨ 8 ≤ c by omega) with h | h | h | h | h | h | h | h | h
    · subst h
      obtain rfl := Option.some.inj hq
      exact h0
    · subst h
      obtain rfl := Option.some.inj hq
      exact h1
    · subst h
      obtain rfl := Option.some.inj hq
      exact h2
    · subst h
      obtain rfl := Option.some.inj hq
      exact h3
    · subst h
      obtain rfl := Option.some.inj hq
      exact h4
    · subst h
      obtain rfl := Option.some.inj hq
      exact h5
    · subst h
      obtain rfl := Option.some.inj hq
      exact h6
    · subst h
      obtain rfl := Option.some.inj hq
      exact h7
    · rw [List.getElem?_eq_none h] at hq
      cases hq
  · rcases (show k = 0 ∨ k = 1 ∨ k = 2 ∨ k = 3 ∨ k = 4 ∨ k = 5 ∨ 6 ≤ k by omega) with h | h | h | h | h | h | h
    · subst h
      obtain rfl := Option.some.inj hk
      exact g0
    · subst h
      obtain rfl := Option.some.inj hk
      exact g1
    · subst h
      obtain rfl := Option.some.inj hk
      exact g2
    · subst h
      obtain rfl := Option.some.inj hk
      exact g3
    · subst h
      obtain rfl := Option.some.inj hk
      exact g4
    · subst h
      obtain rfl := Option.some.inj hk
      exact g5
    · rw [List.getElem?_eq_none h] at hk
      cases hk
theorem st_Ev {s : State} {args : Array Value} (hts : ∀ w ∈ lw_tbl, w.before args s = true) (hgv : (Cond.and given_1 narrow_1).before args s = true) (D : va_G) (t : Nat → ClassId) : ∃ a : Nat → Nat, a 0 = s.heap.size ∧ gEv (D, t, a) s := by
  have hs := flat_of_before _ hgv
  have hA : ∀ q : Nat, q < s.heap.size → ¬ (s.heap.size ≤ q) := fun q h => by omega
  obtain ⟨t1, ht1, hT1⟩ := va_Tof (ty := .object "java/lang/Object") (N := 0) (f := fun _ => .null) (A := fun q => s.heap.size ≤ q) (tm := .static "java/util/ArrayList" "DEFAULTCAPACITY_EMPTY_ELEMENTDATA" "[Ljava/lang/Object;") (by decide) (hs _ (by decide +kernel)) (va_eqt (hs _ (by decide +kernel))) (fun j h => absurd h (Nat.not_lt_zero j)) hA
  have hZ1 := va_Zof (A := fun q => s.heap.size ≤ q) (hts (.laysStatic "java/util/ArrayList" "DEFAULTCAPACITY_EMPTY_ELEMENTDATA" "[Ljava/lang/Object;") (List.mem_of_getElem? (i := 115) rfl)) (hts (.initialized "java/util/ArrayList") (List.mem_of_getElem? (i := 53) rfl)) ht1 hA
  obtain ⟨mi, hM⟩ := va_Mi.of (hs (.isRef (.mirror "[Ljava/lang/Object;")) (by decide +kernel))
  have hU := vx_Zqof (C := Bundle.tN) (n := "UNASSIGNED_STACK") (d := Bundle.steD) (A := fun q => s.heap.size ≤ q) (hts _ (List.mem_of_getElem? (i := 321) rfl)) (hts (.initialized "java/lang/Throwable") (List.mem_of_getElem? (i := 56) rfl)) (hs _ (by decide +kernel)) hA
  have hP := vx_Zqof (C := Bundle.tN) (n := "SUPPRESSED_SENTINEL") (d := Bundle.listD) (A := fun q => s.heap.size ≤ q) (hts _ (List.mem_of_getElem? (i := 323) rfl)) (hts (.initialized "java/lang/Throwable") (List.mem_of_getElem? (i := 56) rfl)) (hs _ (by decide +kernel)) hA
  have hN1 := va_Nc.of (hs (.not (.castable "java/lang/IllegalStateException" "java/lang/IndexOutOfBoundsException")) (by decide +kernel))
  have hN2 := va_Nc.of (hs (.not (.castable "java/lang/IllegalArgumentException" "java/lang/IndexOutOfBoundsException")) (by decide +kernel))
  have hN3 := va_Nc.of (hs (.not (.castable "java/lang/IllegalStateException" "java/lang/IllegalArgumentException")) (by decide +kernel))
  obtain ⟨c6, k6, hcur, -⟩ := Cond.instantiable_spec (hts _ (wsL_in _ ki_RX5))
  obtain ⟨str, hstr⟩ : ∃ str : Nat → Nat, ∀ (k a : Nat), (Term.string RX5 k).eval args s none [] s = some (.ref a) → str k = a := ⟨fun k => match (Term.string RX5 k).eval args s none [] s with | some (.ref a) => a | _ => 0, fun k a h => by simp only [h]⟩
  refine ⟨fun n => if n = 0 then s.heap.size else if n = 1 then t1 else if n = 2 then mi else str (n - 10), rfl, Nat.le_refl _, fun w hw => ?_, fun x hx => ?_, hM, hZ1, hT1, hU, hP, hN1, hN2, hN3⟩
  · have h0 := hts w (it_gxw w hw)
    simp only [gxw, List.mem_cons, List.not_mem_nil, or_false] at hw
    rcases hw with e | e | e | e | e | e | e | e | e | e | e | e | e | e | e | e | e | e | e | e <;> subst e
    all_goals first | exact va_Nw.of rfl h0 | exact h0
  · have h0 := hts _ (it_str _ (List.mem_map.mpr ⟨x, hx, rfl⟩))
    obtain ⟨k, cf, i, a, -, -, -, -, -, hev⟩ := Cond.stringRef_spec hcur h0
    have e1 : (if 10 + x.1 = 0 then s.heap.size else if 10 + x.1 = 1 then t1 else if 10 + x.1 = 2 then mi else str (10 + x.1 - 10)) = a := by
      rw [if_neg (by omega), if_neg (by omega), if_neg (by omega), show 10 + x.1 - 10 = x.1 by omega]
      exact hstr _ _ hev
    show vk_R RX5 x.1 x.2 (if 10 + x.1 = 0 then s.heap.size else if 10 + x.1 = 1 then t1 else if 10 + x.1 = 2 then mi else str (10 + x.1 - 10)) s
    rw [e1]
    exact vk_R.of h0 hev
theorem cm_ad {V : gV} {ad ad1 : gA} {E : gE} {T : rS} (ha : ∀ k i j : Nat, k < 30 → ad1 k i j = ad k i j) (hO : cmOK V ad T E) : cmOK V ad1 T E := by
  have a1 : ∀ i j, ad1 1 i j = ad 1 i j := fun i j => ha 1 i j (by decide)
  have a2 : ∀ i j, ad1 2 i j = ad 2 i j := fun i j => ha 2 i j (by decide)
  have a3 : ∀ i j, ad1 3 i j = ad 3 i j := fun i j => ha 3 i j (by decide)
  have a4 : ∀ i j, ad1 4 i j = ad 4 i j := fun i j => ha 4 i j (by decide)
  have a5 : ∀ i j, ad1 5 i j = ad 5 i j := fun i j => ha 5 i j (by decide)
  have a6 : ∀ i j, ad1 6 i j = ad 6 i j := fun i j => ha 6 i j (by decide)
  have a7 : ∀ i j, ad1 7 i j = ad 7 i j := fun i j => ha 7 i j (by decide)
  have a8 : ∀ i j, ad1 8 i j = ad 8 i j := fun i j => ha 8 i j (by decide)
  have a9 : ∀ i j, ad1 9 i j = ad 9 i j := fun i j => ha 9 i j (by decide)
  have a10 : ∀ i j, ad1 10 i j = ad 10 i j := fun i j => ha 10 i j (by decide)
  have a11 : ∀ i j, ad1 11 i j = ad 11 i j := fun i j => ha 11 i j (by decide)
  have a12 : ∀ i j, ad1 12 i j = ad 12 i j := fun i j => ha 12 i j (by decide)
  have a13 : ∀ i j, ad1 13 i j = ad 13 i j := fun i j => ha 13 i j (by decide)
  have a14 : ∀ i j, ad1 14 i j = ad 14 i j := fun i j => ha 14 i j (by decide)
  have a15 : ∀ i j, ad1 15 i j = ad 15 i j := fun i j => ha 15 i j (by decide)
  have a16 : ∀ i j, ad1 16 i j = ad 16 i j := fun i j => ha 16 i j (by decide)
  have a17 : ∀ i j, ad1 17 i j = ad 17 i j := fun i j => ha 17 i j (by decide)
  have a18 : ∀ i j, ad1 18 i j = ad 18 i j := fun i j => ha 18 i j (by decide)
  have a19 : ∀ i j, ad1 19 i j = ad 19 i j := fun i j => ha 19 i j (by decide)
  have a20 : ∀ i j, ad1 20 i j = ad 20 i j := fun i j => ha 20 i j (by decide)
  unfold cmOK lstOK cto cio at *
  simp only [a1, a2, a3, a4, a5, a6, a7, a8, a9, a10, a11, a12, a13, a14, a15, a16, a17, a18, a19, a20]
  exact hO
set_option maxHeartbeats 4000000 in
set_option maxRecDepth 100000 in
/-- the law from its entry -/
theorem whole_start {p : Program} {e : Env} {s : State} {m : MethodId} {below : List Frame} {meth : Method} {c : Code} (l : Launch) (hflags : l.flags = flags0) {b L : Nat} {xs : Nat → Int32} (hL : L ≤ 3584) (C0 : lw_At p s m meth c b L xs) : W p l e room_1 s m #[Value.ref b] below meth c s.heap [] 0 0 (lw_Z below #[Value.ref b] s) (entryFrame m ([Value.ref b] : List Value).toArray 8) := by
  obtain ⟨hx, hb, hr, hml, hown, htl, hX, hbl, hlk, hgv⟩ := C0
  have hST : l.stackTraces = false := by
    unfold Launch.stackTraces
    rw [hflags]
    decide
  have hts : ∀ w ∈ wsL_law, w.before #[Value.ref b] s = true := fun w hw => htl w (wsL_in w hw)
  obtain ⟨D, t, hK⟩ := st_K hts (fun w hw => htl w (it_gxw w hw))
  obtain ⟨a, ha, hE⟩ := st_Ev htl hgv D t
  have hK := hK a
  obtain ⟨V, hV⟩ : ∃ V : gV, V = (D, t, a) := ⟨_, rfl⟩
  have hV0 : V.2.2 0 = s.heap.size := by rw [hV]; exact ha
  have hC : gC p s m meth c RL cL_law 8 ret #[Value.ref b] V := ⟨hx, hb, hml, hown, hts, hr, hlk, by rw [hV]; exact hK, by rw [hV]; exact hE⟩
  have hG : gW V (fun q => s.heap.size ≤ q) s.heap (fun _ _ _ => 0) (fun _ _ _ => none) s.heap [] := ⟨⟨fun _ _ _ _ h => (by cases h), fun _ _ _ _ _ _ _ _ h _ _ => (by cases h)⟩, fun _ _ _ _ h => (by cases h), fun q h => h, fun q h => by show V.2.2 0 ≤ q; rw [hV0]; exact h, va_S.rf⟩
  suffices hgo : ∀ ls : Array Slot, lv_has ls 8 [(0, .ref b)] → W p l e room_1 s m #[Value.ref b] below meth c s.heap [] 0 0 (lw_Z below #[Value.ref b] s) (F0 m 0 ls []) by
    have hl := lv_entry [Value.ref b] (n := 8) (Nat.le_of_ble_eq_true rfl)
    rw [lg_entry_eq]
    exact hgo _ hl
  intro ls hl
  refine gk_new hC hG (ci := 6) (fs := [.null, .null, .int 0, .int 0, .int 0, .null, .int 0, .int 0, .int 0, .int 0, .long 0, .int 0, .int 0, .null]) rfl inlX5 tyX5 tyX5_ok kc_RL_8 ki_RX5 kz_RX5 (fun j hj => by rcases (show j = 0 ∨ j = 1 ∨ j = 2 ∨ j = 3 ∨ j = 4 ∨ j = 5 ∨ j = 6 ∨ j = 7 ∨ j = 8 ∨ j = 9 ∨ j = 10 ∨ j = 11 ∨ j = 12 ∨ j = 13 by omega) with h | h | h | h | h | h | h | h | h | h | h | h | h | h <;> subst h <;> rfl) (by show 0 + 1 ≤ (601024 : Nat); omega) (by show 0 + 14 ≤ (7293034 : Nat); omega) dL_law_0 0 0 0 (fun q1 ad1 E1 H aq e_1 fr1 hG => ?_)
  refine lv_dup hx hb dL_law_3 rfl ?_
  refine gc_Iv hC hG (n_tm l V ad1 E1 e_1) km_RL_61 kn_yX5_init kz_RX5 kd_yX5_init rfl dn_X5_init.2 rfl (by rw [aq]; rfl) hl.1 ⟨by decide, by decide⟩ (Nat.le_of_ble_eq_true rfl) ⟨by show 0 + 1 + 75 ≤ (601024 : Nat); omega, by show 0 + 14 + 383 ≤ (7293034 : Nat); omega⟩ dL_law_4 (fun ad2 E2 H locs p_ hG hgr => ?_)
  obtain ⟨hO, frt, a0⟩ := p_
  have a0 : ad2 0 0 0 = q1 := a0.trans aq
  refine lv_astore_n (lv' := [(1, .ref q1), (0, .ref b)]) hx hb dL_law_7 rfl hl (by decide) rfl (fun ls hl => ?_)
  refine gk_new hC hG (ci := 7) (fs := [.int 0, .int 0, .null, .null, .int 0, .null, .null, .int 0, .int 0, .int 0, .null, .null, .null, .null, .null, .null, .null, .int 0, .null, .null, .null, .null, .null, .int 0, .int 0, .int 0, .long 0, .int 0, .int 0]) rfl inlX6 tyX6 tyX6_ok kc_RL_62 ki_RX6 kz_RX6 (fun j hj => by rcases (show j = 0 ∨ j = 1 ∨ j = 2 ∨ j = 3 ∨ j = 4 ∨ j = 5 ∨ j = 6 ∨ j = 7 ∨ j = 8 ∨ j = 9 ∨ j = 10 ∨ j = 11 ∨ j = 12 ∨ j = 13 ∨ j = 14 ∨ j = 15 ∨ j = 16 ∨ j = 17 ∨ j = 18 ∨ j = 19 ∨ j = 20 ∨ j = 21 ∨ j = 22 ∨ j = 23 ∨ j = 24 ∨ j = 25 ∨ j = 26 ∨ j = 27 ∨ j = 28 by omega) with h | h | h | h | h | h | h | h | h | h | h | h | h | h | h | h | h | h | h | h | h | h | h | h | h | h | h | h | h <;> subst h <;> rfl) (by show 0 + 1 + 75 + 1 ≤ (601024 : Nat); omega) (by show 0 + 14 + 383 + 29 ≤ (7293034 : Nat); omega) dL_law_8 50 0 0 (fun q2 ad3 E3 H aq e_2 fr2 hG => ?_)
  refine lv_dup hx hb dL_law_11 rfl ?_
  refine gc_Iv hC hG (n_ref l V ad3 E3 e_2) km_RL_64 kn_yX6_init kz_RX6 kd_yX6_init rfl dn_X6_init.2 rfl (by rw [aq]; rfl) hl.1 ⟨by decide, by decide⟩ (Nat.le_of_ble_eq_true rfl) ⟨by show 0 + 1 + 75 + 1 + 16 ≤ (601024 : Nat); omega, by show 0 + 14 + 383 + 29 + 3928 ≤ (7293034 : Nat); omega⟩ dL_law_12 (fun ad4 E4 H locs p_ hG hgr => ?_)
  obtain ⟨hR, frr, a50⟩ := p_
  have a50 : ad4 50 0 0 = q2 := a50.trans aq
  refine lv_astore_n (lv' := [(2, .ref q2), (1, .ref q1), (0, .ref b)]) hx hb dL_law_15 rfl hl (by decide) rfl (fun ls hl => ?_)
  refine lv_iconst (v := nI 1) hx hb dL_law_16 (by decide) ?_
  refine gk_newa hC hG (atype := .long) (ty := .long) (t0 := 1) (a0 := (1, .inr (.inl (fun _ => 0)))) ka__long rfl rfl (fun C h => by cases h) (by rw [vp_cell_l]; rfl) (nI_pos (by decide)) (nI_clamp (by decide)) (by decide) (by show 0 + 1 + 75 + 1 + 16 + 1 ≤ (601024 : Nat); omega) (by show 0 + 14 + 383 + 29 + 3928 + 1 ≤ (7293034 : Nat); omega) dL_law_17 60 0 0 (fun q3 ad5 E5 H a60 e60 fr3 hG => ?_)
  refine lv_astore_n (lv' := [(3, .ref q3), (2, .ref q2), (1, .ref q1), (0, .ref b)]) hx hb dL_law_19 rfl hl (by decide) rfl (fun ls hl => ?_)
  refine lv_iconst (v := nI 0) hx hb dL_law_20 (by decide) ?_
  refine lv_istore (lv' := [(4, .int (nI 0)), (3, .ref q3), (2, .ref q2), (1, .ref q1), (0, .ref b)]) hx hb dL_law_21 hl (by decide) rfl (fun ls hl => ?_)
  have k2 : ∀ k i j : Nat, k < 30 → E5 k i j = E2 k i j ∧ ad5 k i j = ad2 k i j := fun k i j h => ⟨((fr3 k i j (fun z => by have := z.1; omega)).1.trans (frr k i j (by omega)).1).trans (fr2 k i j (fun z => by have := z.1; omega)).1, ((fr3 k i j (fun z => by have := z.1; omega)).2.trans (frr k i j (by omega)).2).trans (fr2 k i j (fun z => by have := z.1; omega)).2⟩
  have k4 : ∀ k i j : Nat, k = 50 ∨ k = 51 → E5 k i j = E4 k i j ∧ ad5 k i j = ad4 k i j := fun k i j h => fr3 k i j (fun z => by have := z.1; omega)
  have hO5 : cmOK V ad5 s_0 E5 := cm_ext (fun k i j h => (k2 k i j h).1) (cm_ad (fun k i j h => (k2 k i j h).2) hO)
  have hR5 : rfOK V ad5 s_0 E5 := rf_ext k4 hR
  have h52 : ∀ i j, E5 52 i j = none := fun i j => ((fr3 52 i j (fun z => by have := z.1; omega)).1.trans (frr 52 i j (by omega)).1).trans ((fr2 52 i j (fun z => by have := z.1; omega)).1.trans ((frt 52 i j (by omega)).1.trans (fr1 52 i j (fun z => by have := z.1; omega)).1))
  have hl : lv_has ls 8 [(4, .int (nI 0)), (3, .ref (ad5 60 0 0)), (2, .ref (ad5 50 0 0)), (1, .ref (ad5 0 0 0)), (0, .ref b)] := by rw [a60, (k4 50 0 0 (Or.inl rfl)).2, a50, (k2 0 0 0 (by omega)).2, a0]; exact hl
  exact lw_loop hC hST hX hbl hL (by decide) (by decide) ⟨ad5, E5, s_0, s_0, 0, 0, fun _ => 0, hG, hO5, hR5, e60, h52, Inv_start, lv_sub hl [4, 3, 2, 1, 0] rfl⟩
set_option maxHeartbeats 4000000 in
theorem lw_walk (l : Launch) (hflags : l.flags = flags0) (b : Addr) (xs : List Int32) : MetFree l x (headSpec (Jvm.Cond.code x code maxLocals ret :: tables_1) room_1) (lw_P b xs) (fun _ _ _ _ _ => True) lw_Q := by
  refine MetFree.of_bodyS (code := code) (maxLocals := maxLocals) (ret := ret) (by decide) ?_ ?_
  · intro args s m h hn
    obtain ⟨meth, c, h1, h2, h3, h4, h5, h6, -, -⟩ := Cond.code_spec hn (atoms_spec (ws := Jvm.Cond.code x code maxLocals ret :: tables_1) h _ List.mem_cons_self)
    exact ⟨meth, c, h1, h2, h3, h4, h5, h6⟩
  · intro p e s m args below meth c s₁ B hml0 hP _
    obtain ⟨rfl, hx, hbd, hgv⟩ := hP
    obtain ⟨scr, harrAt, hlist, hof, hsmall⟩ := hx
    obtain ⟨hcb, hkn, -, -⟩ := State.arrayAt?_spec harrAt
    have hown : s.vm.findClass R_law = some m.cls := findClass_of_methodNamed B.named
    have hts0 : ∀ c ∈ (Jvm.Cond.code x code maxLocals ret :: tables_1), c.before #[Value.ref b] s = true := atoms_spec (ws := Jvm.Cond.code x code maxLocals ret :: tables_1) B.pre
    have hts : ∀ w ∈ lw_tbl, w.before #[Value.ref b] s = true := k2_hts_sels lw_privs (fun w hw => hts0 w (List.mem_cons_of_mem _ hw)) lw_privs_ok
    have hml : c.maxLocals = 8 := B.maxLocals_eq (hts0 _ List.mem_cons_self)
    have X₀ : Stand p l e room_1 s m #[Value.ref b] below meth c s₁ [] 0 0 := Stand.of_body B
    have hh0 : s₁.heap = s.heap := by rw [B.state]; rfl
    have hsz : scr.slots.size = xs.length := by rw [← Array.length_toList, hlist, List.length_map]
    have hval : ∀ j : Nat, j < xs.length → scr.slots[j]? = some (.int (xs.getD j 0)) := fun j hj => by
      rw [← Array.getElem?_toList, hlist]
      simp [hj]
    have hbl : b < s.heap.size := (Array.getElem?_eq_some_iff.mp hcb).1
    have hX : va_X b xs.length (fun j => xs.getD j 0) s s.heap := ⟨scr, hcb, hof, hkn, hsz, hval⟩
    have K : W p l e room_1 s m #[Value.ref b] below meth c s₁.heap [] 0 0 (lw_Z below #[Value.ref b] s) (entryFrame m ([Value.ref b] : List Value).toArray 8) := by
      rw [hh0]
      exact whole_start l hflags hbd ⟨B.exec, B.bytes, B.returns, hml, hown, hts, hX, hbl, B.notSynchronized, hgv⟩
    obtain ⟨t, a1, o, b1, b2, b3⟩ := K s₁ rfl X₀
    exact ⟨t, o, a1, b1, b2, b3⟩
theorem lw_pre_spec {args : Array Value} {s : State} (h : (Jvm.Cond.and given_1 narrow_1).before args s = true) (hr : rest_1_c.before args s = true) : ∃ (b : Addr) (xs : List Int32), lw_P b xs args s := by
  have hs := flat_of_before _ h
  have hq := flat_of_before _ hr
  have hc : (Cond.count 1).before args s = true := hs _ (by decide +kernel)
  have harr : (Cond.arrayOf (.arg 0) .int).before args s = true := hs _ (by decide +kernel)
  have hle : (Cond.le (.length (.arg 0)) (.int 3584)).before args s = true := hs _ (by decide +kernel)
  have hlen : (Cond.isInt (.length (.arg 0))).before args s = true := hq _ (by decide +kernel)
  have hall : (Cond.all (.arg 0) (.isInt (.elem (.arg 0) (.index 0)))).before args s = true := hq _ (by decide +kernel)
  obtain ⟨b, xs, hb, hx⟩ := State.ints_of_pre rfl harr hlen hall
  have hsm : xs.length < 2 ^ 31 := hx.choose_spec.2.2.2
  have hev : (Term.length (.arg 0)).eval args s none [] s = some (.int xs.length.toInt32) := hx.length_eval hb
  have hv := Cond.le_ints hev (show (Term.int 3584).eval args s none [] s = some (.int 3584) from rfl)
  have hd : xs.length.toInt32 ≤ 3584 := by
    simpa [Cond.before, Cond.holds, hv] using hle
  have hN : xs.length ≤ 3584 := (Int32.ofNat_le_ofNat hsm (by decide)).mp (show Int32.ofNat xs.length ≤ Int32.ofNat 3584 from hd)
  exact ⟨b, xs, Cond.one_arg hc (show args[0]? = some (.ref b) from hb), hx, hN, h⟩
theorem lw_comes (l : Launch) (hflags : l.flags = flags0) : Comes l x (Jvm.Cond.code x code maxLocals ret :: tables_1) room_1 (fun tb e args s => Calls_1 tb e args s ∧ rest_1 tb e args s ∧ Pre_1 tb e args s)
    (fun _ _ args s o t => lw_Q args s o t) := by
  intro p e ha hc hk s m args below hf hfit hheap happ hpre
  obtain ⟨b, xs, hP⟩ := lw_pre_spec hpre.2.2 hpre.2.1
  obtain ⟨k, o, h1, h2, h3, hQ⟩ := lw_walk l hflags b xs p e ha hc hk s m args below hf ((Spec.applies_iff_loose hf).mp happ).1 hP trivial
  exact ⟨k, o, h1, h2, h3, hQ⟩
theorem lw_frame {s t : State} {o : Outcome} {args : Array Value} (h : Framed s o t [] 601024 7293034) :
    Framed s o t (fieldLocs frame_1_writes args s ++ arrayLocs frame_1_arrays args s ++ staticLocs frame_1_statics s) 601024 7293034 := h
theorem lw_limb (L : Cond) (hL : ∀ (args : Array Value) (s t : State), L.after args s (.returned (some (.int 1))) t = true) :
    ArmFor flags0 classFile x code maxLocals ret World_1 tables_1 room_1 Calls_1 rest_1 Pre_1
      (fun tb e a s o t => postC L tb e a s o t ∧ Framed s o t (fieldLocs frame_1_writes a s ++ arrayLocs frame_1_arrays a s ++ staticLocs frame_1_statics s) 601024 7293034) := by
  intro l hflags _ _ p e ha hc hk s m args below hf hfit hheap happ hpre
  obtain ⟨k, o, h1, h2, h3, rfl, hF⟩ := lw_comes l hflags p e ha hc hk s m args below hf hfit hheap happ hpre
  exact ⟨k, _, h1, h2, h3, hL args s _, lw_frame hF⟩
theorem i_vc : Claimed_1_1 ∧ Claimed_1_2 := ⟨lw_limb limb_1_1 (fun args s t => by simp [limb_1_1, Cond.after, Cond.holds, Cond.value]), lw_limb limb_1_2 (fun args s t => Cond.after_iff.mpr (by
  first | (rw [show limb_1_2 = Cond.eq .result (.int 1) from rfl, Cond.eq_ints (x := 1) (y := 1) rfl rfl]; simp; done) | (simp [limb_1_2, Cond.value, Term.eval]; done)))⟩
