section GR2
variable {p : Program} {l : Launch} {e : Env} {R : Room} {s : State} {m : MethodId} {args : Array Value} {below : List Frame} {meth : Method} {c : Code} {H : Heap} {locs : List Loc} {cells slots : Nat} {Q : State → Prop}
variable {cc : ByteArray} {pc nL : Nat} {ls : Array Slot} {rest : List Value} {V : gV} {A : Nat → Prop} {H0 : Heap} {ad : gA} {E : gE} {own : String} {ret : Option FieldType}
theorem gq_aldA (hC : gC p s m meth c own cc nL ret args V) (hG : gW V A H0 ad E H locs) {k i j n : Nat} {f : Nat → Option Nat} (he : E k i j = some (.inl (V.2.1 5, n, .inr (.inr (.inr (.inr f)))))) {x : Int32} (hin : vp_in x n) (hdg : decode cc pc = .ok (.aaload, 1))
    (kk : W p l e R s m args below meth c H locs cells slots Q (F0 m (pc + 1) ls (va_rf (f x.toNatClampNeg) :: rest))) : W p l e R s m args below meth c H locs cells slots Q (F0 m pc ls (.int x :: .ref (ad k i j) :: rest)) := by
  have hlt : x.toNatClampNeg < n := Nat.not_le.mp fun q => hin (Or.inr q)
  exact W.aald (v := va_rf (f x.toNatClampNeg)) (ty := .array .int) hC.1 hC.2.1 (hG.1.1 _ _ _ _ he) ((hC.2.2.2.2.2.2.2.1.2 5 _ rfl).1 n (fun j => va_rf (f j))) rfl (fun q => by cases q) (by show ¬ (x < 0 ∨ (arrV _ _ _).slots.size ≤ _); rw [arrV_size]; exact hin) (by show (arrV _ _ _).slots[_]? = _; rw [arrV_read _ _ hlt]) rfl rfl hdg kk
theorem gq_cast (hC : gC p s m meth c own cc nL ret args V) (hG : gW V A H0 ad E H locs) {k i j ci index : Nat} {q : vw_C} {fs : List Value} (he : E k i j = some (.inr (ci, fs))) (hc : vwCl[ci]? = some q) (hl : Cond.classLink own index q.1 ∈ wsL_law) (hdg : decode cc pc = .ok (.checkcast index, 3))
    (kk : W p l e R s m args below meth c H locs cells slots Q (F0 m (pc + 3) ls (.ref (ad k i j) :: rest))) : W p l e R s m args below meth c H locs cells slots Q (F0 m pc ls (.ref (ad k i j) :: rest)) :=
  va_castS hC.1 hC.2.1 hC.2.2.2.1 (hC.2.2.2.2.1 _ hl) (hC.2.2.2.2.2.2.2.1.1 ci q hc).2 (g_recv hC hG he hc) hdg kk
/-- into an array of objects; the value is an object of a known class -/
theorem gq_ast (hC : gC p s m meth c own cc nL ret args V) (hG : gW V A H0 ad E H locs) {k i j n t0 : Nat} {C : String} {cA : ClassId} {f : Nat → Option Nat} (he : E k i j = some (.inl (cA, n, .inr (.inr (.inr (.inr f)))))) (ht : (gT V)[t0]? = some (cA, .object C)) {k2 i2 j2 ci : Nat} {r : vw_C} {vs : List Value} (hv : E k2 i2 j2 = some (.inr (ci, vs))) (hc : vwCl[ci]? = some r) (hca : r.1 = C ∨ Cond.castable r.1 C ∈ gxw) {x : Int32} (hin : vp_in x n) (hdg : decode cc pc = .ok (.aastore, 1))
    (kk : ∀ (H1 : Heap) (locs1 : List Loc), gW V A H0 ad (gu E k i j (.inl (cA, n, .inr (.inr (.inr (.inr (va_up f x.toNatClampNeg (some (ad k2 i2 j2))))))))) H1 locs1 → W p l e R s m args below meth c H1 locs1 cells slots Q (F0 m (pc + 1) ls rest)) : W p l e R s m args below meth c H locs cells slots Q (F0 m pc ls (.ref (ad k2 i2 j2) :: .int x :: .ref (ad k i j) :: rest)) := by
  have hlt : x.toNatClampNeg < n := Nat.not_le.mp fun q => hin (Or.inr q)
  have h0 : ¬ x < 0 := fun q => hin (Or.inl q)
  have hK := hC.2.2.2.2.2.2.2.1
  obtain ⟨r', hr', cellV, g1, g2, g3, -⟩ := hG.1.1 _ _ _ _ hv
  have hcls := (hK.1 ci r hc).2
  obtain ⟨kA, comp, k1, k2, k3, -⟩ := (hK.2 t0 _ ht).2
  obtain ⟨kE, hkE, -⟩ := Vm.findClass_spec k3
  have hass : s.vm.assignable cellV.cls comp = true := by
    rcases hca with h | h
    · subst h
      have : comp = V.1.1 ci := Option.some.inj (k3.symm.trans hcls.1)
      rw [g2, this]
      exact va_assign hcls
    · obtain ⟨c0, t1, f1, f2, f3⟩ := Cond.castable_spec (va_Nw.use (A := args) rfl (hC.2.2.2.2.2.2.2.2.2.1 _ h))
      cases hcls.1.symm.trans f1
      cases k3.symm.trans f2
      rw [g2]
      exact f3
  obtain ⟨kC, hkC, -⟩ := hcls.2
  refine W.aast hC.1 hC.2.1 (hG.1.1 _ _ _ _ he) (fun q h => by cases h) (fun h => by cases h) k1 k2 rfl hkE ⟨h0, by show _ < (arrV _ _ _).slots.size; rw [arrV_size]; exact hlt⟩ g1 (fun q h => by rw [g3] at h; cases h) (by rw [g2]; exact hkC) hass rfl rfl hdg fun H1 e z oq => ?_
  refine kk H1 _ (hG.put he ?_ z oq)
  show H1[ad k i j]? = some (vp_cell _ _)
  rw [e, vp_cell_q, vp_cell_q, arrV_store]
  congr 2
  funext q
  by_cases hq : q = x.toNatClampNeg
  · subst hq
    simp [updV, va_up, va_rf]
  · simp [updV, va_up, hq]
theorem gq_newq (hC : gC p s m meth c own cc nL ret args V) (hG : gW V A H0 ad E H locs) {C : String} {index t0 : Nat} {cB : ClassId} (hcl : Cond.classLink own index C ∈ wsL_law) (hov : Cond.arrayOver (.object C) ∈ gxw) (ht : (gT V)[t0]? = some (cB, .object C)) {N' : Nat} (hN : N' ≤ 100) (hcells : cells + 1 ≤ R.cells) (hslots : slots + N' ≤ R.slots) (hdg : decode cc pc = .ok (.anewarray index, 3)) (k i j : Nat)
    (kk : ∀ (H1 : Heap), H1.size = H.size + 1 → gW V A H0 (gau ad k i j H.size) (gu E k i j (.inl (cB, N', .inr (.inr (.inr (.inr (fun _ => none))))))) H1 locs → W p l e R s m args below meth c H1 locs (cells + 1) (slots + N') Q (F0 m (pc + 3) ls (.ref H.size :: rest))) : W p l e R s m args below meth c H locs cells slots Q (F0 m pc ls (.int (nI N') :: rest)) := by
  have e31 : (nI N').toNatClampNeg = N' := nI_clamp (by omega)
  refine W.anew hC.1 hC.2.1 hC.2.2.2.1 (hC.2.2.2.2.1 _ hcl) (va_AO.use (hC.2.2.2.2.2.2.2.2.2.1 _ hov)) rfl hdg rfl (nI_pos (by omega)) (by rw [e31]; omega) hcells (by rw [e31]; exact hslots) fun cA kA comp f1 f2 f3 f4 => ?_
  rw [e31] at *
  generalize hH1 : H.push ({ cls := cA, slots := Array.replicate N' .null, vm := .none } : Cell) = H1
  have z1 : H1.size = H.size + 1 := by rw [← hH1, Array.size_push]
  have e1 : H1[H.size]? = some (arrV cA N' (fun _ => .null)) := by rw [← hH1, Array.getElem?_push_size, ← arrV_new]
  have o1 : ∀ q : Nat, q < H.size → H1[q]? = H[q]? := fun q hq => by rw [← hH1, Array.getElem?_push, if_neg (Nat.ne_of_lt hq)]
  have hc : cA = cB := by
    obtain ⟨_, _, -, -, -, g4⟩ := (hC.2.2.2.2.2.2.2.1.2 t0 _ ht).2
    exact Option.some.inj (f1.symm.trans g4)
  subst hc
  refine kk H1 z1 (hG.new rfl ?_ (by omega) o1)
  show H1[H.size]? = some (vp_cell _ _)
  rw [vp_cell_q]
  exact e1
theorem gq_empty (hC : gC p s m meth c own cc nL ret args V) (hG : gW V A s.heap ad E H locs) {index : Nat} (hl : Cond.fieldLink own index "java/util/ArrayList" "DEFAULTCAPACITY_EMPTY_ELEMENTDATA" "[Ljava/lang/Object;" ∈ wsL_law) (hdg : decode cc pc = .ok (.getstatic index, 3))
    (kk : W p l e R s m args below meth c H locs cells slots Q (F0 m (pc + 3) ls (.ref (V.2.2 1) :: rest))) : W p l e R s m args below meth c H locs cells slots Q (F0 m pc ls rest) :=
  va_gets hC.1 hC.2.1 (hC.2.2.2.2.2.2.2.2.2.2.2.2.1.narrow hG.2.2.2.1) hG.2.2.2.2 hC.2.2.2.1 (hC.2.2.2.2.1 _ hl) (fun _ h => h) hdg kk
theorem gq_elen (hC : gC p s m meth c own cc nL ret args V) (hG : gW V A s.heap ad E H locs) (hdg : decode cc pc = .ok (.arraylength, 1))
    (kk : W p l e R s m args below meth c H locs cells slots Q (F0 m (pc + 1) ls (.int (nI 0) :: rest))) : W p l e R s m args below meth c H locs cells slots Q (F0 m pc ls (.ref (V.2.2 1) :: rest)) :=
  va_tlen hC.1 hC.2.1 (hC.2.2.2.2.2.2.2.2.2.2.2.2.2.1.narrow hG.2.2.2.1) hG.2.2.2.2 rfl hdg kk
/-- System.arraycopy between two int rows of ours -/
theorem gq_copyi (hC : gC p s m meth c own cc nL ret args V) (hG : gW V A H0 ad E H locs) {index : Nat} (k1 : Cond.methodLink own index arraycopyName ∈ wsL_law) (k2 : Cond.native arraycopyName ∈ wsL_law) (k3 : Cond.static arraycopyName ∈ wsL_law) (k4 : Cond.initialized "java/lang/System" ∈ wsL_law) (hsz : ls.size = nL) {ka ia ja kb ib jb n0 n1 : Nat} {f g : Nat → Int32} (ha : E ka ia ja = some (.inl (V.2.1 0, n0, .inl f))) (hb1 : E kb ib jb = some (.inl (V.2.1 0, n1, .inl g))) {n : Nat} (hn : n < 2 ^ 31) (h4 : n ≤ n0) (h5 : n ≤ n1) (hframes : 1 ≤ R.frames) (hlocals : (rest.map fun v => v.category).sum + (nativeFrameWords "java/lang/System" "arraycopy" 5 + 11) ≤ R.locals) (hdg : decode cc pc = .ok (.invokestatic index, 3))
    (kk : ∀ (H1 : Heap) (locs1 : List Loc), gW V A H0 ad (gu E kb ib jb (.inl (V.2.1 0, n1, .inl (fun q => if q < n then f q else g q)))) H1 locs1 → W p l e R s m args below meth c H1 locs1 cells slots Q (F0 m (pc + 3) ls rest)) : W p l e R s m args below meth c H locs cells slots Q (F0 m pc ls (.int (nI n) :: .int (nI 0) :: .ref (ad kb ib jb) :: .int (nI 0) :: .ref (ad ka ia ja) :: rest)) := by
  obtain ⟨hexec, hb, hml, hown, hts, hr, hlocks, hK, hEv⟩ := hC
  have e0 : (nI 0).toNatClampNeg = 0 := rfl
  have en : (nI n).toNatClampNeg = n := nI_clamp hn
  have i0 : (nI 0).toInt = 0 := rfl
  have inn : (nI n).toInt = (n : Int) := nI_toInt hn
  intro T hT X
  have hc0 : H[ad ka ia ja]? = some (vp_cell (V.2.1 0) (n0, .inl f)) := hG.1.1 _ _ _ _ ha
  have hc1 : H[ad kb ib jb]? = some (vp_cell (V.2.1 0) (n1, .inl g)) := hG.1.1 _ _ _ _ hb1
  obtain ⟨-, k0, hk0, cm0, hkk0⟩ := (hK.2 0 _ rfl).1 n0 (fun j => .int (f j))
  obtain ⟨-, k1', hk1, cm1, hkk1⟩ := (hK.2 0 _ rfl).1 n1 (fun j => .int (g j))
  obtain ⟨vm', X', step⟩ := X.arraycopy hexec hown (hts _ k1) (hts _ k2) (hts _ k3) (hts _ k4) (src := ad ka ia ja) (dst := ad kb ib jb) (cs := vp_cell (V.2.1 0) (n0, .inl f)) (cd := vp_cell (V.2.1 0) (n1, .inl g)) (srcPos := nI 0) (destPos := nI 0) (n := nI n) (by rw [hT]; exact hc0) (by rw [hT]; exact hc1)
    (fun _ h => by cases h) (fun _ h => by cases h) (fun h => by cases h) (fun h => by cases h) hk0 hk1 hkk0 hkk1 (by simp [refKind]) (nI_pos (by decide)) (nI_pos (by decide)) (nI_pos hn)
    (by rw [i0, inn]; show ¬ _ > ((arrV (V.2.1 0) n0 (fun j => .int (f j))).slots.size : Int); rw [arrV_size]; omega)
    (by rw [i0, inn]; show ¬ _ > ((arrV (V.2.1 0) n1 (fun j => .int (g j))).slots.size : Int); rw [arrV_size]; omega)
    (fun vm₁ _ i hi => by
      have e : (vp_cell (V.2.1 0) (n0, .inl f)).slots.getD ((nI 0).toNatClampNeg + i) .null = .int (f ((nI 0).toNatClampNeg + i)) := by
        show (arrV (V.2.1 0) n0 (fun j => .int (f j))).slots.getD _ _ = _
        rw [Array.getD_eq_getD_getElem?, arrV_read _ _ (by rw [en] at hi; rw [e0]; omega)]
        rfl
      refine ⟨?_, ?_⟩
      · rw [e]
        rfl
      · rw [e]
        exact trivial)
    (g := F0 m pc ls (.int (nI n) :: .int (nI 0) :: .ref (ad kb ib jb) :: .int (nI 0) :: .ref (ad ka ia ja) :: rest)) rfl (by rw [hml]; exact hsz) (rest := rest) rfl (by rw [hb]; exact hdg) hframes (by show 2 * 0 + _ + _ ≤ _; omega)
  have e1 : copied (vp_cell (V.2.1 0) (n0, .inl f)) (vp_cell (V.2.1 0) (n1, .inl g)) (nI 0) (nI 0) (nI n) = vp_cell (V.2.1 0) (n1, .inl (va_cpy f g (nI 0).toNatClampNeg (nI 0).toNatClampNeg (nI n).toNatClampNeg)) := va_copied (fun z => .int z) (V.2.1 0) (V.2.1 0) f g (by rw [e0, en]; omega)
  have e2 : va_cpy f g (nI 0).toNatClampNeg (nI 0).toNatClampNeg (nI n).toNatClampNeg = (fun q => if q < n then f q else g q) := by
    funext q
    rw [e0, en]
    unfold va_cpy
    by_cases hq : q < n
    · rw [if_pos ⟨Nat.zero_le _, by omega⟩, if_pos hq]
      simp
    · rw [if_neg (by omega), if_neg hq]
  rw [e1, e2] at X' step
  generalize hcell : vp_cell (V.2.1 0) (n1, .inl (fun q => if q < n then f q else g q)) = cellN at X' step
  have hl : ad kb ib jb < H.size := (Array.getElem?_eq_some_iff.mp hc1).1
  have hheap : ((T.setVm vm').setCell (ad kb ib jb) cellN).heap = H.setIfInBounds (ad kb ib jb) cellN := by rw [← hT]; rfl
  have oq : ∀ q : Nat, q ≠ ad kb ib jb → (H.setIfInBounds (ad kb ib jb) cellN)[q]? = H[q]? := fun q hq => by simp [Array.getElem?_setIfInBounds, Ne.symm hq]
  have hP1 := hG.1.put (e := .inl (V.2.1 0, n1, .inl (fun q => if q < n then f q else g q))) hb1 (show (H.setIfInBounds (ad kb ib jb) cellN)[ad kb ib jb]? = some (vp_cell _ _) by rw [hcell]; simp [Array.getElem?_setIfInBounds, hl]) oq
  have hAb := hG.2.1 _ _ _ _ hb1
  obtain ⟨t, a1, b1⟩ := kk _ _ ⟨hP1, fun k' i' j' e' h => by
      by_cases hq : k' = kb ∧ i' = ib ∧ j' = jb
      · obtain ⟨rfl, rfl, rfl⟩ := hq
        exact hAb
      · rw [gu_ne hq] at h
        exact hG.2.1 _ _ _ _ h, hG.2.2.1, hG.2.2.2.1, ⟨by simp; exact hG.2.2.2.2.1, fun q g1 g2 => by
      rw [oq q (fun e => g2 (by rw [e]; exact hAb))]
      exact hG.2.2.2.2.2.1 q g1 g2, fun q hq => by
      rcases List.mem_append.mp hq with h | h
      · exact hG.2.2.2.2.2.2 q h
      · obtain ⟨z, -, hz⟩ := List.mem_map.mp h
        rw [← hz]
        exact hAb⟩⟩ _ hheap X'
  exact ⟨t, step t a1, b1⟩
end GR2
