section GR
variable {p : Program} {l : Launch} {e : Env} {R : Room} {s : State} {m : MethodId} {args : Array Value} {below : List Frame} {meth : Method} {c : Code} {H : Heap} {locs : List Loc} {cells slots : Nat} {Q : State → Prop}
variable {cc : ByteArray} {pc nL : Nat} {ls : Array Slot} {rest : List Value} {V : gV} {A : Nat → Prop} {H0 : Heap} {ad : gA} {E : gE} {own : String} {ret : Option FieldType}
theorem gP.one {k i j : Nat} {x : va_E} (h : gP V ad E H) (he : E k i j = some x) : va_P V.1 vwCl [(ad k i j, x)] H := by
  intro n q hq
  have hz : n < 1 := (List.getElem?_eq_some_iff.mp hq).1
  rw [show n = 0 by omega] at hq
  cases hq
  exact h.1 _ _ _ _ he
theorem gq_get (hC : gC p s m meth c own cc nL ret args V) (hG : gW V A H0 ad E H locs) {ref C : String} {T : u_T} {N ci index k i j : Nat} {fs : List Value} (he : E k i j = some (.inr (ci, fs))) (hc : vwCl[ci]? = some (C, T, N)) (hin : ∀ w ∈ u_ws C T N, w ∈ wsL_law) (f : Nat) (hf : f < N) (hlink : Cond.fieldLink own index ref (T f).2.1 (T f).2.2.1 ∈ wsL_law) (hsame : ∀ x, s.fieldFound? (T f).1 (T f).2.1 (T f).2.2.1 = some x → s.fieldFound? ref (T f).2.1 (T f).2.2.1 = some x) {v : Value} (hv : fs[f]? = some v) (hdg : decode cc pc = .ok (.getfield index, 3))
    (kk : W p l e R s m args below meth c H locs cells slots Q (F0 m (pc + 3) ls (v :: rest))) : W p l e R s m args below meth c H locs cells slots Q (F0 m pc ls (.ref (ad k i j) :: rest)) :=
  va_get hC.1 hC.2.1 hC.2.2.2.2.1 hin hC.2.2.2.1 hC.2.2.2.2.2.2.2.1 (hG.1.one he) 0 rfl hc f hf (hC.2.2.2.2.1 _ hlink) hsame hv hdg kk
theorem gq_put (hC : gC p s m meth c own cc nL ret args V) (hG : gW V A H0 ad E H locs) {ref C : String} {T : u_T} {N ci index k i j : Nat} {fs : List Value} (he : E k i j = some (.inr (ci, fs))) (hc : vwCl[ci]? = some (C, T, N)) (hin : ∀ w ∈ u_ws C T N, w ∈ wsL_law) (ty0 : Nat → FieldType) (hty : ∀ k, k < N → parseFieldDescriptor (T k).2.2.1 = some (ty0 k)) (hnm : ∀ a, a < N → ∀ b, b < N → a ≠ b → (T a).2.1 ≠ (T b).2.1) (f : Nat) (hf : f < N) (hlink : Cond.fieldLink own index ref (T f).2.1 (T f).2.2.1 ∈ wsL_law) (hsame : ∀ x, s.fieldFound? (T f).1 (T f).2.1 (T f).2.2.1 = some x → s.fieldFound? ref (T f).2.1 (T f).2.2.1 = some x) (hfin : (T f).2.2.2 = false) {v : Value} (hn : narrow (ty0 f) v = v) (hfit : fits (ty0 f) v = true) (hl : f < fs.length) (hdg : decode cc pc = .ok (.putfield index, 3))
    (kk : ∀ (H1 : Heap) (locs1 : List Loc), gW V A H0 ad (gu E k i j (.inr (ci, fs.set f v))) H1 locs1 → W p l e R s m args below meth c H1 locs1 cells slots Q (F0 m (pc + 3) ls rest)) : W p l e R s m args below meth c H locs cells slots Q (F0 m pc ls (v :: .ref (ad k i j) :: rest)) := by
  obtain ⟨hexec, hb, hml, hown, hts, hr, hlocks, hK, hEv⟩ := hC
  have hap := va_apart (own := own) hts hin ty0 hty hnm hK hc
  obtain ⟨r, h1, cell, q1, q2, q3, q4⟩ := hG.1.1 _ _ _ _ he
  have hr : r = (C, T, N) := Option.some.inj (h1.symm.trans hc)
  subst hr
  obtain ⟨hS, hfc, kC, hkC, hkind⟩ := hK.1 ci _ hc
  obtain ⟨cf, kf, fi, f', hi, hsl⟩ := hS f hf
  have hlay := hts _ (hin _ (u_in_lay hf))
  unfold u_lay at hlay
  rw [if_neg (by rw [hfin]; decide)] at hlay
  have hst := (u_facts hfc hkC (u_lays hts hin hf) hi).1
  have h6 := u_store hfc hkC hkind hlay hi (hty f hf) hn hfit
  refine W.putK hexec hb (f := f') ⟨hown, hts _ hlink, ⟨_, _, _, hsame _ hi⟩, hst⟩ (by rw [q2]; exact h6) q1 q3 (by rw [hsl]; exact k2_hasslot (q4 f hf)) rfl rfl hdg fun H' e1 e2 e3 => ?_
  rw [hsl] at e1 ⊢
  exact kk H' _ (hG.put he ⟨_, hc, t_OB.to (V := updV (vp_V fs) f v) ⟨_, e1, q2, q3, t_set q4 hap hf v⟩ (fun j _ => vp_updV_set hl v j)⟩ e2 e3)
theorem gq_putF (hC : gC p s m meth c own cc nL ret args V) (hG : gW V A H0 ad E H locs) {ref C : String} {T : u_T} {N ci index k i j : Nat} {fs : List Value} (he : E k i j = some (.inr (ci, fs))) (hc : vwCl[ci]? = some (C, T, N)) (hin : ∀ w ∈ u_ws C T N, w ∈ wsL_law) (ty0 : Nat → FieldType) (hty : ∀ k, k < N → parseFieldDescriptor (T k).2.2.1 = some (ty0 k)) (hnm : ∀ a, a < N → ∀ b, b < N → a ≠ b → (T a).2.1 ≠ (T b).2.1) (f : Nat) (hf : f < N) (hlink : Cond.fieldLink own index ref (T f).2.1 (T f).2.2.1 ∈ wsL_law) (hsame : ∀ x, s.fieldFound? (T f).1 (T f).2.1 (T f).2.2.1 = some x → s.fieldFound? ref (T f).2.1 (T f).2.2.1 = some x) (hfin : (T f).2.2.2 = true) (hin2 : meth.name = "<init>") (hdecl : (T f).1 = own) {v : Value} (hn : narrow (ty0 f) v = v) (hfit : fits (ty0 f) v = true) (hl : f < fs.length) (hdg : decode cc pc = .ok (.putfield index, 3))
    (kk : ∀ (H1 : Heap) (locs1 : List Loc), gW V A H0 ad (gu E k i j (.inr (ci, fs.set f v))) H1 locs1 → W p l e R s m args below meth c H1 locs1 cells slots Q (F0 m (pc + 3) ls rest)) : W p l e R s m args below meth c H locs cells slots Q (F0 m pc ls (v :: .ref (ad k i j) :: rest)) := by
  obtain ⟨hexec, hb, hml, hown, hts, hr, hlocks, hK, hEv⟩ := hC
  have hap := va_apart (own := own) hts hin ty0 hty hnm hK hc
  obtain ⟨r, h1, cell, q1, q2, q3, q4⟩ := hG.1.1 _ _ _ _ he
  have hr : r = (C, T, N) := Option.some.inj (h1.symm.trans hc)
  subst hr
  obtain ⟨hS, hfc, kC, hkC, hkind⟩ := hK.1 ci _ hc
  obtain ⟨cf, kf, fi, f', hi, hsl⟩ := hS f hf
  have hlay := hts _ (hin _ (u_in_lay hf))
  unfold u_lay at hlay
  rw [if_pos hfin] at hlay
  have hst := (u_facts hfc hkC (u_lays hts hin hf) hi).1
  have hcf : m.cls = cf := by
    obtain ⟨_, _, c', _, _, _, -, -, hf', -, -, -, hown2, -⟩ := Cond.laysFinal_spec hlay
    have e1 : c' = cf := by have := hi.symm.trans hf'; simp at this; exact this.1.symm
    rw [hdecl] at hown2
    rw [← e1]; exact Option.some.inj (hown.symm.trans hown2)
  have h6 := u_fits hfc hkC hkind (Or.inr hlay) hi (hty f hf) hn hfit
  refine W.putFinK hexec hb hown (hts _ hlink) (hsame _ hi) hst hcf hin2 (by rw [q2]; exact h6) q1 q3 (by rw [hsl]; exact k2_hasslot (q4 f hf)) rfl rfl hdg fun H' e1 e2 e3 => ?_
  rw [hsl] at e1 ⊢
  exact kk H' _ (hG.put he ⟨_, hc, t_OB.to (V := updV (vp_V fs) f v) ⟨_, e1, q2, q3, t_set q4 hap hf v⟩ (fun j _ => vp_updV_set hl v j)⟩ e2 e3)
theorem gq_iald (hC : gC p s m meth c own cc nL ret args V) (hG : gW V A H0 ad E H locs) {k i j n : Nat} {f : Nat → Int32} (he : E k i j = some (.inl (V.2.1 0, n, .inl f))) {x : Int32} (hin : vp_in x n) (hdg : decode cc pc = .ok (.iaload, 1))
    (kk : W p l e R s m args below meth c H locs cells slots Q (F0 m (pc + 1) ls (.int (f x.toNatClampNeg) :: rest))) : W p l e R s m args below meth c H locs cells slots Q (F0 m pc ls (.int x :: .ref (ad k i j) :: rest)) :=
  va_iald hC.1 hC.2.1 hC.2.2.2.2.2.2.2.1 (hG.1.one he) 0 0 rfl rfl hin hdg kk
theorem gq_zald (hC : gC p s m meth c own cc nL ret args V) (hG : gW V A H0 ad E H locs) {k i j n : Nat} {f : Nat → Int32} (he : E k i j = some (.inl (V.2.1 2, n, .inl f))) {x : Int32} (hin : vp_in x n) (hdg : decode cc pc = .ok (.baload, 1))
    (kk : W p l e R s m args below meth c H locs cells slots Q (F0 m (pc + 1) ls (.int (f x.toNatClampNeg) :: rest))) : W p l e R s m args below meth c H locs cells slots Q (F0 m pc ls (.int x :: .ref (ad k i j) :: rest)) :=
  va_zald hC.1 hC.2.1 hC.2.2.2.2.2.2.2.1 (hG.1.one he) 0 2 rfl rfl hin hdg kk
theorem gq_lald (hC : gC p s m meth c own cc nL ret args V) (hG : gW V A H0 ad E H locs) {k i j n : Nat} {f : Nat → Int64} (he : E k i j = some (.inl (V.2.1 1, n, .inr (.inl f)))) {x : Int32} (hin : vp_in x n) (hdg : decode cc pc = .ok (.laload, 1))
    (kk : W p l e R s m args below meth c H locs cells slots Q (F0 m (pc + 1) ls (.long (f x.toNatClampNeg) :: rest))) : W p l e R s m args below meth c H locs cells slots Q (F0 m pc ls (.int x :: .ref (ad k i j) :: rest)) :=
  va_lald hC.1 hC.2.1 hC.2.2.2.2.2.2.2.1 (hG.1.one he) 0 1 rfl rfl hin hdg kk
theorem gq_alen (hC : gC p s m meth c own cc nL ret args V) (hG : gW V A H0 ad E H locs) {k i j : Nat} {cA : ClassId} {x : vp_A} (he : E k i j = some (.inl (cA, x))) (t0 : Nat) {ty : FieldType} (ht : (gT V)[t0]? = some (cA, ty)) (hdg : decode cc pc = .ok (.arraylength, 1))
    (kk : W p l e R s m args below meth c H locs cells slots Q (F0 m (pc + 1) ls (.int (nI x.1) :: rest))) : W p l e R s m args below meth c H locs cells slots Q (F0 m pc ls (.ref (ad k i j) :: rest)) :=
  va_alen hC.1 hC.2.1 hC.2.2.2.2.2.2.2.1 (hG.1.one he) 0 t0 rfl ht rfl hdg kk
theorem gq_aldq (hC : gC p s m meth c own cc nL ret args V) (hG : gW V A H0 ad E H locs) {k i j n t0 : Nat} {C : String} {cA : ClassId} {f : Nat → Option Nat} (he : E k i j = some (.inl (cA, n, .inr (.inr (.inr (.inr f)))))) (ht : (gT V)[t0]? = some (cA, .object C)) {x : Int32} (hin : vp_in x n) (hdg : decode cc pc = .ok (.aaload, 1))
    (kk : W p l e R s m args below meth c H locs cells slots Q (F0 m (pc + 1) ls (va_rf (f x.toNatClampNeg) :: rest))) : W p l e R s m args below meth c H locs cells slots Q (F0 m pc ls (.int x :: .ref (ad k i j) :: rest)) :=
  va_aldq hC.1 hC.2.1 hC.2.2.2.2.2.2.2.1 (hG.1.one he) 0 t0 rfl ht hin hdg kk
theorem gq_iast (hC : gC p s m meth c own cc nL ret args V) (hG : gW V A H0 ad E H locs) {k i j n : Nat} {f : Nat → Int32} (he : E k i j = some (.inl (V.2.1 0, n, .inl f))) {x y : Int32} (hin : vp_in x n) (hdg : decode cc pc = .ok (.iastore, 1))
    (kk : ∀ (H1 : Heap) (locs1 : List Loc), gW V A H0 ad (gu E k i j (.inl (V.2.1 0, n, .inl (va_up f x.toNatClampNeg y)))) H1 locs1 → W p l e R s m args below meth c H1 locs1 cells slots Q (F0 m (pc + 1) ls rest)) : W p l e R s m args below meth c H locs cells slots Q (F0 m pc ls (.int y :: .int x :: .ref (ad k i j) :: rest)) := by
  refine W.iast hC.1 hC.2.1 (hG.1.1 _ _ _ _ he) ((hC.2.2.2.2.2.2.2.1.2 0 _ rfl).1 n (fun j => .int (f j))) (fun q => by cases q) (by show ¬ (x < 0 ∨ (arrV _ _ _).slots.size ≤ _); rw [arrV_size]; exact hin) rfl rfl hdg fun H1 e z oq => ?_
  refine kk H1 _ (hG.put he ?_ z oq)
  show H1[ad k i j]? = some (vp_cell _ _)
  rw [e, vp_cell_i, vp_cell_i, arrV_store]
  congr 2
  funext q
  by_cases hq : q = x.toNatClampNeg
  · subst hq; simp [updV, va_up]
  · simp [updV, va_up, hq]
theorem gq_zast (hC : gC p s m meth c own cc nL ret args V) (hG : gW V A H0 ad E H locs) {k i j n : Nat} {f : Nat → Int32} (he : E k i j = some (.inl (V.2.1 2, n, .inl f))) {x y : Int32} (hy : y = 0 ∨ y = 1) (hin : vp_in x n) (hdg : decode cc pc = .ok (.bastore, 1))
    (kk : ∀ (H1 : Heap) (locs1 : List Loc), gW V A H0 ad (gu E k i j (.inl (V.2.1 2, n, .inl (va_up f x.toNatClampNeg y)))) H1 locs1 → W p l e R s m args below meth c H1 locs1 cells slots Q (F0 m (pc + 1) ls rest)) : W p l e R s m args below meth c H locs cells slots Q (F0 m pc ls (.int y :: .int x :: .ref (ad k i j) :: rest)) := by
  refine W.zast hC.1 hC.2.1 (hG.1.1 _ _ _ _ he) ((hC.2.2.2.2.2.2.2.1.2 2 _ rfl).1 n (fun j => .int (f j))) (fun q => by cases q) (by show ¬ (x < 0 ∨ (arrV _ _ _).slots.size ≤ _); rw [arrV_size]; exact hin) rfl rfl hdg fun H1 e z oq => ?_
  refine kk H1 _ (hG.put he ?_ z oq)
  have hn : narrow .boolean (.int y) = .int y := by rcases hy with h | h <;> (rw [h]; decide +kernel)
  show H1[ad k i j]? = some (vp_cell _ _)
  rw [e, hn, vp_cell_i, vp_cell_i, arrV_store]
  congr 2
  funext q
  by_cases hq : q = x.toNatClampNeg
  · subst hq; simp [updV, va_up]
  · simp [updV, va_up, hq]
theorem gq_last (hC : gC p s m meth c own cc nL ret args V) (hG : gW V A H0 ad E H locs) {k i j n : Nat} {f : Nat → Int64} (he : E k i j = some (.inl (V.2.1 1, n, .inr (.inl f)))) {x : Int32} {y : Int64} (hin : vp_in x n) (hdg : decode cc pc = .ok (.lastore, 1))
    (kk : ∀ (H1 : Heap) (locs1 : List Loc), gW V A H0 ad (gu E k i j (.inl (V.2.1 1, n, .inr (.inl (va_up f x.toNatClampNeg y))))) H1 locs1 → W p l e R s m args below meth c H1 locs1 cells slots Q (F0 m (pc + 1) ls rest)) : W p l e R s m args below meth c H locs cells slots Q (F0 m pc ls (.long y :: .int x :: .ref (ad k i j) :: rest)) := by
  refine W.last hC.1 hC.2.1 (hG.1.1 _ _ _ _ he) ((hC.2.2.2.2.2.2.2.1.2 1 _ rfl).1 n (fun j => .long (f j))) (fun q => by cases q) (by show ¬ (x < 0 ∨ (arrV _ _ _).slots.size ≤ _); rw [arrV_size]; exact hin) rfl rfl hdg fun H1 e z oq => ?_
  refine kk H1 _ (hG.put he ?_ z oq)
  show H1[ad k i j]? = some (vp_cell _ _)
  rw [e, vp_cell_l, vp_cell_l, arrV_store]
  congr 2
  funext q
  by_cases hq : q = x.toNatClampNeg
  · subst hq; simp [updV, va_up]
  · simp [updV, va_up, hq]
/-- the class of a kind of array is one -/
theorem g_cA (hK : va_K V.1 vwCl (gT V) s) {t0 : Nat} {cB cA : ClassId} {ty : FieldType} (ht : (gT V)[t0]? = some (cB, ty)) (h : va_RA s cA ty) : cA = cB := by
  have h0 := (hK.2 t0 _ ht).2
  dsimp only at h0
  cases ty with
  | object C =>
    obtain ⟨_, _, -, -, -, h4⟩ := h
    obtain ⟨_, _, -, -, -, g4⟩ := h0
    exact Option.some.inj (h4.symm.trans g4)
  | _ => exact Option.some.inj (h.symm.trans h0)
theorem gq_newa (hC : gC p s m meth c own cc nL ret args V) (hG : gW V A H0 ad E H locs) {atype : ArrayType} {ty : FieldType} (harr : Cond.arrayClass (newarray.typeOf atype) ∈ wsL_law) (hty : newarray.typeOf atype = ty) {t0 : Nat} {cB : ClassId} (ht : (gT V)[t0]? = some (cB, ty)) (hob : ∀ C, ty ≠ .object C) {x : Int32} {N' : Nat} {a0 : vp_A} (ha : vp_cell cB a0 = arrV cB N' (fun _ => defaultValue ty)) (hn : ¬ x < 0) (hN : x.toNatClampNeg = N') (hbytes : N' * componentBytes ty ≤ 536870912) (hcells : cells + 1 ≤ R.cells) (hslots : slots + N' ≤ R.slots) (hdg : decode cc pc = .ok (.newarray atype, 2)) (k i j : Nat)
    (kk : ∀ (H1 : Heap), H1.size = H.size + 1 → gW V A H0 (gau ad k i j H.size) (gu E k i j (.inl (cB, a0))) H1 locs → W p l e R s m args below meth c H1 locs (cells + 1) (slots + N') Q (F0 m (pc + 2) ls (.ref H.size :: rest))) : W p l e R s m args below meth c H locs cells slots Q (F0 m pc ls (.int x :: rest)) := by
  subst hty
  refine va_newaK hC.1 hC.2.1 (hC.2.2.2.2.1 _ harr) rfl hdg rfl hn hN hbytes hcells hslots rfl fun H1 cA e1 z1 o1 hAr hNm => ?_
  have hRA : va_RA s cA (newarray.typeOf atype) := by
    cases atype <;> exact hNm
  have hc := g_cA hC.2.2.2.2.2.2.2.1 ht hRA
  subst hc
  refine kk H1 z1 (hG.new rfl ?_ (by omega) o1)
  show H1[H.size]? = some (vp_cell _ _)
  rw [ha]
  exact e1
theorem gq_new (hC : gC p s m meth c own cc nL ret args V) (hG : gW V A H0 ad E H locs) {C : String} {T : u_T} {N ci index : Nat} (hc : vwCl[ci]? = some (C, T, N)) (hin : ∀ w ∈ u_ws C T N, w ∈ wsL_law) (ty : Nat → FieldType) (hty : ∀ k, k < N → parseFieldDescriptor (T k).2.2.1 = some (ty k)) (hcl : Cond.classLink own index C ∈ wsL_law) (hinst : Cond.instantiable C N ∈ wsL_law) (hini : Cond.initialized C ∈ wsL_law) {fs : List Value} (hfs : ∀ j, j < N → defaultValue (ty j) = vp_V fs j) (hcells : cells + 1 ≤ R.cells) (hslots : slots + N ≤ R.slots) (hdg : decode cc pc = .ok (.new index, 3)) (k i j : Nat)
    (kk : ∀ (H1 : Heap), H1.size = H.size + 1 → gW V A H0 (gau ad k i j H.size) (gu E k i j (.inr (ci, fs))) H1 locs → W p l e R s m args below meth c H1 locs (cells + 1) (slots + N) Q (F0 m (pc + 3) ls (.ref H.size :: rest))) : W p l e R s m args below meth c H locs cells slots Q (F0 m pc ls rest) := by
  have hts := hC.2.2.2.2.1
  have hKn := hC.2.2.2.2.2.2.2.1.1 ci _ hc
  refine W.newcK hC.1 hC.2.1 hC.2.2.2.1 (hts _ hcl) (hts _ hinst) (hts _ hini) rfl hdg hcells hslots hKn.2.1 rfl fun H1 kC hkC e1 z1 o1 => ?_
  exact kk H1 z1 (hG.new rfl ⟨_, hc, (u_born ty hts hin hKn hkC e1 hty).to hfs⟩ (by omega) o1)
/-- ends -/
theorem g_end {sz : Nat} {ad0 : gA} {E0 : gE} (hz : sz = s.heap.size) (hG : gW V (gAd ad0 E0 sz) s.heap ad E H locs) {t : State} (ht : t.heap = H) : gB V ad0 E0 sz ad E t ∧ va_F (gAd ad0 E0 sz) s t := ⟨⟨by rw [ht]; exact hG.1, hG.2.1⟩, hG.2.2.2.2.F ht⟩
theorem gq_iret {sz mc ms : Nat} {ad0 : gA} {E0 : gE} {post : Int32 → gA → gE → Prop} (hC : gC p s m meth c own cc nL (some .int) args V) (hz : sz = s.heap.size) (hG : gW V (gAd ad0 E0 sz) s.heap ad E H locs) {v : Int32} (hp : post v ad E) (hc : cells ≤ mc) (hs : slots ≤ ms) (hdg : decode cc pc = .ok (.ireturn, 1)) : W p l e R s m args below meth c H locs cells slots (MQ below (gQi post V ad0 E0 sz) args s mc ms (gAd ad0 E0 sz)) (F0 m pc ls [.int v]) := by
  refine W.widen hc hs ?_
  exact W.iret hC.1 hC.2.1 hC.2.2.2.2.2.1 (fun t ht _ => ⟨⟨v, (ad, E), rfl, hp, (g_end hz hG ht).1⟩, (g_end hz hG ht).2⟩) hG.2.2.2.2.2.2 hdg hC.2.2.2.2.2.2.1
theorem gq_zret {sz mc ms : Nat} {ad0 : gA} {E0 : gE} {post : Int32 → gA → gE → Prop} (hC : gC p s m meth c own cc nL (some .boolean) args V) (hz : sz = s.heap.size) (hG : gW V (gAd ad0 E0 sz) s.heap ad E H locs) {v : Int32} (hv : v = 0 ∨ v = 1) (hp : post v ad E) (hc : cells ≤ mc) (hs : slots ≤ ms) (hdg : decode cc pc = .ok (.ireturn, 1)) : W p l e R s m args below meth c H locs cells slots (MQ below (gQi post V ad0 E0 sz) args s mc ms (gAd ad0 E0 sz)) (F0 m pc ls [.int v]) := by
  refine W.widen hc hs ?_
  exact W.zret hC.1 hC.2.1 hC.2.2.2.2.2.1 (by rcases hv with h | h <;> (rw [h]; decide +kernel)) (fun t ht _ => ⟨⟨v, (ad, E), rfl, hp, (g_end hz hG ht).1⟩, (g_end hz hG ht).2⟩) hG.2.2.2.2.2.2 hdg hC.2.2.2.2.2.2.1
theorem gq_lret {sz mc ms : Nat} {ad0 : gA} {E0 : gE} {post : Int64 → gA → gE → Prop} (hC : gC p s m meth c own cc nL (some .long) args V) (hz : sz = s.heap.size) (hG : gW V (gAd ad0 E0 sz) s.heap ad E H locs) {v : Int64} (hp : post v ad E) (hc : cells ≤ mc) (hs : slots ≤ ms) (hdg : decode cc pc = .ok (.lreturn, 1)) : W p l e R s m args below meth c H locs cells slots (MQ below (gQl post V ad0 E0 sz) args s mc ms (gAd ad0 E0 sz)) (F0 m pc ls [.long v]) := by
  refine W.widen hc hs ?_
  exact W.lret hC.1 hC.2.1 hC.2.2.2.2.2.1 (fun t ht _ => ⟨⟨v, (ad, E), rfl, hp, (g_end hz hG ht).1⟩, (g_end hz hG ht).2⟩) hG.2.2.2.2.2.2 hdg hC.2.2.2.2.2.2.1
theorem gq_vret {sz mc ms : Nat} {ad0 : gA} {E0 : gE} {post : gA → gE → Prop} (hC : gC p s m meth c own cc nL none args V) (hz : sz = s.heap.size) (hG : gW V (gAd ad0 E0 sz) s.heap ad E H locs) (hp : post ad E) (hc : cells ≤ mc) (hs : slots ≤ ms) (hdg : decode cc pc = .ok (.return_, 1)) : W p l e R s m args below meth c H locs cells slots (MQ below (gQv post V ad0 E0 sz) args s mc ms (gAd ad0 E0 sz)) (F0 m pc ls []) := by
  refine W.widen hc hs ?_
  exact W.vret hC.1 hC.2.1 hC.2.2.2.2.2.1 (fun t ht _ => ⟨⟨(ad, E), rfl, hp, (g_end hz hG ht).1⟩, (g_end hz hG ht).2⟩) hG.2.2.2.2.2.2 hdg hC.2.2.2.2.2.2.1
theorem gq_aret {sz mc ms : Nat} {ad0 : gA} {E0 : gE} {post : Nat → gA → gE → Prop} {rt : FieldType} (hC : gC p s m meth c own cc nL (some rt) args V) (hrt : (∃ n, rt = .object n) ∨ ∃ t, rt = .array t) (hz : sz = s.heap.size) (hG : gW V (gAd ad0 E0 sz) s.heap ad E H locs) {v : Nat} (hp : post v ad E) (hc : cells ≤ mc) (hs : slots ≤ ms) (hdg : decode cc pc = .ok (.areturn, 1)) : W p l e R s m args below meth c H locs cells slots (MQ below (gQr post V ad0 E0 sz) args s mc ms (gAd ad0 E0 sz)) (F0 m pc ls [.ref v]) := by
  refine W.widen hc hs ?_
  exact W.aret hC.1 hC.2.1 hC.2.2.2.2.2.1 hrt (Or.inr ⟨v, rfl⟩) (fun t ht _ => ⟨⟨(ad, E), v, rfl, trivial, hp, (g_end hz hG ht).1⟩, (g_end hz hG ht).2⟩) hG.2.2.2.2.2.2 hdg hC.2.2.2.2.2.2.1
/-- behind a call -/
theorem g_back {A1 : Nat → Prop} {ad1 : gA} {E1 : gE} {t : State} {H1 : Heap} {locs1 : List Loc} (hG : gW V A H0 ad E H locs) (hA1 : A1 = gAd ad E H.size) (ht : t.heap = H1) (hB : gB V ad E H.size ad1 E1 t) (hS : va_S A H0 H1 locs1) : gW V A H0 ad1 E1 H1 locs1 := by
  refine ⟨by rw [← ht]; exact hB.1, fun k i j x hx => ?_, hG.2.2.1, hG.2.2.2.1, hS⟩
  rcases hB.2 k i j x hx with ⟨k', i', j', e', h1, h2⟩ | h
  · rw [← h2]; exact hG.2.1 _ _ _ _ h1
  · exact hG.2.2.1 _ (Nat.le_trans hG.2.2.2.2.1 h)
theorem g_free (hG : gW V A H0 ad E H locs) : ∀ q, gAd ad E H.size q → A q := by
  intro q h
  rcases h with ⟨k, i, j, x, h1, h2⟩ | h
  · rw [← h2]; exact hG.2.1 _ _ _ _ h1
  · exact hG.2.2.1 _ (Nat.le_trans hG.2.2.2.2.1 h)
theorem g_pre {av : List Value} (hC : gC p s m meth c own cc nL ret args V) (hG : gW V A s.heap ad E H locs) : ∀ U : State, U.heap = H → s.WarmedH U.vm → gPc av V ad E H.size av.toArray U := fun U hU hW => ⟨rfl, by rw [hU], by rw [hU]; exact hG.1, fun k i j x hx => hG.2.2.2.1 _ (hG.2.1 k i j x hx), va_K.moved hW.alike hC.2.2.2.2.2.2.2.1, gEv.pass hC.2.2.2.2.2.2.2.2 hW (by rw [hU]; exact hG.2.2.2.2.1) (fun a h1 h2 => by rw [hU]; exact hG.2.2.2.2.2.1 a h1 (fun z => h2 (hG.2.2.2.1 a z)))⟩
theorem g_fix (hC : gC p s m meth c own cc nL ret args V) : CallFix p m c cc nL s args wsL_law own := ⟨hC.1, hC.2.1, hC.2.2.1, hC.2.2.2.1, hC.2.2.2.2.1⟩
theorem g_recv (hC : gC p s m meth c own cc nL ret args V) (hG : gW V A H0 ad E H locs) {k i j ci : Nat} {q : vw_C} {fs : List Value} (he : E k i j = some (.inr (ci, fs))) (hc : vwCl[ci]? = some q) : ∃ cell : Cell, H[ad k i j]? = some cell ∧ cell.vm.isStatics = false ∧ s.vm.findClass q.1 = some cell.cls := va_recv hC.2.2.2.2.2.2.2.1 (hG.1.one he) hc (q0 := 0) rfl
end GR
