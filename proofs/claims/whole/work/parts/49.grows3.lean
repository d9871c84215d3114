/-! Rows with the world made new at each step: the step's label, and what stays. -/
abbrev gL (k0 i0 j0 : Nat) : Nat → Nat → Nat → Prop := fun k i j => k = k0 ∧ i = i0 ∧ j = j0
def gFr (P : Nat → Nat → Nat → Prop) (ad : gA) (E : gE) (ad1 : gA) (E1 : gE) : Prop := ∀ k i j : Nat, ¬ P k i j → E1 k i j = E k i j ∧ ad1 k i j = ad k i j
theorem gFr.rf {P : Nat → Nat → Nat → Prop} {ad : gA} {E : gE} : gFr P ad E ad E := fun _ _ _ _ => ⟨rfl, rfl⟩
theorem gFr.tr {P L : Nat → Nat → Nat → Prop} {ad ad1 ad2 : gA} {E E1 E2 : gE} (h1 : gFr P ad E ad1 E1) (h2 : gFr L ad1 E1 ad2 E2) (hs : ∀ k i j : Nat, L k i j → P k i j) : gFr P ad E ad2 E2 := fun k i j h => ⟨(h2 k i j (fun z => h (hs _ _ _ z))).1.trans (h1 k i j h).1, (h2 k i j (fun z => h (hs _ _ _ z))).2.trans (h1 k i j h).2⟩
theorem gFr.wd {P L : Nat → Nat → Nat → Prop} {ad ad1 : gA} {E E1 : gE} (h1 : gFr P ad E ad1 E1) (hs : ∀ k i j : Nat, P k i j → L k i j) : gFr L ad E ad1 E1 := fun k i j h => h1 k i j (fun z => h (hs _ _ _ z))
theorem gFr_gu {ad : gA} {E : gE} {k i j : Nat} {e : va_E} : gFr (gL k i j) ad E ad (gu E k i j e) := fun _ _ _ h => ⟨gu_ne h, rfl⟩
theorem gFr_new {ad : gA} {E : gE} {k i j a : Nat} {e : va_E} : gFr (gL k i j) ad E (gau ad k i j a) (gu E k i j e) := fun _ _ _ h => ⟨gu_ne h, gau_ne h⟩
theorem g_ofN {l : Launch} {y : MethodName} {cc : ByteArray} {n : Nat} {ret : Option FieldType} {rm : Room} {av : List Value} {V : gV} {ad : gA} {E : gE} {sz mc ms : Nat} {Qc : Array Value → State → Outcome → State → Prop} (hy : plainName y.cls = true) (hn : (lg_sl av).length ≤ n)
    (body : ∀ (p : Program) (e : Env) (s : State) (m : MethodId) (below : List Frame) (meth : Method) (c : Code) (ls : Array Slot), meth.name = y.name → gC p s m meth c y.cls cc n ret av.toArray V → sz = s.heap.size → gW V (gAd ad E sz) s.heap ad E s.heap [] → lv_has ls n (lv_args 0 av) →
      W p l e rm s m av.toArray below meth c s.heap [] 0 0 (MQ below Qc av.toArray s mc ms (gAd ad E sz)) (F0 m 0 ls [])) : Met l y (gws y cc n ret) rm (gPc av V ad E sz) Qc mc ms (gAd ad E sz) := by
  refine Met.ofW (cc := cc) (maxL := n) (ret := ret) hy rfl ?_
  intro p e s m args below meth c s₁ B hml hv
  obtain ⟨rfl, hsz, hP, hO, hK, hE⟩ := hv
  have hts := atoms_spec (ws := gws y cc n ret) B.pre
  have hl := lv_entry av (n := n) hn
  rw [lg_entry_eq]
  exact body p e s m below meth c _ (name_of_methodNamed B.named B.method).1 ⟨B.exec, B.bytes, hml, findClass_of_methodNamed B.named, fun w hw => hts w (List.mem_cons_of_mem _ hw), B.returns, B.notSynchronized, hK, hE⟩ hsz.symm ⟨hP, fun k i j e h => Or.inl ⟨k, i, j, e, h, rfl⟩, fun q h => Or.inr (by omega), fun q h => by
    rcases h with ⟨k, i, j, x, h1, h2⟩ | h
    · rw [← h2]; exact hO _ _ _ _ h1
    · exact Nat.le_trans hE.1 (by omega), va_S.rf⟩ hl
section GK
variable {p : Program} {l : Launch} {e : Env} {R : Room} {s : State} {m : MethodId} {args : Array Value} {below : List Frame} {meth : Method} {c : Code} {H : Heap} {locs : List Loc} {cells slots : Nat} {Q : State → Prop}
variable {cc : ByteArray} {pc nL : Nat} {ls : Array Slot} {rest : List Value} {V : gV} {A : Nat → Prop} {H0 : Heap} {ad : gA} {E : gE} {own : String} {ret : Option FieldType}
theorem gW.sz (h : gW V A H0 ad E H locs) : H0.size ≤ H.size := h.2.2.2.2.1
theorem gk_get (hC : gC p s m meth c own cc nL ret args V) (hG : gW V A H0 ad E H locs) {r : Nat} {ref C : String} {T : u_T} {N ci index k i j : Nat} {fs : List Value} (hrr : ad k i j = r) (he : E k i j = some (.inr (ci, fs))) (hc : vwCl[ci]? = some (C, T, N)) (hin : ∀ w ∈ u_ws C T N, w ∈ wsL_law) (f : Nat) (hf : f < N) (hlink : Cond.fieldLink own index ref (T f).2.1 (T f).2.2.1 ∈ wsL_law) (hsame : ∀ x, s.fieldFound? (T f).1 (T f).2.1 (T f).2.2.1 = some x → s.fieldFound? ref (T f).2.1 (T f).2.2.1 = some x) {v : Value} (hv : fs[f]? = some v) (hdg : decode cc pc = .ok (.getfield index, 3))
    (kk : W p l e R s m args below meth c H locs cells slots Q (F0 m (pc + 3) ls (v :: rest))) : W p l e R s m args below meth c H locs cells slots Q (F0 m pc ls (.ref r :: rest)) := by
  subst hrr
  exact gq_get hC hG he hc hin f hf hlink hsame hv hdg kk
theorem gk_put (hC : gC p s m meth c own cc nL ret args V) (hG : gW V A H0 ad E H locs) {r : Nat} {ref C : String} {T : u_T} {N ci index k i j : Nat} {fs : List Value} (hrr : ad k i j = r) (he : E k i j = some (.inr (ci, fs))) (hc : vwCl[ci]? = some (C, T, N)) (hin : ∀ w ∈ u_ws C T N, w ∈ wsL_law) (ty0 : Nat → FieldType) (hty : ∀ k, k < N → parseFieldDescriptor (T k).2.2.1 = some (ty0 k)) (hnm : ∀ a, a < N → ∀ b, b < N → a ≠ b → (T a).2.1 ≠ (T b).2.1) (f : Nat) (hf : f < N) (hlink : Cond.fieldLink own index ref (T f).2.1 (T f).2.2.1 ∈ wsL_law) (hsame : ∀ x, s.fieldFound? (T f).1 (T f).2.1 (T f).2.2.1 = some x → s.fieldFound? ref (T f).2.1 (T f).2.2.1 = some x) (hfin : (T f).2.2.2 = false) {v : Value} (hn : narrow (ty0 f) v = v) (hfit : fits (ty0 f) v = true) (hl : f < fs.length) (hdg : decode cc pc = .ok (.putfield index, 3))
    (kk : ∀ (E1 : gE) (H1 : Heap) (locs1 : List Loc), E1 k i j = some (.inr (ci, fs.set f v)) → gFr (gL k i j) ad E ad E1 → gW V A H0 ad E1 H1 locs1 → W p l e R s m args below meth c H1 locs1 cells slots Q (F0 m (pc + 3) ls rest)) : W p l e R s m args below meth c H locs cells slots Q (F0 m pc ls (v :: .ref r :: rest)) := by
  subst hrr
  exact gq_put hC hG he hc hin ty0 hty hnm f hf hlink hsame hfin hn hfit hl hdg (fun H1 locs1 h => kk _ H1 locs1 (gu_eq _ _ _ _ _) gFr_gu h)
theorem gk_putF (hC : gC p s m meth c own cc nL ret args V) (hG : gW V A H0 ad E H locs) {r : Nat} {ref C : String} {T : u_T} {N ci index k i j : Nat} {fs : List Value} (hrr : ad k i j = r) (he : E k i j = some (.inr (ci, fs))) (hc : vwCl[ci]? = some (C, T, N)) (hin : ∀ w ∈ u_ws C T N, w ∈ wsL_law) (ty0 : Nat → FieldType) (hty : ∀ k, k < N → parseFieldDescriptor (T k).2.2.1 = some (ty0 k)) (hnm : ∀ a, a < N → ∀ b, b < N → a ≠ b → (T a).2.1 ≠ (T b).2.1) (f : Nat) (hf : f < N) (hlink : Cond.fieldLink own index ref (T f).2.1 (T f).2.2.1 ∈ wsL_law) (hsame : ∀ x, s.fieldFound? (T f).1 (T f).2.1 (T f).2.2.1 = some x → s.fieldFound? ref (T f).2.1 (T f).2.2.1 = some x) (hfin : (T f).2.2.2 = true) (hin2 : meth.name = "<init>") (hdecl : (T f).1 = own) {v : Value} (hn : narrow (ty0 f) v = v) (hfit : fits (ty0 f) v = true) (hl : f < fs.length) (hdg : decode cc pc = .ok (.putfield index, 3))
    (kk : ∀ (E1 : gE) (H1 : Heap) (locs1 : List Loc), E1 k i j = some (.inr (ci, fs.set f v)) → gFr (gL k i j) ad E ad E1 → gW V A H0 ad E1 H1 locs1 → W p l e R s m args below meth c H1 locs1 cells slots Q (F0 m (pc + 3) ls rest)) : W p l e R s m args below meth c H locs cells slots Q (F0 m pc ls (v :: .ref r :: rest)) := by
  subst hrr
  exact gq_putF hC hG he hc hin ty0 hty hnm f hf hlink hsame hfin hin2 hdecl hn hfit hl hdg (fun H1 locs1 h => kk _ H1 locs1 (gu_eq _ _ _ _ _) gFr_gu h)
theorem gk_new (hC : gC p s m meth c own cc nL ret args V) (hG : gW V A H0 ad E H locs) {C : String} {T : u_T} {N ci index : Nat} (hc : vwCl[ci]? = some (C, T, N)) (hin : ∀ w ∈ u_ws C T N, w ∈ wsL_law) (ty : Nat → FieldType) (hty : ∀ k, k < N → parseFieldDescriptor (T k).2.2.1 = some (ty k)) (hcl : Cond.classLink own index C ∈ wsL_law) (hinst : Cond.instantiable C N ∈ wsL_law) (hini : Cond.initialized C ∈ wsL_law) {fs : List Value} (hfs : ∀ j, j < N → defaultValue (ty j) = vp_V fs j) (hcells : cells + 1 ≤ R.cells) (hslots : slots + N ≤ R.slots) (hdg : decode cc pc = .ok (.new index, 3)) (k i j : Nat)
    (kk : ∀ (a : Nat) (ad1 : gA) (E1 : gE) (H1 : Heap), ad1 k i j = a → E1 k i j = some (.inr (ci, fs)) → gFr (gL k i j) ad E ad1 E1 → gW V A H0 ad1 E1 H1 locs → W p l e R s m args below meth c H1 locs (cells + 1) (slots + N) Q (F0 m (pc + 3) ls (.ref a :: rest))) : W p l e R s m args below meth c H locs cells slots Q (F0 m pc ls rest) :=
  gq_new hC hG hc hin ty hty hcl hinst hini hfs hcells hslots hdg k i j (fun H1 _ h => kk _ _ _ H1 (gau_eq _ _ _ _ _) (gu_eq _ _ _ _ _) gFr_new h)
theorem gk_newa (hC : gC p s m meth c own cc nL ret args V) (hG : gW V A H0 ad E H locs) {atype : ArrayType} {ty : FieldType} (harr : Cond.arrayClass (newarray.typeOf atype) ∈ wsL_law) (hty : newarray.typeOf atype = ty) {t0 : Nat} {cB : ClassId} (ht : (gT V)[t0]? = some (cB, ty)) (hob : ∀ C, ty ≠ .object C) {x : Int32} {N' : Nat} {a0 : vp_A} (ha : vp_cell cB a0 = arrV cB N' (fun _ => defaultValue ty)) (hn : ¬ x < 0) (hN : x.toNatClampNeg = N') (hbytes : N' * componentBytes ty ≤ 536870912) (hcells : cells + 1 ≤ R.cells) (hslots : slots + N' ≤ R.slots) (hdg : decode cc pc = .ok (.newarray atype, 2)) (k i j : Nat)
    (kk : ∀ (a : Nat) (ad1 : gA) (E1 : gE) (H1 : Heap), ad1 k i j = a → E1 k i j = some (.inl (cB, a0)) → gFr (gL k i j) ad E ad1 E1 → gW V A H0 ad1 E1 H1 locs → W p l e R s m args below meth c H1 locs (cells + 1) (slots + N') Q (F0 m (pc + 2) ls (.ref a :: rest))) : W p l e R s m args below meth c H locs cells slots Q (F0 m pc ls (.int x :: rest)) :=
  gq_newa hC hG harr hty ht hob ha hn hN hbytes hcells hslots hdg k i j (fun H1 _ h => kk _ _ _ H1 (gau_eq _ _ _ _ _) (gu_eq _ _ _ _ _) gFr_new h)
theorem gk_newq (hC : gC p s m meth c own cc nL ret args V) (hG : gW V A H0 ad E H locs) {C : String} {index t0 : Nat} {cB : ClassId} (hcl : Cond.classLink own index C ∈ wsL_law) (hov : Cond.arrayOver (.object C) ∈ gxw) (ht : (gT V)[t0]? = some (cB, .object C)) {N' : Nat} (hN : N' ≤ 100) (hcells : cells + 1 ≤ R.cells) (hslots : slots + N' ≤ R.slots) (hdg : decode cc pc = .ok (.anewarray index, 3)) (k i j : Nat)
    (kk : ∀ (a : Nat) (ad1 : gA) (E1 : gE) (H1 : Heap), ad1 k i j = a → E1 k i j = some (.inl (cB, N', .inr (.inr (.inr (.inr (fun _ => none)))))) → gFr (gL k i j) ad E ad1 E1 → gW V A H0 ad1 E1 H1 locs → W p l e R s m args below meth c H1 locs (cells + 1) (slots + N') Q (F0 m (pc + 3) ls (.ref a :: rest))) : W p l e R s m args below meth c H locs cells slots Q (F0 m pc ls (.int (nI N') :: rest)) :=
  gq_newq hC hG hcl hov ht hN hcells hslots hdg k i j (fun H1 _ h => kk _ _ _ H1 (gau_eq _ _ _ _ _) (gu_eq _ _ _ _ _) gFr_new h)
theorem gk_ast (hC : gC p s m meth c own cc nL ret args V) (hG : gW V A H0 ad E H locs) {r1 r2 : Nat} {k i j n t0 : Nat} {C : String} {cA : ClassId} {f : Nat → Option Nat} (hrr : ad k i j = r1) (he : E k i j = some (.inl (cA, n, .inr (.inr (.inr (.inr f)))))) (ht : (gT V)[t0]? = some (cA, .object C)) {k2 i2 j2 ci : Nat} {r : vw_C} {vs : List Value} (hr2 : ad k2 i2 j2 = r2) (hv : E k2 i2 j2 = some (.inr (ci, vs))) (hc : vwCl[ci]? = some r) (hca : r.1 = C ∨ Cond.castable r.1 C ∈ gxw) {x : Int32} (hin : vp_in x n) (hdg : decode cc pc = .ok (.aastore, 1))
    (kk : ∀ (E1 : gE) (H1 : Heap) (locs1 : List Loc), E1 k i j = some (.inl (cA, n, .inr (.inr (.inr (.inr (va_up f x.toNatClampNeg (some r2))))))) → gFr (gL k i j) ad E ad E1 → gW V A H0 ad E1 H1 locs1 → W p l e R s m args below meth c H1 locs1 cells slots Q (F0 m (pc + 1) ls rest)) : W p l e R s m args below meth c H locs cells slots Q (F0 m pc ls (.ref r2 :: .int x :: .ref r1 :: rest)) := by
  subst hrr
  subst hr2
  exact gq_ast hC hG he ht hv hc hca hin hdg (fun H1 locs1 h => kk _ H1 locs1 (gu_eq _ _ _ _ _) gFr_gu h)
/-- System.arraycopy from the beginning of one Object[] of ours to another -/
theorem gk_copyq (hC : gC p s m meth c own cc nL ret args V) (hG : gW V A H0 ad E H locs) {index : Nat} (k1 : Cond.methodLink own index arraycopyName ∈ wsL_law) (k2 : Cond.native arraycopyName ∈ wsL_law) (k3 : Cond.static arraycopyName ∈ wsL_law) (k4 : Cond.initialized "java/lang/System" ∈ wsL_law) (hsz : ls.size = nL) {ka ia ja kb ib jb n0 n1 ra rb_ : Nat} {f g : Nat → Option Nat} (hra : ad ka ia ja = ra) (hrb : ad kb ib jb = rb_) (ha : E ka ia ja = some (.inl (V.2.1 4, n0, .inr (.inr (.inr (.inr f)))))) (hb1 : E kb ib jb = some (.inl (V.2.1 4, n1, .inr (.inr (.inr (.inr g)))))) {n : Nat} (hn : n < 2 ^ 31) (h4 : n ≤ n0) (h5 : n ≤ n1)
    (hel : ∀ i : Nat, i < n → ∀ y : Nat, f i = some y → ∃ (k2 i2 j2 ci : Nat) (r : vw_C) (vs : List Value), E k2 i2 j2 = some (.inr (ci, vs)) ∧ ad k2 i2 j2 = y ∧ vwCl[ci]? = some r ∧ Cond.castable r.1 "java/lang/Object" ∈ gxw)
    (hframes : 1 ≤ R.frames) (hlocals : (rest.map fun v => v.category).sum + (nativeFrameWords "java/lang/System" "arraycopy" 5 + 11) ≤ R.locals) (hdg : decode cc pc = .ok (.invokestatic index, 3))
    (kk : ∀ (E1 : gE) (H1 : Heap) (locs1 : List Loc), E1 kb ib jb = some (.inl (V.2.1 4, n1, .inr (.inr (.inr (.inr (fun q => if q < n then f q else g q)))))) → gFr (gL kb ib jb) ad E ad E1 → gW V A H0 ad E1 H1 locs1 → W p l e R s m args below meth c H1 locs1 cells slots Q (F0 m (pc + 3) ls rest)) : W p l e R s m args below meth c H locs cells slots Q (F0 m pc ls (.int (nI n) :: .int (nI 0) :: .ref rb_ :: .int (nI 0) :: .ref ra :: rest)) := by
  subst hra
  subst hrb
  have hCC := hC
  obtain ⟨hexec, hb, hml, hown, hts, hr, hlocks, hK, hEv⟩ := hC
  have e0 : (nI 0).toNatClampNeg = 0 := rfl
  have en : (nI n).toNatClampNeg = n := nI_clamp hn
  have i0 : (nI 0).toInt = 0 := rfl
  have inn : (nI n).toInt = (n : Int) := nI_toInt hn
  intro T hT X
  have hc0 : H[ad ka ia ja]? = some (vp_cell (V.2.1 4) (n0, .inr (.inr (.inr (.inr f))))) := hG.1.1 _ _ _ _ ha
  have hc1 : H[ad kb ib jb]? = some (vp_cell (V.2.1 4) (n1, .inr (.inr (.inr (.inr g))))) := hG.1.1 _ _ _ _ hb1
  obtain ⟨-, k0, hk0, cm0, hkk0⟩ := (hK.2 4 _ rfl).1 n0 (fun j => va_rf (f j))
  obtain ⟨-, k1', hk1, cm1, hkk1⟩ := (hK.2 4 _ rfl).1 n1 (fun j => va_rf (g j))
  obtain ⟨vm', X', step⟩ := X.arraycopy hexec hown (hts _ k1) (hts _ k2) (hts _ k3) (hts _ k4) (src := ad ka ia ja) (dst := ad kb ib jb) (cs := vp_cell (V.2.1 4) (n0, .inr (.inr (.inr (.inr f))))) (cd := vp_cell (V.2.1 4) (n1, .inr (.inr (.inr (.inr g))))) (srcPos := nI 0) (destPos := nI 0) (n := nI n) (by rw [hT]; exact hc0) (by rw [hT]; exact hc1)
    (fun _ h => by cases h) (fun _ h => by cases h) (fun h => by cases h) (fun h => by cases h) hk0 hk1 hkk0 hkk1 rfl (nI_pos (by decide)) (nI_pos (by decide)) (nI_pos hn)
    (by rw [i0, inn]; show ¬ _ > ((arrV (V.2.1 4) n0 (fun j => va_rf (f j))).slots.size : Int); rw [arrV_size]; omega)
    (by rw [i0, inn]; show ¬ _ > ((arrV (V.2.1 4) n1 (fun j => va_rf (g j))).slots.size : Int); rw [arrV_size]; omega)
    (fun vm₁ hal i hi => by
      rw [en] at hi
      have e : (vp_cell (V.2.1 4) (n0, .inr (.inr (.inr (.inr f))))).slots.getD ((nI 0).toNatClampNeg + i) .null = va_rf (f i) := by
        show (arrV (V.2.1 4) n0 (fun j => va_rf (f j))).slots.getD _ _ = _
        rw [Array.getD_eq_getD_getElem?, arrV_read _ _ (by rw [e0]; omega), e0, Nat.zero_add]
        rfl
      rw [e]
      cases hy : f i with
      | none => exact ⟨rfl, trivial⟩
      | some y =>
        obtain ⟨k2, i2, j2, ci, r, vs, q1, q2, q3, q4⟩ := hel i hi y hy
        subst q2
        obtain ⟨cellV, g1, g2, g3⟩ := g_recv hCC hG q1 q3
        obtain ⟨kA, comp, r1, r2, r3, -⟩ := (hK.2 4 _ rfl).2
        cases hk1.symm.trans r1
        cases hkk1.symm.trans r2
        obtain ⟨kC, hkC, -⟩ := Vm.findClass_spec g3
        obtain ⟨kE, hkE, -⟩ := Vm.findClass_spec r3
        obtain ⟨kC', hkC', -⟩ := hal.2.2 _ _ hkC
        obtain ⟨kE', hkE', -⟩ := hal.2.2 _ _ hkE
        refine ⟨rfl, cellV, (show T.heap[ad k2 i2 j2]? = some cellV by rw [hT]; exact g1), (fun q h => by rw [h] at g2; cases g2), ⟨kC', hkC'⟩, ?_, ?_⟩
        · exact ⟨kE', hkE'⟩
        · show vm₁.assignable _ _ = true
          rw [hal.assignable]
          obtain ⟨c0, t1, f1, f2, f3⟩ := Cond.castable_spec (va_Nw.use (A := args) rfl (hEv.2.1 _ q4))
          cases g3.symm.trans f1
          cases r3.symm.trans f2
          exact f3)
    (g := F0 m pc ls (.int (nI n) :: .int (nI 0) :: .ref (ad kb ib jb) :: .int (nI 0) :: .ref (ad ka ia ja) :: rest)) rfl (by rw [hml]; exact hsz) (rest := rest) rfl (by rw [hb]; exact hdg) hframes (by show 2 * 0 + _ + _ ≤ _; omega)
  have e1 : copied (vp_cell (V.2.1 4) (n0, .inr (.inr (.inr (.inr f))))) (vp_cell (V.2.1 4) (n1, .inr (.inr (.inr (.inr g))))) (nI 0) (nI 0) (nI n) = vp_cell (V.2.1 4) (n1, .inr (.inr (.inr (.inr (va_cpy f g (nI 0).toNatClampNeg (nI 0).toNatClampNeg (nI n).toNatClampNeg))))) := by
    rw [vp_cell_q, vp_cell_q, vp_cell_q]
    exact va_copied (fun z => va_rf z) (V.2.1 4) (V.2.1 4) f g (by rw [e0, en]; omega)
  have e2 : va_cpy f g (nI 0).toNatClampNeg (nI 0).toNatClampNeg (nI n).toNatClampNeg = (fun q => if q < n then f q else g q) := by
    funext q
    rw [e0, en]
    unfold va_cpy
    by_cases hq : q < n
    · rw [if_pos ⟨Nat.zero_le _, by omega⟩, if_pos hq]
      simp
    · rw [if_neg (by omega), if_neg hq]
  rw [e1, e2] at X' step
  generalize hcell : vp_cell (V.2.1 4) (n1, .inr (.inr (.inr (.inr (fun q => if q < n then f q else g q))))) = cellN at X' step
  have hl : ad kb ib jb < H.size := (Array.getElem?_eq_some_iff.mp hc1).1
  have hheap : ((T.setVm vm').setCell (ad kb ib jb) cellN).heap = H.setIfInBounds (ad kb ib jb) cellN := by rw [← hT]; rfl
  have oq : ∀ q : Nat, q ≠ ad kb ib jb → (H.setIfInBounds (ad kb ib jb) cellN)[q]? = H[q]? := fun q hq => by simp [Array.getElem?_setIfInBounds, Ne.symm hq]
  have hP1 := hG.1.put (e := .inl (V.2.1 4, n1, .inr (.inr (.inr (.inr (fun q => if q < n then f q else g q)))))) hb1 (show (H.setIfInBounds (ad kb ib jb) cellN)[ad kb ib jb]? = some (vp_cell _ _) by rw [hcell]; simp [Array.getElem?_setIfInBounds, hl]) oq
  have hAb := hG.2.1 _ _ _ _ hb1
  obtain ⟨t, a1, b1⟩ := kk _ _ _ (gu_eq _ _ _ _ _) gFr_gu ⟨hP1, fun k' i' j' e' h => by
      by_cases hq : k' = kb ∧ i' = ib ∧ j' = jb
      · obtain ⟨rfl, rfl, rfl⟩ := hq
        exact hAb
      · rw [gu_ne hq] at h
        exact hG.2.1 _ _ _ _ h, hG.2.2.1, hG.2.2.2.1, ⟨by simp; exact hG.2.2.2.2.1, fun q g1 g2 => by
      rw [oq q (fun e => g2 (by rw [e]; exact hAb))]
      exact hG.2.2.2.2.2.1 q g1 g2, fun q hq => by
      rcases List.mem_append.mp hq with h | h
      · exact hG.2.2.2.2.2.2 q h
      · obtain ⟨z, -, hz⟩ := List.mem_map.mp h
        rw [← hz]
        exact hAb⟩⟩ _ hheap X'
  exact ⟨t, step t a1, b1⟩
theorem gk_getC (hC : gC p s m meth c own cc nL ret args V) (hG : gW V A H0 ad E H locs) {k i j n r index : Nat} {f : Nat → Option Nat} (hrr : ad k i j = r) (he : E k i j = some (.inl (V.2.1 4, n, .inr (.inr (.inr (.inr f)))))) (k1 : Cond.methodLink own index ⟨"java/lang/Object", "getClass", "()Ljava/lang/Class;"⟩ ∈ wsL_law) (hsz : ls.size = nL) (hframes : 1 ≤ R.frames) (hlocals : (rest.map fun v => v.category).sum + 14 ≤ R.locals) (hdg : decode cc pc = .ok (.invokevirtual index, 3))
    (kk : W p l e R s m args below meth c H locs cells slots Q (F0 m (pc + 3) ls (.ref (V.2.2 2) :: rest))) : W p l e R s m args below meth c H locs cells slots Q (F0 m pc ls (.ref r :: rest)) := by
  subst hrr
  have hts := hC.2.2.2.2.1
  have hEv := hC.2.2.2.2.2.2.2.2
  have hK := hC.2.2.2.2.2.2.2.1
  exact va_getC hC.1 hC.2.1 (hC.2.2.1.trans hsz.symm) hC.2.2.2.1 (hts _ k1) (va_Nw.use rfl (hEv.2.1 (.declares ⟨"java/lang/Object", "getClass", "()Ljava/lang/Class;"⟩) (by decide +kernel))) (hts _ kw_9_1) (hts _ kn___java_lang_Object____getClass______Ljava_lang_Class___) (hts _ kw_9_3) hEv.2.2.2.1 ⟨_, hG.1.1 _ _ _ _ he, rfl, va_nmO (hK.2 4 _ rfl).2 (by decide +kernel)⟩ hframes hlocals hdg kk
theorem gk_ldcM (hC : gC p s m meth c own cc nL ret args V) {index : Nat} (k1 : Cond.classLink own index "[Ljava/lang/Object;" ∈ wsL_law) (hdg : decode cc pc = .ok (.ldc index, 2))
    (kk : W p l e R s m args below meth c H locs cells slots Q (F0 m (pc + 2) ls (.ref (V.2.2 2) :: rest))) : W p l e R s m args below meth c H locs cells slots Q (F0 m pc ls rest) :=
  va_ldcM hC.1 hC.2.1 hC.2.2.2.1 (hC.2.2.2.2.1 _ k1) hC.2.2.2.2.2.2.2.2.2.2.2.1 hdg kk
theorem gk_alen (hC : gC p s m meth c own cc nL ret args V) (hG : gW V A H0 ad E H locs) {k i j n r : Nat} {f : Nat → Option Nat} (hrr : ad k i j = r) (he : E k i j = some (.inl (V.2.1 4, n, .inr (.inr (.inr (.inr f)))))) (hdg : decode cc pc = .ok (.arraylength, 1))
    (kk : W p l e R s m args below meth c H locs cells slots Q (F0 m (pc + 1) ls (.int (nI n) :: rest))) : W p l e R s m args below meth c H locs cells slots Q (F0 m pc ls (.ref r :: rest)) := by
  subst hrr
  exact gq_alen hC hG he 4 rfl hdg kk
/-- new int[8][6], and its rows -/
theorem gk_mna (hC : gC p s m meth c own cc nL ret args V) (hG : gW V A H0 ad E H locs) {index : Nat} (k1 : Cond.classLink own index "[[I" ∈ wsL_law) (hcells : cells + (1 + 8) ≤ R.cells) (hslots : slots + (8 + 8 * 6) ≤ R.slots) (hdg : decode cc pc = .ok (.multianewarray index 2, 4))
    (kk : ∀ (a : Nat) (ad1 : gA) (E1 : gE) (H1 : Heap), ad1 6 0 0 = a → E1 6 0 0 = some (.inl (V.2.1 5, 8, .inr (.inr (.inr (.inr (fun i => if i < 8 then some (ad1 8 i 0) else none)))))) → (∀ i : Nat, i < 8 → E1 8 i 0 = some (.inl (V.2.1 0, 6, .inl (fun _ => 0)))) → gFr (fun k i j => gL 6 0 0 k i j ∨ (k = 8 ∧ i < 8 ∧ j = 0)) ad E ad1 E1 → gW V A H0 ad1 E1 H1 locs → W p l e R s m args below meth c H1 locs (cells + 1 + 8) (slots + 8 + 8 * 6) Q (F0 m (pc + 4) ls (.ref a :: rest))) : W p l e R s m args below meth c H locs cells slots Q (F0 m pc ls (.int (nI 6) :: .int (nI 8) :: rest)) := by
  obtain ⟨hexec, hb, hml, hown, hts, hr, hlocks, hK, hEv⟩ := hC
  intro T hT Xs
  obtain ⟨vm₁, cA, comp, -, fA, fC, hO, -, X', step⟩ := Xs.multianewarray2F hexec hown (ty := .int) (hts _ k1) (va_AOA.use (hEv.2.1 (.arrayOver (.array .int)) (by decide +kernel))) (hts _ ka__int) (g := F0 m pc ls (.int (nI 6) :: .int (nI 8) :: rest)) rfl (by rw [hb]; exact hdg) rfl (nI_pos (by decide)) (nI_pos (by decide)) (by decide) (by decide) (by decide) rfl rfl hcells hslots
  have e8 : (nI 8).toNatClampNeg = 8 := rfl
  have e6 : (nI 6).toNatClampNeg = 6 := rfl
  rw [e8, e6] at X' step
  have hcA : cA = V.2.1 5 := by
    have g4 : s.vm.findClass ("[" ++ (FieldType.array .int).toString) = some (V.2.1 5) := (hK.2 5 _ rfl).2
    exact Option.some.inj (fA.symm.trans g4)
  have hcC : comp = V.2.1 0 := by
    have g4 : s.vm.findClass ("[" ++ FieldType.int.toString) = some (V.2.1 0) := (hK.2 0 _ rfl).2
    exact Option.some.inj (fC.symm.trans g4)
  subst hcA
  subst hcC
  generalize hF : Jvm.Free.Multi.fill (T.setVm vm₁) (V.2.1 5) (V.2.1 0) 8 6 (defaultValue .int) 8 = F at X' step
  have hTh : (T.setVm vm₁).heap = H := hT
  obtain ⟨f1, f2, -, -⟩ := Jvm.Free.Multi.fill_facts (T.setVm vm₁) (V.2.1 5) (V.2.1 0) 8 6 (defaultValue .int) 8
  rw [hF, hTh] at f1 f2
  have hold : ∀ x : Nat, x < H.size → F.heap[x]? = H[x]? := fun x hx => by
    have := Jvm.Free.Multi.fill_old (T.setVm vm₁) (V.2.1 5) (V.2.1 0) 8 6 (defaultValue .int) (a := x) (by rw [hTh]; exact hx) 8
    rw [hF, hTh] at this
    exact this
  have hrow : ∀ j : Nat, j < 8 → F.heap[H.size + 1 + j]? = some (vp_cell (V.2.1 0) (6, .inl (fun _ => 0))) := fun j hj => by
    have := Jvm.Free.Multi.fill_inner (T.setVm vm₁) (V.2.1 5) (V.2.1 0) 8 6 (defaultValue .int) 8 j hj
    rw [hF, hTh] at this
    exact this.trans rfl
  have hout : Jvm.Free.Multi.outerC (V.2.1 5) 8 H.size 8 = vp_cell (V.2.1 5) (8, .inr (.inr (.inr (.inr (fun i => if i < 8 then some (H.size + 1 + i) else none))))) := by
    rw [vp_cell_q]
    exact vr_outer (V.2.1 5) 8 H.size 8
  rw [hout] at f2
  obtain ⟨hP, hD, hA, hOld, hS⟩ := hG
  obtain ⟨ad1, had1⟩ : ∃ ad1 : gA, ad1 = fun k i j => if k = 6 ∧ i = 0 ∧ j = 0 then H.size else if k = 8 ∧ i < 8 ∧ j = 0 then H.size + 1 + i else ad k i j := ⟨_, rfl⟩
  obtain ⟨E1, hE1⟩ : ∃ E1 : gE, E1 = fun k i j => if k = 6 ∧ i = 0 ∧ j = 0 then some (.inl (V.2.1 5, 8, .inr (.inr (.inr (.inr (fun i => if i < 8 then some (ad1 8 i 0) else none)))))) else if k = 8 ∧ i < 8 ∧ j = 0 then some (.inl (V.2.1 0, 6, .inl (fun _ => 0))) else E k i j := ⟨_, rfl⟩
  have a6 : ad1 6 0 0 = H.size := by rw [had1]; rfl
  have a8 : ∀ i, i < 8 → ad1 8 i 0 = H.size + 1 + i := fun i hi => by
    rw [had1]
    show (if (8 : Nat) = 6 ∧ i = 0 ∧ 0 = 0 then _ else if (8 : Nat) = 8 ∧ i < 8 ∧ 0 = 0 then _ else _) = _
    rw [if_neg (by omega), if_pos ⟨rfl, hi, rfl⟩]
  have ao : ∀ k i j, ¬ (gL 6 0 0 k i j ∨ (k = 8 ∧ i < 8 ∧ j = 0)) → ad1 k i j = ad k i j := fun k i j h => by
    rw [had1]
    show (if k = 6 ∧ i = 0 ∧ j = 0 then _ else if k = 8 ∧ i < 8 ∧ j = 0 then _ else _) = _
    rw [if_neg (fun z => h (Or.inl z)), if_neg (fun z => h (Or.inr z))]
  have b6 : E1 6 0 0 = some (.inl (V.2.1 5, 8, .inr (.inr (.inr (.inr (fun i => if i < 8 then some (ad1 8 i 0) else none)))))) := by rw [hE1]; rfl
  have b8 : ∀ i, i < 8 → E1 8 i 0 = some (.inl (V.2.1 0, 6, .inl (fun _ => 0))) := fun i hi => by
    rw [hE1]
    show (if (8 : Nat) = 6 ∧ i = 0 ∧ 0 = 0 then _ else if (8 : Nat) = 8 ∧ i < 8 ∧ 0 = 0 then _ else _) = _
    rw [if_neg (by omega), if_pos ⟨rfl, hi, rfl⟩]
  have bo : ∀ k i j, ¬ (gL 6 0 0 k i j ∨ (k = 8 ∧ i < 8 ∧ j = 0)) → E1 k i j = E k i j := fun k i j h => by
    rw [hE1]
    show (if k = 6 ∧ i = 0 ∧ j = 0 then _ else if k = 8 ∧ i < 8 ∧ j = 0 then _ else _) = _
    rw [if_neg (fun z => h (Or.inl z)), if_neg (fun z => h (Or.inr z))]
  have efun : (fun i => if i < 8 then some (ad1 8 i 0) else none) = (fun i => if i < 8 then some (H.size + 1 + i) else none) := by
    funext i
    by_cases h : i < 8
    · rw [if_pos h, if_pos h, a8 i h]
    · rw [if_neg h, if_neg h]
  have hcase : ∀ (k i j : Nat) (x : va_E), E1 k i j = some x → (gL 6 0 0 k i j ∧ ad1 k i j = H.size ∧ va_at V.1 vwCl (ad1 k i j, x) F.heap) ∨ (k = 8 ∧ i < 8 ∧ j = 0 ∧ ad1 k i j = H.size + 1 + i ∧ va_at V.1 vwCl (ad1 k i j, x) F.heap) ∨ (E k i j = some x ∧ ad1 k i j = ad k i j ∧ ad k i j < H.size ∧ va_at V.1 vwCl (ad1 k i j, x) F.heap) := fun k i j x h => by
    by_cases h1 : gL 6 0 0 k i j
    · obtain ⟨rfl, rfl, rfl⟩ := h1
      rw [b6] at h
      cases h
      refine Or.inl ⟨⟨rfl, rfl, rfl⟩, a6, ?_⟩
      rw [a6]
      show F.heap[H.size]? = some (vp_cell _ _)
      rw [f2, efun]
    · by_cases h2 : k = 8 ∧ i < 8 ∧ j = 0
      · obtain ⟨rfl, hi, rfl⟩ := h2
        rw [b8 i hi] at h
        cases h
        refine Or.inr (Or.inl ⟨rfl, hi, rfl, a8 i hi, ?_⟩)
        rw [a8 i hi]
        exact hrow i hi
      · have hno : ¬ (gL 6 0 0 k i j ∨ (k = 8 ∧ i < 8 ∧ j = 0)) := fun z => z.elim h1 h2
        rw [bo _ _ _ hno] at h
        have hat := hP.1 _ _ _ _ h
        refine Or.inr (Or.inr ⟨h, ao _ _ _ hno, hat.lt, ?_⟩)
        rw [ao _ _ _ hno]
        exact hat.kept (hold _ hat.lt)
  have hW1 : gW V A H0 ad1 E1 F.heap locs := by
    refine ⟨⟨fun k i j x h => ?_, fun k i j x k' i' j' x' h h' z => ?_⟩, fun k i j x h => ?_, hA, hOld, ⟨by have := hS.1; omega, fun q g1 g2 => by rw [hold q (by have := hS.1; omega)]; exact hS.2.1 q g1 g2, hS.2.2⟩⟩
    · rcases hcase k i j x h with h | h | h
      · exact h.2.2
      · exact h.2.2.2.2
      · exact h.2.2.2
    · rcases hcase k i j x h with ⟨⟨h1, h2, h3⟩, h4, -⟩ | ⟨h1, h2, h3, h4, -⟩ | ⟨h1, h2, h3, -⟩ <;> rcases hcase k' i' j' x' h' with ⟨⟨g1, g2, g3⟩, g4, -⟩ | ⟨g1, g2, g3, g4, -⟩ | ⟨g1, g2, g3, -⟩
      · omega
      · omega
      · omega
      · omega
      · omega
      · omega
      · omega
      · omega
      · rw [h2, g2] at z
        exact hP.2 _ _ _ _ _ _ _ _ h1 g1 z
    · have hz := hS.1
      rcases hcase k i j x h with h | h | h
      · rw [h.2.1]; exact hA _ (by omega)
      · rw [h.2.2.2.1]; exact hA _ (by omega)
      · rw [h.2.1]; exact hD _ _ _ _ h.1
  obtain ⟨t, a1, b1⟩ := kk H.size ad1 E1 F.heap a6 b6 b8 (fun k i j h => ⟨bo _ _ _ h, ao _ _ _ h⟩) hW1 F rfl X'
  refine ⟨t, step t ?_, b1⟩
  have e : T.heap.size = H.size := by rw [hT]
  rw [e]
  exact a1
end GK
