/-! Calls that throw. -/
def gXC (EX : String) (post : gA → gE → Prop) (V : gV) (ad : gA) (E : gE) (sz : Nat) : String → State → State → Prop := vx_X (S := gA × gE) (fun u => post u.1 u.2) (fun nm u t => nm = EX ∧ gB V ad E sz u.1 u.2 t) (gAd ad E sz)
def gX (l : Launch) (y : MethodName) (cc : ByteArray) (n : Nat) (ret : Option FieldType) (rm : Room) (av : List Value) (V : gV) (ad : gA) (E : gE) (EX : String) (post : gA → gE → Prop) : Prop := ∀ sz : Nat, vx_Met l y (gws y cc n ret) rm (gPc av V ad E sz) (fun _ _ _ _ => False) (gXC EX post V ad E sz) rm.cells rm.slots (gAd ad E sz)
theorem gX.of {l : Launch} {y : MethodName} {cc : ByteArray} {n : Nat} {ret : Option FieldType} {rm : Room} {av : List Value} {V : gV} {ad : gA} {E : gE} {EX : String} {post : gA → gE → Prop} (hy : plainName y.cls = true) (hn : (lg_sl av).length ≤ n)
    (body : ∀ (sz : Nat) (p : Program) (e : Env) (s : State) (m : MethodId) (below : List Frame) (meth : Method) (c : Code) (ls : Array Slot), (∀ x ∈ c.exceptionTable.toList, False) → gC p s m meth c y.cls cc n ret av.toArray V → sz = s.heap.size → gW V (gAd ad E sz) s.heap ad E s.heap [] → lv_has ls n (lv_args 0 av) →
      W p l e rm s m av.toArray below meth c s.heap [] 0 0 (vx_MQ below (fun _ _ _ _ => False) (gXC EX post V ad E sz) av.toArray s rm.cells rm.slots (gAd ad E sz)) (F0 m 0 ls [])) : gX l y cc n ret rm av V ad E EX post := by
  intro sz
  refine vx_ofW (cc := cc) (maxL := n) (ret := ret) hy rfl ?_
  intro p e s m args below meth c s₁ B hml htab hv
  obtain ⟨rfl, hsz, hP, hO, hK, hE⟩ := hv
  have hts := atoms_spec (ws := gws y cc n ret) B.pre
  have hl := lv_entry av (n := n) hn
  rw [lg_entry_eq]
  exact body sz p e s m below meth c _ htab ⟨B.exec, B.bytes, hml, findClass_of_methodNamed B.named, fun w hw => hts w (List.mem_cons_of_mem _ hw), B.returns, B.notSynchronized, hK, hE⟩ hsz.symm ⟨hP, fun k i j e h => Or.inl ⟨k, i, j, e, h, rfl⟩, fun q h => Or.inr (by omega), fun q h => by
    rcases h with ⟨k, i, j, x, h1, h2⟩ | h
    · rw [← h2]; exact hO _ _ _ _ h1
    · exact Nat.le_trans hE.1 (by omega), va_S.rf⟩ hl
def kX (l : Launch) (y : MethodName) (cc : ByteArray) (n : Nat) (ret : Option FieldType) (rm : Room) (av : List Value) (V : gV) (ad : gA) (T : rS) (EX : String) : Prop := ∀ E : gE, cmOK V ad T E → gX l y cc n ret rm av V ad E EX (fun ad2 E2 => ad2 = ad ∧ cmX E E2 ∧ cmOK V ad T E2)
theorem kX.of {l : Launch} {y : MethodName} {cc : ByteArray} {n : Nat} {ret : Option FieldType} {rm : Room} {av : List Value} {V : gV} {ad : gA} {T : rS} {EX : String} (hy : plainName y.cls = true) (hn : (lg_sl av).length ≤ n)
    (body : ∀ (p : Program) (e : Env) (s : State) (m : MethodId) (below : List Frame) (meth : Method) (c : Code) (ls : Array Slot) (E : gE) (sz : Nat), (∀ x ∈ c.exceptionTable.toList, False) → gC p s m meth c y.cls cc n ret av.toArray V → sz = s.heap.size → cmW V (gAd ad E sz) s.heap ad E T s.heap [] → lv_has ls n (lv_args 0 av) →
      W p l e rm s m av.toArray below meth c s.heap [] 0 0 (vx_MQ below (fun _ _ _ _ => False) (gXC EX (fun ad2 E2 => ad2 = ad ∧ cmX E E2 ∧ cmOK V ad T E2) V ad E sz) av.toArray s rm.cells rm.slots (gAd ad E sz)) (F0 m 0 ls [])) : kX l y cc n ret rm av V ad T EX :=
  fun E hO => gX.of hy hn (fun sz p e s m below meth c ls htab hC hz hG hl => body p e s m below meth c ls E sz htab hC hz ⟨E, hG, hO, cmX.rf⟩ hl)
section XR
variable {p : Program} {l : Launch} {e : Env} {R : Room} {s : State} {m : MethodId} {args : Array Value} {below : List Frame} {meth : Method} {c : Code} {H : Heap} {locs : List Loc} {cells slots : Nat} {Q : State → Prop}
variable {cc : ByteArray} {pc nL : Nat} {ls : Array Slot} {rest : List Value} {V : gV} {A : Nat → Prop} {H0 : Heap} {ad : gA} {E : gE} {own : String} {ret : Option FieldType} {T : rS}
theorem gxw_use (hC : gC p s m meth c own cc nL ret args V) : ∀ w ∈ gxw.filter (fun w => w.onTables), w.before args s = true := fun w hw => by
  obtain ⟨h1, h2⟩ := List.mem_filter.mp hw
  exact va_Nw.use h2 (hC.2.2.2.2.2.2.2.2.2.1 w h1)
theorem xg_IO : (vx_atS RX5 55 "java/lang/IndexOutOfBoundsException" ["java/lang/RuntimeException", "java/lang/Exception"]).filter goodWord ⊆ wsL_law := by
  have h : ((vx_atS RX5 55 "java/lang/IndexOutOfBoundsException" ["java/lang/RuntimeException", "java/lang/Exception"]).filter goodWord).all (fun w => decide (w ∈ wsL_law)) = true := by decide +kernel
  exact fun w hw => of_decide_eq_true (List.all_eq_true.mp h w hw)
theorem xb_IO : ∀ w ∈ (vx_atS RX5 55 "java/lang/IndexOutOfBoundsException" ["java/lang/RuntimeException", "java/lang/Exception"]).filter (fun w => !goodWord w), w ∈ gxw.filter (fun w => w.onTables) := by
  have h : ((vx_atS RX5 55 "java/lang/IndexOutOfBoundsException" ["java/lang/RuntimeException", "java/lang/Exception"]).filter (fun w => !goodWord w)).all (fun w => decide (w ∈ gxw.filter (fun w => w.onTables))) = true := by decide +kernel
  exact fun w hw => of_decide_eq_true (List.all_eq_true.mp h w hw)
theorem xo_IO : ∀ w ∈ Cond.classLink RX5 51 "java/lang/IndexOutOfBoundsException" :: Cond.initialized "java/lang/IndexOutOfBoundsException" :: vx_atS RX5 55 "java/lang/IndexOutOfBoundsException" ["java/lang/RuntimeException", "java/lang/Exception"], vx_ot w = true := by
  have h : (Cond.classLink RX5 51 "java/lang/IndexOutOfBoundsException" :: Cond.initialized "java/lang/IndexOutOfBoundsException" :: vx_atS RX5 55 "java/lang/IndexOutOfBoundsException" ["java/lang/RuntimeException", "java/lang/Exception"]).all vx_ot = true := by decide +kernel
  exact fun w hw => List.all_eq_true.mp h w hw
/-- throw new java/lang/IndexOutOfBoundsException("text") -/
theorem kx_throw_IO (hST : l.stackTraces = false) {E0 : gE} {sz mc ms is : Nat} {tx : String} {Qc : Array Value → State → Outcome → State → Prop} (htab : ∀ x ∈ c.exceptionTable.toList, False) (hC : gC p s m meth c RX5 cc nL ret args V) (hz : sz = s.heap.size) (hW : cmW V (gAd ad E0 sz) s.heap ad E0 T H locs) (hsz : ls.size = nL) (hst : (is, tx) ∈ gstr)
    (d0 : decode cc pc = .ok (.new 51, 3)) (d3 : decode cc (pc + 3) = .ok (.dup, 1)) (d4 : decode cc (pc + 4) = .ok (.ldc is, 2)) (d6 : decode cc (pc + 6) = .ok (.invokespecial 55, 3)) (d9 : decode cc (pc + 9) = .ok (.athrow, 1))
    (hRframes : 5 < R.frames) (hRlocals : (rest.map fun v => v.category).sum + 82 ≤ R.locals) (hRcells : cells + 1 ≤ R.cells) (hRslots : slots + 6 ≤ R.slots) (hc : cells + 1 ≤ mc) (hs : slots + 6 ≤ ms) :
    W p l e R s m args below meth c H locs cells slots (vx_MQ below Qc (gXC "java/lang/IndexOutOfBoundsException" (fun ad2 E2 => ad2 = ad ∧ cmX E0 E2 ∧ cmOK V ad T E2) V ad E0 sz) args s mc ms (gAd ad E0 sz)) (F0 m pc ls rest) := by
  obtain ⟨E, hG, hO, hX⟩ := hW
  have hts := hC.2.2.2.2.1
  have hEv := hC.2.2.2.2.2.2.2.2
  refine vx_throwS (names := ["java/lang/RuntimeException", "java/lang/Exception"]) (ik := 51) (ic := 55) (is := is) (text := tx) (sa := V.2.2 (10 + is)) (A := gAd ad E0 sz) hC.1 hC.2.1 hST hC.2.2.2.1 (by decide +kernel) (by decide +kernel) (hts _ kc_RX5_51) (hts _ kz_java_lang_IndexOutOfBoundsException) (hEv.2.2.1 (is, tx) hst) (vx_hat (fun w hw => hts w (xg_IO hw)) xb_IO (gxw_use hC)) xo_IO
    (hEv.2.2.2.2.2.2.1.narrow hG.2.2.2.1) (hEv.2.2.2.2.2.2.2.1.narrow hG.2.2.2.1) hG.2.2.2.2 (hsz.trans hC.2.2.1.symm) d0 d3 d4 d6 d9 (fun x hx => absurd hx (fun z => htab x z)) hRframes hRlocals hRcells hRslots hC.2.2.2.2.2.2.1 ?_ hG.2.2.2.2.2.2 hc hs
  intro t _ h1 h2
  refine ⟨(ad, E), ⟨rfl, hX, hO⟩, ⟨rfl, ⟨⟨fun k i j x hx => ?_, hG.1.2⟩, hG.2.1⟩⟩, ⟨by have := hG.2.2.2.2.1; omega, fun q g1 g2 => by rw [h2 q (by have := hG.2.2.2.2.1; omega)]; exact hG.2.2.2.2.2.1 q g1 g2⟩⟩
  have hat := hG.1.1 k i j x hx
  exact hat.kept (h2 _ hat.lt)
theorem xg_IS : (vx_atS RX5 65 "java/lang/IllegalStateException" ["java/lang/RuntimeException", "java/lang/Exception"]).filter goodWord ⊆ wsL_law := by
  have h : ((vx_atS RX5 65 "java/lang/IllegalStateException" ["java/lang/RuntimeException", "java/lang/Exception"]).filter goodWord).all (fun w => decide (w ∈ wsL_law)) = true := by decide +kernel
  exact fun w hw => of_decide_eq_true (List.all_eq_true.mp h w hw)
theorem xb_IS : ∀ w ∈ (vx_atS RX5 65 "java/lang/IllegalStateException" ["java/lang/RuntimeException", "java/lang/Exception"]).filter (fun w => !goodWord w), w ∈ gxw.filter (fun w => w.onTables) := by
  have h : ((vx_atS RX5 65 "java/lang/IllegalStateException" ["java/lang/RuntimeException", "java/lang/Exception"]).filter (fun w => !goodWord w)).all (fun w => decide (w ∈ gxw.filter (fun w => w.onTables))) = true := by decide +kernel
  exact fun w hw => of_decide_eq_true (List.all_eq_true.mp h w hw)
theorem xo_IS : ∀ w ∈ Cond.classLink RX5 61 "java/lang/IllegalStateException" :: Cond.initialized "java/lang/IllegalStateException" :: vx_atS RX5 65 "java/lang/IllegalStateException" ["java/lang/RuntimeException", "java/lang/Exception"], vx_ot w = true := by
  have h : (Cond.classLink RX5 61 "java/lang/IllegalStateException" :: Cond.initialized "java/lang/IllegalStateException" :: vx_atS RX5 65 "java/lang/IllegalStateException" ["java/lang/RuntimeException", "java/lang/Exception"]).all vx_ot = true := by decide +kernel
  exact fun w hw => List.all_eq_true.mp h w hw
/-- throw new java/lang/IllegalStateException("text") -/
theorem kx_throw_IS (hST : l.stackTraces = false) {E0 : gE} {sz mc ms is : Nat} {tx : String} {Qc : Array Value → State → Outcome → State → Prop} (htab : ∀ x ∈ c.exceptionTable.toList, False) (hC : gC p s m meth c RX5 cc nL ret args V) (hz : sz = s.heap.size) (hW : cmW V (gAd ad E0 sz) s.heap ad E0 T H locs) (hsz : ls.size = nL) (hst : (is, tx) ∈ gstr)
    (d0 : decode cc pc = .ok (.new 61, 3)) (d3 : decode cc (pc + 3) = .ok (.dup, 1)) (d4 : decode cc (pc + 4) = .ok (.ldc is, 2)) (d6 : decode cc (pc + 6) = .ok (.invokespecial 65, 3)) (d9 : decode cc (pc + 9) = .ok (.athrow, 1))
    (hRframes : 5 < R.frames) (hRlocals : (rest.map fun v => v.category).sum + 82 ≤ R.locals) (hRcells : cells + 1 ≤ R.cells) (hRslots : slots + 6 ≤ R.slots) (hc : cells + 1 ≤ mc) (hs : slots + 6 ≤ ms) :
    W p l e R s m args below meth c H locs cells slots (vx_MQ below Qc (gXC "java/lang/IllegalStateException" (fun ad2 E2 => ad2 = ad ∧ cmX E0 E2 ∧ cmOK V ad T E2) V ad E0 sz) args s mc ms (gAd ad E0 sz)) (F0 m pc ls rest) := by
  obtain ⟨E, hG, hO, hX⟩ := hW
  have hts := hC.2.2.2.2.1
  have hEv := hC.2.2.2.2.2.2.2.2
  refine vx_throwS (names := ["java/lang/RuntimeException", "java/lang/Exception"]) (ik := 61) (ic := 65) (is := is) (text := tx) (sa := V.2.2 (10 + is)) (A := gAd ad E0 sz) hC.1 hC.2.1 hST hC.2.2.2.1 (by decide +kernel) (by decide +kernel) (hts _ kc_RX5_61) (hts _ kz_java_lang_IllegalStateException) (hEv.2.2.1 (is, tx) hst) (vx_hat (fun w hw => hts w (xg_IS hw)) xb_IS (gxw_use hC)) xo_IS
    (hEv.2.2.2.2.2.2.1.narrow hG.2.2.2.1) (hEv.2.2.2.2.2.2.2.1.narrow hG.2.2.2.1) hG.2.2.2.2 (hsz.trans hC.2.2.1.symm) d0 d3 d4 d6 d9 (fun x hx => absurd hx (fun z => htab x z)) hRframes hRlocals hRcells hRslots hC.2.2.2.2.2.2.1 ?_ hG.2.2.2.2.2.2 hc hs
  intro t _ h1 h2
  refine ⟨(ad, E), ⟨rfl, hX, hO⟩, ⟨rfl, ⟨⟨fun k i j x hx => ?_, hG.1.2⟩, hG.2.1⟩⟩, ⟨by have := hG.2.2.2.2.1; omega, fun q g1 g2 => by rw [h2 q (by have := hG.2.2.2.2.1; omega)]; exact hG.2.2.2.2.2.1 q g1 g2⟩⟩
  have hat := hG.1.1 k i j x hx
  exact hat.kept (h2 _ hat.lt)
theorem xg_IA : (vx_atS RX5 95 "java/lang/IllegalArgumentException" ["java/lang/RuntimeException", "java/lang/Exception"]).filter goodWord ⊆ wsL_law := by
  have h : ((vx_atS RX5 95 "java/lang/IllegalArgumentException" ["java/lang/RuntimeException", "java/lang/Exception"]).filter goodWord).all (fun w => decide (w ∈ wsL_law)) = true := by decide +kernel
  exact fun w hw => of_decide_eq_true (List.all_eq_true.mp h w hw)
theorem xb_IA : ∀ w ∈ (vx_atS RX5 95 "java/lang/IllegalArgumentException" ["java/lang/RuntimeException", "java/lang/Exception"]).filter (fun w => !goodWord w), w ∈ gxw.filter (fun w => w.onTables) := by
  have h : ((vx_atS RX5 95 "java/lang/IllegalArgumentException" ["java/lang/RuntimeException", "java/lang/Exception"]).filter (fun w => !goodWord w)).all (fun w => decide (w ∈ gxw.filter (fun w => w.onTables))) = true := by decide +kernel
  exact fun w hw => of_decide_eq_true (List.all_eq_true.mp h w hw)
theorem xo_IA : ∀ w ∈ Cond.classLink RX5 91 "java/lang/IllegalArgumentException" :: Cond.initialized "java/lang/IllegalArgumentException" :: vx_atS RX5 95 "java/lang/IllegalArgumentException" ["java/lang/RuntimeException", "java/lang/Exception"], vx_ot w = true := by
  have h : (Cond.classLink RX5 91 "java/lang/IllegalArgumentException" :: Cond.initialized "java/lang/IllegalArgumentException" :: vx_atS RX5 95 "java/lang/IllegalArgumentException" ["java/lang/RuntimeException", "java/lang/Exception"]).all vx_ot = true := by decide +kernel
  exact fun w hw => List.all_eq_true.mp h w hw
/-- throw new java/lang/IllegalArgumentException("text") -/
theorem kx_throw_IA (hST : l.stackTraces = false) {E0 : gE} {sz mc ms is : Nat} {tx : String} {Qc : Array Value → State → Outcome → State → Prop} (htab : ∀ x ∈ c.exceptionTable.toList, False) (hC : gC p s m meth c RX5 cc nL ret args V) (hz : sz = s.heap.size) (hW : cmW V (gAd ad E0 sz) s.heap ad E0 T H locs) (hsz : ls.size = nL) (hst : (is, tx) ∈ gstr)
    (d0 : decode cc pc = .ok (.new 91, 3)) (d3 : decode cc (pc + 3) = .ok (.dup, 1)) (d4 : decode cc (pc + 4) = .ok (.ldc is, 2)) (d6 : decode cc (pc + 6) = .ok (.invokespecial 95, 3)) (d9 : decode cc (pc + 9) = .ok (.athrow, 1))
    (hRframes : 5 < R.frames) (hRlocals : (rest.map fun v => v.category).sum + 82 ≤ R.locals) (hRcells : cells + 1 ≤ R.cells) (hRslots : slots + 6 ≤ R.slots) (hc : cells + 1 ≤ mc) (hs : slots + 6 ≤ ms) :
    W p l e R s m args below meth c H locs cells slots (vx_MQ below Qc (gXC "java/lang/IllegalArgumentException" (fun ad2 E2 => ad2 = ad ∧ cmX E0 E2 ∧ cmOK V ad T E2) V ad E0 sz) args s mc ms (gAd ad E0 sz)) (F0 m pc ls rest) := by
  obtain ⟨E, hG, hO, hX⟩ := hW
  have hts := hC.2.2.2.2.1
  have hEv := hC.2.2.2.2.2.2.2.2
  refine vx_throwS (names := ["java/lang/RuntimeException", "java/lang/Exception"]) (ik := 91) (ic := 95) (is := is) (text := tx) (sa := V.2.2 (10 + is)) (A := gAd ad E0 sz) hC.1 hC.2.1 hST hC.2.2.2.1 (by decide +kernel) (by decide +kernel) (hts _ kc_RX5_91) (hts _ kz_java_lang_IllegalArgumentException) (hEv.2.2.1 (is, tx) hst) (vx_hat (fun w hw => hts w (xg_IA hw)) xb_IA (gxw_use hC)) xo_IA
    (hEv.2.2.2.2.2.2.1.narrow hG.2.2.2.1) (hEv.2.2.2.2.2.2.2.1.narrow hG.2.2.2.1) hG.2.2.2.2 (hsz.trans hC.2.2.1.symm) d0 d3 d4 d6 d9 (fun x hx => absurd hx (fun z => htab x z)) hRframes hRlocals hRcells hRslots hC.2.2.2.2.2.2.1 ?_ hG.2.2.2.2.2.2 hc hs
  intro t _ h1 h2
  refine ⟨(ad, E), ⟨rfl, hX, hO⟩, ⟨rfl, ⟨⟨fun k i j x hx => ?_, hG.1.2⟩, hG.2.1⟩⟩, ⟨by have := hG.2.2.2.2.1; omega, fun q g1 g2 => by rw [h2 q (by have := hG.2.2.2.2.1; omega)]; exact hG.2.2.2.2.2.1 q g1 g2⟩⟩
  have hat := hG.1.1 k i j x hx
  exact hat.kept (h2 _ hat.lt)
/-- a call that throws: what comes over this method's frame -/
theorem gx_V (hC : gC p s m meth c own cc nL ret args V) (hG : gW V A s.heap ad E H locs) {y : MethodName} {cy : ByteArray} {n index : Nat} {rt : Option FieldType} {rm : Room} {av st : List Value} {EX : String} {post : gA → gE → Prop} {ci k i j : Nat} {C : String} {TT : u_T} {NN : Nat} {fs : List Value} (hv : E k i j = some (.inr (ci, fs))) (hc : vwCl[ci]? = some (C, TT, NN)) (hM : gX l y cy n rt rm (.ref (ad k i j) :: av) V ad E EX post) (k1 : Cond.methodLink own index y ∈ wsL_law) (k2 : Cond.instanceMethod y ∈ wsL_law) (k3 : Cond.selects C y y ∈ wsL_law) (k4 : Cond.initialized C ∈ wsL_law) (k5 : Cond.code y cy n rt ∈ wsL_law) (hd : y.cls = C ∧ y.cls ≠ "java/lang/invoke/MethodHandle" ∧ y.cls ≠ "java/lang/invoke/VarHandle" ∧ (parseMethodDescriptor y.desc).map (fun d => d.parameters.length) = some av.length) (hst : st = av.reverse ++ .ref (ad k i j) :: rest) (hsz : ls.size = nL) (hrm : rm.frames + 1 ≤ R.frames ∧ 8 + (n + 11) + rm.locals ≤ R.locals) (hcat : (rest.map fun v => v.category).sum ≤ 8) (hf : cells + rm.cells ≤ R.cells ∧ slots + rm.slots ≤ R.slots) (hdg : decode cc pc = .ok (.invokevirtual index, 3))
    (kx : ∀ (ad1 : gA) (E1 : gE) (H1 : Heap) (locs1 : List Loc) (q9 : Addr) (ce : Cell), post ad1 E1 → gW V A s.heap ad1 E1 H1 locs1 → H1[q9]? = some ce → ce.vm = .none → s.vm.findClass EX = some ce.cls → vx_W p l e R s m args below meth c H1 locs1 (cells + rm.cells) (slots + rm.slots) Q (F0 m pc ls rest) q9) : W p l e R s m args below meth c H locs cells slots Q (F0 m pc ls st) := by
  have hr := vx_runV (e := e) (below := below) (meth := meth) (locs := locs) (cells := cells) (slots := slots) (g := F0 m pc ls st) (As := av) (rest := rest) (g_fix hC) (hM H.size) (cwV av.length hC.2.2.2.2.1 (gG_V (fun _ h => h) k1 k2 k3 k4 k5) rfl rfl rfl hd hrm) ⟨gB_blind, g_recv hC hG hv hc, g_pre hC hG⟩ rfl rfl hsz (by rw [hst]) (by simpa using hcat) hdg hf
  intro T hT X
  rcases hr T hT X with ⟨v, st₀, t, T', L, h0, X', hL, e1, e2, hF, st⟩ | ⟨q, st₀, t, T', L, EE, ce, h0, X', hL, e1, e2, ⟨u, hp, ⟨hb1, hb⟩, hF⟩, hce, hcv, hcl, st⟩
  · exact hF.elim
  · subst hb1
    obtain ⟨k1, k2, k3⟩ := vx_keep h0 e1 hG.2.2.2.2 (fun q _ h => g_free hG q h) (g_free hG) hL hF
    obtain ⟨t2, a1, b1⟩ := kx u.1 u.2 T'.heap (locs ++ L) q ce hp (g_back hG rfl e1.symm hb k3) (by rw [e1]; exact hce) hcv hcl T' rfl X'
    exact ⟨t2, st.trans a1, b1⟩
/-- .. and goes on -/
theorem kx_V {E0 : gE} {sz mc ms : Nat} {Qc : Array Value → State → Outcome → State → Prop} (htab : ∀ x ∈ c.exceptionTable.toList, False) (hC : gC p s m meth c own cc nL ret args V) (hz : sz = s.heap.size) (hW : cmW V (gAd ad E0 sz) s.heap ad E0 T H locs) {y : MethodName} {cy : ByteArray} {n index : Nat} {rt : Option FieldType} {rm : Room} {av st : List Value} {EX : String} {ci k i j : Nat} {C : String} {TT : u_T} {NN : Nat} (hv : ∀ E : gE, cmOK V ad T E → ∃ fs, E k i j = some (.inr (ci, fs))) (hc : vwCl[ci]? = some (C, TT, NN)) (hM : kX l y cy n rt rm (.ref (ad k i j) :: av) V ad T EX) (k1 : Cond.methodLink own index y ∈ wsL_law) (k2 : Cond.instanceMethod y ∈ wsL_law) (k3 : Cond.selects C y y ∈ wsL_law) (k4 : Cond.initialized C ∈ wsL_law) (k5 : Cond.code y cy n rt ∈ wsL_law) (hd : y.cls = C ∧ y.cls ≠ "java/lang/invoke/MethodHandle" ∧ y.cls ≠ "java/lang/invoke/VarHandle" ∧ (parseMethodDescriptor y.desc).map (fun d => d.parameters.length) = some av.length) (hst : st = av.reverse ++ .ref (ad k i j) :: rest) (hsz : ls.size = nL) (hrm : rm.frames + 1 ≤ R.frames ∧ 8 + (n + 11) + rm.locals ≤ R.locals) (hcat : (rest.map fun v => v.category).sum ≤ 8) (hf : cells + rm.cells ≤ R.cells ∧ slots + rm.slots ≤ R.slots) (hdg : decode cc pc = .ok (.invokevirtual index, 3)) (hmc : cells + rm.cells ≤ mc) (hms : slots + rm.slots ≤ ms) :
    W p l e R s m args below meth c H locs cells slots (vx_MQ below Qc (gXC EX (fun ad2 E2 => ad2 = ad ∧ cmX E0 E2 ∧ cmOK V ad T E2) V ad E0 sz) args s mc ms (gAd ad E0 sz)) (F0 m pc ls st) := by
  obtain ⟨E, hG, hO, hX⟩ := hW
  obtain ⟨fs, he⟩ := hv E hO
  refine gx_V hC hG he hc (hM E hO) k1 k2 k3 k4 k5 hd hst hsz hrm hcat hf hdg (fun ad1 E1 H1 locs1 q9 ce hp hG1 hce hcv hcl => ?_)
  obtain ⟨rfl, hX1, hO1⟩ := hp
  refine vx_out (fun x hx => absurd hx (fun z => htab x z)) hC.2.2.2.2.2.2.1 hce hcv hcl (fun t ht _ => ?_) hG1.2.2.2.2.2.2 hmc hms
  exact ⟨(ad1, E1), ⟨rfl, hX.tr hX1, hO1⟩, ⟨rfl, by show gP V ad1 E1 t.heap; rw [ht]; exact hG1.1, hG1.2.1⟩, hG1.2.2.2.2.F ht⟩
end XR
