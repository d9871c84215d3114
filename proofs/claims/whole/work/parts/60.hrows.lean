/-! The law's helpers: the class's cells (under 30), the reference's (50, 51), the row 'out' (60). -/
theorem lst_ext {V : gV} {ad : gA} {E E1 : gE} {kl il ke n : Nat} {f : Nat → Nat} (h1 : E1 kl il 0 = E kl il 0) (h2 : E1 ke il 0 = E ke il 0) (h : lstOK V ad E kl il ke n f) : lstOK V ad E1 kl il ke n f := by
  obtain ⟨mc, el, g1, g2⟩ := h
  refine ⟨mc, el, h1.trans g1, ?_⟩
  rcases g2 with g | ⟨g3, cap, h, g4, g5, g6, g7⟩
  · exact Or.inl g
  · exact Or.inr ⟨g3, cap, h, g4, g5, h2.trans g6, g7⟩
theorem cm_ext {V : gV} {ad : gA} {E E1 : gE} {T : rS} (h : ∀ k i j : Nat, k < 30 → E1 k i j = E k i j) (hO : cmOK V ad T E) : cmOK V ad T E1 :=
  ⟨(h 0 0 0 (by omega)).trans hO.1, (h 4 0 0 (by omega)).trans hO.2.1, (h 1 0 0 (by omega)).trans hO.2.2.1, (h 5 0 0 (by omega)).trans hO.2.2.2.1, (h 6 0 0 (by omega)).trans hO.2.2.2.2.1, fun c hc => let ⟨f, h1, h2⟩ := hO.2.2.2.2.2.1 c hc; ⟨f, (h 8 c 0 (by omega)).trans h1, h2⟩, (h 7 0 0 (by omega)).trans hO.2.2.2.2.2.2.1, (h 3 0 0 (by omega)).trans hO.2.2.2.2.2.2.2.1, fun i hi => (h 10 i 0 (by omega)).trans (hO.2.2.2.2.2.2.2.2.1 i hi), fun c hc => let ⟨f, h1, h2⟩ := hO.2.2.2.2.2.2.2.2.2.1 c hc; ⟨f, (h 11 c 0 (by omega)).trans h1, h2⟩, fun c hc => let ⟨f, h1, h2⟩ := hO.2.2.2.2.2.2.2.2.2.2.1 c hc; ⟨f, (h 12 c 0 (by omega)).trans h1, h2⟩, lst_ext (h 2 0 0 (by omega)) (h 9 0 0 (by omega)) hO.2.2.2.2.2.2.2.2.2.2.2.1, fun m hm => (h 13 m 0 (by omega)).trans (hO.2.2.2.2.2.2.2.2.2.2.2.2.1 m hm), fun m hm => lst_ext (h 14 m 0 (by omega)) (h 15 m 0 (by omega)) (hO.2.2.2.2.2.2.2.2.2.2.2.2.2.1 m hm), fun m q hm hq => (h 16 m q (by omega)).trans (hO.2.2.2.2.2.2.2.2.2.2.2.2.2.2.1 m q hm hq), fun m q hm hq => (h 17 m q (by omega)).trans (hO.2.2.2.2.2.2.2.2.2.2.2.2.2.2.2.1 m q hm hq), fun m q hm hq => let ⟨f, h1, h2⟩ := hO.2.2.2.2.2.2.2.2.2.2.2.2.2.2.2.2.1 m q hm hq; ⟨f, (h 18 m q (by omega)).trans h1, h2⟩, fun m q hm hq => (h 19 m q (by omega)).trans (hO.2.2.2.2.2.2.2.2.2.2.2.2.2.2.2.2.2.1 m q hm hq), fun m q hm hq => let ⟨f, h1, h2⟩ := hO.2.2.2.2.2.2.2.2.2.2.2.2.2.2.2.2.2.2.1 m q hm hq; ⟨f, (h 20 m q (by omega)).trans h1, h2⟩, hO.2.2.2.2.2.2.2.2.2.2.2.2.2.2.2.2.2.2.2⟩
theorem rf_ext {V : gV} {ad ad1 : gA} {E E1 : gE} {S : rS} (h : ∀ k i j : Nat, k = 50 ∨ k = 51 → E1 k i j = E k i j ∧ ad1 k i j = ad k i j) (hO : rfOK V ad S E) : rfOK V ad1 S E1 := by
  unfold rfOK rfo at *
  simp only [(h 50 0 0 (Or.inl rfl)).1, (h 51 2 0 (Or.inr rfl)).1, (h 51 3 0 (Or.inr rfl)).1, (h 51 5 0 (Or.inr rfl)).1, (h 51 6 0 (Or.inr rfl)).1, (h 51 10 0 (Or.inr rfl)).1, (h 51 11 0 (Or.inr rfl)).1, (h 51 12 0 (Or.inr rfl)).1, (h 51 13 0 (Or.inr rfl)).1, (h 51 14 0 (Or.inr rfl)).1, (h 51 15 0 (Or.inr rfl)).1, (h 51 16 0 (Or.inr rfl)).1, (h 51 18 0 (Or.inr rfl)).1, (h 51 19 0 (Or.inr rfl)).1, (h 51 20 0 (Or.inr rfl)).1, (h 51 21 0 (Or.inr rfl)).1, (h 51 22 0 (Or.inr rfl)).1, (h 51 2 0 (Or.inr rfl)).2, (h 51 3 0 (Or.inr rfl)).2, (h 51 5 0 (Or.inr rfl)).2, (h 51 6 0 (Or.inr rfl)).2, (h 51 10 0 (Or.inr rfl)).2, (h 51 11 0 (Or.inr rfl)).2, (h 51 12 0 (Or.inr rfl)).2, (h 51 13 0 (Or.inr rfl)).2, (h 51 14 0 (Or.inr rfl)).2, (h 51 15 0 (Or.inr rfl)).2, (h 51 16 0 (Or.inr rfl)).2, (h 51 18 0 (Or.inr rfl)).2, (h 51 19 0 (Or.inr rfl)).2, (h 51 20 0 (Or.inr rfl)).2, (h 51 21 0 (Or.inr rfl)).2, (h 51 22 0 (Or.inr rfl)).2]
  exact hO
abbrev gwsW (y : MethodName) (cc : ByteArray) (n : Nat) (ret : Option FieldType) (hh : List (Nat × Nat × Nat × Nat)) : List Cond := Cond.codeWith y cc n ret hh :: wsL_law
def gMh (l : Launch) (y : MethodName) (cc : ByteArray) (n : Nat) (hh : List (Nat × Nat × Nat × Nat)) (rm : Room) (av : List Value) (V : gV) (ad : gA) (E : gE) (post : Int32 → gA → gE → Prop) : Prop := ∀ sz : Nat, Met l y (gwsW y cc n (some .int) hh) rm (gPc av V ad E sz) (gQi post V ad E sz) rm.cells rm.slots (gAd ad E sz)
theorem gMh.of {l : Launch} {y : MethodName} {cc : ByteArray} {n : Nat} {hh : List (Nat × Nat × Nat × Nat)} {rm : Room} {av : List Value} {V : gV} {ad : gA} {E : gE} {post : Int32 → gA → gE → Prop} (hy : plainName y.cls = true) (hn : (lg_sl av).length ≤ n)
    (body : ∀ (sz : Nat) (p : Program) (e : Env) (s : State) (m : MethodId) (below : List Frame) (meth : Method) (c : Code) (ls : Array Slot), c.exceptionTable.toList = tableOf hh → gC p s m meth c y.cls cc n (some .int) av.toArray V → sz = s.heap.size → gW V (gAd ad E sz) s.heap ad E s.heap [] → lv_has ls n (lv_args 0 av) →
      W p l e rm s m av.toArray below meth c s.heap [] 0 0 (MQ below (gQi post V ad E sz) av.toArray s rm.cells rm.slots (gAd ad E sz)) (F0 m 0 ls [])) : gMh l y cc n hh rm av V ad E post := by
  intro sz
  refine va_MetW (cc := cc) (maxL := n) (ret := some .int) (hh := hh) hy rfl ?_
  intro p e s m args below meth c s₁ B hml hv
  obtain ⟨rfl, hsz, hP, hO, hK, hE⟩ := hv
  have hts := atoms_spec (ws := gwsW y cc n (some .int) hh) B.pre
  have hl := lv_entry av (n := n) hn
  rw [lg_entry_eq]
  exact body sz p e s m below meth c _ (vx_table (x := y) B (hts _ List.mem_cons_self)) ⟨B.exec, B.bytes, hml, findClass_of_methodNamed B.named, fun w hw => hts w (List.mem_cons_of_mem _ hw), B.returns, B.notSynchronized, hK, hE⟩ hsz.symm ⟨hP, fun k i j e h => Or.inl ⟨k, i, j, e, h, rfl⟩, fun q h => Or.inr (by omega), fun q h => by
    rcases h with ⟨k, i, j, x, h1, h2⟩ | h
    · rw [← h2]; exact hO _ _ _ _ h1
    · exact Nat.le_trans hE.1 (by omega), va_S.rf⟩ hl
theorem gMh.mono {l : Launch} {y : MethodName} {cc : ByteArray} {n : Nat} {hh : List (Nat × Nat × Nat × Nat)} {rm : Room} {av : List Value} {V : gV} {ad : gA} {E : gE} {post post2 : Int32 → gA → gE → Prop} (h : gMh l y cc n hh rm av V ad E post) (hp : ∀ r ad' E', post r ad' E' → post2 r ad' E') : gMh l y cc n hh rm av V ad E post2 := fun sz => (h sz).mono (fun a st o t q => by
  obtain ⟨⟨r, u, h1, h2, h5⟩, h6⟩ := q
  exact ⟨⟨r, u, h1, hp _ _ _ h2, h5⟩, h6⟩)
abbrev gOut (V : gV) (g : Nat → Int64) : va_E := .inl (V.2.1 1, 1, .inr (.inl g))
/-- what a helper leaves: answer r, out[0], the class's state -/
def hQ (V : gV) (ad : gA) (E : gE) (P : Int32 → Int64 → rS → Prop) : Int32 → gA → gE → Prop := fun r ad' E' => gFr (fun k i j => k < 30 ∨ (k = 60 ∧ i = 0 ∧ j = 0)) ad E ad' E' ∧ ad' 0 0 0 = ad 0 0 0 ∧ ad' 60 0 0 = ad 60 0 0 ∧ ∃ (T' : rS) (g' : Nat → Int64), cmOK V ad' T' E' ∧ E' 60 0 0 = some (gOut V g') ∧ P r (g' 0) T'
section HR
variable {p : Program} {l : Launch} {e : Env} {R : Room} {s : State} {m : MethodId} {args : Array Value} {below : List Frame} {meth : Method} {c : Code} {H : Heap} {locs : List Loc} {cells slots : Nat} {Q : State → Prop}
variable {cc : ByteArray} {pc nL : Nat} {ls : Array Slot} {rest : List Value} {V : gV} {A : Nat → Prop} {H0 : Heap} {ad : gA} {E : gE} {own : String} {ret : Option FieldType} {T : rS}
theorem gc_Sh (hC : gC p s m meth c own cc nL ret args V) (hG : gW V A s.heap ad E H locs) {y : MethodName} {cy : ByteArray} {n index : Nat} {hh : List (Nat × Nat × Nat × Nat)} {rm : Room} {av st : List Value} {post : Int32 → gA → gE → Prop} (hM : gMh l y cy n hh rm av V ad E post) (k1 : Cond.methodLink own index y ∈ wsL_law) (k2 : Cond.static y ∈ wsL_law) (k4 : Cond.initialized y.cls ∈ wsL_law) (k5 : Cond.codeWith y cy n (some .int) hh ∈ wsL_law) (hd : y.cls ≠ "java/lang/invoke/MethodHandle" ∧ y.cls ≠ "java/lang/invoke/VarHandle" ∧ (parseMethodDescriptor y.desc).map (fun d => d.parameters.length) = some av.length) (hst : st = av.reverse ++ rest) (hsz : ls.size = nL) (hrm : rm.frames + 1 ≤ R.frames ∧ 8 + (n + 11) + rm.locals ≤ R.locals) (hcat : (rest.map fun v => v.category).sum ≤ 8) (hf : cells + rm.cells ≤ R.cells ∧ slots + rm.slots ≤ R.slots) (hdg : decode cc pc = .ok (.invokestatic index, 3))
    (kk : ∀ (r : Int32) (ad1 : gA) (E1 : gE) (H1 : Heap) (locs1 : List Loc), post r ad1 E1 → gW V A s.heap ad1 E1 H1 locs1 → H.size ≤ H1.size → W p l e R s m args below meth c H1 locs1 (cells + rm.cells) (slots + rm.slots) Q (F0 m (pc + 3) ls (.int r :: rest))) : W p l e R s m args below meth c H locs cells slots Q (F0 m pc ls st) := by
  have hT : GoodIn wsL_law (va_wsS own index y (gwsW y cy n (some .int) hh)) := by
    intro w hw
    have h1 : w ∈ wsL_law := by
      unfold va_wsS at hw
      rcases List.mem_append.mp hw with h | h
      · simp only [List.mem_cons, List.not_mem_nil, or_false] at h
        rcases h with h | h | h
        · rw [h]; exact k1
        · rw [h]; exact k2
        · rw [h]; exact k4
      · rcases List.mem_cons.mp h with h | h
        · rw [h]; exact k5
        · exact h
    exact ⟨h1, good_of_word (List.all_eq_true.mp gG_all w h1)⟩
  refine va_calli (vx_runSW (As := av) (rest := rest) (g_fix hC) (hM H.size) (vx_cwSW av.length hC.2.2.2.2.1 hT rfl rfl rfl hd hrm) ⟨gB_blind, g_pre hC hG⟩ rfl rfl hsz (by rw [hst]) (by simpa using hcat) hdg hf) hG.2.2.2.2 (fun q _ h => g_free hG q h) (g_free hG) (fun r u t H1 locs1 ht _ hp hB hz _ hS => ?_)
  obtain ⟨ad1, E1⟩ := u
  exact kk r ad1 E1 H1 locs1 hp (g_back hG rfl ht hB hS) hz
theorem gk_last (hC : gC p s m meth c own cc nL ret args V) (hG : gW V A H0 ad E H locs) {k i j n r : Nat} {f : Nat → Int64} (hrr : ad k i j = r) (he : E k i j = some (.inl (V.2.1 1, n, .inr (.inl f)))) {x : Int32} {y : Int64} (hin : vp_in x n) (hdg : decode cc pc = .ok (.lastore, 1))
    (kk : ∀ (H1 : Heap) (locs1 : List Loc), gW V A H0 ad (gu E k i j (.inl (V.2.1 1, n, .inr (.inl (va_up f x.toNatClampNeg y))))) H1 locs1 → W p l e R s m args below meth c H1 locs1 cells slots Q (F0 m (pc + 1) ls rest)) : W p l e R s m args below meth c H locs cells slots Q (F0 m pc ls (.long y :: .int x :: .ref r :: rest)) := by
  subst hrr
  exact gq_last hC hG he hin hdg kk
theorem h_cast (hC : gC p s m meth c own cc nL ret args V) {EX : String} (h : Cond.castable EX EX ∈ gxw) : (Cond.castable EX EX).before args s = true := va_Nw.use rfl (hC.2.2.2.2.2.2.2.2.2.1 _ h)
theorem h_nc (hC : gC p s m meth c own cc nL ret args V) : va_Nc "java/lang/IllegalStateException" "java/lang/IndexOutOfBoundsException" s ∧ va_Nc "java/lang/IllegalArgumentException" "java/lang/IndexOutOfBoundsException" s ∧ va_Nc "java/lang/IllegalStateException" "java/lang/IllegalArgumentException" s := hC.2.2.2.2.2.2.2.2.2.2.2.2.2.2.2.2
end HR
