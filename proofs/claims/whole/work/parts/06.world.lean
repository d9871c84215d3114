/-! The world by labels: a label (k, i, j) names a cell; ad gives its address, E what it holds. Contracts speak of all of E: no cutting, no joining. -/
abbrev gE : Type := Nat → Nat → Nat → Option va_E
abbrev gA : Type := Nat → Nat → Nat → Nat
def gu (E : gE) (k i j : Nat) (e : va_E) : gE := fun k' i' j' => if k' = k ∧ i' = i ∧ j' = j then some e else E k' i' j'
def gau (ad : gA) (k i j a : Nat) : gA := fun k' i' j' => if k' = k ∧ i' = i ∧ j' = j then a else ad k' i' j'
theorem gu_eq (E : gE) (k i j : Nat) (e : va_E) : gu E k i j e k i j = some e := if_pos ⟨rfl, rfl, rfl⟩
theorem gu_ne {E : gE} {k i j : Nat} {e : va_E} {k' i' j' : Nat} (h : ¬ (k' = k ∧ i' = i ∧ j' = j)) : gu E k i j e k' i' j' = E k' i' j' := if_neg h
theorem gau_eq (ad : gA) (k i j a : Nat) : gau ad k i j a k i j = a := if_pos ⟨rfl, rfl, rfl⟩
theorem gau_ne {ad : gA} {k i j a : Nat} {k' i' j' : Nat} (h : ¬ (k' = k ∧ i' = i ∧ j' = j)) : gau ad k i j a k' i' j' = ad k' i' j' := if_neg h
/-- the tables' numbers; the class of each kind of array (0 int, 1 long, 2 boolean, 3 Frame, 4 Object, 5 int[]); addresses of old: 0 where the law's own heap begins, 1 ArrayList's empty array, 2 the mirror of Object[], 10 + n the text of pool place n -/
abbrev gV : Type := va_G × (Nat → ClassId) × (Nat → Nat)
abbrev gT (V : gV) : List (ClassId × FieldType) := [(V.2.1 0, .int), (V.2.1 1, .long), (V.2.1 2, .boolean), (V.2.1 3, .object "TieredMachine$Frame"), (V.2.1 4, .object "java/lang/Object"), (V.2.1 5, .array .int)]
/-- words of the tables that are no 'good' ones, but stay -/
def gxw : List Cond := [.methodLinkNest "TieredMachine" 39 yX0_init "TieredMachine", .methodLinkNest "TieredMachine" 78 yX4_init "TieredMachine", .methodLinkNest "TieredMachine" 9 yX1_init "TieredMachine", .methodLinkNest "TieredMachine$Instruction" 11 yX3_init "TieredMachine",
  .castable "TieredMachine$Method" "java/lang/Object", .castable "TieredMachine$Instruction" "java/lang/Object", .castable "TieredMachine$Frame" "java/lang/Object", .arrayOver (.object "TieredMachine$Frame"), .arrayOver (.object "java/lang/Object"),
  .declares ⟨"java/lang/Exception", "<init>", "()V"⟩, .declares ⟨"java/lang/Exception", "<init>", "(Ljava/lang/String;)V"⟩, .declares ⟨"java/lang/Object", "getClass", "()Ljava/lang/Class;"⟩, .declares ⟨"java/lang/RuntimeException", "<init>", "()V"⟩, .declares ⟨"java/lang/RuntimeException", "<init>", "(Ljava/lang/String;)V"⟩, .declares ⟨"java/lang/Throwable", "<init>", "()V"⟩, .declares ⟨"java/lang/Throwable", "<init>", "(Ljava/lang/String;)V"⟩, .arrayOver (.array .int), .castable "java/lang/IndexOutOfBoundsException" "java/lang/IndexOutOfBoundsException", .castable "java/lang/IllegalStateException" "java/lang/IllegalStateException", .castable "java/lang/IllegalArgumentException" "java/lang/IllegalArgumentException"]
theorem va_AOA.moved {t : FieldType} {u U : State} (hvm : u.vm.Alike U.vm) (h : va_AOA t u) : va_AOA t U := by
  have hi : ∀ comp : ClassId, (U.vm.classes.findIdx? fun (x : Class) => match x.kind with | .array component _ => component == comp | _ => false) = (u.vm.classes.findIdx? fun (x : Class) => match x.kind with | .array component _ => component == comp | _ => false) := fun comp => by
    have e1 := va_idx_bare U.vm comp
    have e2 := va_idx_bare u.vm comp
    have e3 : U.vm.bare = u.vm.bare := by first | exact hvm.bare_eq | exact hvm.bare_eq.symm
    rw [e3] at e1
    exact e1.symm.trans e2
  unfold va_AOA at *
  simp only [Cond.before, Cond.holds, Cond.value, beq_iff_eq] at *
  cases hc : u.vm.findClass (FieldType.array t).toString with
  | none => simp [hc] at h
  | some comp =>
    simp only [hc, Option.bind_some, Option.bind_eq_some_iff, Option.map_eq_some_iff] at h
    obtain ⟨c, h1, k, hk, hb⟩ := h
    obtain ⟨k', hk', he⟩ := hvm.2.2 _ _ hk
    have f1 : U.vm.findClass (FieldType.array t).toString = some comp := by rw [hvm.findClass]; exact hc
    simp only [f1, Option.bind_some, Option.bind_eq_some_iff, Option.map_eq_some_iff]
    refine ⟨c, (hi comp).trans h1, k', hk', ?_⟩
    rw [he, hvm.findClass]
    exact hb
theorem gxw_warm {s U : State} (hW : s.WarmedH U.vm) (h : ∀ w ∈ gxw, va_Nw w s) : ∀ w ∈ gxw, va_Nw w U := by
  intro w hw
  have h0 := h w hw
  simp only [gxw, List.mem_cons, List.not_mem_nil, or_false] at hw
  rcases hw with e | e | e | e | e | e | e | e | e | e | e | e | e | e | e | e | e | e | e | e <;> subst e
  all_goals first | exact va_Nw.warmM hW h0 | exact va_Nw.warmC hW h0 | exact va_Nw.warmD hW h0 | exact va_AO.moved hW.alike h0 | exact va_AOA.moved hW.alike h0
theorem gxw_same {u U : State} (hv : u.vm = U.vm) (h : ∀ w ∈ gxw, va_Nw w u) : ∀ w ∈ gxw, va_Nw w U := by
  intro w hw
  have h0 := h w hw
  simp only [gxw, List.mem_cons, List.not_mem_nil, or_false] at hw
  rcases hw with e | e | e | e | e | e | e | e | e | e | e | e | e | e | e | e | e | e | e | e <;> subst e
  all_goals first | exact va_Nw.same rfl hv h0 | exact va_AO.moved (by rw [hv]; exact Vm.Alike.refl _) h0 | exact va_AOA.moved (by rw [hv]; exact Vm.Alike.refl _) h0
def gstr : List (Nat × String) := [(141, "no such policy"), (143, "steps out of range"), (181, "no such total"), (199, "no such index"), (213, "no such method"), (221, "no SEND at this place"), (230, "no such class or selector"), (53, "no such parent"), (63, "too many classes"), (74, "too many methods"), (93, "no such instruction"), (99, "too many instructions")]
/-- what is old and stays: words, texts, statics -/
def gOld (V : gV) (q : Nat) : Prop := V.2.2 0 ≤ q
def gEv (V : gV) (U : State) : Prop :=
  V.2.2 0 ≤ U.heap.size ∧ (∀ w ∈ gxw, va_Nw w U) ∧ (∀ x ∈ gstr, vk_R RX5 x.1 x.2 (V.2.2 (10 + x.1)) U) ∧ va_Mi "[Ljava/lang/Object;" (V.2.2 2) U ∧
  va_Z "java/util/ArrayList" "DEFAULTCAPACITY_EMPTY_ELEMENTDATA" "[Ljava/lang/Object;" (.ref (V.2.2 1)) (gOld V) U U.heap ∧ va_T (.object "java/lang/Object") (V.2.2 1) 0 (fun _ => .null) (gOld V) U U.heap ∧
  vx_Zq Bundle.tN "UNASSIGNED_STACK" Bundle.steD (gOld V) U U.heap ∧ vx_Zq Bundle.tN "SUPPRESSED_SENTINEL" Bundle.listD (gOld V) U U.heap ∧ (va_Nc "java/lang/IllegalStateException" "java/lang/IndexOutOfBoundsException" U ∧ va_Nc "java/lang/IllegalArgumentException" "java/lang/IndexOutOfBoundsException" U ∧ va_Nc "java/lang/IllegalStateException" "java/lang/IllegalArgumentException" U)
theorem gEv.pass {V : gV} {s U : State} (h : gEv V s) (hW : s.WarmedH U.vm) (hz : s.heap.size ≤ U.heap.size) (hq : ∀ a : Nat, a < s.heap.size → ¬ gOld V a → U.heap[a]? = s.heap[a]?) : gEv V U := by
  obtain ⟨h1, h2, h3, h4, h5, h6, h7, h8, h9⟩ := h
  exact ⟨Nat.le_trans h1 hz, gxw_warm hW h2, fun x hx => (h3 x hx).warm hW, h4.moved hW.alike, (h5.kept hq).moved hW.alike, (h6.kept hq).moved hW.alike, (h7.kept hq).moved hW.alike, (h8.kept hq).moved hW.alike, h9.1.moved hW.alike, h9.2.1.moved hW.alike, h9.2.2.moved hW.alike⟩
theorem gEv.same {V : gV} {s U : State} (h : gEv V s) (hv : s.vm = U.vm) (hh : U.heap = s.heap) : gEv V U := by
  obtain ⟨h1, h2, h3, h4, h5, h6, h7, h8, h9⟩ := h
  have ha : s.vm.Alike U.vm := by rw [← hv]; exact Vm.Alike.refl s.vm
  refine ⟨by rw [hh]; exact h1, gxw_same hv h2, fun x hx => (h3 x hx).same hv.symm, h4.moved ha, ?_, ?_, ?_, ?_, h9.1.moved ha, h9.2.1.moved ha, h9.2.2.moved ha⟩
  · rw [hh]; exact h5.moved ha
  · rw [hh]; exact h6.moved ha
  · rw [hh]; exact h7.moved ha
  · rw [hh]; exact h8.moved ha
def gP (V : gV) (ad : gA) (E : gE) (H : Heap) : Prop :=
  (∀ (k i j : Nat) (e : va_E), E k i j = some e → va_at V.1 vwCl (ad k i j, e) H) ∧
  ∀ (k i j : Nat) (e : va_E) (k' i' j' : Nat) (e' : va_E), E k i j = some e → E k' i' j' = some e' → (ad k i j = ad k' i' j' → k' = k ∧ i' = i ∧ j' = j)
def gW (V : gV) (A : Nat → Prop) (H0 : Heap) (ad : gA) (E : gE) (H : Heap) (locs : List Loc) : Prop :=
  gP V ad E H ∧ (∀ (k i j : Nat) (e : va_E), E k i j = some e → A (ad k i j)) ∧ (∀ q : Nat, H0.size ≤ q → A q) ∧ (∀ q : Nat, A q → gOld V q) ∧ va_S A H0 H locs
theorem gP.put {V : gV} {ad : gA} {E : gE} {H H1 : Heap} {k i j : Nat} {e0 e : va_E} (h : gP V ad E H) (he : E k i j = some e0) (h1 : va_at V.1 vwCl (ad k i j, e) H1) (oq : ∀ q : Nat, q ≠ ad k i j → H1[q]? = H[q]?) : gP V ad (gu E k i j e) H1 := by
  obtain ⟨hP, hI⟩ := h
  have key : ∀ (k' i' j' : Nat) (e' : va_E), gu E k i j e k' i' j' = some e' → ∃ e1, E k' i' j' = some e1 := by
    intro k' i' j' e' h
    by_cases hq : k' = k ∧ i' = i ∧ j' = j
    · obtain ⟨rfl, rfl, rfl⟩ := hq
      exact ⟨_, he⟩
    · rw [gu_ne hq] at h
      exact ⟨_, h⟩
  refine ⟨fun k' i' j' e' h => ?_, fun k' i' j' e' k2 i2 j2 e2 h h2 z => ?_⟩
  · by_cases hq : k' = k ∧ i' = i ∧ j' = j
    · obtain ⟨rfl, rfl, rfl⟩ := hq
      rw [gu_eq] at h
      cases h
      exact h1
    · rw [gu_ne hq] at h
      exact (hP _ _ _ _ h).kept (oq _ (fun z => hq (hI _ _ _ _ _ _ _ _ he h z.symm)))
  · obtain ⟨e3, h3⟩ := key _ _ _ _ h
    obtain ⟨e4, h4⟩ := key _ _ _ _ h2
    exact hI _ _ _ _ _ _ _ _ h3 h4 z
theorem gW.put {V : gV} {A : Nat → Prop} {H0 : Heap} {ad : gA} {E : gE} {H H1 : Heap} {locs : List Loc} {k i j x : Nat} {e0 e : va_E} (h : gW V A H0 ad E H locs) (he : E k i j = some e0) (h1 : va_at V.1 vwCl (ad k i j, e) H1) (z : H1.size = H.size) (oq : ∀ q : Nat, q ≠ ad k i j → H1[q]? = H[q]?) : gW V A H0 ad (gu E k i j e) H1 (locs ++ [⟨ad k i j, x⟩]) := by
  obtain ⟨hP, hD, hA, hO, hS⟩ := h
  refine ⟨hP.put he h1 oq, fun k' i' j' e' h => ?_, hA, hO, hS.put z oq (hD _ _ _ _ he)⟩
  by_cases hq : k' = k ∧ i' = i ∧ j' = j
  · obtain ⟨rfl, rfl, rfl⟩ := hq
    exact hD _ _ _ _ he
  · rw [gu_ne hq] at h
    exact hD _ _ _ _ h
theorem gP.new {V : gV} {ad : gA} {E : gE} {H H1 : Heap} {k i j a : Nat} {e : va_E} (h : gP V ad E H) (ha : H.size ≤ a) (h1 : va_at V.1 vwCl (a, e) H1) (oq : ∀ q : Nat, q < H.size → H1[q]? = H[q]?) : gP V (gau ad k i j a) (gu E k i j e) H1 := by
  obtain ⟨hP, hI⟩ := h
  refine ⟨fun k' i' j' e' h => ?_, fun k' i' j' e' k2 i2 j2 e2 h h2 z => ?_⟩
  · by_cases hq : k' = k ∧ i' = i ∧ j' = j
    · obtain ⟨rfl, rfl, rfl⟩ := hq
      rw [gu_eq] at h
      cases h
      rw [gau_eq]
      exact h1
    · rw [gu_ne hq] at h
      rw [gau_ne hq]
      exact (hP _ _ _ _ h).kept (oq _ (hP _ _ _ _ h).lt)
  · by_cases hq : k' = k ∧ i' = i ∧ j' = j
    · obtain ⟨rfl, rfl, rfl⟩ := hq
      by_cases hq2 : k2 = k' ∧ i2 = i' ∧ j2 = j'
      · exact hq2
      · rw [gu_ne hq2] at h2
        rw [gau_eq, gau_ne hq2] at z
        have hlt : ad k2 i2 j2 < H.size := (hP _ _ _ _ h2).lt
        omega
    · rw [gu_ne hq] at h
      rw [gau_ne hq] at z
      by_cases hq2 : k2 = k ∧ i2 = i ∧ j2 = j
      · obtain ⟨rfl, rfl, rfl⟩ := hq2
        rw [gau_eq] at z
        have hlt : ad k' i' j' < H.size := (hP _ _ _ _ h).lt
        omega
      · rw [gu_ne hq2] at h2
        rw [gau_ne hq2] at z
        exact hI _ _ _ _ _ _ _ _ h h2 z
theorem gW.new {V : gV} {A : Nat → Prop} {H0 : Heap} {ad : gA} {E : gE} {H H1 : Heap} {locs : List Loc} {k i j a : Nat} {e : va_E} (h : gW V A H0 ad E H locs) (ha : a = H.size) (h1 : va_at V.1 vwCl (a, e) H1) (z : H.size ≤ H1.size) (oq : ∀ q : Nat, q < H.size → H1[q]? = H[q]?) : gW V A H0 (gau ad k i j a) (gu E k i j e) H1 locs := by
  obtain ⟨hP, hD, hA, hO, hS⟩ := h
  have hz := hS.1
  refine ⟨hP.new (by omega) h1 oq, fun k' i' j' e' h => ?_, hA, hO, ⟨by omega, fun q g1 g2 => by rw [oq q (by omega)]; exact hS.2.1 q g1 g2, hS.2.2⟩⟩
  by_cases hq : k' = k ∧ i' = i ∧ j' = j
  · obtain ⟨rfl, rfl, rfl⟩ := hq
    rw [gau_eq]
    exact hA _ (by omega)
  · rw [gu_ne hq] at h
    rw [gau_ne hq]
    exact hD _ _ _ _ h
/-- which cells a method may change: its world's, and those that it makes -/
def gAd (ad : gA) (E : gE) (sz : Nat) : Nat → Prop := fun q => (∃ (k i j : Nat) (e : va_E), E k i j = some e ∧ ad k i j = q) ∨ sz ≤ q
def gPc (av : List Value) (V : gV) (ad : gA) (E : gE) (sz : Nat) : Array Value → State → Prop := va_Pc av (fun U => U.heap.size = sz ∧ gP V ad E U.heap ∧ (∀ (k i j : Nat) (e : va_E), E k i j = some e → gOld V (ad k i j)) ∧ va_K V.1 vwCl (gT V) U ∧ gEv V U)
def gB (V : gV) (ad : gA) (E : gE) (sz : Nat) (ad' : gA) (E' : gE) (t : State) : Prop := gP V ad' E' t.heap ∧ ∀ (k i j : Nat) (e : va_E), E' k i j = some e → gAd ad E sz (ad' k i j)
def gQi (post : Int32 → gA → gE → Prop) (V : gV) (ad : gA) (E : gE) (sz : Nat) := va_Qi (S := gA × gE) (fun r u => post r u.1 u.2) (fun u t => gB V ad E sz u.1 u.2 t) (gAd ad E sz)
def gQl (post : Int64 → gA → gE → Prop) (V : gV) (ad : gA) (E : gE) (sz : Nat) := va_Ql (S := gA × gE) (fun r u => post r u.1 u.2) (fun u t => gB V ad E sz u.1 u.2 t) (gAd ad E sz)
def gQv (post : gA → gE → Prop) (V : gV) (ad : gA) (E : gE) (sz : Nat) := va_Qv (S := gA × gE) (fun u => post u.1 u.2) (fun u t => gB V ad E sz u.1 u.2 t) (gAd ad E sz)
def gQr (post : Nat → gA → gE → Prop) (V : gV) (ad : gA) (E : gE) (sz : Nat) := va_Qr (S := gA × gE) (fun _ => True) (fun u a t => post a u.1 u.2 ∧ gB V ad E sz u.1 u.2 t) (gAd ad E sz)
abbrev gws (y : MethodName) (cc : ByteArray) (n : Nat) (ret : Option FieldType) : List Cond := Cond.code y cc n ret :: wsL_law
/-- a method's contract: any launch, any world E at ad; answers int, long, nothing, a reference -/
def gMi (l : Launch) (y : MethodName) (cc : ByteArray) (n : Nat) (ret : Option FieldType) (rm : Room) (av : List Value) (V : gV) (ad : gA) (E : gE) (post : Int32 → gA → gE → Prop) : Prop := ∀ sz : Nat, Met l y (gws y cc n ret) rm (gPc av V ad E sz) (gQi post V ad E sz) rm.cells rm.slots (gAd ad E sz)
def gMl (l : Launch) (y : MethodName) (cc : ByteArray) (n : Nat) (ret : Option FieldType) (rm : Room) (av : List Value) (V : gV) (ad : gA) (E : gE) (post : Int64 → gA → gE → Prop) : Prop := ∀ sz : Nat, Met l y (gws y cc n ret) rm (gPc av V ad E sz) (gQl post V ad E sz) rm.cells rm.slots (gAd ad E sz)
def gMv (l : Launch) (y : MethodName) (cc : ByteArray) (n : Nat) (ret : Option FieldType) (rm : Room) (av : List Value) (V : gV) (ad : gA) (E : gE) (post : gA → gE → Prop) : Prop := ∀ sz : Nat, Met l y (gws y cc n ret) rm (gPc av V ad E sz) (gQv post V ad E sz) rm.cells rm.slots (gAd ad E sz)
def gMr (l : Launch) (y : MethodName) (cc : ByteArray) (n : Nat) (ret : Option FieldType) (rm : Room) (av : List Value) (V : gV) (ad : gA) (E : gE) (post : Nat → gA → gE → Prop) : Prop := ∀ sz : Nat, Met l y (gws y cc n ret) rm (gPc av V ad E sz) (gQr post V ad E sz) rm.cells rm.slots (gAd ad E sz)
/-- what holds all along a method's walk -/
def gC (p : Program) (s : State) (m : MethodId) (meth : Method) (c : Code) (own : String) (cc : ByteArray) (n : Nat) (ret : Option FieldType) (args : Array Value) (V : gV) : Prop :=
  p.tables.exec = Jvm.exec ∧ c.code = cc ∧ c.maxLocals = n ∧ s.vm.findClass own = some m.cls ∧ (∀ w ∈ wsL_law, w.before args s = true) ∧ meth.sig.returnType = ret ∧ meth.locks = false ∧ va_K V.1 vwCl (gT V) s ∧ gEv V s
theorem gB_blind {av : List Value} {V : gV} {ad : gA} {E : gE} {sz : Nat} : FrameBlind (gPc av V ad E sz) := by
  intro a U g mk h
  obtain ⟨h1, h2, h3, h4, h5, h6⟩ := h
  exact ⟨h1, h2, h3, h4, va_K.moved (u := U) (U := U.calling g mk a) (Vm.Alike.refl U.vm) h5, gEv.same h6 rfl rfl⟩
theorem g_of {l : Launch} {y : MethodName} {cc : ByteArray} {n : Nat} {ret : Option FieldType} {rm : Room} {av : List Value} {V : gV} {ad : gA} {E : gE} {sz mc ms : Nat} {Qc : Array Value → State → Outcome → State → Prop} (hy : plainName y.cls = true) (hn : (lg_sl av).length ≤ n)
    (body : ∀ (p : Program) (e : Env) (s : State) (m : MethodId) (below : List Frame) (meth : Method) (c : Code) (ls : Array Slot), gC p s m meth c y.cls cc n ret av.toArray V → sz = s.heap.size → gW V (gAd ad E sz) s.heap ad E s.heap [] → lv_has ls n (lv_args 0 av) →
      W p l e rm s m av.toArray below meth c s.heap [] 0 0 (MQ below Qc av.toArray s mc ms (gAd ad E sz)) (F0 m 0 ls [])) : Met l y (gws y cc n ret) rm (gPc av V ad E sz) Qc mc ms (gAd ad E sz) := by
  refine Met.ofW (cc := cc) (maxL := n) (ret := ret) hy rfl ?_
  intro p e s m args below meth c s₁ B hml hv
  obtain ⟨rfl, hsz, hP, hO, hK, hE⟩ := hv
  have hts := atoms_spec (ws := gws y cc n ret) B.pre
  have hl := lv_entry av (n := n) hn
  rw [lg_entry_eq]
  exact body p e s m below meth c _ ⟨B.exec, B.bytes, hml, findClass_of_methodNamed B.named, fun w hw => hts w (List.mem_cons_of_mem _ hw), B.returns, B.notSynchronized, hK, hE⟩ hsz.symm ⟨hP, fun k i j e h => Or.inl ⟨k, i, j, e, h, rfl⟩, fun q h => Or.inr (by omega), fun q h => by
    rcases h with ⟨k, i, j, x, h1, h2⟩ | h
    · rw [← h2]; exact hO _ _ _ _ h1
    · exact Nat.le_trans hE.1 (by omega), va_S.rf⟩ hl
/-- the words of a callee are among the universal ones -/
theorem gG_code {big : List Cond} {y : MethodName} {cc : ByteArray} {n : Nat} {ret : Option FieldType} (hb : ∀ w ∈ wsL_law, w ∈ big) (h : Cond.code y cc n ret ∈ wsL_law) : GoodIn big (gws y cc n ret) := by
  intro w hw
  have h1 : w ∈ wsL_law := by
    rcases List.mem_cons.mp hw with e | e
    · rw [e]; exact h
    · exact e
  exact ⟨hb w h1, good_of_word (List.all_eq_true.mp gG_all w h1)⟩
theorem gG_V {big : List Cond} {own C : String} {idx : Nat} {y : MethodName} {cc : ByteArray} {n : Nat} {ret : Option FieldType} (hb : ∀ w ∈ wsL_law, w ∈ big) (h1 : Cond.methodLink own idx y ∈ wsL_law) (h2 : Cond.instanceMethod y ∈ wsL_law) (h3 : Cond.selects C y y ∈ wsL_law) (h4 : Cond.initialized C ∈ wsL_law) (h : Cond.code y cc n ret ∈ wsL_law) : GoodIn big (wsV own idx C y (gws y cc n ret)) := by
  intro w hw
  have h0 : w ∈ wsL_law := by
    rcases List.mem_append.mp hw with e | e
    · simp only [List.mem_cons, List.not_mem_nil, or_false] at e
      rcases e with e | e | e | e <;> (rw [e]; assumption)
    · rcases List.mem_cons.mp e with e | e
      · rw [e]; exact h
      · exact e
  exact ⟨hb w h0, good_of_word (List.all_eq_true.mp gG_all w h0)⟩
theorem gG_S {big : List Cond} {own : String} {idx : Nat} {y : MethodName} {cc : ByteArray} {n : Nat} {ret : Option FieldType} (hb : ∀ w ∈ wsL_law, w ∈ big) (h1 : Cond.methodLink own idx y ∈ wsL_law) (h2 : Cond.static y ∈ wsL_law) (h4 : Cond.initialized own ∈ wsL_law) (h : Cond.code y cc n ret ∈ wsL_law) : GoodIn big (wsS own idx y (gws y cc n ret)) := by
  intro w hw
  have h0 : w ∈ wsL_law := by
    rcases List.mem_append.mp hw with e | e
    · simp only [List.mem_cons, List.not_mem_nil, or_false] at e
      rcases e with e | e | e <;> (rw [e]; assumption)
    · rcases List.mem_cons.mp e with e | e
      · rw [e]; exact h
      · exact e
  exact ⟨hb w h0, good_of_word (List.all_eq_true.mp gG_all w h0)⟩
