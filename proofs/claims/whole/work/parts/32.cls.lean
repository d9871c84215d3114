/-! The class's own state T, in the reference's words: field f of rS as there, but 19 (place) as the class has it, 29 awaiting, 30 the row 'before'. -/
abbrev cnm (T : rS) : Nat := tn (T.1 4 0)
abbrev csz (T : rS) (m : Nat) : Nat := tn (T.1 5 m)
/-- a list of ours: n elements f; its row lies at (ke, il, 0) but for the empty one -/
def lstOK (V : gV) (ad : gA) (E : gE) (kl il ke n : Nat) (f : Nat → Nat) : Prop :=
  ∃ (mc : Int32) (el : Nat), E kl il 0 = some (.inr (0, [.int mc, .ref el, .int (nI n)])) ∧ ((n = 0 ∧ el = V.2.2 1) ∨ (el = ad ke il 0 ∧ ∃ (cap : Nat) (h : Nat → Option Nat), n ≤ cap ∧ (cap = 10 ∨ cap = 15 ∨ cap = 22) ∧ E ke il 0 = some (.inl (V.2.1 4, cap, .inr (.inr (.inr (.inr (h)))))) ∧ ∀ i, i < n → h i = some (f i)))
def cto (ad : gA) (T : rS) : List Value := [.ref (ad 1 0 0), .ref (ad 2 0 0), .int (T.1 7 0), .int (T.1 8 0), .int (T.1 9 0), .ref (ad 3 0 0), .int (T.1 17 0), .int (T.1 24 0), .int (T.1 23 0), .int (T.1 25 0), .long (T.2 26 0), .int (T.1 27 0), .int (T.1 28 0), .ref (ad 4 0 0)]
def cio (ad : gA) (T : rS) (m q : Nat) : List Value := [.int (T.1 6 (5 * (20 * m + q))), .int (T.1 6 (5 * (20 * m + q) + 1)), .int (T.1 6 (5 * (20 * m + q) + 2)), .int (T.1 6 (5 * (20 * m + q) + 3)), .int (T.1 6 (5 * (20 * m + q) + 4)), .ref (ad 17 m q), .ref (ad 19 m q)]
def cmOK (V : gV) (ad : gA) (T : rS) (E : gE) : Prop :=
  E 0 0 0 = some (.inr (6, cto ad T)) ∧
  E 4 0 0 = some (.inl (V.2.1 1, 4, .inr (.inl (T.2 16)))) ∧
  E 1 0 0 = some (.inr (2, [.ref (ad 5 0 0), .ref (ad 6 0 0), .ref (ad 7 0 0), .int (T.1 1 0)])) ∧
  E 5 0 0 = some (.inl (V.2.1 0, 8, .inl (T.1 2))) ∧
  E 6 0 0 = some (.inl (V.2.1 5, 8, .inr (.inr (.inr (.inr (fun i => if i < 8 then some (ad 8 i 0) else none)))))) ∧
  (∀ c, c < 8 → ∃ f : Nat → Int32, E 8 c 0 = some (.inl (V.2.1 0, 6, .inl f)) ∧ ∀ g, g < 6 → f g = T.1 3 (6 * c + g)) ∧
  E 7 0 0 = some (.inl (V.2.1 0, 8, .inl (T.1 30))) ∧
  E 3 0 0 = some (.inl (V.2.1 3, 20, .inr (.inr (.inr (.inr (fun i => if i < 20 then some (ad 10 i 0) else none)))))) ∧
  (∀ i, i < 20 → E 10 i 0 = some (.inr (1, [.ref (ad 11 i 0), .ref (ad 12 i 0), .int (T.1 18 i), .int (T.1 20 i), .int (T.1 19 i), .int (T.1 29 i)]))) ∧
  (∀ i, i < 20 → ∃ f : Nat → Int32, E 11 i 0 = some (.inl (V.2.1 0, 4, .inl f)) ∧ ∀ g, g < 4 → f g = T.1 22 (4 * i + g)) ∧
  (∀ i, i < 20 → ∃ f : Nat → Int32, E 12 i 0 = some (.inl (V.2.1 0, 4, .inl f)) ∧ ∀ g, g < 4 → f g = T.1 21 (4 * i + g)) ∧
  lstOK V ad E 2 0 9 (cnm T) (fun i => ad 13 i 0) ∧
  (∀ m, m < cnm T → E 13 m 0 = some (.inr (5, [.ref (ad 14 m 0), .int (T.1 10 m), .int (T.1 11 m), .int (T.1 12 m)]))) ∧
  (∀ m, m < cnm T → lstOK V ad E 14 m 15 (csz T m) (fun q => ad 16 m q)) ∧
  (∀ m q, m < cnm T → q < csz T m → E 16 m q = some (.inr (3, cio ad T m q))) ∧
  (∀ m q, m < cnm T → q < csz T m → E 17 m q = some (.inr (4, [.ref (ad 18 m q), .int (T.1 13 (20 * m + q)), .int (T.1 15 (20 * m + q))]))) ∧
  (∀ m q, m < cnm T → q < csz T m → ∃ f : Nat → Int32, E 18 m q = some (.inl (V.2.1 0, 3, .inl f)) ∧ ∀ k, k < 3 → f k = T.1 14 (3 * (20 * m + q) + k)) ∧
  (∀ m q, m < cnm T → q < csz T m → E 19 m q = some (.inr (4, [.ref (ad 20 m q), .int (T.1 13 (240 + (20 * m + q))), .int (T.1 15 (240 + (20 * m + q)))]))) ∧
  (∀ m q, m < cnm T → q < csz T m → ∃ f : Nat → Int32, E 20 m q = some (.inl (V.2.1 0, 3, .inl f)) ∧ ∀ k, k < 3 → f k = T.1 14 (3 * (240 + (20 * m + q)) + k)) ∧
  (cnm T ≤ 12 ∧ (∀ m, m < cnm T → csz T m ≤ 20 ∧ T.1 5 m = nI (csz T m)) ∧ T.1 4 0 = nI (cnm T))
/-- outside the class's own cells all is as it was -/
def cmX (E E2 : gE) : Prop := ∀ k i j : Nat, 30 ≤ k → E2 k i j = E k i j
def cmW (V : gV) (A : Nat → Prop) (H0 : Heap) (ad : gA) (E0 : gE) (T : rS) (H : Heap) (locs : List Loc) : Prop := ∃ E : gE, gW V A H0 ad E H locs ∧ cmOK V ad T E ∧ cmX E0 E
theorem cmX.put {E0 E : gE} {k i j : Nat} {e : va_E} (h : cmX E0 E) (hk : k < 30) : cmX E0 (gu E k i j e) := fun k2 i2 j2 h1 => by
  rw [gu_ne (fun z => by omega)]
  exact h k2 i2 j2 h1
theorem cmX.rf {E : gE} : cmX E E := fun _ _ _ _ => rfl
theorem cmX.tr {E E1 E2 : gE} (h1 : cmX E E1) (h2 : cmX E1 E2) : cmX E E2 := fun k i j a => (h2 k i j a).trans (h1 k i j a)
section CM
variable {p : Program} {l : Launch} {e : Env} {R : Room} {s : State} {m_ : MethodId} {args : Array Value} {below : List Frame} {meth : Method} {c : Code} {H : Heap} {locs : List Loc} {cells slots : Nat} {Q : State → Prop}
variable {cc : ByteArray} {pc nL : Nat} {ls : Array Slot} {rest : List Value} {V : gV} {A : Nat → Prop} {H0 : Heap} {ad : gA} {E0 : gE} {own : String} {ret : Option FieldType} {T : rS}
theorem kg_tm_0 (hC : gC p s m_ meth c own cc nL ret args V) (hW : cmW V A H0 ad E0 T H locs) {index : Nat} (hl : Cond.fieldLink own index "TieredMachine" "hierarchy" "LTieredMachine$Hierarchy;" ∈ wsL_law) (hdg : decode cc pc = .ok (.getfield index, 3)) (kk : W p l e R s m_ args below meth c H locs cells slots Q (F0 m_ (pc + 3) ls (.ref (ad 1 0 0) :: rest))) : W p l e R s m_ args below meth c H locs cells slots Q (F0 m_ pc ls (.ref (ad 0 0 0) :: rest)) := by
  obtain ⟨E, hG, hO, hX⟩ := hW
  exact gq_get hC hG hO.1 rfl inlX5 0 (by decide) hl (fun _ h => h) rfl hdg kk
theorem kg_tm_1 (hC : gC p s m_ meth c own cc nL ret args V) (hW : cmW V A H0 ad E0 T H locs) {index : Nat} (hl : Cond.fieldLink own index "TieredMachine" "methods" "Ljava/util/ArrayList;" ∈ wsL_law) (hdg : decode cc pc = .ok (.getfield index, 3)) (kk : W p l e R s m_ args below meth c H locs cells slots Q (F0 m_ (pc + 3) ls (.ref (ad 2 0 0) :: rest))) : W p l e R s m_ args below meth c H locs cells slots Q (F0 m_ pc ls (.ref (ad 0 0 0) :: rest)) := by
  obtain ⟨E, hG, hO, hX⟩ := hW
  exact gq_get hC hG hO.1 rfl inlX5 1 (by decide) hl (fun _ h => h) rfl hdg kk
theorem kg_tm_2 (hC : gC p s m_ meth c own cc nL ret args V) (hW : cmW V A H0 ad E0 T H locs) {index : Nat} (hl : Cond.fieldLink own index "TieredMachine" "firstThreshold" "I" ∈ wsL_law) (hdg : decode cc pc = .ok (.getfield index, 3)) (kk : W p l e R s m_ args below meth c H locs cells slots Q (F0 m_ (pc + 3) ls (.int (T.1 7 0) :: rest))) : W p l e R s m_ args below meth c H locs cells slots Q (F0 m_ pc ls (.ref (ad 0 0 0) :: rest)) := by
  obtain ⟨E, hG, hO, hX⟩ := hW
  exact gq_get hC hG hO.1 rfl inlX5 2 (by decide) hl (fun _ h => h) rfl hdg kk
theorem kp_tm_2 (hC : gC p s m_ meth c own cc nL ret args V) (hW : cmW V A H0 ad E0 T H locs) {v : Int32} {index : Nat} (hl : Cond.fieldLink own index "TieredMachine" "firstThreshold" "I" ∈ wsL_law) (hdg : decode cc pc = .ok (.putfield index, 3)) (kk : ∀ (H1 : Heap) (locs1 : List Loc), cmW V A H0 ad E0 (su T 7 (fun _ => v)) H1 locs1 → W p l e R s m_ args below meth c H1 locs1 cells slots Q (F0 m_ (pc + 3) ls (rest))) : W p l e R s m_ args below meth c H locs cells slots Q (F0 m_ pc ls (.int v :: .ref (ad 0 0 0) :: rest)) := by
  obtain ⟨E, hG, hO, hX⟩ := hW
  refine gq_put hC hG hO.1 rfl inlX5 tyX5 tyX5_ok nmX5 2 (by decide) hl (fun _ h => h) rfl rfl rfl (Nat.le_of_ble_eq_true rfl) hdg (fun H1 locs1 hG1 => kk H1 locs1 ⟨_, hG1, ⟨rfl, hO.2.1, hO.2.2.1, hO.2.2.2.1, hO.2.2.2.2.1, hO.2.2.2.2.2.1, hO.2.2.2.2.2.2.1, hO.2.2.2.2.2.2.2.1, hO.2.2.2.2.2.2.2.2.1, hO.2.2.2.2.2.2.2.2.2.1, hO.2.2.2.2.2.2.2.2.2.2.1, hO.2.2.2.2.2.2.2.2.2.2.2.1, hO.2.2.2.2.2.2.2.2.2.2.2.2.1, hO.2.2.2.2.2.2.2.2.2.2.2.2.2.1, hO.2.2.2.2.2.2.2.2.2.2.2.2.2.2.1, hO.2.2.2.2.2.2.2.2.2.2.2.2.2.2.2.1, hO.2.2.2.2.2.2.2.2.2.2.2.2.2.2.2.2.1, hO.2.2.2.2.2.2.2.2.2.2.2.2.2.2.2.2.2.1, hO.2.2.2.2.2.2.2.2.2.2.2.2.2.2.2.2.2.2.1, hO.2.2.2.2.2.2.2.2.2.2.2.2.2.2.2.2.2.2.2⟩, hX.put (by decide)⟩)
theorem kg_tm_3 (hC : gC p s m_ meth c own cc nL ret args V) (hW : cmW V A H0 ad E0 T H locs) {index : Nat} (hl : Cond.fieldLink own index "TieredMachine" "secondThreshold" "I" ∈ wsL_law) (hdg : decode cc pc = .ok (.getfield index, 3)) (kk : W p l e R s m_ args below meth c H locs cells slots Q (F0 m_ (pc + 3) ls (.int (T.1 8 0) :: rest))) : W p l e R s m_ args below meth c H locs cells slots Q (F0 m_ pc ls (.ref (ad 0 0 0) :: rest)) := by
  obtain ⟨E, hG, hO, hX⟩ := hW
  exact gq_get hC hG hO.1 rfl inlX5 3 (by decide) hl (fun _ h => h) rfl hdg kk
theorem kp_tm_3 (hC : gC p s m_ meth c own cc nL ret args V) (hW : cmW V A H0 ad E0 T H locs) {v : Int32} {index : Nat} (hl : Cond.fieldLink own index "TieredMachine" "secondThreshold" "I" ∈ wsL_law) (hdg : decode cc pc = .ok (.putfield index, 3)) (kk : ∀ (H1 : Heap) (locs1 : List Loc), cmW V A H0 ad E0 (su T 8 (fun _ => v)) H1 locs1 → W p l e R s m_ args below meth c H1 locs1 cells slots Q (F0 m_ (pc + 3) ls (rest))) : W p l e R s m_ args below meth c H locs cells slots Q (F0 m_ pc ls (.int v :: .ref (ad 0 0 0) :: rest)) := by
  obtain ⟨E, hG, hO, hX⟩ := hW
  refine gq_put hC hG hO.1 rfl inlX5 tyX5 tyX5_ok nmX5 3 (by decide) hl (fun _ h => h) rfl rfl rfl (Nat.le_of_ble_eq_true rfl) hdg (fun H1 locs1 hG1 => kk H1 locs1 ⟨_, hG1, ⟨rfl, hO.2.1, hO.2.2.1, hO.2.2.2.1, hO.2.2.2.2.1, hO.2.2.2.2.2.1, hO.2.2.2.2.2.2.1, hO.2.2.2.2.2.2.2.1, hO.2.2.2.2.2.2.2.2.1, hO.2.2.2.2.2.2.2.2.2.1, hO.2.2.2.2.2.2.2.2.2.2.1, hO.2.2.2.2.2.2.2.2.2.2.2.1, hO.2.2.2.2.2.2.2.2.2.2.2.2.1, hO.2.2.2.2.2.2.2.2.2.2.2.2.2.1, hO.2.2.2.2.2.2.2.2.2.2.2.2.2.2.1, hO.2.2.2.2.2.2.2.2.2.2.2.2.2.2.2.1, hO.2.2.2.2.2.2.2.2.2.2.2.2.2.2.2.2.1, hO.2.2.2.2.2.2.2.2.2.2.2.2.2.2.2.2.2.1, hO.2.2.2.2.2.2.2.2.2.2.2.2.2.2.2.2.2.2.1, hO.2.2.2.2.2.2.2.2.2.2.2.2.2.2.2.2.2.2.2⟩, hX.put (by decide)⟩)
theorem kg_tm_4 (hC : gC p s m_ meth c own cc nL ret args V) (hW : cmW V A H0 ad E0 T H locs) {index : Nat} (hl : Cond.fieldLink own index "TieredMachine" "budget" "I" ∈ wsL_law) (hdg : decode cc pc = .ok (.getfield index, 3)) (kk : W p l e R s m_ args below meth c H locs cells slots Q (F0 m_ (pc + 3) ls (.int (T.1 9 0) :: rest))) : W p l e R s m_ args below meth c H locs cells slots Q (F0 m_ pc ls (.ref (ad 0 0 0) :: rest)) := by
  obtain ⟨E, hG, hO, hX⟩ := hW
  exact gq_get hC hG hO.1 rfl inlX5 4 (by decide) hl (fun _ h => h) rfl hdg kk
theorem kp_tm_4 (hC : gC p s m_ meth c own cc nL ret args V) (hW : cmW V A H0 ad E0 T H locs) {v : Int32} {index : Nat} (hl : Cond.fieldLink own index "TieredMachine" "budget" "I" ∈ wsL_law) (hdg : decode cc pc = .ok (.putfield index, 3)) (kk : ∀ (H1 : Heap) (locs1 : List Loc), cmW V A H0 ad E0 (su T 9 (fun _ => v)) H1 locs1 → W p l e R s m_ args below meth c H1 locs1 cells slots Q (F0 m_ (pc + 3) ls (rest))) : W p l e R s m_ args below meth c H locs cells slots Q (F0 m_ pc ls (.int v :: .ref (ad 0 0 0) :: rest)) := by
  obtain ⟨E, hG, hO, hX⟩ := hW
  refine gq_put hC hG hO.1 rfl inlX5 tyX5 tyX5_ok nmX5 4 (by decide) hl (fun _ h => h) rfl rfl rfl (Nat.le_of_ble_eq_true rfl) hdg (fun H1 locs1 hG1 => kk H1 locs1 ⟨_, hG1, ⟨rfl, hO.2.1, hO.2.2.1, hO.2.2.2.1, hO.2.2.2.2.1, hO.2.2.2.2.2.1, hO.2.2.2.2.2.2.1, hO.2.2.2.2.2.2.2.1, hO.2.2.2.2.2.2.2.2.1, hO.2.2.2.2.2.2.2.2.2.1, hO.2.2.2.2.2.2.2.2.2.2.1, hO.2.2.2.2.2.2.2.2.2.2.2.1, hO.2.2.2.2.2.2.2.2.2.2.2.2.1, hO.2.2.2.2.2.2.2.2.2.2.2.2.2.1, hO.2.2.2.2.2.2.2.2.2.2.2.2.2.2.1, hO.2.2.2.2.2.2.2.2.2.2.2.2.2.2.2.1, hO.2.2.2.2.2.2.2.2.2.2.2.2.2.2.2.2.1, hO.2.2.2.2.2.2.2.2.2.2.2.2.2.2.2.2.2.1, hO.2.2.2.2.2.2.2.2.2.2.2.2.2.2.2.2.2.2.1, hO.2.2.2.2.2.2.2.2.2.2.2.2.2.2.2.2.2.2.2⟩, hX.put (by decide)⟩)
theorem kg_tm_5 (hC : gC p s m_ meth c own cc nL ret args V) (hW : cmW V A H0 ad E0 T H locs) {index : Nat} (hl : Cond.fieldLink own index "TieredMachine" "frames" "[LTieredMachine$Frame;" ∈ wsL_law) (hdg : decode cc pc = .ok (.getfield index, 3)) (kk : W p l e R s m_ args below meth c H locs cells slots Q (F0 m_ (pc + 3) ls (.ref (ad 3 0 0) :: rest))) : W p l e R s m_ args below meth c H locs cells slots Q (F0 m_ pc ls (.ref (ad 0 0 0) :: rest)) := by
  obtain ⟨E, hG, hO, hX⟩ := hW
  exact gq_get hC hG hO.1 rfl inlX5 5 (by decide) hl (fun _ h => h) rfl hdg kk
theorem kg_tm_6 (hC : gC p s m_ meth c own cc nL ret args V) (hW : cmW V A H0 ad E0 T H locs) {index : Nat} (hl : Cond.fieldLink own index "TieredMachine" "running" "I" ∈ wsL_law) (hdg : decode cc pc = .ok (.getfield index, 3)) (kk : W p l e R s m_ args below meth c H locs cells slots Q (F0 m_ (pc + 3) ls (.int (T.1 17 0) :: rest))) : W p l e R s m_ args below meth c H locs cells slots Q (F0 m_ pc ls (.ref (ad 0 0 0) :: rest)) := by
  obtain ⟨E, hG, hO, hX⟩ := hW
  exact gq_get hC hG hO.1 rfl inlX5 6 (by decide) hl (fun _ h => h) rfl hdg kk
theorem kp_tm_6 (hC : gC p s m_ meth c own cc nL ret args V) (hW : cmW V A H0 ad E0 T H locs) {v : Int32} {index : Nat} (hl : Cond.fieldLink own index "TieredMachine" "running" "I" ∈ wsL_law) (hdg : decode cc pc = .ok (.putfield index, 3)) (kk : ∀ (H1 : Heap) (locs1 : List Loc), cmW V A H0 ad E0 (su T 17 (fun _ => v)) H1 locs1 → W p l e R s m_ args below meth c H1 locs1 cells slots Q (F0 m_ (pc + 3) ls (rest))) : W p l e R s m_ args below meth c H locs cells slots Q (F0 m_ pc ls (.int v :: .ref (ad 0 0 0) :: rest)) := by
  obtain ⟨E, hG, hO, hX⟩ := hW
  refine gq_put hC hG hO.1 rfl inlX5 tyX5 tyX5_ok nmX5 6 (by decide) hl (fun _ h => h) rfl rfl rfl (Nat.le_of_ble_eq_true rfl) hdg (fun H1 locs1 hG1 => kk H1 locs1 ⟨_, hG1, ⟨rfl, hO.2.1, hO.2.2.1, hO.2.2.2.1, hO.2.2.2.2.1, hO.2.2.2.2.2.1, hO.2.2.2.2.2.2.1, hO.2.2.2.2.2.2.2.1, hO.2.2.2.2.2.2.2.2.1, hO.2.2.2.2.2.2.2.2.2.1, hO.2.2.2.2.2.2.2.2.2.2.1, hO.2.2.2.2.2.2.2.2.2.2.2.1, hO.2.2.2.2.2.2.2.2.2.2.2.2.1, hO.2.2.2.2.2.2.2.2.2.2.2.2.2.1, hO.2.2.2.2.2.2.2.2.2.2.2.2.2.2.1, hO.2.2.2.2.2.2.2.2.2.2.2.2.2.2.2.1, hO.2.2.2.2.2.2.2.2.2.2.2.2.2.2.2.2.1, hO.2.2.2.2.2.2.2.2.2.2.2.2.2.2.2.2.2.1, hO.2.2.2.2.2.2.2.2.2.2.2.2.2.2.2.2.2.2.1, hO.2.2.2.2.2.2.2.2.2.2.2.2.2.2.2.2.2.2.2⟩, hX.put (by decide)⟩)
theorem kg_tm_7 (hC : gC p s m_ meth c own cc nL ret args V) (hW : cmW V A H0 ad E0 T H locs) {index : Nat} (hl : Cond.fieldLink own index "TieredMachine" "resultValue" "I" ∈ wsL_law) (hdg : decode cc pc = .ok (.getfield index, 3)) (kk : W p l e R s m_ args below meth c H locs cells slots Q (F0 m_ (pc + 3) ls (.int (T.1 24 0) :: rest))) : W p l e R s m_ args below meth c H locs cells slots Q (F0 m_ pc ls (.ref (ad 0 0 0) :: rest)) := by
  obtain ⟨E, hG, hO, hX⟩ := hW
  exact gq_get hC hG hO.1 rfl inlX5 7 (by decide) hl (fun _ h => h) rfl hdg kk
theorem kp_tm_7 (hC : gC p s m_ meth c own cc nL ret args V) (hW : cmW V A H0 ad E0 T H locs) {v : Int32} {index : Nat} (hl : Cond.fieldLink own index "TieredMachine" "resultValue" "I" ∈ wsL_law) (hdg : decode cc pc = .ok (.putfield index, 3)) (kk : ∀ (H1 : Heap) (locs1 : List Loc), cmW V A H0 ad E0 (su T 24 (fun _ => v)) H1 locs1 → W p l e R s m_ args below meth c H1 locs1 cells slots Q (F0 m_ (pc + 3) ls (rest))) : W p l e R s m_ args below meth c H locs cells slots Q (F0 m_ pc ls (.int v :: .ref (ad 0 0 0) :: rest)) := by
  obtain ⟨E, hG, hO, hX⟩ := hW
  refine gq_put hC hG hO.1 rfl inlX5 tyX5 tyX5_ok nmX5 7 (by decide) hl (fun _ h => h) rfl rfl rfl (Nat.le_of_ble_eq_true rfl) hdg (fun H1 locs1 hG1 => kk H1 locs1 ⟨_, hG1, ⟨rfl, hO.2.1, hO.2.2.1, hO.2.2.2.1, hO.2.2.2.2.1, hO.2.2.2.2.2.1, hO.2.2.2.2.2.2.1, hO.2.2.2.2.2.2.2.1, hO.2.2.2.2.2.2.2.2.1, hO.2.2.2.2.2.2.2.2.2.1, hO.2.2.2.2.2.2.2.2.2.2.1, hO.2.2.2.2.2.2.2.2.2.2.2.1, hO.2.2.2.2.2.2.2.2.2.2.2.2.1, hO.2.2.2.2.2.2.2.2.2.2.2.2.2.1, hO.2.2.2.2.2.2.2.2.2.2.2.2.2.2.1, hO.2.2.2.2.2.2.2.2.2.2.2.2.2.2.2.1, hO.2.2.2.2.2.2.2.2.2.2.2.2.2.2.2.2.1, hO.2.2.2.2.2.2.2.2.2.2.2.2.2.2.2.2.2.1, hO.2.2.2.2.2.2.2.2.2.2.2.2.2.2.2.2.2.2.1, hO.2.2.2.2.2.2.2.2.2.2.2.2.2.2.2.2.2.2.2⟩, hX.put (by decide)⟩)
theorem kg_tm_8 (hC : gC p s m_ meth c own cc nL ret args V) (hW : cmW V A H0 ad E0 T H locs) {index : Nat} (hl : Cond.fieldLink own index "TieredMachine" "resultType" "I" ∈ wsL_law) (hdg : decode cc pc = .ok (.getfield index, 3)) (kk : W p l e R s m_ args below meth c H locs cells slots Q (F0 m_ (pc + 3) ls (.int (T.1 23 0) :: rest))) : W p l e R s m_ args below meth c H locs cells slots Q (F0 m_ pc ls (.ref (ad 0 0 0) :: rest)) := by
  obtain ⟨E, hG, hO, hX⟩ := hW
  exact gq_get hC hG hO.1 rfl inlX5 8 (by decide) hl (fun _ h => h) rfl hdg kk
theorem kp_tm_8 (hC : gC p s m_ meth c own cc nL ret args V) (hW : cmW V A H0 ad E0 T H locs) {v : Int32} {index : Nat} (hl : Cond.fieldLink own index "TieredMachine" "resultType" "I" ∈ wsL_law) (hdg : decode cc pc = .ok (.putfield index, 3)) (kk : ∀ (H1 : Heap) (locs1 : List Loc), cmW V A H0 ad E0 (su T 23 (fun _ => v)) H1 locs1 → W p l e R s m_ args below meth c H1 locs1 cells slots Q (F0 m_ (pc + 3) ls (rest))) : W p l e R s m_ args below meth c H locs cells slots Q (F0 m_ pc ls (.int v :: .ref (ad 0 0 0) :: rest)) := by
  obtain ⟨E, hG, hO, hX⟩ := hW
  refine gq_put hC hG hO.1 rfl inlX5 tyX5 tyX5_ok nmX5 8 (by decide) hl (fun _ h => h) rfl rfl rfl (Nat.le_of_ble_eq_true rfl) hdg (fun H1 locs1 hG1 => kk H1 locs1 ⟨_, hG1, ⟨rfl, hO.2.1, hO.2.2.1, hO.2.2.2.1, hO.2.2.2.2.1, hO.2.2.2.2.2.1, hO.2.2.2.2.2.2.1, hO.2.2.2.2.2.2.2.1, hO.2.2.2.2.2.2.2.2.1, hO.2.2.2.2.2.2.2.2.2.1, hO.2.2.2.2.2.2.2.2.2.2.1, hO.2.2.2.2.2.2.2.2.2.2.2.1, hO.2.2.2.2.2.2.2.2.2.2.2.2.1, hO.2.2.2.2.2.2.2.2.2.2.2.2.2.1, hO.2.2.2.2.2.2.2.2.2.2.2.2.2.2.1, hO.2.2.2.2.2.2.2.2.2.2.2.2.2.2.2.1, hO.2.2.2.2.2.2.2.2.2.2.2.2.2.2.2.2.1, hO.2.2.2.2.2.2.2.2.2.2.2.2.2.2.2.2.2.1, hO.2.2.2.2.2.2.2.2.2.2.2.2.2.2.2.2.2.2.1, hO.2.2.2.2.2.2.2.2.2.2.2.2.2.2.2.2.2.2.2⟩, hX.put (by decide)⟩)
theorem kg_tm_9 (hC : gC p s m_ meth c own cc nL ret args V) (hW : cmW V A H0 ad E0 T H locs) {index : Nat} (hl : Cond.fieldLink own index "TieredMachine" "errorCode" "I" ∈ wsL_law) (hdg : decode cc pc = .ok (.getfield index, 3)) (kk : W p l e R s m_ args below meth c H locs cells slots Q (F0 m_ (pc + 3) ls (.int (T.1 25 0) :: rest))) : W p l e R s m_ args below meth c H locs cells slots Q (F0 m_ pc ls (.ref (ad 0 0 0) :: rest)) := by
  obtain ⟨E, hG, hO, hX⟩ := hW
  exact gq_get hC hG hO.1 rfl inlX5 9 (by decide) hl (fun _ h => h) rfl hdg kk
theorem kp_tm_9 (hC : gC p s m_ meth c own cc nL ret args V) (hW : cmW V A H0 ad E0 T H locs) {v : Int32} {index : Nat} (hl : Cond.fieldLink own index "TieredMachine" "errorCode" "I" ∈ wsL_law) (hdg : decode cc pc = .ok (.putfield index, 3)) (kk : ∀ (H1 : Heap) (locs1 : List Loc), cmW V A H0 ad E0 (su T 25 (fun _ => v)) H1 locs1 → W p l e R s m_ args below meth c H1 locs1 cells slots Q (F0 m_ (pc + 3) ls (rest))) : W p l e R s m_ args below meth c H locs cells slots Q (F0 m_ pc ls (.int v :: .ref (ad 0 0 0) :: rest)) := by
  obtain ⟨E, hG, hO, hX⟩ := hW
  refine gq_put hC hG hO.1 rfl inlX5 tyX5 tyX5_ok nmX5 9 (by decide) hl (fun _ h => h) rfl rfl rfl (Nat.le_of_ble_eq_true rfl) hdg (fun H1 locs1 hG1 => kk H1 locs1 ⟨_, hG1, ⟨rfl, hO.2.1, hO.2.2.1, hO.2.2.2.1, hO.2.2.2.2.1, hO.2.2.2.2.2.1, hO.2.2.2.2.2.2.1, hO.2.2.2.2.2.2.2.1, hO.2.2.2.2.2.2.2.2.1, hO.2.2.2.2.2.2.2.2.2.1, hO.2.2.2.2.2.2.2.2.2.2.1, hO.2.2.2.2.2.2.2.2.2.2.2.1, hO.2.2.2.2.2.2.2.2.2.2.2.2.1, hO.2.2.2.2.2.2.2.2.2.2.2.2.2.1, hO.2.2.2.2.2.2.2.2.2.2.2.2.2.2.1, hO.2.2.2.2.2.2.2.2.2.2.2.2.2.2.2.1, hO.2.2.2.2.2.2.2.2.2.2.2.2.2.2.2.2.1, hO.2.2.2.2.2.2.2.2.2.2.2.2.2.2.2.2.2.1, hO.2.2.2.2.2.2.2.2.2.2.2.2.2.2.2.2.2.2.1, hO.2.2.2.2.2.2.2.2.2.2.2.2.2.2.2.2.2.2.2⟩, hX.put (by decide)⟩)
theorem kg_tm_10 (hC : gC p s m_ meth c own cc nL ret args V) (hW : cmW V A H0 ad E0 T H locs) {index : Nat} (hl : Cond.fieldLink own index "TieredMachine" "costCount" "J" ∈ wsL_law) (hdg : decode cc pc = .ok (.getfield index, 3)) (kk : W p l e R s m_ args below meth c H locs cells slots Q (F0 m_ (pc + 3) ls (.long (T.2 26 0) :: rest))) : W p l e R s m_ args below meth c H locs cells slots Q (F0 m_ pc ls (.ref (ad 0 0 0) :: rest)) := by
  obtain ⟨E, hG, hO, hX⟩ := hW
  exact gq_get hC hG hO.1 rfl inlX5 10 (by decide) hl (fun _ h => h) rfl hdg kk
theorem kp_tm_10 (hC : gC p s m_ meth c own cc nL ret args V) (hW : cmW V A H0 ad E0 T H locs) {v : Int64} {index : Nat} (hl : Cond.fieldLink own index "TieredMachine" "costCount" "J" ∈ wsL_law) (hdg : decode cc pc = .ok (.putfield index, 3)) (kk : ∀ (H1 : Heap) (locs1 : List Loc), cmW V A H0 ad E0 (sl T 26 (fun _ => v)) H1 locs1 → W p l e R s m_ args below meth c H1 locs1 cells slots Q (F0 m_ (pc + 3) ls (rest))) : W p l e R s m_ args below meth c H locs cells slots Q (F0 m_ pc ls (.long v :: .ref (ad 0 0 0) :: rest)) := by
  obtain ⟨E, hG, hO, hX⟩ := hW
  refine gq_put hC hG hO.1 rfl inlX5 tyX5 tyX5_ok nmX5 10 (by decide) hl (fun _ h => h) rfl rfl rfl (Nat.le_of_ble_eq_true rfl) hdg (fun H1 locs1 hG1 => kk H1 locs1 ⟨_, hG1, ⟨rfl, hO.2.1, hO.2.2.1, hO.2.2.2.1, hO.2.2.2.2.1, hO.2.2.2.2.2.1, hO.2.2.2.2.2.2.1, hO.2.2.2.2.2.2.2.1, hO.2.2.2.2.2.2.2.2.1, hO.2.2.2.2.2.2.2.2.2.1, hO.2.2.2.2.2.2.2.2.2.2.1, hO.2.2.2.2.2.2.2.2.2.2.2.1, hO.2.2.2.2.2.2.2.2.2.2.2.2.1, hO.2.2.2.2.2.2.2.2.2.2.2.2.2.1, hO.2.2.2.2.2.2.2.2.2.2.2.2.2.2.1, hO.2.2.2.2.2.2.2.2.2.2.2.2.2.2.2.1, hO.2.2.2.2.2.2.2.2.2.2.2.2.2.2.2.2.1, hO.2.2.2.2.2.2.2.2.2.2.2.2.2.2.2.2.2.1, hO.2.2.2.2.2.2.2.2.2.2.2.2.2.2.2.2.2.2.1, hO.2.2.2.2.2.2.2.2.2.2.2.2.2.2.2.2.2.2.2⟩, hX.put (by decide)⟩)
theorem kg_tm_11 (hC : gC p s m_ meth c own cc nL ret args V) (hW : cmW V A H0 ad E0 T H locs) {index : Nat} (hl : Cond.fieldLink own index "TieredMachine" "stepCount" "I" ∈ wsL_law) (hdg : decode cc pc = .ok (.getfield index, 3)) (kk : W p l e R s m_ args below meth c H locs cells slots Q (F0 m_ (pc + 3) ls (.int (T.1 27 0) :: rest))) : W p l e R s m_ args below meth c H locs cells slots Q (F0 m_ pc ls (.ref (ad 0 0 0) :: rest)) := by
  obtain ⟨E, hG, hO, hX⟩ := hW
  exact gq_get hC hG hO.1 rfl inlX5 11 (by decide) hl (fun _ h => h) rfl hdg kk
theorem kp_tm_11 (hC : gC p s m_ meth c own cc nL ret args V) (hW : cmW V A H0 ad E0 T H locs) {v : Int32} {index : Nat} (hl : Cond.fieldLink own index "TieredMachine" "stepCount" "I" ∈ wsL_law) (hdg : decode cc pc = .ok (.putfield index, 3)) (kk : ∀ (H1 : Heap) (locs1 : List Loc), cmW V A H0 ad E0 (su T 27 (fun _ => v)) H1 locs1 → W p l e R s m_ args below meth c H1 locs1 cells slots Q (F0 m_ (pc + 3) ls (rest))) : W p l e R s m_ args below meth c H locs cells slots Q (F0 m_ pc ls (.int v :: .ref (ad 0 0 0) :: rest)) := by
  obtain ⟨E, hG, hO, hX⟩ := hW
  refine gq_put hC hG hO.1 rfl inlX5 tyX5 tyX5_ok nmX5 11 (by decide) hl (fun _ h => h) rfl rfl rfl (Nat.le_of_ble_eq_true rfl) hdg (fun H1 locs1 hG1 => kk H1 locs1 ⟨_, hG1, ⟨rfl, hO.2.1, hO.2.2.1, hO.2.2.2.1, hO.2.2.2.2.1, hO.2.2.2.2.2.1, hO.2.2.2.2.2.2.1, hO.2.2.2.2.2.2.2.1, hO.2.2.2.2.2.2.2.2.1, hO.2.2.2.2.2.2.2.2.2.1, hO.2.2.2.2.2.2.2.2.2.2.1, hO.2.2.2.2.2.2.2.2.2.2.2.1, hO.2.2.2.2.2.2.2.2.2.2.2.2.1, hO.2.2.2.2.2.2.2.2.2.2.2.2.2.1, hO.2.2.2.2.2.2.2.2.2.2.2.2.2.2.1, hO.2.2.2.2.2.2.2.2.2.2.2.2.2.2.2.1, hO.2.2.2.2.2.2.2.2.2.2.2.2.2.2.2.2.1, hO.2.2.2.2.2.2.2.2.2.2.2.2.2.2.2.2.2.1, hO.2.2.2.2.2.2.2.2.2.2.2.2.2.2.2.2.2.2.1, hO.2.2.2.2.2.2.2.2.2.2.2.2.2.2.2.2.2.2.2⟩, hX.put (by decide)⟩)
theorem kg_tm_12 (hC : gC p s m_ meth c own cc nL ret args V) (hW : cmW V A H0 ad E0 T H locs) {index : Nat} (hl : Cond.fieldLink own index "TieredMachine" "greatestDepth" "I" ∈ wsL_law) (hdg : decode cc pc = .ok (.getfield index, 3)) (kk : W p l e R s m_ args below meth c H locs cells slots Q (F0 m_ (pc + 3) ls (.int (T.1 28 0) :: rest))) : W p l e R s m_ args below meth c H locs cells slots Q (F0 m_ pc ls (.ref (ad 0 0 0) :: rest)) := by
  obtain ⟨E, hG, hO, hX⟩ := hW
  exact gq_get hC hG hO.1 rfl inlX5 12 (by decide) hl (fun _ h => h) rfl hdg kk
theorem kp_tm_12 (hC : gC p s m_ meth c own cc nL ret args V) (hW : cmW V A H0 ad E0 T H locs) {v : Int32} {index : Nat} (hl : Cond.fieldLink own index "TieredMachine" "greatestDepth" "I" ∈ wsL_law) (hdg : decode cc pc = .ok (.putfield index, 3)) (kk : ∀ (H1 : Heap) (locs1 : List Loc), cmW V A H0 ad E0 (su T 28 (fun _ => v)) H1 locs1 → W p l e R s m_ args below meth c H1 locs1 cells slots Q (F0 m_ (pc + 3) ls (rest))) : W p l e R s m_ args below meth c H locs cells slots Q (F0 m_ pc ls (.int v :: .ref (ad 0 0 0) :: rest)) := by
  obtain ⟨E, hG, hO, hX⟩ := hW
  refine gq_put hC hG hO.1 rfl inlX5 tyX5 tyX5_ok nmX5 12 (by decide) hl (fun _ h => h) rfl rfl rfl (Nat.le_of_ble_eq_true rfl) hdg (fun H1 locs1 hG1 => kk H1 locs1 ⟨_, hG1, ⟨rfl, hO.2.1, hO.2.2.1, hO.2.2.2.1, hO.2.2.2.2.1, hO.2.2.2.2.2.1, hO.2.2.2.2.2.2.1, hO.2.2.2.2.2.2.2.1, hO.2.2.2.2.2.2.2.2.1, hO.2.2.2.2.2.2.2.2.2.1, hO.2.2.2.2.2.2.2.2.2.2.1, hO.2.2.2.2.2.2.2.2.2.2.2.1, hO.2.2.2.2.2.2.2.2.2.2.2.2.1, hO.2.2.2.2.2.2.2.2.2.2.2.2.2.1, hO.2.2.2.2.2.2.2.2.2.2.2.2.2.2.1, hO.2.2.2.2.2.2.2.2.2.2.2.2.2.2.2.1, hO.2.2.2.2.2.2.2.2.2.2.2.2.2.2.2.2.1, hO.2.2.2.2.2.2.2.2.2.2.2.2.2.2.2.2.2.1, hO.2.2.2.2.2.2.2.2.2.2.2.2.2.2.2.2.2.2.1, hO.2.2.2.2.2.2.2.2.2.2.2.2.2.2.2.2.2.2.2⟩, hX.put (by decide)⟩)
theorem kg_tm_13 (hC : gC p s m_ meth c own cc nL ret args V) (hW : cmW V A H0 ad E0 T H locs) {index : Nat} (hl : Cond.fieldLink own index "TieredMachine" "totals" "[J" ∈ wsL_law) (hdg : decode cc pc = .ok (.getfield index, 3)) (kk : W p l e R s m_ args below meth c H locs cells slots Q (F0 m_ (pc + 3) ls (.ref (ad 4 0 0) :: rest))) : W p l e R s m_ args below meth c H locs cells slots Q (F0 m_ pc ls (.ref (ad 0 0 0) :: rest)) := by
  obtain ⟨E, hG, hO, hX⟩ := hW
  exact gq_get hC hG hO.1 rfl inlX5 13 (by decide) hl (fun _ h => h) rfl hdg kk
theorem kg_hi_0 (hC : gC p s m_ meth c own cc nL ret args V) (hW : cmW V A H0 ad E0 T H locs) {index : Nat} (hl : Cond.fieldLink own index "TieredMachine$Hierarchy" "parents" "[I" ∈ wsL_law) (hdg : decode cc pc = .ok (.getfield index, 3)) (kk : W p l e R s m_ args below meth c H locs cells slots Q (F0 m_ (pc + 3) ls (.ref (ad 5 0 0) :: rest))) : W p l e R s m_ args below meth c H locs cells slots Q (F0 m_ pc ls (.ref (ad 1 0 0) :: rest)) := by
  obtain ⟨E, hG, hO, hX⟩ := hW
  exact gq_get hC hG hO.2.2.1 rfl inlX1 0 (by decide) hl (fun _ h => h) rfl hdg kk
theorem kg_hi_1 (hC : gC p s m_ meth c own cc nL ret args V) (hW : cmW V A H0 ad E0 T H locs) {index : Nat} (hl : Cond.fieldLink own index "TieredMachine$Hierarchy" "implementers" "[[I" ∈ wsL_law) (hdg : decode cc pc = .ok (.getfield index, 3)) (kk : W p l e R s m_ args below meth c H locs cells slots Q (F0 m_ (pc + 3) ls (.ref (ad 6 0 0) :: rest))) : W p l e R s m_ args below meth c H locs cells slots Q (F0 m_ pc ls (.ref (ad 1 0 0) :: rest)) := by
  obtain ⟨E, hG, hO, hX⟩ := hW
  exact gq_get hC hG hO.2.2.1 rfl inlX1 1 (by decide) hl (fun _ h => h) rfl hdg kk
theorem kg_hi_2 (hC : gC p s m_ meth c own cc nL ret args V) (hW : cmW V A H0 ad E0 T H locs) {index : Nat} (hl : Cond.fieldLink own index "TieredMachine$Hierarchy" "before" "[I" ∈ wsL_law) (hdg : decode cc pc = .ok (.getfield index, 3)) (kk : W p l e R s m_ args below meth c H locs cells slots Q (F0 m_ (pc + 3) ls (.ref (ad 7 0 0) :: rest))) : W p l e R s m_ args below meth c H locs cells slots Q (F0 m_ pc ls (.ref (ad 1 0 0) :: rest)) := by
  obtain ⟨E, hG, hO, hX⟩ := hW
  exact gq_get hC hG hO.2.2.1 rfl inlX1 2 (by decide) hl (fun _ h => h) rfl hdg kk
theorem kg_hi_3 (hC : gC p s m_ meth c own cc nL ret args V) (hW : cmW V A H0 ad E0 T H locs) {index : Nat} (hl : Cond.fieldLink own index "TieredMachine$Hierarchy" "count" "I" ∈ wsL_law) (hdg : decode cc pc = .ok (.getfield index, 3)) (kk : W p l e R s m_ args below meth c H locs cells slots Q (F0 m_ (pc + 3) ls (.int (T.1 1 0) :: rest))) : W p l e R s m_ args below meth c H locs cells slots Q (F0 m_ pc ls (.ref (ad 1 0 0) :: rest)) := by
  obtain ⟨E, hG, hO, hX⟩ := hW
  exact gq_get hC hG hO.2.2.1 rfl inlX1 3 (by decide) hl (fun _ h => h) rfl hdg kk
theorem kp_hi_3 (hC : gC p s m_ meth c own cc nL ret args V) (hW : cmW V A H0 ad E0 T H locs) {v : Int32} {index : Nat} (hl : Cond.fieldLink own index "TieredMachine$Hierarchy" "count" "I" ∈ wsL_law) (hdg : decode cc pc = .ok (.putfield index, 3)) (kk : ∀ (H1 : Heap) (locs1 : List Loc), cmW V A H0 ad E0 (su T 1 (fun _ => v)) H1 locs1 → W p l e R s m_ args below meth c H1 locs1 cells slots Q (F0 m_ (pc + 3) ls (rest))) : W p l e R s m_ args below meth c H locs cells slots Q (F0 m_ pc ls (.int v :: .ref (ad 1 0 0) :: rest)) := by
  obtain ⟨E, hG, hO, hX⟩ := hW
  refine gq_put hC hG hO.2.2.1 rfl inlX1 tyX1 tyX1_ok nmX1 3 (by decide) hl (fun _ h => h) rfl rfl rfl (Nat.le_of_ble_eq_true rfl) hdg (fun H1 locs1 hG1 => kk H1 locs1 ⟨_, hG1, ⟨hO.1, hO.2.1, rfl, hO.2.2.2.1, hO.2.2.2.2.1, hO.2.2.2.2.2.1, hO.2.2.2.2.2.2.1, hO.2.2.2.2.2.2.2.1, hO.2.2.2.2.2.2.2.2.1, hO.2.2.2.2.2.2.2.2.2.1, hO.2.2.2.2.2.2.2.2.2.2.1, hO.2.2.2.2.2.2.2.2.2.2.2.1, hO.2.2.2.2.2.2.2.2.2.2.2.2.1, hO.2.2.2.2.2.2.2.2.2.2.2.2.2.1, hO.2.2.2.2.2.2.2.2.2.2.2.2.2.2.1, hO.2.2.2.2.2.2.2.2.2.2.2.2.2.2.2.1, hO.2.2.2.2.2.2.2.2.2.2.2.2.2.2.2.2.1, hO.2.2.2.2.2.2.2.2.2.2.2.2.2.2.2.2.2.1, hO.2.2.2.2.2.2.2.2.2.2.2.2.2.2.2.2.2.2.1, hO.2.2.2.2.2.2.2.2.2.2.2.2.2.2.2.2.2.2.2⟩, hX.put (by decide)⟩)
theorem kg_fr_0 (hC : gC p s m_ meth c own cc nL ret args V) (hW : cmW V A H0 ad E0 T H locs) {i : Nat} (hi : i < 20) {index : Nat} (hl : Cond.fieldLink own index "TieredMachine$Frame" "values" "[I" ∈ wsL_law) (hdg : decode cc pc = .ok (.getfield index, 3)) (kk : W p l e R s m_ args below meth c H locs cells slots Q (F0 m_ (pc + 3) ls (.ref (ad 11 i 0) :: rest))) : W p l e R s m_ args below meth c H locs cells slots Q (F0 m_ pc ls (.ref (ad 10 i 0) :: rest)) := by
  obtain ⟨E, hG, hO, hX⟩ := hW
  exact gq_get hC hG (hO.2.2.2.2.2.2.2.2.1 i hi) rfl inlX0 0 (by decide) hl (fun _ h => h) rfl hdg kk
theorem kg_fr_1 (hC : gC p s m_ meth c own cc nL ret args V) (hW : cmW V A H0 ad E0 T H locs) {i : Nat} (hi : i < 20) {index : Nat} (hl : Cond.fieldLink own index "TieredMachine$Frame" "types" "[I" ∈ wsL_law) (hdg : decode cc pc = .ok (.getfield index, 3)) (kk : W p l e R s m_ args below meth c H locs cells slots Q (F0 m_ (pc + 3) ls (.ref (ad 12 i 0) :: rest))) : W p l e R s m_ args below meth c H locs cells slots Q (F0 m_ pc ls (.ref (ad 10 i 0) :: rest)) := by
  obtain ⟨E, hG, hO, hX⟩ := hW
  exact gq_get hC hG (hO.2.2.2.2.2.2.2.2.1 i hi) rfl inlX0 1 (by decide) hl (fun _ h => h) rfl hdg kk
theorem kg_fr_2 (hC : gC p s m_ meth c own cc nL ret args V) (hW : cmW V A H0 ad E0 T H locs) {i : Nat} (hi : i < 20) {index : Nat} (hl : Cond.fieldLink own index "TieredMachine$Frame" "method" "I" ∈ wsL_law) (hdg : decode cc pc = .ok (.getfield index, 3)) (kk : W p l e R s m_ args below meth c H locs cells slots Q (F0 m_ (pc + 3) ls (.int (T.1 18 i) :: rest))) : W p l e R s m_ args below meth c H locs cells slots Q (F0 m_ pc ls (.ref (ad 10 i 0) :: rest)) := by
  obtain ⟨E, hG, hO, hX⟩ := hW
  exact gq_get hC hG (hO.2.2.2.2.2.2.2.2.1 i hi) rfl inlX0 2 (by decide) hl (fun _ h => h) rfl hdg kk
theorem kp_fr_2 (hC : gC p s m_ meth c own cc nL ret args V) (hW : cmW V A H0 ad E0 T H locs) {i : Nat} (hi : i < 20) {v : Int32} {index : Nat} (hl : Cond.fieldLink own index "TieredMachine$Frame" "method" "I" ∈ wsL_law) (hdg : decode cc pc = .ok (.putfield index, 3)) (kk : ∀ (H1 : Heap) (locs1 : List Loc), cmW V A H0 ad E0 (su T 18 (va_up (T.1 18) i v)) H1 locs1 → W p l e R s m_ args below meth c H1 locs1 cells slots Q (F0 m_ (pc + 3) ls (rest))) : W p l e R s m_ args below meth c H locs cells slots Q (F0 m_ pc ls (.int v :: .ref (ad 10 i 0) :: rest)) := by
  obtain ⟨E, hG, hO, hX⟩ := hW
  refine gq_put hC hG (hO.2.2.2.2.2.2.2.2.1 i hi) rfl inlX0 tyX0 tyX0_ok nmX0 2 (by decide) hl (fun _ h => h) rfl rfl rfl (Nat.le_of_ble_eq_true rfl) hdg (fun H1 locs1 hG1 => kk H1 locs1 ⟨_, hG1, ⟨hO.1, hO.2.1, hO.2.2.1, hO.2.2.2.1, hO.2.2.2.2.1, hO.2.2.2.2.2.1, hO.2.2.2.2.2.2.1, hO.2.2.2.2.2.2.2.1, fun i2 hi2 => by
    by_cases e : i2 = i
    · subst e
      rw [gu_eq]
      simp only [su, va_up, if_true, if_neg (show ¬ (18 : Nat) = 20 by decide), List.set]
      rfl
    · rw [gu_ne (fun z => e z.2.1), hO.2.2.2.2.2.2.2.2.1 i2 hi2]
      show _ = some (Sum.inr (1, [_, _, Value.int ((su T 18 (va_up (T.1 18) i v)).1 18 i2), Value.int ((su T 18 (va_up (T.1 18) i v)).1 20 i2), Value.int ((su T 18 (va_up (T.1 18) i v)).1 19 i2), Value.int ((su T 18 (va_up (T.1 18) i v)).1 29 i2)]))
      rw [show (su T 18 (va_up (T.1 18) i v)).1 18 i2 = T.1 18 i2 from va_up_ne _ _ e]
      rfl, hO.2.2.2.2.2.2.2.2.2.1, hO.2.2.2.2.2.2.2.2.2.2.1, hO.2.2.2.2.2.2.2.2.2.2.2.1, hO.2.2.2.2.2.2.2.2.2.2.2.2.1, hO.2.2.2.2.2.2.2.2.2.2.2.2.2.1, hO.2.2.2.2.2.2.2.2.2.2.2.2.2.2.1, hO.2.2.2.2.2.2.2.2.2.2.2.2.2.2.2.1, hO.2.2.2.2.2.2.2.2.2.2.2.2.2.2.2.2.1, hO.2.2.2.2.2.2.2.2.2.2.2.2.2.2.2.2.2.1, hO.2.2.2.2.2.2.2.2.2.2.2.2.2.2.2.2.2.2.1, hO.2.2.2.2.2.2.2.2.2.2.2.2.2.2.2.2.2.2.2⟩, hX.put (by decide)⟩)
theorem kg_fr_3 (hC : gC p s m_ meth c own cc nL ret args V) (hW : cmW V A H0 ad E0 T H locs) {i : Nat} (hi : i < 20) {index : Nat} (hl : Cond.fieldLink own index "TieredMachine$Frame" "tier" "I" ∈ wsL_law) (hdg : decode cc pc = .ok (.getfield index, 3)) (kk : W p l e R s m_ args below meth c H locs cells slots Q (F0 m_ (pc + 3) ls (.int (T.1 20 i) :: rest))) : W p l e R s m_ args below meth c H locs cells slots Q (F0 m_ pc ls (.ref (ad 10 i 0) :: rest)) := by
  obtain ⟨E, hG, hO, hX⟩ := hW
  exact gq_get hC hG (hO.2.2.2.2.2.2.2.2.1 i hi) rfl inlX0 3 (by decide) hl (fun _ h => h) rfl hdg kk
theorem kp_fr_3 (hC : gC p s m_ meth c own cc nL ret args V) (hW : cmW V A H0 ad E0 T H locs) {i : Nat} (hi : i < 20) {v : Int32} {index : Nat} (hl : Cond.fieldLink own index "TieredMachine$Frame" "tier" "I" ∈ wsL_law) (hdg : decode cc pc = .ok (.putfield index, 3)) (kk : ∀ (H1 : Heap) (locs1 : List Loc), cmW V A H0 ad E0 (su T 20 (va_up (T.1 20) i v)) H1 locs1 → W p l e R s m_ args below meth c H1 locs1 cells slots Q (F0 m_ (pc + 3) ls (rest))) : W p l e R s m_ args below meth c H locs cells slots Q (F0 m_ pc ls (.int v :: .ref (ad 10 i 0) :: rest)) := by
  obtain ⟨E, hG, hO, hX⟩ := hW
  refine gq_put hC hG (hO.2.2.2.2.2.2.2.2.1 i hi) rfl inlX0 tyX0 tyX0_ok nmX0 3 (by decide) hl (fun _ h => h) rfl rfl rfl (Nat.le_of_ble_eq_true rfl) hdg (fun H1 locs1 hG1 => kk H1 locs1 ⟨_, hG1, ⟨hO.1, hO.2.1, hO.2.2.1, hO.2.2.2.1, hO.2.2.2.2.1, hO.2.2.2.2.2.1, hO.2.2.2.2.2.2.1, hO.2.2.2.2.2.2.2.1, fun i2 hi2 => by
    by_cases e : i2 = i
    · subst e
      rw [gu_eq]
      simp only [su, va_up, if_true, if_neg (show ¬ (18 : Nat) = 20 by decide), List.set]
      rfl
    · rw [gu_ne (fun z => e z.2.1), hO.2.2.2.2.2.2.2.2.1 i2 hi2]
      show _ = some (Sum.inr (1, [_, _, Value.int ((su T 20 (va_up (T.1 20) i v)).1 18 i2), Value.int ((su T 20 (va_up (T.1 20) i v)).1 20 i2), Value.int ((su T 20 (va_up (T.1 20) i v)).1 19 i2), Value.int ((su T 20 (va_up (T.1 20) i v)).1 29 i2)]))
      rw [show (su T 20 (va_up (T.1 20) i v)).1 20 i2 = T.1 20 i2 from va_up_ne _ _ e]
      rfl, hO.2.2.2.2.2.2.2.2.2.1, hO.2.2.2.2.2.2.2.2.2.2.1, hO.2.2.2.2.2.2.2.2.2.2.2.1, hO.2.2.2.2.2.2.2.2.2.2.2.2.1, hO.2.2.2.2.2.2.2.2.2.2.2.2.2.1, hO.2.2.2.2.2.2.2.2.2.2.2.2.2.2.1, hO.2.2.2.2.2.2.2.2.2.2.2.2.2.2.2.1, hO.2.2.2.2.2.2.2.2.2.2.2.2.2.2.2.2.1, hO.2.2.2.2.2.2.2.2.2.2.2.2.2.2.2.2.2.1, hO.2.2.2.2.2.2.2.2.2.2.2.2.2.2.2.2.2.2.1, hO.2.2.2.2.2.2.2.2.2.2.2.2.2.2.2.2.2.2.2⟩, hX.put (by decide)⟩)
theorem kg_fr_4 (hC : gC p s m_ meth c own cc nL ret args V) (hW : cmW V A H0 ad E0 T H locs) {i : Nat} (hi : i < 20) {index : Nat} (hl : Cond.fieldLink own index "TieredMachine$Frame" "place" "I" ∈ wsL_law) (hdg : decode cc pc = .ok (.getfield index, 3)) (kk : W p l e R s m_ args below meth c H locs cells slots Q (F0 m_ (pc + 3) ls (.int (T.1 19 i) :: rest))) : W p l e R s m_ args below meth c H locs cells slots Q (F0 m_ pc ls (.ref (ad 10 i 0) :: rest)) := by
  obtain ⟨E, hG, hO, hX⟩ := hW
  exact gq_get hC hG (hO.2.2.2.2.2.2.2.2.1 i hi) rfl inlX0 4 (by decide) hl (fun _ h => h) rfl hdg kk
theorem kp_fr_4 (hC : gC p s m_ meth c own cc nL ret args V) (hW : cmW V A H0 ad E0 T H locs) {i : Nat} (hi : i < 20) {v : Int32} {index : Nat} (hl : Cond.fieldLink own index "TieredMachine$Frame" "place" "I" ∈ wsL_law) (hdg : decode cc pc = .ok (.putfield index, 3)) (kk : ∀ (H1 : Heap) (locs1 : List Loc), cmW V A H0 ad E0 (su T 19 (va_up (T.1 19) i v)) H1 locs1 → W p l e R s m_ args below meth c H1 locs1 cells slots Q (F0 m_ (pc + 3) ls (rest))) : W p l e R s m_ args below meth c H locs cells slots Q (F0 m_ pc ls (.int v :: .ref (ad 10 i 0) :: rest)) := by
  obtain ⟨E, hG, hO, hX⟩ := hW
  refine gq_put hC hG (hO.2.2.2.2.2.2.2.2.1 i hi) rfl inlX0 tyX0 tyX0_ok nmX0 4 (by decide) hl (fun _ h => h) rfl rfl rfl (Nat.le_of_ble_eq_true rfl) hdg (fun H1 locs1 hG1 => kk H1 locs1 ⟨_, hG1, ⟨hO.1, hO.2.1, hO.2.2.1, hO.2.2.2.1, hO.2.2.2.2.1, hO.2.2.2.2.2.1, hO.2.2.2.2.2.2.1, hO.2.2.2.2.2.2.2.1, fun i2 hi2 => by
    by_cases e : i2 = i
    · subst e
      rw [gu_eq]
      simp only [su, va_up, if_true, if_neg (show ¬ (18 : Nat) = 20 by decide), List.set]
      rfl
    · rw [gu_ne (fun z => e z.2.1), hO.2.2.2.2.2.2.2.2.1 i2 hi2]
      show _ = some (Sum.inr (1, [_, _, Value.int ((su T 19 (va_up (T.1 19) i v)).1 18 i2), Value.int ((su T 19 (va_up (T.1 19) i v)).1 20 i2), Value.int ((su T 19 (va_up (T.1 19) i v)).1 19 i2), Value.int ((su T 19 (va_up (T.1 19) i v)).1 29 i2)]))
      rw [show (su T 19 (va_up (T.1 19) i v)).1 19 i2 = T.1 19 i2 from va_up_ne _ _ e]
      rfl, hO.2.2.2.2.2.2.2.2.2.1, hO.2.2.2.2.2.2.2.2.2.2.1, hO.2.2.2.2.2.2.2.2.2.2.2.1, hO.2.2.2.2.2.2.2.2.2.2.2.2.1, hO.2.2.2.2.2.2.2.2.2.2.2.2.2.1, hO.2.2.2.2.2.2.2.2.2.2.2.2.2.2.1, hO.2.2.2.2.2.2.2.2.2.2.2.2.2.2.2.1, hO.2.2.2.2.2.2.2.2.2.2.2.2.2.2.2.2.1, hO.2.2.2.2.2.2.2.2.2.2.2.2.2.2.2.2.2.1, hO.2.2.2.2.2.2.2.2.2.2.2.2.2.2.2.2.2.2.1, hO.2.2.2.2.2.2.2.2.2.2.2.2.2.2.2.2.2.2.2⟩, hX.put (by decide)⟩)
theorem kg_fr_5 (hC : gC p s m_ meth c own cc nL ret args V) (hW : cmW V A H0 ad E0 T H locs) {i : Nat} (hi : i < 20) {index : Nat} (hl : Cond.fieldLink own index "TieredMachine$Frame" "awaiting" "I" ∈ wsL_law) (hdg : decode cc pc = .ok (.getfield index, 3)) (kk : W p l e R s m_ args below meth c H locs cells slots Q (F0 m_ (pc + 3) ls (.int (T.1 29 i) :: rest))) : W p l e R s m_ args below meth c H locs cells slots Q (F0 m_ pc ls (.ref (ad 10 i 0) :: rest)) := by
  obtain ⟨E, hG, hO, hX⟩ := hW
  exact gq_get hC hG (hO.2.2.2.2.2.2.2.2.1 i hi) rfl inlX0 5 (by decide) hl (fun _ h => h) rfl hdg kk
theorem kp_fr_5 (hC : gC p s m_ meth c own cc nL ret args V) (hW : cmW V A H0 ad E0 T H locs) {i : Nat} (hi : i < 20) {v : Int32} {index : Nat} (hl : Cond.fieldLink own index "TieredMachine$Frame" "awaiting" "I" ∈ wsL_law) (hdg : decode cc pc = .ok (.putfield index, 3)) (kk : ∀ (H1 : Heap) (locs1 : List Loc), cmW V A H0 ad E0 (su T 29 (va_up (T.1 29) i v)) H1 locs1 → W p l e R s m_ args below meth c H1 locs1 cells slots Q (F0 m_ (pc + 3) ls (rest))) : W p l e R s m_ args below meth c H locs cells slots Q (F0 m_ pc ls (.int v :: .ref (ad 10 i 0) :: rest)) := by
  obtain ⟨E, hG, hO, hX⟩ := hW
  refine gq_put hC hG (hO.2.2.2.2.2.2.2.2.1 i hi) rfl inlX0 tyX0 tyX0_ok nmX0 5 (by decide) hl (fun _ h => h) rfl rfl rfl (Nat.le_of_ble_eq_true rfl) hdg (fun H1 locs1 hG1 => kk H1 locs1 ⟨_, hG1, ⟨hO.1, hO.2.1, hO.2.2.1, hO.2.2.2.1, hO.2.2.2.2.1, hO.2.2.2.2.2.1, hO.2.2.2.2.2.2.1, hO.2.2.2.2.2.2.2.1, fun i2 hi2 => by
    by_cases e : i2 = i
    · subst e
      rw [gu_eq]
      simp only [su, va_up, if_true, if_neg (show ¬ (18 : Nat) = 20 by decide), List.set]
      rfl
    · rw [gu_ne (fun z => e z.2.1), hO.2.2.2.2.2.2.2.2.1 i2 hi2]
      show _ = some (Sum.inr (1, [_, _, Value.int ((su T 29 (va_up (T.1 29) i v)).1 18 i2), Value.int ((su T 29 (va_up (T.1 29) i v)).1 20 i2), Value.int ((su T 29 (va_up (T.1 29) i v)).1 19 i2), Value.int ((su T 29 (va_up (T.1 29) i v)).1 29 i2)]))
      rw [show (su T 29 (va_up (T.1 29) i v)).1 29 i2 = T.1 29 i2 from va_up_ne _ _ e]
      rfl, hO.2.2.2.2.2.2.2.2.2.1, hO.2.2.2.2.2.2.2.2.2.2.1, hO.2.2.2.2.2.2.2.2.2.2.2.1, hO.2.2.2.2.2.2.2.2.2.2.2.2.1, hO.2.2.2.2.2.2.2.2.2.2.2.2.2.1, hO.2.2.2.2.2.2.2.2.2.2.2.2.2.2.1, hO.2.2.2.2.2.2.2.2.2.2.2.2.2.2.2.1, hO.2.2.2.2.2.2.2.2.2.2.2.2.2.2.2.2.1, hO.2.2.2.2.2.2.2.2.2.2.2.2.2.2.2.2.2.1, hO.2.2.2.2.2.2.2.2.2.2.2.2.2.2.2.2.2.2.1, hO.2.2.2.2.2.2.2.2.2.2.2.2.2.2.2.2.2.2.2⟩, hX.put (by decide)⟩)
theorem kg_me_0 (hC : gC p s m_ meth c own cc nL ret args V) (hW : cmW V A H0 ad E0 T H locs) {m : Nat} (hm : m < cnm T) {index : Nat} (hl : Cond.fieldLink own index "TieredMachine$Method" "code" "Ljava/util/ArrayList;" ∈ wsL_law) (hdg : decode cc pc = .ok (.getfield index, 3)) (kk : W p l e R s m_ args below meth c H locs cells slots Q (F0 m_ (pc + 3) ls (.ref (ad 14 m 0) :: rest))) : W p l e R s m_ args below meth c H locs cells slots Q (F0 m_ pc ls (.ref (ad 13 m 0) :: rest)) := by
  obtain ⟨E, hG, hO, hX⟩ := hW
  exact gq_get hC hG (hO.2.2.2.2.2.2.2.2.2.2.2.2.1 m hm) rfl inlX4 0 (by decide) hl (fun _ h => h) rfl hdg kk
theorem kg_me_1 (hC : gC p s m_ meth c own cc nL ret args V) (hW : cmW V A H0 ad E0 T H locs) {m : Nat} (hm : m < cnm T) {index : Nat} (hl : Cond.fieldLink own index "TieredMachine$Method" "tier" "I" ∈ wsL_law) (hdg : decode cc pc = .ok (.getfield index, 3)) (kk : W p l e R s m_ args below meth c H locs cells slots Q (F0 m_ (pc + 3) ls (.int (T.1 10 m) :: rest))) : W p l e R s m_ args below meth c H locs cells slots Q (F0 m_ pc ls (.ref (ad 13 m 0) :: rest)) := by
  obtain ⟨E, hG, hO, hX⟩ := hW
  exact gq_get hC hG (hO.2.2.2.2.2.2.2.2.2.2.2.2.1 m hm) rfl inlX4 1 (by decide) hl (fun _ h => h) rfl hdg kk
theorem kp_me_1 (hC : gC p s m_ meth c own cc nL ret args V) (hW : cmW V A H0 ad E0 T H locs) {m : Nat} (hm : m < cnm T) {v : Int32} {index : Nat} (hl : Cond.fieldLink own index "TieredMachine$Method" "tier" "I" ∈ wsL_law) (hdg : decode cc pc = .ok (.putfield index, 3)) (kk : ∀ (H1 : Heap) (locs1 : List Loc), cmW V A H0 ad E0 (su T 10 (va_up (T.1 10) m v)) H1 locs1 → W p l e R s m_ args below meth c H1 locs1 cells slots Q (F0 m_ (pc + 3) ls (rest))) : W p l e R s m_ args below meth c H locs cells slots Q (F0 m_ pc ls (.int v :: .ref (ad 13 m 0) :: rest)) := by
  obtain ⟨E, hG, hO, hX⟩ := hW
  refine gq_put hC hG (hO.2.2.2.2.2.2.2.2.2.2.2.2.1 m hm) rfl inlX4 tyX4 tyX4_ok nmX4 1 (by decide) hl (fun _ h => h) rfl rfl rfl (Nat.le_of_ble_eq_true rfl) hdg (fun H1 locs1 hG1 => kk H1 locs1 ⟨_, hG1, ⟨hO.1, hO.2.1, hO.2.2.1, hO.2.2.2.1, hO.2.2.2.2.1, hO.2.2.2.2.2.1, hO.2.2.2.2.2.2.1, hO.2.2.2.2.2.2.2.1, hO.2.2.2.2.2.2.2.2.1, hO.2.2.2.2.2.2.2.2.2.1, hO.2.2.2.2.2.2.2.2.2.2.1, hO.2.2.2.2.2.2.2.2.2.2.2.1, fun i2 hi2 => by
    by_cases e : i2 = m
    · subst e
      rw [gu_eq]
      show some (Sum.inr (5, _)) = some (Sum.inr (5, [_, Value.int ((su T 10 (va_up (T.1 10) i2 v)).1 10 i2), Value.int ((su T 10 (va_up (T.1 10) i2 v)).1 11 i2), Value.int ((su T 10 (va_up (T.1 10) i2 v)).1 12 i2)]))
      rw [show (su T 10 (va_up (T.1 10) i2 v)).1 10 i2 = v from va_up_self _ _ _]
      rfl
    · rw [gu_ne (fun z => e z.2.1), hO.2.2.2.2.2.2.2.2.2.2.2.2.1 i2 hi2]
      show _ = some (Sum.inr (5, [_, Value.int ((su T 10 (va_up (T.1 10) m v)).1 10 i2), Value.int ((su T 10 (va_up (T.1 10) m v)).1 11 i2), Value.int ((su T 10 (va_up (T.1 10) m v)).1 12 i2)]))
      rw [show (su T 10 (va_up (T.1 10) m v)).1 10 i2 = T.1 10 i2 from va_up_ne _ _ e]
      rfl, hO.2.2.2.2.2.2.2.2.2.2.2.2.2.1, hO.2.2.2.2.2.2.2.2.2.2.2.2.2.2.1, hO.2.2.2.2.2.2.2.2.2.2.2.2.2.2.2.1, hO.2.2.2.2.2.2.2.2.2.2.2.2.2.2.2.2.1, hO.2.2.2.2.2.2.2.2.2.2.2.2.2.2.2.2.2.1, hO.2.2.2.2.2.2.2.2.2.2.2.2.2.2.2.2.2.2.1, hO.2.2.2.2.2.2.2.2.2.2.2.2.2.2.2.2.2.2.2⟩, hX.put (by decide)⟩)
theorem kg_me_2 (hC : gC p s m_ meth c own cc nL ret args V) (hW : cmW V A H0 ad E0 T H locs) {m : Nat} (hm : m < cnm T) {index : Nat} (hl : Cond.fieldLink own index "TieredMachine$Method" "heat" "I" ∈ wsL_law) (hdg : decode cc pc = .ok (.getfield index, 3)) (kk : W p l e R s m_ args below meth c H locs cells slots Q (F0 m_ (pc + 3) ls (.int (T.1 11 m) :: rest))) : W p l e R s m_ args below meth c H locs cells slots Q (F0 m_ pc ls (.ref (ad 13 m 0) :: rest)) := by
  obtain ⟨E, hG, hO, hX⟩ := hW
  exact gq_get hC hG (hO.2.2.2.2.2.2.2.2.2.2.2.2.1 m hm) rfl inlX4 2 (by decide) hl (fun _ h => h) rfl hdg kk
theorem kp_me_2 (hC : gC p s m_ meth c own cc nL ret args V) (hW : cmW V A H0 ad E0 T H locs) {m : Nat} (hm : m < cnm T) {v : Int32} {index : Nat} (hl : Cond.fieldLink own index "TieredMachine$Method" "heat" "I" ∈ wsL_law) (hdg : decode cc pc = .ok (.putfield index, 3)) (kk : ∀ (H1 : Heap) (locs1 : List Loc), cmW V A H0 ad E0 (su T 11 (va_up (T.1 11) m v)) H1 locs1 → W p l e R s m_ args below meth c H1 locs1 cells slots Q (F0 m_ (pc + 3) ls (rest))) : W p l e R s m_ args below meth c H locs cells slots Q (F0 m_ pc ls (.int v :: .ref (ad 13 m 0) :: rest)) := by
  obtain ⟨E, hG, hO, hX⟩ := hW
  refine gq_put hC hG (hO.2.2.2.2.2.2.2.2.2.2.2.2.1 m hm) rfl inlX4 tyX4 tyX4_ok nmX4 2 (by decide) hl (fun _ h => h) rfl rfl rfl (Nat.le_of_ble_eq_true rfl) hdg (fun H1 locs1 hG1 => kk H1 locs1 ⟨_, hG1, ⟨hO.1, hO.2.1, hO.2.2.1, hO.2.2.2.1, hO.2.2.2.2.1, hO.2.2.2.2.2.1, hO.2.2.2.2.2.2.1, hO.2.2.2.2.2.2.2.1, hO.2.2.2.2.2.2.2.2.1, hO.2.2.2.2.2.2.2.2.2.1, hO.2.2.2.2.2.2.2.2.2.2.1, hO.2.2.2.2.2.2.2.2.2.2.2.1, fun i2 hi2 => by
    by_cases e : i2 = m
    · subst e
      rw [gu_eq]
      show some (Sum.inr (5, _)) = some (Sum.inr (5, [_, Value.int ((su T 11 (va_up (T.1 11) i2 v)).1 10 i2), Value.int ((su T 11 (va_up (T.1 11) i2 v)).1 11 i2), Value.int ((su T 11 (va_up (T.1 11) i2 v)).1 12 i2)]))
      rw [show (su T 11 (va_up (T.1 11) i2 v)).1 11 i2 = v from va_up_self _ _ _]
      rfl
    · rw [gu_ne (fun z => e z.2.1), hO.2.2.2.2.2.2.2.2.2.2.2.2.1 i2 hi2]
      show _ = some (Sum.inr (5, [_, Value.int ((su T 11 (va_up (T.1 11) m v)).1 10 i2), Value.int ((su T 11 (va_up (T.1 11) m v)).1 11 i2), Value.int ((su T 11 (va_up (T.1 11) m v)).1 12 i2)]))
      rw [show (su T 11 (va_up (T.1 11) m v)).1 11 i2 = T.1 11 i2 from va_up_ne _ _ e]
      rfl, hO.2.2.2.2.2.2.2.2.2.2.2.2.2.1, hO.2.2.2.2.2.2.2.2.2.2.2.2.2.2.1, hO.2.2.2.2.2.2.2.2.2.2.2.2.2.2.2.1, hO.2.2.2.2.2.2.2.2.2.2.2.2.2.2.2.2.1, hO.2.2.2.2.2.2.2.2.2.2.2.2.2.2.2.2.2.1, hO.2.2.2.2.2.2.2.2.2.2.2.2.2.2.2.2.2.2.1, hO.2.2.2.2.2.2.2.2.2.2.2.2.2.2.2.2.2.2.2⟩, hX.put (by decide)⟩)
theorem kg_me_3 (hC : gC p s m_ meth c own cc nL ret args V) (hW : cmW V A H0 ad E0 T H locs) {m : Nat} (hm : m < cnm T) {index : Nat} (hl : Cond.fieldLink own index "TieredMachine$Method" "disappointments" "I" ∈ wsL_law) (hdg : decode cc pc = .ok (.getfield index, 3)) (kk : W p l e R s m_ args below meth c H locs cells slots Q (F0 m_ (pc + 3) ls (.int (T.1 12 m) :: rest))) : W p l e R s m_ args below meth c H locs cells slots Q (F0 m_ pc ls (.ref (ad 13 m 0) :: rest)) := by
  obtain ⟨E, hG, hO, hX⟩ := hW
  exact gq_get hC hG (hO.2.2.2.2.2.2.2.2.2.2.2.2.1 m hm) rfl inlX4 3 (by decide) hl (fun _ h => h) rfl hdg kk
theorem kp_me_3 (hC : gC p s m_ meth c own cc nL ret args V) (hW : cmW V A H0 ad E0 T H locs) {m : Nat} (hm : m < cnm T) {v : Int32} {index : Nat} (hl : Cond.fieldLink own index "TieredMachine$Method" "disappointments" "I" ∈ wsL_law) (hdg : decode cc pc = .ok (.putfield index, 3)) (kk : ∀ (H1 : Heap) (locs1 : List Loc), cmW V A H0 ad E0 (su T 12 (va_up (T.1 12) m v)) H1 locs1 → W p l e R s m_ args below meth c H1 locs1 cells slots Q (F0 m_ (pc + 3) ls (rest))) : W p l e R s m_ args below meth c H locs cells slots Q (F0 m_ pc ls (.int v :: .ref (ad 13 m 0) :: rest)) := by
  obtain ⟨E, hG, hO, hX⟩ := hW
  refine gq_put hC hG (hO.2.2.2.2.2.2.2.2.2.2.2.2.1 m hm) rfl inlX4 tyX4 tyX4_ok nmX4 3 (by decide) hl (fun _ h => h) rfl rfl rfl (Nat.le_of_ble_eq_true rfl) hdg (fun H1 locs1 hG1 => kk H1 locs1 ⟨_, hG1, ⟨hO.1, hO.2.1, hO.2.2.1, hO.2.2.2.1, hO.2.2.2.2.1, hO.2.2.2.2.2.1, hO.2.2.2.2.2.2.1, hO.2.2.2.2.2.2.2.1, hO.2.2.2.2.2.2.2.2.1, hO.2.2.2.2.2.2.2.2.2.1, hO.2.2.2.2.2.2.2.2.2.2.1, hO.2.2.2.2.2.2.2.2.2.2.2.1, fun i2 hi2 => by
    by_cases e : i2 = m
    · subst e
      rw [gu_eq]
      show some (Sum.inr (5, _)) = some (Sum.inr (5, [_, Value.int ((su T 12 (va_up (T.1 12) i2 v)).1 10 i2), Value.int ((su T 12 (va_up (T.1 12) i2 v)).1 11 i2), Value.int ((su T 12 (va_up (T.1 12) i2 v)).1 12 i2)]))
      rw [show (su T 12 (va_up (T.1 12) i2 v)).1 12 i2 = v from va_up_self _ _ _]
      rfl
    · rw [gu_ne (fun z => e z.2.1), hO.2.2.2.2.2.2.2.2.2.2.2.2.1 i2 hi2]
      show _ = some (Sum.inr (5, [_, Value.int ((su T 12 (va_up (T.1 12) m v)).1 10 i2), Value.int ((su T 12 (va_up (T.1 12) m v)).1 11 i2), Value.int ((su T 12 (va_up (T.1 12) m v)).1 12 i2)]))
      rw [show (su T 12 (va_up (T.1 12) m v)).1 12 i2 = T.1 12 i2 from va_up_ne _ _ e]
      rfl, hO.2.2.2.2.2.2.2.2.2.2.2.2.2.1, hO.2.2.2.2.2.2.2.2.2.2.2.2.2.2.1, hO.2.2.2.2.2.2.2.2.2.2.2.2.2.2.2.1, hO.2.2.2.2.2.2.2.2.2.2.2.2.2.2.2.2.1, hO.2.2.2.2.2.2.2.2.2.2.2.2.2.2.2.2.2.1, hO.2.2.2.2.2.2.2.2.2.2.2.2.2.2.2.2.2.2.1, hO.2.2.2.2.2.2.2.2.2.2.2.2.2.2.2.2.2.2.2⟩, hX.put (by decide)⟩)
theorem kg_ins_0 (hC : gC p s m_ meth c own cc nL ret args V) (hW : cmW V A H0 ad E0 T H locs) {m q : Nat} (hm : m < cnm T) (hq : q < csz T m) {index : Nat} (hl : Cond.fieldLink own index "TieredMachine$Instruction" "kind" "I" ∈ wsL_law) (hdg : decode cc pc = .ok (.getfield index, 3)) (kk : W p l e R s m_ args below meth c H locs cells slots Q (F0 m_ (pc + 3) ls (.int (T.1 6 (5 * (20 * m + q))) :: rest))) : W p l e R s m_ args below meth c H locs cells slots Q (F0 m_ pc ls (.ref (ad 16 m q) :: rest)) := by
  obtain ⟨E, hG, hO, hX⟩ := hW
  exact gq_get hC hG (hO.2.2.2.2.2.2.2.2.2.2.2.2.2.2.1 m q hm hq) rfl inlX2 0 (by decide) hl (fun _ h => h) rfl hdg kk
theorem kg_ins_1 (hC : gC p s m_ meth c own cc nL ret args V) (hW : cmW V A H0 ad E0 T H locs) {m q : Nat} (hm : m < cnm T) (hq : q < csz T m) {index : Nat} (hl : Cond.fieldLink own index "TieredMachine$Instruction" "a" "I" ∈ wsL_law) (hdg : decode cc pc = .ok (.getfield index, 3)) (kk : W p l e R s m_ args below meth c H locs cells slots Q (F0 m_ (pc + 3) ls (.int (T.1 6 (5 * (20 * m + q) + 1)) :: rest))) : W p l e R s m_ args below meth c H locs cells slots Q (F0 m_ pc ls (.ref (ad 16 m q) :: rest)) := by
  obtain ⟨E, hG, hO, hX⟩ := hW
  exact gq_get hC hG (hO.2.2.2.2.2.2.2.2.2.2.2.2.2.2.1 m q hm hq) rfl inlX2 1 (by decide) hl (fun _ h => h) rfl hdg kk
theorem kg_ins_2 (hC : gC p s m_ meth c own cc nL ret args V) (hW : cmW V A H0 ad E0 T H locs) {m q : Nat} (hm : m < cnm T) (hq : q < csz T m) {index : Nat} (hl : Cond.fieldLink own index "TieredMachine$Instruction" "b" "I" ∈ wsL_law) (hdg : decode cc pc = .ok (.getfield index, 3)) (kk : W p l e R s m_ args below meth c H locs cells slots Q (F0 m_ (pc + 3) ls (.int (T.1 6 (5 * (20 * m + q) + 2)) :: rest))) : W p l e R s m_ args below meth c H locs cells slots Q (F0 m_ pc ls (.ref (ad 16 m q) :: rest)) := by
  obtain ⟨E, hG, hO, hX⟩ := hW
  exact gq_get hC hG (hO.2.2.2.2.2.2.2.2.2.2.2.2.2.2.1 m q hm hq) rfl inlX2 2 (by decide) hl (fun _ h => h) rfl hdg kk
theorem kg_ins_3 (hC : gC p s m_ meth c own cc nL ret args V) (hW : cmW V A H0 ad E0 T H locs) {m q : Nat} (hm : m < cnm T) (hq : q < csz T m) {index : Nat} (hl : Cond.fieldLink own index "TieredMachine$Instruction" "c" "I" ∈ wsL_law) (hdg : decode cc pc = .ok (.getfield index, 3)) (kk : W p l e R s m_ args below meth c H locs cells slots Q (F0 m_ (pc + 3) ls (.int (T.1 6 (5 * (20 * m + q) + 3)) :: rest))) : W p l e R s m_ args below meth c H locs cells slots Q (F0 m_ pc ls (.ref (ad 16 m q) :: rest)) := by
  obtain ⟨E, hG, hO, hX⟩ := hW
  exact gq_get hC hG (hO.2.2.2.2.2.2.2.2.2.2.2.2.2.2.1 m q hm hq) rfl inlX2 3 (by decide) hl (fun _ h => h) rfl hdg kk
theorem kg_ins_4 (hC : gC p s m_ meth c own cc nL ret args V) (hW : cmW V A H0 ad E0 T H locs) {m q : Nat} (hm : m < cnm T) (hq : q < csz T m) {index : Nat} (hl : Cond.fieldLink own index "TieredMachine$Instruction" "d" "I" ∈ wsL_law) (hdg : decode cc pc = .ok (.getfield index, 3)) (kk : W p l e R s m_ args below meth c H locs cells slots Q (F0 m_ (pc + 3) ls (.int (T.1 6 (5 * (20 * m + q) + 4)) :: rest))) : W p l e R s m_ args below meth c H locs cells slots Q (F0 m_ pc ls (.ref (ad 16 m q) :: rest)) := by
  obtain ⟨E, hG, hO, hX⟩ := hW
  exact gq_get hC hG (hO.2.2.2.2.2.2.2.2.2.2.2.2.2.2.1 m q hm hq) rfl inlX2 4 (by decide) hl (fun _ h => h) rfl hdg kk
theorem kg_ins_5 (hC : gC p s m_ meth c own cc nL ret args V) (hW : cmW V A H0 ad E0 T H locs) {m q : Nat} (hm : m < cnm T) (hq : q < csz T m) {index : Nat} (hl : Cond.fieldLink own index "TieredMachine$Instruction" "met" "LTieredMachine$Meetings;" ∈ wsL_law) (hdg : decode cc pc = .ok (.getfield index, 3)) (kk : W p l e R s m_ args below meth c H locs cells slots Q (F0 m_ (pc + 3) ls (.ref (ad 17 m q) :: rest))) : W p l e R s m_ args below meth c H locs cells slots Q (F0 m_ pc ls (.ref (ad 16 m q) :: rest)) := by
  obtain ⟨E, hG, hO, hX⟩ := hW
  exact gq_get hC hG (hO.2.2.2.2.2.2.2.2.2.2.2.2.2.2.1 m q hm hq) rfl inlX2 5 (by decide) hl (fun _ h => h) rfl hdg kk
theorem kg_ins_6 (hC : gC p s m_ meth c own cc nL ret args V) (hW : cmW V A H0 ad E0 T H locs) {m q : Nat} (hm : m < cnm T) (hq : q < csz T m) {index : Nat} (hl : Cond.fieldLink own index "TieredMachine$Instruction" "trusted" "LTieredMachine$Meetings;" ∈ wsL_law) (hdg : decode cc pc = .ok (.getfield index, 3)) (kk : W p l e R s m_ args below meth c H locs cells slots Q (F0 m_ (pc + 3) ls (.ref (ad 19 m q) :: rest))) : W p l e R s m_ args below meth c H locs cells slots Q (F0 m_ pc ls (.ref (ad 16 m q) :: rest)) := by
  obtain ⟨E, hG, hO, hX⟩ := hW
  exact gq_get hC hG (hO.2.2.2.2.2.2.2.2.2.2.2.2.2.2.1 m q hm hq) rfl inlX2 6 (by decide) hl (fun _ h => h) rfl hdg kk
theorem kg_rm_0 (hC : gC p s m_ meth c own cc nL ret args V) (hW : cmW V A H0 ad E0 T H locs) {m q : Nat} (hm : m < cnm T) (hq : q < csz T m) {index : Nat} (hl : Cond.fieldLink own index "TieredMachine$Meetings" "types" "[I" ∈ wsL_law) (hdg : decode cc pc = .ok (.getfield index, 3)) (kk : W p l e R s m_ args below meth c H locs cells slots Q (F0 m_ (pc + 3) ls (.ref (ad 18 m q) :: rest))) : W p l e R s m_ args below meth c H locs cells slots Q (F0 m_ pc ls (.ref (ad 17 m q) :: rest)) := by
  obtain ⟨E, hG, hO, hX⟩ := hW
  exact gq_get hC hG (hO.2.2.2.2.2.2.2.2.2.2.2.2.2.2.2.1 m q hm hq) rfl inlX3 0 (by decide) hl (fun _ h => h) rfl hdg kk
theorem kg_rm_1 (hC : gC p s m_ meth c own cc nL ret args V) (hW : cmW V A H0 ad E0 T H locs) {m q : Nat} (hm : m < cnm T) (hq : q < csz T m) {index : Nat} (hl : Cond.fieldLink own index "TieredMachine$Meetings" "count" "I" ∈ wsL_law) (hdg : decode cc pc = .ok (.getfield index, 3)) (kk : W p l e R s m_ args below meth c H locs cells slots Q (F0 m_ (pc + 3) ls (.int (T.1 13 (20 * m + q)) :: rest))) : W p l e R s m_ args below meth c H locs cells slots Q (F0 m_ pc ls (.ref (ad 17 m q) :: rest)) := by
  obtain ⟨E, hG, hO, hX⟩ := hW
  exact gq_get hC hG (hO.2.2.2.2.2.2.2.2.2.2.2.2.2.2.2.1 m q hm hq) rfl inlX3 1 (by decide) hl (fun _ h => h) rfl hdg kk
theorem kp_rm_1 (hC : gC p s m_ meth c own cc nL ret args V) (hW : cmW V A H0 ad E0 T H locs) {m q : Nat} (hm : m < cnm T) (hq : q < csz T m) {v : Int32} {index : Nat} (hl : Cond.fieldLink own index "TieredMachine$Meetings" "count" "I" ∈ wsL_law) (hdg : decode cc pc = .ok (.putfield index, 3)) (kk : ∀ (H1 : Heap) (locs1 : List Loc), cmW V A H0 ad E0 (su T 13 (va_up (T.1 13) (20 * m + q) v)) H1 locs1 → W p l e R s m_ args below meth c H1 locs1 cells slots Q (F0 m_ (pc + 3) ls (rest))) : W p l e R s m_ args below meth c H locs cells slots Q (F0 m_ pc ls (.int v :: .ref (ad 17 m q) :: rest)) := by
  obtain ⟨E, hG, hO, hX⟩ := hW
  refine gq_put hC hG (hO.2.2.2.2.2.2.2.2.2.2.2.2.2.2.2.1 m q hm hq) rfl inlX3 tyX3 tyX3_ok nmX3 1 (by decide) hl (fun _ h => h) rfl rfl rfl (Nat.le_of_ble_eq_true rfl) hdg (fun H1 locs1 hG1 => kk H1 locs1 ⟨_, hG1, ⟨hO.1, hO.2.1, hO.2.2.1, hO.2.2.2.1, hO.2.2.2.2.1, hO.2.2.2.2.2.1, hO.2.2.2.2.2.2.1, hO.2.2.2.2.2.2.2.1, hO.2.2.2.2.2.2.2.2.1, hO.2.2.2.2.2.2.2.2.2.1, hO.2.2.2.2.2.2.2.2.2.2.1, hO.2.2.2.2.2.2.2.2.2.2.2.1, hO.2.2.2.2.2.2.2.2.2.2.2.2.1, hO.2.2.2.2.2.2.2.2.2.2.2.2.2.1, hO.2.2.2.2.2.2.2.2.2.2.2.2.2.2.1, fun m2 q2 hm2 hq2 => by
    by_cases e : m2 = m ∧ q2 = q
    · obtain ⟨rfl, rfl⟩ := e
      rw [gu_eq]
      show _ = some (Sum.inr (4, [_, Value.int ((su T 13 (va_up (T.1 13) (20 * m2 + q2) v)).1 13 (20 * m2 + q2)), Value.int ((su T 13 (va_up (T.1 13) (20 * m2 + q2) v)).1 15 (20 * m2 + q2))]))
      rw [show (su T 13 (va_up (T.1 13) (20 * m2 + q2) v)).1 13 (20 * m2 + q2) = v from va_up_self _ _ _]
      rfl
    · have hq2 : q2 < csz T m2 := hq2
      have hm3 : m2 < cnm T := hm2
      have hz2 := (hO.2.2.2.2.2.2.2.2.2.2.2.2.2.2.2.2.2.2.2.2.1 m2 hm2).1
      have hz1 := (hO.2.2.2.2.2.2.2.2.2.2.2.2.2.2.2.2.2.2.2.2.1 m hm).1
      have hn := hO.2.2.2.2.2.2.2.2.2.2.2.2.2.2.2.2.2.2.2.1
      rw [gu_ne (fun z => e z.2), hO.2.2.2.2.2.2.2.2.2.2.2.2.2.2.2.1 m2 q2 hm2 hq2]
      show _ = some (Sum.inr (4, [_, Value.int ((su T 13 (va_up (T.1 13) (20 * m + q) v)).1 13 (20 * m2 + q2)), Value.int ((su T 13 (va_up (T.1 13) (20 * m + q) v)).1 15 (20 * m2 + q2))]))
      rw [show (su T 13 (va_up (T.1 13) (20 * m + q) v)).1 13 (20 * m2 + q2) = T.1 13 (20 * m2 + q2) from va_up_ne _ _ (by omega)]
      rfl, hO.2.2.2.2.2.2.2.2.2.2.2.2.2.2.2.2.1, fun m2 q2 hm2 hq2 => by
      have hq2 : q2 < csz T m2 := hq2
      have hm3 : m2 < cnm T := hm2
      have hz2 := (hO.2.2.2.2.2.2.2.2.2.2.2.2.2.2.2.2.2.2.2.2.1 m2 hm2).1
      have hz1 := (hO.2.2.2.2.2.2.2.2.2.2.2.2.2.2.2.2.2.2.2.2.1 m hm).1
      have hn := hO.2.2.2.2.2.2.2.2.2.2.2.2.2.2.2.2.2.2.2.1
      refine (hO.2.2.2.2.2.2.2.2.2.2.2.2.2.2.2.2.2.1 m2 q2 hm2 hq2).trans ?_
      show _ = some (Sum.inr (4, [_, Value.int ((su T 13 (va_up (T.1 13) (20 * m + q) v)).1 13 (240 + (20 * m2 + q2))), Value.int ((su T 13 (va_up (T.1 13) (20 * m + q) v)).1 15 (240 + (20 * m2 + q2)))]))
      rw [show (su T 13 (va_up (T.1 13) (20 * m + q) v)).1 13 (240 + (20 * m2 + q2)) = T.1 13 (240 + (20 * m2 + q2)) from va_up_ne _ _ (by omega)]
      rfl, hO.2.2.2.2.2.2.2.2.2.2.2.2.2.2.2.2.2.2.1, hO.2.2.2.2.2.2.2.2.2.2.2.2.2.2.2.2.2.2.2⟩, hX.put (by decide)⟩)
theorem kg_rm_2 (hC : gC p s m_ meth c own cc nL ret args V) (hW : cmW V A H0 ad E0 T H locs) {m q : Nat} (hm : m < cnm T) (hq : q < csz T m) {index : Nat} (hl : Cond.fieldLink own index "TieredMachine$Meetings" "crowded" "Z" ∈ wsL_law) (hdg : decode cc pc = .ok (.getfield index, 3)) (kk : W p l e R s m_ args below meth c H locs cells slots Q (F0 m_ (pc + 3) ls (.int (T.1 15 (20 * m + q)) :: rest))) : W p l e R s m_ args below meth c H locs cells slots Q (F0 m_ pc ls (.ref (ad 17 m q) :: rest)) := by
  obtain ⟨E, hG, hO, hX⟩ := hW
  exact gq_get hC hG (hO.2.2.2.2.2.2.2.2.2.2.2.2.2.2.2.1 m q hm hq) rfl inlX3 2 (by decide) hl (fun _ h => h) rfl hdg kk
theorem kp_rm_2 (hC : gC p s m_ meth c own cc nL ret args V) (hW : cmW V A H0 ad E0 T H locs) {m q : Nat} (hm : m < cnm T) (hq : q < csz T m) {v : Int32} (hv : v = 0 ∨ v = 1) {index : Nat} (hl : Cond.fieldLink own index "TieredMachine$Meetings" "crowded" "Z" ∈ wsL_law) (hdg : decode cc pc = .ok (.putfield index, 3)) (kk : ∀ (H1 : Heap) (locs1 : List Loc), cmW V A H0 ad E0 (su T 15 (va_up (T.1 15) (20 * m + q) v)) H1 locs1 → W p l e R s m_ args below meth c H1 locs1 cells slots Q (F0 m_ (pc + 3) ls (rest))) : W p l e R s m_ args below meth c H locs cells slots Q (F0 m_ pc ls (.int v :: .ref (ad 17 m q) :: rest)) := by
  obtain ⟨E, hG, hO, hX⟩ := hW
  refine gq_put hC hG (hO.2.2.2.2.2.2.2.2.2.2.2.2.2.2.2.1 m q hm hq) rfl inlX3 tyX3 tyX3_ok nmX3 2 (by decide) hl (fun _ h => h) rfl (by rcases hv with h | h <;> (rw [h]; decide +kernel)) (by rcases hv with h | h <;> (rw [h]; decide +kernel)) (Nat.le_of_ble_eq_true rfl) hdg (fun H1 locs1 hG1 => kk H1 locs1 ⟨_, hG1, ⟨hO.1, hO.2.1, hO.2.2.1, hO.2.2.2.1, hO.2.2.2.2.1, hO.2.2.2.2.2.1, hO.2.2.2.2.2.2.1, hO.2.2.2.2.2.2.2.1, hO.2.2.2.2.2.2.2.2.1, hO.2.2.2.2.2.2.2.2.2.1, hO.2.2.2.2.2.2.2.2.2.2.1, hO.2.2.2.2.2.2.2.2.2.2.2.1, hO.2.2.2.2.2.2.2.2.2.2.2.2.1, hO.2.2.2.2.2.2.2.2.2.2.2.2.2.1, hO.2.2.2.2.2.2.2.2.2.2.2.2.2.2.1, fun m2 q2 hm2 hq2 => by
    by_cases e : m2 = m ∧ q2 = q
    · obtain ⟨rfl, rfl⟩ := e
      rw [gu_eq]
      show _ = some (Sum.inr (4, [_, Value.int ((su T 15 (va_up (T.1 15) (20 * m2 + q2) v)).1 13 (20 * m2 + q2)), Value.int ((su T 15 (va_up (T.1 15) (20 * m2 + q2) v)).1 15 (20 * m2 + q2))]))
      rw [show (su T 15 (va_up (T.1 15) (20 * m2 + q2) v)).1 15 (20 * m2 + q2) = v from va_up_self _ _ _]
      rfl
    · have hq2 : q2 < csz T m2 := hq2
      have hm3 : m2 < cnm T := hm2
      have hz2 := (hO.2.2.2.2.2.2.2.2.2.2.2.2.2.2.2.2.2.2.2.2.1 m2 hm2).1
      have hz1 := (hO.2.2.2.2.2.2.2.2.2.2.2.2.2.2.2.2.2.2.2.2.1 m hm).1
      have hn := hO.2.2.2.2.2.2.2.2.2.2.2.2.2.2.2.2.2.2.2.1
      rw [gu_ne (fun z => e z.2), hO.2.2.2.2.2.2.2.2.2.2.2.2.2.2.2.1 m2 q2 hm2 hq2]
      show _ = some (Sum.inr (4, [_, Value.int ((su T 15 (va_up (T.1 15) (20 * m + q) v)).1 13 (20 * m2 + q2)), Value.int ((su T 15 (va_up (T.1 15) (20 * m + q) v)).1 15 (20 * m2 + q2))]))
      rw [show (su T 15 (va_up (T.1 15) (20 * m + q) v)).1 15 (20 * m2 + q2) = T.1 15 (20 * m2 + q2) from va_up_ne _ _ (by omega)]
      rfl, hO.2.2.2.2.2.2.2.2.2.2.2.2.2.2.2.2.1, fun m2 q2 hm2 hq2 => by
      have hq2 : q2 < csz T m2 := hq2
      have hm3 : m2 < cnm T := hm2
      have hz2 := (hO.2.2.2.2.2.2.2.2.2.2.2.2.2.2.2.2.2.2.2.2.1 m2 hm2).1
      have hz1 := (hO.2.2.2.2.2.2.2.2.2.2.2.2.2.2.2.2.2.2.2.2.1 m hm).1
      have hn := hO.2.2.2.2.2.2.2.2.2.2.2.2.2.2.2.2.2.2.2.1
      refine (hO.2.2.2.2.2.2.2.2.2.2.2.2.2.2.2.2.2.1 m2 q2 hm2 hq2).trans ?_
      show _ = some (Sum.inr (4, [_, Value.int ((su T 15 (va_up (T.1 15) (20 * m + q) v)).1 13 (240 + (20 * m2 + q2))), Value.int ((su T 15 (va_up (T.1 15) (20 * m + q) v)).1 15 (240 + (20 * m2 + q2)))]))
      rw [show (su T 15 (va_up (T.1 15) (20 * m + q) v)).1 15 (240 + (20 * m2 + q2)) = T.1 15 (240 + (20 * m2 + q2)) from va_up_ne _ _ (by omega)]
      rfl, hO.2.2.2.2.2.2.2.2.2.2.2.2.2.2.2.2.2.2.1, hO.2.2.2.2.2.2.2.2.2.2.2.2.2.2.2.2.2.2.2⟩, hX.put (by decide)⟩)
theorem kg_rt_0 (hC : gC p s m_ meth c own cc nL ret args V) (hW : cmW V A H0 ad E0 T H locs) {m q : Nat} (hm : m < cnm T) (hq : q < csz T m) {index : Nat} (hl : Cond.fieldLink own index "TieredMachine$Meetings" "types" "[I" ∈ wsL_law) (hdg : decode cc pc = .ok (.getfield index, 3)) (kk : W p l e R s m_ args below meth c H locs cells slots Q (F0 m_ (pc + 3) ls (.ref (ad 20 m q) :: rest))) : W p l e R s m_ args below meth c H locs cells slots Q (F0 m_ pc ls (.ref (ad 19 m q) :: rest)) := by
  obtain ⟨E, hG, hO, hX⟩ := hW
  exact gq_get hC hG (hO.2.2.2.2.2.2.2.2.2.2.2.2.2.2.2.2.2.1 m q hm hq) rfl inlX3 0 (by decide) hl (fun _ h => h) rfl hdg kk
theorem kg_rt_1 (hC : gC p s m_ meth c own cc nL ret args V) (hW : cmW V A H0 ad E0 T H locs) {m q : Nat} (hm : m < cnm T) (hq : q < csz T m) {index : Nat} (hl : Cond.fieldLink own index "TieredMachine$Meetings" "count" "I" ∈ wsL_law) (hdg : decode cc pc = .ok (.getfield index, 3)) (kk : W p l e R s m_ args below meth c H locs cells slots Q (F0 m_ (pc + 3) ls (.int (T.1 13 (240 + (20 * m + q))) :: rest))) : W p l e R s m_ args below meth c H locs cells slots Q (F0 m_ pc ls (.ref (ad 19 m q) :: rest)) := by
  obtain ⟨E, hG, hO, hX⟩ := hW
  exact gq_get hC hG (hO.2.2.2.2.2.2.2.2.2.2.2.2.2.2.2.2.2.1 m q hm hq) rfl inlX3 1 (by decide) hl (fun _ h => h) rfl hdg kk
theorem kp_rt_1 (hC : gC p s m_ meth c own cc nL ret args V) (hW : cmW V A H0 ad E0 T H locs) {m q : Nat} (hm : m < cnm T) (hq : q < csz T m) {v : Int32} {index : Nat} (hl : Cond.fieldLink own index "TieredMachine$Meetings" "count" "I" ∈ wsL_law) (hdg : decode cc pc = .ok (.putfield index, 3)) (kk : ∀ (H1 : Heap) (locs1 : List Loc), cmW V A H0 ad E0 (su T 13 (va_up (T.1 13) (240 + (20 * m + q)) v)) H1 locs1 → W p l e R s m_ args below meth c H1 locs1 cells slots Q (F0 m_ (pc + 3) ls (rest))) : W p l e R s m_ args below meth c H locs cells slots Q (F0 m_ pc ls (.int v :: .ref (ad 19 m q) :: rest)) := by
  obtain ⟨E, hG, hO, hX⟩ := hW
  refine gq_put hC hG (hO.2.2.2.2.2.2.2.2.2.2.2.2.2.2.2.2.2.1 m q hm hq) rfl inlX3 tyX3 tyX3_ok nmX3 1 (by decide) hl (fun _ h => h) rfl rfl rfl (Nat.le_of_ble_eq_true rfl) hdg (fun H1 locs1 hG1 => kk H1 locs1 ⟨_, hG1, ⟨hO.1, hO.2.1, hO.2.2.1, hO.2.2.2.1, hO.2.2.2.2.1, hO.2.2.2.2.2.1, hO.2.2.2.2.2.2.1, hO.2.2.2.2.2.2.2.1, hO.2.2.2.2.2.2.2.2.1, hO.2.2.2.2.2.2.2.2.2.1, hO.2.2.2.2.2.2.2.2.2.2.1, hO.2.2.2.2.2.2.2.2.2.2.2.1, hO.2.2.2.2.2.2.2.2.2.2.2.2.1, hO.2.2.2.2.2.2.2.2.2.2.2.2.2.1, hO.2.2.2.2.2.2.2.2.2.2.2.2.2.2.1, fun m2 q2 hm2 hq2 => by
      have hq2 : q2 < csz T m2 := hq2
      have hm3 : m2 < cnm T := hm2
      have hz2 := (hO.2.2.2.2.2.2.2.2.2.2.2.2.2.2.2.2.2.2.2.2.1 m2 hm2).1
      have hz1 := (hO.2.2.2.2.2.2.2.2.2.2.2.2.2.2.2.2.2.2.2.2.1 m hm).1
      have hn := hO.2.2.2.2.2.2.2.2.2.2.2.2.2.2.2.2.2.2.2.1
      refine (hO.2.2.2.2.2.2.2.2.2.2.2.2.2.2.2.1 m2 q2 hm2 hq2).trans ?_
      show _ = some (Sum.inr (4, [_, Value.int ((su T 13 (va_up (T.1 13) (240 + (20 * m + q)) v)).1 13 (20 * m2 + q2)), Value.int ((su T 13 (va_up (T.1 13) (240 + (20 * m + q)) v)).1 15 (20 * m2 + q2))]))
      rw [show (su T 13 (va_up (T.1 13) (240 + (20 * m + q)) v)).1 13 (20 * m2 + q2) = T.1 13 (20 * m2 + q2) from va_up_ne _ _ (by omega)]
      rfl, hO.2.2.2.2.2.2.2.2.2.2.2.2.2.2.2.2.1, fun m2 q2 hm2 hq2 => by
    by_cases e : m2 = m ∧ q2 = q
    · obtain ⟨rfl, rfl⟩ := e
      rw [gu_eq]
      show _ = some (Sum.inr (4, [_, Value.int ((su T 13 (va_up (T.1 13) (240 + (20 * m2 + q2)) v)).1 13 (240 + (20 * m2 + q2))), Value.int ((su T 13 (va_up (T.1 13) (240 + (20 * m2 + q2)) v)).1 15 (240 + (20 * m2 + q2)))]))
      rw [show (su T 13 (va_up (T.1 13) (240 + (20 * m2 + q2)) v)).1 13 (240 + (20 * m2 + q2)) = v from va_up_self _ _ _]
      rfl
    · have hq2 : q2 < csz T m2 := hq2
      have hm3 : m2 < cnm T := hm2
      have hz2 := (hO.2.2.2.2.2.2.2.2.2.2.2.2.2.2.2.2.2.2.2.2.1 m2 hm2).1
      have hz1 := (hO.2.2.2.2.2.2.2.2.2.2.2.2.2.2.2.2.2.2.2.2.1 m hm).1
      have hn := hO.2.2.2.2.2.2.2.2.2.2.2.2.2.2.2.2.2.2.2.1
      rw [gu_ne (fun z => e z.2), hO.2.2.2.2.2.2.2.2.2.2.2.2.2.2.2.2.2.1 m2 q2 hm2 hq2]
      show _ = some (Sum.inr (4, [_, Value.int ((su T 13 (va_up (T.1 13) (240 + (20 * m + q)) v)).1 13 (240 + (20 * m2 + q2))), Value.int ((su T 13 (va_up (T.1 13) (240 + (20 * m + q)) v)).1 15 (240 + (20 * m2 + q2)))]))
      rw [show (su T 13 (va_up (T.1 13) (240 + (20 * m + q)) v)).1 13 (240 + (20 * m2 + q2)) = T.1 13 (240 + (20 * m2 + q2)) from va_up_ne _ _ (by omega)]
      rfl, hO.2.2.2.2.2.2.2.2.2.2.2.2.2.2.2.2.2.2.1, hO.2.2.2.2.2.2.2.2.2.2.2.2.2.2.2.2.2.2.2⟩, hX.put (by decide)⟩)
theorem kg_rt_2 (hC : gC p s m_ meth c own cc nL ret args V) (hW : cmW V A H0 ad E0 T H locs) {m q : Nat} (hm : m < cnm T) (hq : q < csz T m) {index : Nat} (hl : Cond.fieldLink own index "TieredMachine$Meetings" "crowded" "Z" ∈ wsL_law) (hdg : decode cc pc = .ok (.getfield index, 3)) (kk : W p l e R s m_ args below meth c H locs cells slots Q (F0 m_ (pc + 3) ls (.int (T.1 15 (240 + (20 * m + q))) :: rest))) : W p l e R s m_ args below meth c H locs cells slots Q (F0 m_ pc ls (.ref (ad 19 m q) :: rest)) := by
  obtain ⟨E, hG, hO, hX⟩ := hW
  exact gq_get hC hG (hO.2.2.2.2.2.2.2.2.2.2.2.2.2.2.2.2.2.1 m q hm hq) rfl inlX3 2 (by decide) hl (fun _ h => h) rfl hdg kk
theorem kp_rt_2 (hC : gC p s m_ meth c own cc nL ret args V) (hW : cmW V A H0 ad E0 T H locs) {m q : Nat} (hm : m < cnm T) (hq : q < csz T m) {v : Int32} (hv : v = 0 ∨ v = 1) {index : Nat} (hl : Cond.fieldLink own index "TieredMachine$Meetings" "crowded" "Z" ∈ wsL_law) (hdg : decode cc pc = .ok (.putfield index, 3)) (kk : ∀ (H1 : Heap) (locs1 : List Loc), cmW V A H0 ad E0 (su T 15 (va_up (T.1 15) (240 + (20 * m + q)) v)) H1 locs1 → W p l e R s m_ args below meth c H1 locs1 cells slots Q (F0 m_ (pc + 3) ls (rest))) : W p l e R s m_ args below meth c H locs cells slots Q (F0 m_ pc ls (.int v :: .ref (ad 19 m q) :: rest)) := by
  obtain ⟨E, hG, hO, hX⟩ := hW
  refine gq_put hC hG (hO.2.2.2.2.2.2.2.2.2.2.2.2.2.2.2.2.2.1 m q hm hq) rfl inlX3 tyX3 tyX3_ok nmX3 2 (by decide) hl (fun _ h => h) rfl (by rcases hv with h | h <;> (rw [h]; decide +kernel)) (by rcases hv with h | h <;> (rw [h]; decide +kernel)) (Nat.le_of_ble_eq_true rfl) hdg (fun H1 locs1 hG1 => kk H1 locs1 ⟨_, hG1, ⟨hO.1, hO.2.1, hO.2.2.1, hO.2.2.2.1, hO.2.2.2.2.1, hO.2.2.2.2.2.1, hO.2.2.2.2.2.2.1, hO.2.2.2.2.2.2.2.1, hO.2.2.2.2.2.2.2.2.1, hO.2.2.2.2.2.2.2.2.2.1, hO.2.2.2.2.2.2.2.2.2.2.1, hO.2.2.2.2.2.2.2.2.2.2.2.1, hO.2.2.2.2.2.2.2.2.2.2.2.2.1, hO.2.2.2.2.2.2.2.2.2.2.2.2.2.1, hO.2.2.2.2.2.2.2.2.2.2.2.2.2.2.1, fun m2 q2 hm2 hq2 => by
      have hq2 : q2 < csz T m2 := hq2
      have hm3 : m2 < cnm T := hm2
      have hz2 := (hO.2.2.2.2.2.2.2.2.2.2.2.2.2.2.2.2.2.2.2.2.1 m2 hm2).1
      have hz1 := (hO.2.2.2.2.2.2.2.2.2.2.2.2.2.2.2.2.2.2.2.2.1 m hm).1
      have hn := hO.2.2.2.2.2.2.2.2.2.2.2.2.2.2.2.2.2.2.2.1
      refine (hO.2.2.2.2.2.2.2.2.2.2.2.2.2.2.2.1 m2 q2 hm2 hq2).trans ?_
      show _ = some (Sum.inr (4, [_, Value.int ((su T 15 (va_up (T.1 15) (240 + (20 * m + q)) v)).1 13 (20 * m2 + q2)), Value.int ((su T 15 (va_up (T.1 15) (240 + (20 * m + q)) v)).1 15 (20 * m2 + q2))]))
      rw [show (su T 15 (va_up (T.1 15) (240 + (20 * m + q)) v)).1 15 (20 * m2 + q2) = T.1 15 (20 * m2 + q2) from va_up_ne _ _ (by omega)]
      rfl, hO.2.2.2.2.2.2.2.2.2.2.2.2.2.2.2.2.1, fun m2 q2 hm2 hq2 => by
    by_cases e : m2 = m ∧ q2 = q
    · obtain ⟨rfl, rfl⟩ := e
      rw [gu_eq]
      show _ = some (Sum.inr (4, [_, Value.int ((su T 15 (va_up (T.1 15) (240 + (20 * m2 + q2)) v)).1 13 (240 + (20 * m2 + q2))), Value.int ((su T 15 (va_up (T.1 15) (240 + (20 * m2 + q2)) v)).1 15 (240 + (20 * m2 + q2)))]))
      rw [show (su T 15 (va_up (T.1 15) (240 + (20 * m2 + q2)) v)).1 15 (240 + (20 * m2 + q2)) = v from va_up_self _ _ _]
      rfl
    · have hq2 : q2 < csz T m2 := hq2
      have hm3 : m2 < cnm T := hm2
      have hz2 := (hO.2.2.2.2.2.2.2.2.2.2.2.2.2.2.2.2.2.2.2.2.1 m2 hm2).1
      have hz1 := (hO.2.2.2.2.2.2.2.2.2.2.2.2.2.2.2.2.2.2.2.2.1 m hm).1
      have hn := hO.2.2.2.2.2.2.2.2.2.2.2.2.2.2.2.2.2.2.2.1
      rw [gu_ne (fun z => e z.2), hO.2.2.2.2.2.2.2.2.2.2.2.2.2.2.2.2.2.1 m2 q2 hm2 hq2]
      show _ = some (Sum.inr (4, [_, Value.int ((su T 15 (va_up (T.1 15) (240 + (20 * m + q)) v)).1 13 (240 + (20 * m2 + q2))), Value.int ((su T 15 (va_up (T.1 15) (240 + (20 * m + q)) v)).1 15 (240 + (20 * m2 + q2)))]))
      rw [show (su T 15 (va_up (T.1 15) (240 + (20 * m + q)) v)).1 15 (240 + (20 * m2 + q2)) = T.1 15 (240 + (20 * m2 + q2)) from va_up_ne _ _ (by omega)]
      rfl, hO.2.2.2.2.2.2.2.2.2.2.2.2.2.2.2.2.2.2.1, hO.2.2.2.2.2.2.2.2.2.2.2.2.2.2.2.2.2.2.2⟩, hX.put (by decide)⟩)
theorem ka_tot (hC : gC p s m_ meth c own cc nL ret args V) (hW : cmW V A H0 ad E0 T H locs) {x : Nat} (hx : x < 4) (hdg : decode cc pc = .ok (.laload, 1)) (kk : W p l e R s m_ args below meth c H locs cells slots Q (F0 m_ (pc + 1) ls (.long (T.2 16 x) :: rest))) : W p l e R s m_ args below meth c H locs cells slots Q (F0 m_ pc ls (.int (nI x) :: .ref (ad 4 0 0) :: rest)) := by
  obtain ⟨E, hG, hO, hX⟩ := hW
  refine gq_lald hC hG hO.2.1 (vp_in_nI hx (by decide)) hdg ?_
  rw [nI_clamp (by omega)]
  exact kk
theorem ks_tot (hC : gC p s m_ meth c own cc nL ret args V) (hW : cmW V A H0 ad E0 T H locs) {x : Nat} {y : Int64} (hx : x < 4) (hdg : decode cc pc = .ok (.lastore, 1)) (kk : ∀ (H1 : Heap) (locs1 : List Loc), cmW V A H0 ad E0 (sl T 16 (va_up (T.2 16) x y)) H1 locs1 → W p l e R s m_ args below meth c H1 locs1 cells slots Q (F0 m_ (pc + 1) ls (rest))) : W p l e R s m_ args below meth c H locs cells slots Q (F0 m_ pc ls (.long y :: .int (nI x) :: .ref (ad 4 0 0) :: rest)) := by
  obtain ⟨E, hG, hO, hX⟩ := hW
  refine gq_last hC hG hO.2.1 (vp_in_nI hx (by decide)) hdg (fun H1 locs1 hG1 => ?_)
  rw [nI_clamp (by omega)] at hG1
  exact kk H1 locs1 ⟨_, hG1, ⟨hO.1, gu_eq _ _ _ _ _, hO.2.2.1, hO.2.2.2.1, hO.2.2.2.2.1, hO.2.2.2.2.2.1, hO.2.2.2.2.2.2.1, hO.2.2.2.2.2.2.2.1, hO.2.2.2.2.2.2.2.2.1, hO.2.2.2.2.2.2.2.2.2.1, hO.2.2.2.2.2.2.2.2.2.2.1, hO.2.2.2.2.2.2.2.2.2.2.2.1, hO.2.2.2.2.2.2.2.2.2.2.2.2.1, hO.2.2.2.2.2.2.2.2.2.2.2.2.2.1, hO.2.2.2.2.2.2.2.2.2.2.2.2.2.2.1, hO.2.2.2.2.2.2.2.2.2.2.2.2.2.2.2.1, hO.2.2.2.2.2.2.2.2.2.2.2.2.2.2.2.2.1, hO.2.2.2.2.2.2.2.2.2.2.2.2.2.2.2.2.2.1, hO.2.2.2.2.2.2.2.2.2.2.2.2.2.2.2.2.2.2.1, hO.2.2.2.2.2.2.2.2.2.2.2.2.2.2.2.2.2.2.2⟩, hX.put (by decide)⟩
theorem ka_par (hC : gC p s m_ meth c own cc nL ret args V) (hW : cmW V A H0 ad E0 T H locs) {x : Nat} (hx : x < 8) (hdg : decode cc pc = .ok (.iaload, 1)) (kk : W p l e R s m_ args below meth c H locs cells slots Q (F0 m_ (pc + 1) ls (.int (T.1 2 x) :: rest))) : W p l e R s m_ args below meth c H locs cells slots Q (F0 m_ pc ls (.int (nI x) :: .ref (ad 5 0 0) :: rest)) := by
  obtain ⟨E, hG, hO, hX⟩ := hW
  refine gq_iald hC hG hO.2.2.2.1 (vp_in_nI hx (by decide)) hdg ?_
  rw [nI_clamp (by omega)]
  exact kk
theorem ks_par (hC : gC p s m_ meth c own cc nL ret args V) (hW : cmW V A H0 ad E0 T H locs) {x : Nat} {y : Int32} (hx : x < 8) (hdg : decode cc pc = .ok (.iastore, 1)) (kk : ∀ (H1 : Heap) (locs1 : List Loc), cmW V A H0 ad E0 (su T 2 (va_up (T.1 2) x y)) H1 locs1 → W p l e R s m_ args below meth c H1 locs1 cells slots Q (F0 m_ (pc + 1) ls (rest))) : W p l e R s m_ args below meth c H locs cells slots Q (F0 m_ pc ls (.int y :: .int (nI x) :: .ref (ad 5 0 0) :: rest)) := by
  obtain ⟨E, hG, hO, hX⟩ := hW
  refine gq_iast hC hG hO.2.2.2.1 (vp_in_nI hx (by decide)) hdg (fun H1 locs1 hG1 => ?_)
  rw [nI_clamp (by omega)] at hG1
  exact kk H1 locs1 ⟨_, hG1, ⟨hO.1, hO.2.1, hO.2.2.1, gu_eq _ _ _ _ _, hO.2.2.2.2.1, hO.2.2.2.2.2.1, hO.2.2.2.2.2.2.1, hO.2.2.2.2.2.2.2.1, hO.2.2.2.2.2.2.2.2.1, hO.2.2.2.2.2.2.2.2.2.1, hO.2.2.2.2.2.2.2.2.2.2.1, hO.2.2.2.2.2.2.2.2.2.2.2.1, hO.2.2.2.2.2.2.2.2.2.2.2.2.1, hO.2.2.2.2.2.2.2.2.2.2.2.2.2.1, hO.2.2.2.2.2.2.2.2.2.2.2.2.2.2.1, hO.2.2.2.2.2.2.2.2.2.2.2.2.2.2.2.1, hO.2.2.2.2.2.2.2.2.2.2.2.2.2.2.2.2.1, hO.2.2.2.2.2.2.2.2.2.2.2.2.2.2.2.2.2.1, hO.2.2.2.2.2.2.2.2.2.2.2.2.2.2.2.2.2.2.1, hO.2.2.2.2.2.2.2.2.2.2.2.2.2.2.2.2.2.2.2⟩, hX.put (by decide)⟩
theorem ka_bef (hC : gC p s m_ meth c own cc nL ret args V) (hW : cmW V A H0 ad E0 T H locs) {x : Nat} (hx : x < 8) (hdg : decode cc pc = .ok (.iaload, 1)) (kk : W p l e R s m_ args below meth c H locs cells slots Q (F0 m_ (pc + 1) ls (.int (T.1 30 x) :: rest))) : W p l e R s m_ args below meth c H locs cells slots Q (F0 m_ pc ls (.int (nI x) :: .ref (ad 7 0 0) :: rest)) := by
  obtain ⟨E, hG, hO, hX⟩ := hW
  refine gq_iald hC hG hO.2.2.2.2.2.2.1 (vp_in_nI hx (by decide)) hdg ?_
  rw [nI_clamp (by omega)]
  exact kk
theorem ks_bef (hC : gC p s m_ meth c own cc nL ret args V) (hW : cmW V A H0 ad E0 T H locs) {x : Nat} {y : Int32} (hx : x < 8) (hdg : decode cc pc = .ok (.iastore, 1)) (kk : ∀ (H1 : Heap) (locs1 : List Loc), cmW V A H0 ad E0 (su T 30 (va_up (T.1 30) x y)) H1 locs1 → W p l e R s m_ args below meth c H1 locs1 cells slots Q (F0 m_ (pc + 1) ls (rest))) : W p l e R s m_ args below meth c H locs cells slots Q (F0 m_ pc ls (.int y :: .int (nI x) :: .ref (ad 7 0 0) :: rest)) := by
  obtain ⟨E, hG, hO, hX⟩ := hW
  refine gq_iast hC hG hO.2.2.2.2.2.2.1 (vp_in_nI hx (by decide)) hdg (fun H1 locs1 hG1 => ?_)
  rw [nI_clamp (by omega)] at hG1
  exact kk H1 locs1 ⟨_, hG1, ⟨hO.1, hO.2.1, hO.2.2.1, hO.2.2.2.1, hO.2.2.2.2.1, hO.2.2.2.2.2.1, gu_eq _ _ _ _ _, hO.2.2.2.2.2.2.2.1, hO.2.2.2.2.2.2.2.2.1, hO.2.2.2.2.2.2.2.2.2.1, hO.2.2.2.2.2.2.2.2.2.2.1, hO.2.2.2.2.2.2.2.2.2.2.2.1, hO.2.2.2.2.2.2.2.2.2.2.2.2.1, hO.2.2.2.2.2.2.2.2.2.2.2.2.2.1, hO.2.2.2.2.2.2.2.2.2.2.2.2.2.2.1, hO.2.2.2.2.2.2.2.2.2.2.2.2.2.2.2.1, hO.2.2.2.2.2.2.2.2.2.2.2.2.2.2.2.2.1, hO.2.2.2.2.2.2.2.2.2.2.2.2.2.2.2.2.2.1, hO.2.2.2.2.2.2.2.2.2.2.2.2.2.2.2.2.2.2.1, hO.2.2.2.2.2.2.2.2.2.2.2.2.2.2.2.2.2.2.2⟩, hX.put (by decide)⟩
theorem ka_row (hC : gC p s m_ meth c own cc nL ret args V) (hW : cmW V A H0 ad E0 T H locs) {i : Nat} (hi : i < 8) {x : Nat} (hx : x < 6) (hdg : decode cc pc = .ok (.iaload, 1)) (kk : W p l e R s m_ args below meth c H locs cells slots Q (F0 m_ (pc + 1) ls (.int (T.1 3 (6 * i + x)) :: rest))) : W p l e R s m_ args below meth c H locs cells slots Q (F0 m_ pc ls (.int (nI x) :: .ref (ad 8 i 0) :: rest)) := by
  obtain ⟨E, hG, hO, hX⟩ := hW
  obtain ⟨f, h1, h2⟩ := hO.2.2.2.2.2.1 i hi
  refine gq_iald hC hG h1 (vp_in_nI hx (by decide)) hdg ?_
  rw [nI_clamp (by omega), h2 x hx]
  exact kk
theorem ks_row (hC : gC p s m_ meth c own cc nL ret args V) (hW : cmW V A H0 ad E0 T H locs) {i : Nat} (hi : i < 8) {x : Nat} {y : Int32} (hx : x < 6) (hdg : decode cc pc = .ok (.iastore, 1)) (kk : ∀ (H1 : Heap) (locs1 : List Loc), cmW V A H0 ad E0 (su T 3 (va_up (T.1 3) (6 * i + x) y)) H1 locs1 → W p l e R s m_ args below meth c H1 locs1 cells slots Q (F0 m_ (pc + 1) ls (rest))) : W p l e R s m_ args below meth c H locs cells slots Q (F0 m_ pc ls (.int y :: .int (nI x) :: .ref (ad 8 i 0) :: rest)) := by
  obtain ⟨E, hG, hO, hX⟩ := hW
  obtain ⟨f, h1, h2⟩ := hO.2.2.2.2.2.1 i hi
  refine gq_iast hC hG h1 (vp_in_nI hx (by decide)) hdg (fun H1 locs1 hG1 => ?_)
  rw [nI_clamp (by omega)] at hG1
  exact kk H1 locs1 ⟨_, hG1, ⟨hO.1, hO.2.1, hO.2.2.1, hO.2.2.2.1, hO.2.2.2.2.1, fun i2 hi2 => by
    by_cases e : i2 = i
    · subst e
      refine ⟨_, gu_eq _ _ _ _ _, fun g hg => ?_⟩
      show va_up f x y g = va_up (T.1 3) (6 * i2 + x) y (6 * i2 + g)
      by_cases e2 : g = x
      · rw [e2, va_up_self, va_up_self]
      · rw [va_up_ne _ _ e2, va_up_ne _ _ (by omega)]
        exact h2 g hg
    · obtain ⟨f2, g1, g2⟩ := hO.2.2.2.2.2.1 i2 hi2
      refine ⟨f2, (gu_ne (fun z => e z.2.1)).trans g1, fun g hg => ?_⟩
      show f2 g = va_up (T.1 3) (6 * i + x) y (6 * i2 + g)
      rw [va_up_ne _ _ (by omega)]
      exact g2 g hg, hO.2.2.2.2.2.2.1, hO.2.2.2.2.2.2.2.1, hO.2.2.2.2.2.2.2.2.1, hO.2.2.2.2.2.2.2.2.2.1, hO.2.2.2.2.2.2.2.2.2.2.1, hO.2.2.2.2.2.2.2.2.2.2.2.1, hO.2.2.2.2.2.2.2.2.2.2.2.2.1, hO.2.2.2.2.2.2.2.2.2.2.2.2.2.1, hO.2.2.2.2.2.2.2.2.2.2.2.2.2.2.1, hO.2.2.2.2.2.2.2.2.2.2.2.2.2.2.2.1, hO.2.2.2.2.2.2.2.2.2.2.2.2.2.2.2.2.1, hO.2.2.2.2.2.2.2.2.2.2.2.2.2.2.2.2.2.1, hO.2.2.2.2.2.2.2.2.2.2.2.2.2.2.2.2.2.2.1, hO.2.2.2.2.2.2.2.2.2.2.2.2.2.2.2.2.2.2.2⟩, hX.put (by decide)⟩
theorem ka_val (hC : gC p s m_ meth c own cc nL ret args V) (hW : cmW V A H0 ad E0 T H locs) {i : Nat} (hi : i < 20) {x : Nat} (hx : x < 4) (hdg : decode cc pc = .ok (.iaload, 1)) (kk : W p l e R s m_ args below meth c H locs cells slots Q (F0 m_ (pc + 1) ls (.int (T.1 22 (4 * i + x)) :: rest))) : W p l e R s m_ args below meth c H locs cells slots Q (F0 m_ pc ls (.int (nI x) :: .ref (ad 11 i 0) :: rest)) := by
  obtain ⟨E, hG, hO, hX⟩ := hW
  obtain ⟨f, h1, h2⟩ := hO.2.2.2.2.2.2.2.2.2.1 i hi
  refine gq_iald hC hG h1 (vp_in_nI hx (by decide)) hdg ?_
  rw [nI_clamp (by omega), h2 x hx]
  exact kk
theorem ks_val (hC : gC p s m_ meth c own cc nL ret args V) (hW : cmW V A H0 ad E0 T H locs) {i : Nat} (hi : i < 20) {x : Nat} {y : Int32} (hx : x < 4) (hdg : decode cc pc = .ok (.iastore, 1)) (kk : ∀ (H1 : Heap) (locs1 : List Loc), cmW V A H0 ad E0 (su T 22 (va_up (T.1 22) (4 * i + x) y)) H1 locs1 → W p l e R s m_ args below meth c H1 locs1 cells slots Q (F0 m_ (pc + 1) ls (rest))) : W p l e R s m_ args below meth c H locs cells slots Q (F0 m_ pc ls (.int y :: .int (nI x) :: .ref (ad 11 i 0) :: rest)) := by
  obtain ⟨E, hG, hO, hX⟩ := hW
  obtain ⟨f, h1, h2⟩ := hO.2.2.2.2.2.2.2.2.2.1 i hi
  refine gq_iast hC hG h1 (vp_in_nI hx (by decide)) hdg (fun H1 locs1 hG1 => ?_)
  rw [nI_clamp (by omega)] at hG1
  exact kk H1 locs1 ⟨_, hG1, ⟨hO.1, hO.2.1, hO.2.2.1, hO.2.2.2.1, hO.2.2.2.2.1, hO.2.2.2.2.2.1, hO.2.2.2.2.2.2.1, hO.2.2.2.2.2.2.2.1, hO.2.2.2.2.2.2.2.2.1, fun i2 hi2 => by
    by_cases e : i2 = i
    · subst e
      refine ⟨_, gu_eq _ _ _ _ _, fun g hg => ?_⟩
      show va_up f x y g = va_up (T.1 22) (4 * i2 + x) y (4 * i2 + g)
      by_cases e2 : g = x
      · rw [e2, va_up_self, va_up_self]
      · rw [va_up_ne _ _ e2, va_up_ne _ _ (by omega)]
        exact h2 g hg
    · obtain ⟨f2, g1, g2⟩ := hO.2.2.2.2.2.2.2.2.2.1 i2 hi2
      refine ⟨f2, (gu_ne (fun z => e z.2.1)).trans g1, fun g hg => ?_⟩
      show f2 g = va_up (T.1 22) (4 * i + x) y (4 * i2 + g)
      rw [va_up_ne _ _ (by omega)]
      exact g2 g hg, hO.2.2.2.2.2.2.2.2.2.2.1, hO.2.2.2.2.2.2.2.2.2.2.2.1, hO.2.2.2.2.2.2.2.2.2.2.2.2.1, hO.2.2.2.2.2.2.2.2.2.2.2.2.2.1, hO.2.2.2.2.2.2.2.2.2.2.2.2.2.2.1, hO.2.2.2.2.2.2.2.2.2.2.2.2.2.2.2.1, hO.2.2.2.2.2.2.2.2.2.2.2.2.2.2.2.2.1, hO.2.2.2.2.2.2.2.2.2.2.2.2.2.2.2.2.2.1, hO.2.2.2.2.2.2.2.2.2.2.2.2.2.2.2.2.2.2.1, hO.2.2.2.2.2.2.2.2.2.2.2.2.2.2.2.2.2.2.2⟩, hX.put (by decide)⟩
theorem ka_typ (hC : gC p s m_ meth c own cc nL ret args V) (hW : cmW V A H0 ad E0 T H locs) {i : Nat} (hi : i < 20) {x : Nat} (hx : x < 4) (hdg : decode cc pc = .ok (.iaload, 1)) (kk : W p l e R s m_ args below meth c H locs cells slots Q (F0 m_ (pc + 1) ls (.int (T.1 21 (4 * i + x)) :: rest))) : W p l e R s m_ args below meth c H locs cells slots Q (F0 m_ pc ls (.int (nI x) :: .ref (ad 12 i 0) :: rest)) := by
  obtain ⟨E, hG, hO, hX⟩ := hW
  obtain ⟨f, h1, h2⟩ := hO.2.2.2.2.2.2.2.2.2.2.1 i hi
  refine gq_iald hC hG h1 (vp_in_nI hx (by decide)) hdg ?_
  rw [nI_clamp (by omega), h2 x hx]
  exact kk
theorem ks_typ (hC : gC p s m_ meth c own cc nL ret args V) (hW : cmW V A H0 ad E0 T H locs) {i : Nat} (hi : i < 20) {x : Nat} {y : Int32} (hx : x < 4) (hdg : decode cc pc = .ok (.iastore, 1)) (kk : ∀ (H1 : Heap) (locs1 : List Loc), cmW V A H0 ad E0 (su T 21 (va_up (T.1 21) (4 * i + x) y)) H1 locs1 → W p l e R s m_ args below meth c H1 locs1 cells slots Q (F0 m_ (pc + 1) ls (rest))) : W p l e R s m_ args below meth c H locs cells slots Q (F0 m_ pc ls (.int y :: .int (nI x) :: .ref (ad 12 i 0) :: rest)) := by
  obtain ⟨E, hG, hO, hX⟩ := hW
  obtain ⟨f, h1, h2⟩ := hO.2.2.2.2.2.2.2.2.2.2.1 i hi
  refine gq_iast hC hG h1 (vp_in_nI hx (by decide)) hdg (fun H1 locs1 hG1 => ?_)
  rw [nI_clamp (by omega)] at hG1
  exact kk H1 locs1 ⟨_, hG1, ⟨hO.1, hO.2.1, hO.2.2.1, hO.2.2.2.1, hO.2.2.2.2.1, hO.2.2.2.2.2.1, hO.2.2.2.2.2.2.1, hO.2.2.2.2.2.2.2.1, hO.2.2.2.2.2.2.2.2.1, hO.2.2.2.2.2.2.2.2.2.1, fun i2 hi2 => by
    by_cases e : i2 = i
    · subst e
      refine ⟨_, gu_eq _ _ _ _ _, fun g hg => ?_⟩
      show va_up f x y g = va_up (T.1 21) (4 * i2 + x) y (4 * i2 + g)
      by_cases e2 : g = x
      · rw [e2, va_up_self, va_up_self]
      · rw [va_up_ne _ _ e2, va_up_ne _ _ (by omega)]
        exact h2 g hg
    · obtain ⟨f2, g1, g2⟩ := hO.2.2.2.2.2.2.2.2.2.2.1 i2 hi2
      refine ⟨f2, (gu_ne (fun z => e z.2.1)).trans g1, fun g hg => ?_⟩
      show f2 g = va_up (T.1 21) (4 * i + x) y (4 * i2 + g)
      rw [va_up_ne _ _ (by omega)]
      exact g2 g hg, hO.2.2.2.2.2.2.2.2.2.2.2.1, hO.2.2.2.2.2.2.2.2.2.2.2.2.1, hO.2.2.2.2.2.2.2.2.2.2.2.2.2.1, hO.2.2.2.2.2.2.2.2.2.2.2.2.2.2.1, hO.2.2.2.2.2.2.2.2.2.2.2.2.2.2.2.1, hO.2.2.2.2.2.2.2.2.2.2.2.2.2.2.2.2.1, hO.2.2.2.2.2.2.2.2.2.2.2.2.2.2.2.2.2.1, hO.2.2.2.2.2.2.2.2.2.2.2.2.2.2.2.2.2.2.1, hO.2.2.2.2.2.2.2.2.2.2.2.2.2.2.2.2.2.2.2⟩, hX.put (by decide)⟩
theorem ka_rmt (hC : gC p s m_ meth c own cc nL ret args V) (hW : cmW V A H0 ad E0 T H locs) {m q : Nat} (hm : m < cnm T) (hq : q < csz T m) {x : Nat} (hx : x < 3) (hdg : decode cc pc = .ok (.iaload, 1)) (kk : W p l e R s m_ args below meth c H locs cells slots Q (F0 m_ (pc + 1) ls (.int (T.1 14 (3 * (20 * m + q) + x)) :: rest))) : W p l e R s m_ args below meth c H locs cells slots Q (F0 m_ pc ls (.int (nI x) :: .ref (ad 18 m q) :: rest)) := by
  obtain ⟨E, hG, hO, hX⟩ := hW
  obtain ⟨f, h1, h2⟩ := hO.2.2.2.2.2.2.2.2.2.2.2.2.2.2.2.2.1 m q hm hq
  refine gq_iald hC hG h1 (vp_in_nI hx (by decide)) hdg ?_
  rw [nI_clamp (by omega), h2 x hx]
  exact kk
theorem ks_rmt (hC : gC p s m_ meth c own cc nL ret args V) (hW : cmW V A H0 ad E0 T H locs) {m q : Nat} (hm : m < cnm T) (hq : q < csz T m) {x : Nat} {y : Int32} (hx : x < 3) (hdg : decode cc pc = .ok (.iastore, 1)) (kk : ∀ (H1 : Heap) (locs1 : List Loc), cmW V A H0 ad E0 (su T 14 (va_up (T.1 14) (3 * (20 * m + q) + x) y)) H1 locs1 → W p l e R s m_ args below meth c H1 locs1 cells slots Q (F0 m_ (pc + 1) ls (rest))) : W p l e R s m_ args below meth c H locs cells slots Q (F0 m_ pc ls (.int y :: .int (nI x) :: .ref (ad 18 m q) :: rest)) := by
  obtain ⟨E, hG, hO, hX⟩ := hW
  obtain ⟨f, h1, h2⟩ := hO.2.2.2.2.2.2.2.2.2.2.2.2.2.2.2.2.1 m q hm hq
  refine gq_iast hC hG h1 (vp_in_nI hx (by decide)) hdg (fun H1 locs1 hG1 => ?_)
  rw [nI_clamp (by omega)] at hG1
  exact kk H1 locs1 ⟨_, hG1, ⟨hO.1, hO.2.1, hO.2.2.1, hO.2.2.2.1, hO.2.2.2.2.1, hO.2.2.2.2.2.1, hO.2.2.2.2.2.2.1, hO.2.2.2.2.2.2.2.1, hO.2.2.2.2.2.2.2.2.1, hO.2.2.2.2.2.2.2.2.2.1, hO.2.2.2.2.2.2.2.2.2.2.1, hO.2.2.2.2.2.2.2.2.2.2.2.1, hO.2.2.2.2.2.2.2.2.2.2.2.2.1, hO.2.2.2.2.2.2.2.2.2.2.2.2.2.1, hO.2.2.2.2.2.2.2.2.2.2.2.2.2.2.1, hO.2.2.2.2.2.2.2.2.2.2.2.2.2.2.2.1, fun m2 q2 hm2 hq2 => by
    have hq2 : q2 < csz T m2 := hq2
    by_cases e : m2 = m ∧ q2 = q
    · obtain ⟨rfl, rfl⟩ := e
      refine ⟨_, gu_eq _ _ _ _ _, fun g hg => ?_⟩
      show va_up f x y g = va_up (T.1 14) (3 * (20 * m2 + q2) + x) y (3 * (20 * m2 + q2) + g)
      by_cases e2 : g = x
      · rw [e2, va_up_self, va_up_self]
      · rw [va_up_ne _ _ e2, va_up_ne _ _ (by omega)]
        exact h2 g hg
    · obtain ⟨f2, g1, g2⟩ := hO.2.2.2.2.2.2.2.2.2.2.2.2.2.2.2.2.1 m2 q2 hm2 hq2
      have hm3 : m2 < cnm T := hm2
      have hz2 := (hO.2.2.2.2.2.2.2.2.2.2.2.2.2.2.2.2.2.2.2.2.1 m2 hm2).1
      have hz1 := (hO.2.2.2.2.2.2.2.2.2.2.2.2.2.2.2.2.2.2.2.2.1 m hm).1
      have hn := hO.2.2.2.2.2.2.2.2.2.2.2.2.2.2.2.2.2.2.2.1
      refine ⟨f2, (gu_ne (fun z => e z.2)).trans g1, fun g hg => ?_⟩
      show f2 g = va_up (T.1 14) (3 * (20 * m + q) + x) y (3 * (20 * m2 + q2) + g)
      rw [va_up_ne _ _ (by omega)]
      exact g2 g hg, hO.2.2.2.2.2.2.2.2.2.2.2.2.2.2.2.2.2.1, fun m2 q2 hm2 hq2 => by
      have hq2 : q2 < csz T m2 := hq2
      obtain ⟨f2, g1, g2⟩ := hO.2.2.2.2.2.2.2.2.2.2.2.2.2.2.2.2.2.2.1 m2 q2 hm2 hq2
      have hm3 : m2 < cnm T := hm2
      have hz2 := (hO.2.2.2.2.2.2.2.2.2.2.2.2.2.2.2.2.2.2.2.2.1 m2 hm2).1
      have hz1 := (hO.2.2.2.2.2.2.2.2.2.2.2.2.2.2.2.2.2.2.2.2.1 m hm).1
      have hn := hO.2.2.2.2.2.2.2.2.2.2.2.2.2.2.2.2.2.2.2.1
      refine ⟨f2, g1, fun g hg => ?_⟩
      show f2 g = va_up (T.1 14) (3 * (20 * m + q) + x) y (3 * (240 + (20 * m2 + q2)) + g)
      rw [va_up_ne _ _ (by omega)]
      exact g2 g hg, hO.2.2.2.2.2.2.2.2.2.2.2.2.2.2.2.2.2.2.2⟩, hX.put (by decide)⟩
theorem ka_rtt (hC : gC p s m_ meth c own cc nL ret args V) (hW : cmW V A H0 ad E0 T H locs) {m q : Nat} (hm : m < cnm T) (hq : q < csz T m) {x : Nat} (hx : x < 3) (hdg : decode cc pc = .ok (.iaload, 1)) (kk : W p l e R s m_ args below meth c H locs cells slots Q (F0 m_ (pc + 1) ls (.int (T.1 14 (3 * (240 + (20 * m + q)) + x)) :: rest))) : W p l e R s m_ args below meth c H locs cells slots Q (F0 m_ pc ls (.int (nI x) :: .ref (ad 20 m q) :: rest)) := by
  obtain ⟨E, hG, hO, hX⟩ := hW
  obtain ⟨f, h1, h2⟩ := hO.2.2.2.2.2.2.2.2.2.2.2.2.2.2.2.2.2.2.1 m q hm hq
  refine gq_iald hC hG h1 (vp_in_nI hx (by decide)) hdg ?_
  rw [nI_clamp (by omega), h2 x hx]
  exact kk
theorem ks_rtt (hC : gC p s m_ meth c own cc nL ret args V) (hW : cmW V A H0 ad E0 T H locs) {m q : Nat} (hm : m < cnm T) (hq : q < csz T m) {x : Nat} {y : Int32} (hx : x < 3) (hdg : decode cc pc = .ok (.iastore, 1)) (kk : ∀ (H1 : Heap) (locs1 : List Loc), cmW V A H0 ad E0 (su T 14 (va_up (T.1 14) (3 * (240 + (20 * m + q)) + x) y)) H1 locs1 → W p l e R s m_ args below meth c H1 locs1 cells slots Q (F0 m_ (pc + 1) ls (rest))) : W p l e R s m_ args below meth c H locs cells slots Q (F0 m_ pc ls (.int y :: .int (nI x) :: .ref (ad 20 m q) :: rest)) := by
  obtain ⟨E, hG, hO, hX⟩ := hW
  obtain ⟨f, h1, h2⟩ := hO.2.2.2.2.2.2.2.2.2.2.2.2.2.2.2.2.2.2.1 m q hm hq
  refine gq_iast hC hG h1 (vp_in_nI hx (by decide)) hdg (fun H1 locs1 hG1 => ?_)
  rw [nI_clamp (by omega)] at hG1
  exact kk H1 locs1 ⟨_, hG1, ⟨hO.1, hO.2.1, hO.2.2.1, hO.2.2.2.1, hO.2.2.2.2.1, hO.2.2.2.2.2.1, hO.2.2.2.2.2.2.1, hO.2.2.2.2.2.2.2.1, hO.2.2.2.2.2.2.2.2.1, hO.2.2.2.2.2.2.2.2.2.1, hO.2.2.2.2.2.2.2.2.2.2.1, hO.2.2.2.2.2.2.2.2.2.2.2.1, hO.2.2.2.2.2.2.2.2.2.2.2.2.1, hO.2.2.2.2.2.2.2.2.2.2.2.2.2.1, hO.2.2.2.2.2.2.2.2.2.2.2.2.2.2.1, hO.2.2.2.2.2.2.2.2.2.2.2.2.2.2.2.1, fun m2 q2 hm2 hq2 => by
      have hq2 : q2 < csz T m2 := hq2
      obtain ⟨f2, g1, g2⟩ := hO.2.2.2.2.2.2.2.2.2.2.2.2.2.2.2.2.1 m2 q2 hm2 hq2
      have hm3 : m2 < cnm T := hm2
      have hz2 := (hO.2.2.2.2.2.2.2.2.2.2.2.2.2.2.2.2.2.2.2.2.1 m2 hm2).1
      have hz1 := (hO.2.2.2.2.2.2.2.2.2.2.2.2.2.2.2.2.2.2.2.2.1 m hm).1
      have hn := hO.2.2.2.2.2.2.2.2.2.2.2.2.2.2.2.2.2.2.2.1
      refine ⟨f2, g1, fun g hg => ?_⟩
      show f2 g = va_up (T.1 14) (3 * (240 + (20 * m + q)) + x) y (3 * (20 * m2 + q2) + g)
      rw [va_up_ne _ _ (by omega)]
      exact g2 g hg, hO.2.2.2.2.2.2.2.2.2.2.2.2.2.2.2.2.2.1, fun m2 q2 hm2 hq2 => by
    have hq2 : q2 < csz T m2 := hq2
    by_cases e : m2 = m ∧ q2 = q
    · obtain ⟨rfl, rfl⟩ := e
      refine ⟨_, gu_eq _ _ _ _ _, fun g hg => ?_⟩
      show va_up f x y g = va_up (T.1 14) (3 * (240 + (20 * m2 + q2)) + x) y (3 * (240 + (20 * m2 + q2)) + g)
      by_cases e2 : g = x
      · rw [e2, va_up_self, va_up_self]
      · rw [va_up_ne _ _ e2, va_up_ne _ _ (by omega)]
        exact h2 g hg
    · obtain ⟨f2, g1, g2⟩ := hO.2.2.2.2.2.2.2.2.2.2.2.2.2.2.2.2.2.2.1 m2 q2 hm2 hq2
      have hm3 : m2 < cnm T := hm2
      have hz2 := (hO.2.2.2.2.2.2.2.2.2.2.2.2.2.2.2.2.2.2.2.2.1 m2 hm2).1
      have hz1 := (hO.2.2.2.2.2.2.2.2.2.2.2.2.2.2.2.2.2.2.2.2.1 m hm).1
      have hn := hO.2.2.2.2.2.2.2.2.2.2.2.2.2.2.2.2.2.2.2.1
      refine ⟨f2, (gu_ne (fun z => e z.2)).trans g1, fun g hg => ?_⟩
      show f2 g = va_up (T.1 14) (3 * (240 + (20 * m + q)) + x) y (3 * (240 + (20 * m2 + q2)) + g)
      rw [va_up_ne _ _ (by omega)]
      exact g2 g hg, hO.2.2.2.2.2.2.2.2.2.2.2.2.2.2.2.2.2.2.2⟩, hX.put (by decide)⟩
theorem ka_out (hC : gC p s m_ meth c own cc nL ret args V) (hW : cmW V A H0 ad E0 T H locs) {x : Nat} (hx : x < 8) (hdg : decode cc pc = .ok (.aaload, 1)) (kk : W p l e R s m_ args below meth c H locs cells slots Q (F0 m_ (pc + 1) ls (.ref (ad 8 x 0) :: rest))) : W p l e R s m_ args below meth c H locs cells slots Q (F0 m_ pc ls (.int (nI x) :: .ref (ad 6 0 0) :: rest)) := by
  obtain ⟨E, hG, hO, hX⟩ := hW
  refine gq_aldA hC hG hO.2.2.2.2.1 (vp_in_nI hx (by decide)) hdg ?_
  rw [nI_clamp (by omega), if_pos hx]
  exact kk
theorem ka_fra (hC : gC p s m_ meth c own cc nL ret args V) (hW : cmW V A H0 ad E0 T H locs) {x : Nat} (hx : x < 20) (hdg : decode cc pc = .ok (.aaload, 1)) (kk : W p l e R s m_ args below meth c H locs cells slots Q (F0 m_ (pc + 1) ls (.ref (ad 10 x 0) :: rest))) : W p l e R s m_ args below meth c H locs cells slots Q (F0 m_ pc ls (.int (nI x) :: .ref (ad 3 0 0) :: rest)) := by
  obtain ⟨E, hG, hO, hX⟩ := hW
  refine gq_aldq hC hG hO.2.2.2.2.2.2.2.1 (t0 := 3) rfl (vp_in_nI hx (by decide)) hdg ?_
  rw [nI_clamp (by omega), if_pos hx]
  exact kk
end CM
