/-! The reference's state: S.1 f i is the int (or boolean) at place i of field f (a plain field: place 0), S.2 the longs. -/
abbrev rS : Type := (Nat → Nat → Int32) × (Nat → Nat → Int64)
def su (S : rS) (f : Nat) (g : Nat → Int32) : rS := (fun f' => if f' = f then g else S.1 f', S.2)
def sl (S : rS) (f : Nat) (g : Nat → Int64) : rS := (S.1, fun f' => if f' = f then g else S.2 f')
def rfo (ad : gA) (S : rS) : List Value := [.int (S.1 0 0), .int (S.1 1 0), .ref (ad 51 2 0), .ref (ad 51 3 0), .int (S.1 4 0), .ref (ad 51 5 0), .ref (ad 51 6 0), .int (S.1 7 0), .int (S.1 8 0), .int (S.1 9 0), .ref (ad 51 10 0), .ref (ad 51 11 0), .ref (ad 51 12 0), .ref (ad 51 13 0), .ref (ad 51 14 0), .ref (ad 51 15 0), .ref (ad 51 16 0), .int (S.1 17 0), .ref (ad 51 18 0), .ref (ad 51 19 0), .ref (ad 51 20 0), .ref (ad 51 21 0), .ref (ad 51 22 0), .int (S.1 23 0), .int (S.1 24 0), .int (S.1 25 0), .long (S.2 26 0), .int (S.1 27 0), .int (S.1 28 0)]
def rfOK (V : gV) (ad : gA) (S : rS) (E : gE) : Prop :=
  E 50 0 0 = some (.inr (7, rfo ad S)) ∧ E 51 2 0 = some (.inl (V.2.1 0, 8, .inl (S.1 2))) ∧ E 51 3 0 = some (.inl (V.2.1 0, 48, .inl (S.1 3))) ∧ E 51 5 0 = some (.inl (V.2.1 0, 12, .inl (S.1 5))) ∧ E 51 6 0 = some (.inl (V.2.1 0, 1200, .inl (S.1 6))) ∧ E 51 10 0 = some (.inl (V.2.1 0, 12, .inl (S.1 10))) ∧ E 51 11 0 = some (.inl (V.2.1 0, 12, .inl (S.1 11))) ∧ E 51 12 0 = some (.inl (V.2.1 0, 12, .inl (S.1 12))) ∧ E 51 13 0 = some (.inl (V.2.1 0, 480, .inl (S.1 13))) ∧ E 51 14 0 = some (.inl (V.2.1 0, 1440, .inl (S.1 14))) ∧ E 51 15 0 = some (.inl (V.2.1 2, 480, .inl (S.1 15))) ∧ E 51 16 0 = some (.inl (V.2.1 1, 4, .inr (.inl (S.2 16)))) ∧ E 51 18 0 = some (.inl (V.2.1 0, 20, .inl (S.1 18))) ∧ E 51 19 0 = some (.inl (V.2.1 0, 20, .inl (S.1 19))) ∧ E 51 20 0 = some (.inl (V.2.1 0, 20, .inl (S.1 20))) ∧ E 51 21 0 = some (.inl (V.2.1 0, 80, .inl (S.1 21))) ∧ E 51 22 0 = some (.inl (V.2.1 0, 80, .inl (S.1 22)))
/-- outside the reference's own cells all is as it was -/
def rfX (E E' : gE) : Prop := ∀ k i j : Nat, k ≠ 50 → k ≠ 51 → E' k i j = E k i j
def rfW (V : gV) (A : Nat → Prop) (H0 : Heap) (ad : gA) (E0 : gE) (S : rS) (H : Heap) (locs : List Loc) : Prop := ∃ E : gE, gW V A H0 ad E H locs ∧ rfOK V ad S E ∧ rfX E0 E
theorem rfX.put {E0 E : gE} {k i j : Nat} {e : va_E} (h : rfX E0 E) (hk : k = 50 ∨ k = 51) : rfX E0 (gu E k i j e) := fun k' i' j' h1 h2 => by
  rw [gu_ne (fun z => by rcases hk with q | q <;> omega)]
  exact h k' i' j' h1 h2
theorem rfX.rf {E : gE} : rfX E E := fun _ _ _ _ _ => rfl
theorem rfX.tr {E E1 E2 : gE} (h1 : rfX E E1) (h2 : rfX E1 E2) : rfX E E2 := fun k i j a b => (h2 k i j a b).trans (h1 k i j a b)
def rPi (post : Int32 → rS → Prop) (V : gV) (ad : gA) (E : gE) : Int32 → gA → gE → Prop := fun r ad' E' => ad' = ad ∧ rfX E E' ∧ ∃ S' : rS, rfOK V ad S' E' ∧ post r S'
def rPl (post : Int64 → rS → Prop) (V : gV) (ad : gA) (E : gE) : Int64 → gA → gE → Prop := fun r ad' E' => ad' = ad ∧ rfX E E' ∧ ∃ S' : rS, rfOK V ad S' E' ∧ post r S'
def rPv (post : rS → Prop) (V : gV) (ad : gA) (E : gE) : gA → gE → Prop := fun ad' E' => ad' = ad ∧ rfX E E' ∧ ∃ S' : rS, rfOK V ad S' E' ∧ post S'
/-- contracts of the reference's methods -/
def rMi (l : Launch) (y : MethodName) (cc : ByteArray) (n : Nat) (ret : Option FieldType) (rm : Room) (av : List Value) (V : gV) (ad : gA) (S : rS) (post : Int32 → rS → Prop) : Prop := ∀ E : gE, rfOK V ad S E → gMi l y cc n ret rm (.ref (ad 50 0 0) :: av) V ad E (rPi post V ad E)
def rMl (l : Launch) (y : MethodName) (cc : ByteArray) (n : Nat) (ret : Option FieldType) (rm : Room) (av : List Value) (V : gV) (ad : gA) (S : rS) (post : Int64 → rS → Prop) : Prop := ∀ E : gE, rfOK V ad S E → gMl l y cc n ret rm (.ref (ad 50 0 0) :: av) V ad E (rPl post V ad E)
def rMv (l : Launch) (y : MethodName) (cc : ByteArray) (n : Nat) (ret : Option FieldType) (rm : Room) (av : List Value) (V : gV) (ad : gA) (S : rS) (post : rS → Prop) : Prop := ∀ E : gE, rfOK V ad S E → gMv l y cc n ret rm (.ref (ad 50 0 0) :: av) V ad E (rPv post V ad E)
section RR
variable {p : Program} {l : Launch} {e : Env} {R : Room} {s : State} {m : MethodId} {args : Array Value} {below : List Frame} {meth : Method} {c : Code} {H : Heap} {locs : List Loc} {cells slots : Nat} {Q : State → Prop}
variable {cc : ByteArray} {pc nL : Nat} {ls : Array Slot} {rest : List Value} {V : gV} {A : Nat → Prop} {H0 : Heap} {ad : gA} {E0 : gE} {own : String} {ret : Option FieldType} {S : rS}
theorem nI_mul (a b : Nat) : nI a * nI b = nI (a * b) := (Int32.ofNat_mul a b).symm
/-- the number on top, by another word for it -/
theorem gq_top {x : Int32} (y : Int32) (h : x = y) (k : W p l e R s m args below meth c H locs cells slots Q (F0 m pc ls (.int y :: rest))) : W p l e R s m args below meth c H locs cells slots Q (F0 m pc ls (.int x :: rest)) := by rw [h]; exact k
theorem gq_topl {x : Int64} (y : Int64) (h : x = y) (k : W p l e R s m args below meth c H locs cells slots Q (F0 m pc ls (.long y :: rest))) : W p l e R s m args below meth c H locs cells slots Q (F0 m pc ls (.long x :: rest)) := by rw [h]; exact k
theorem gq_ldc2 (hC : gC p s m meth c own cc nL ret args V) {index : Nat} {v : Int64} (hk : Cond.constantLong own index v ∈ wsL_law) (hdg : decode cc pc = .ok (.ldc2_w index, 3)) (k : W p l e R s m args below meth c H locs cells slots Q (F0 m (pc + 3) ls (.long v :: rest))) : W p l e R s m args below meth c H locs cells slots Q (F0 m pc ls rest) := lv_ldc2 hC.1 hC.2.1 hC.2.2.2.1 (hC.2.2.2.2.1 _ hk) hdg k
theorem gq_mmax (hC : gC p s m meth c own cc nL ret args V) {index : Nat} (hk : Cond.methodLink own index Lib.Math.max.name ∈ wsL_law) (k1 : Cond.static Lib.Math.max.name ∈ wsL_law) (k2 : Cond.initialized "java/lang/Math" ∈ wsL_law) (k3 : Cond.code Lib.Math.max.name Lib.Math.max.code 2 (some .int) ∈ wsL_law) (hsz : ls.size = nL)
    (hframes : 1 ≤ R.frames) (hlocals : (rest.map fun v => v.category).sum + 13 ≤ R.locals) (hc : cells ≤ R.cells) (hs : slots ≤ R.slots) {x y : Int32} (hdg : decode cc pc = .ok (.invokestatic index, 3))
    (kk : W p l e R s m args below meth c H locs cells slots Q (F0 m (pc + 3) ls (.int (if x < y then y else x) :: rest))) : W p l e R s m args below meth c H locs cells slots Q (F0 m pc ls (.int y :: .int x :: rest)) :=
  va_mmax hC.1 hC.2.1 (hC.2.2.1.trans hsz.symm) hC.2.2.2.1 (hC.2.2.2.2.1 _ hk) (hC.2.2.2.2.1 _ k1) (hC.2.2.2.2.1 _ k2) (hC.2.2.2.2.1 _ k3) hframes hlocals hc hs hdg kk
theorem rg_0 (hC : gC p s m meth c RX6 cc nL ret args V) (hR : rfW V A H0 ad E0 S H locs) (hdg : decode cc pc = .ok (.getfield 73, 3)) (kk : W p l e R s m args below meth c H locs cells slots Q (F0 m (pc + 3) ls (.int (S.1 0 0) :: rest))) : W p l e R s m args below meth c H locs cells slots Q (F0 m pc ls (.ref (ad 50 0 0) :: rest)) := by
  obtain ⟨E, hG, hO, hX⟩ := hR
  exact gq_get hC hG hO.1 rfl inlX6 0 (by decide) kf_RX6_73 (fun _ h => h) rfl hdg kk
theorem rp_0 (hC : gC p s m meth c RX6 cc nL ret args V) (hR : rfW V A H0 ad E0 S H locs) {v : Int32} (hdg : decode cc pc = .ok (.putfield 73, 3)) (kk : ∀ (H1 : Heap) (locs1 : List Loc), rfW V A H0 ad E0 (su S 0 (fun _ => v)) H1 locs1 → W p l e R s m args below meth c H1 locs1 cells slots Q (F0 m (pc + 3) ls (rest))) : W p l e R s m args below meth c H locs cells slots Q (F0 m pc ls (.int v :: .ref (ad 50 0 0) :: rest)) := by
  obtain ⟨E, hG, hO, hX⟩ := hR
  refine gq_put hC hG hO.1 rfl inlX6 tyX6 tyX6_ok nmX6 0 (by decide) kf_RX6_73 (fun _ h => h) rfl rfl rfl (Nat.le_of_ble_eq_true rfl) hdg (fun H1 locs1 hG1 => kk H1 locs1 ⟨_, hG1, ⟨?_, hO.2⟩, hX.put (Or.inl rfl)⟩)
  rfl
theorem rg_1 (hC : gC p s m meth c RX6 cc nL ret args V) (hR : rfW V A H0 ad E0 S H locs) (hdg : decode cc pc = .ok (.getfield 76, 3)) (kk : W p l e R s m args below meth c H locs cells slots Q (F0 m (pc + 3) ls (.int (S.1 1 0) :: rest))) : W p l e R s m args below meth c H locs cells slots Q (F0 m pc ls (.ref (ad 50 0 0) :: rest)) := by
  obtain ⟨E, hG, hO, hX⟩ := hR
  exact gq_get hC hG hO.1 rfl inlX6 1 (by decide) kf_RX6_76 (fun _ h => h) rfl hdg kk
theorem rp_1 (hC : gC p s m meth c RX6 cc nL ret args V) (hR : rfW V A H0 ad E0 S H locs) {v : Int32} (hdg : decode cc pc = .ok (.putfield 76, 3)) (kk : ∀ (H1 : Heap) (locs1 : List Loc), rfW V A H0 ad E0 (su S 1 (fun _ => v)) H1 locs1 → W p l e R s m args below meth c H1 locs1 cells slots Q (F0 m (pc + 3) ls (rest))) : W p l e R s m args below meth c H locs cells slots Q (F0 m pc ls (.int v :: .ref (ad 50 0 0) :: rest)) := by
  obtain ⟨E, hG, hO, hX⟩ := hR
  refine gq_put hC hG hO.1 rfl inlX6 tyX6 tyX6_ok nmX6 1 (by decide) kf_RX6_76 (fun _ h => h) rfl rfl rfl (Nat.le_of_ble_eq_true rfl) hdg (fun H1 locs1 hG1 => kk H1 locs1 ⟨_, hG1, ⟨?_, hO.2⟩, hX.put (Or.inl rfl)⟩)
  rfl
theorem rg_2 (hC : gC p s m meth c RX6 cc nL ret args V) (hR : rfW V A H0 ad E0 S H locs) (hdg : decode cc pc = .ok (.getfield 9, 3)) (kk : W p l e R s m args below meth c H locs cells slots Q (F0 m (pc + 3) ls (.ref (ad 51 2 0) :: rest))) : W p l e R s m args below meth c H locs cells slots Q (F0 m pc ls (.ref (ad 50 0 0) :: rest)) := by
  obtain ⟨E, hG, hO, hX⟩ := hR
  exact gq_get hC hG hO.1 rfl inlX6 2 (by decide) kf_RX6_9 (fun _ h => h) rfl hdg kk
theorem rg_3 (hC : gC p s m meth c RX6 cc nL ret args V) (hR : rfW V A H0 ad E0 S H locs) (hdg : decode cc pc = .ok (.getfield 13, 3)) (kk : W p l e R s m args below meth c H locs cells slots Q (F0 m (pc + 3) ls (.ref (ad 51 3 0) :: rest))) : W p l e R s m args below meth c H locs cells slots Q (F0 m pc ls (.ref (ad 50 0 0) :: rest)) := by
  obtain ⟨E, hG, hO, hX⟩ := hR
  exact gq_get hC hG hO.1 rfl inlX6 3 (by decide) kf_RX6_13 (fun _ h => h) rfl hdg kk
theorem rg_4 (hC : gC p s m meth c RX6 cc nL ret args V) (hR : rfW V A H0 ad E0 S H locs) (hdg : decode cc pc = .ok (.getfield 79, 3)) (kk : W p l e R s m args below meth c H locs cells slots Q (F0 m (pc + 3) ls (.int (S.1 4 0) :: rest))) : W p l e R s m args below meth c H locs cells slots Q (F0 m pc ls (.ref (ad 50 0 0) :: rest)) := by
  obtain ⟨E, hG, hO, hX⟩ := hR
  exact gq_get hC hG hO.1 rfl inlX6 4 (by decide) kf_RX6_79 (fun _ h => h) rfl hdg kk
theorem rp_4 (hC : gC p s m meth c RX6 cc nL ret args V) (hR : rfW V A H0 ad E0 S H locs) {v : Int32} (hdg : decode cc pc = .ok (.putfield 79, 3)) (kk : ∀ (H1 : Heap) (locs1 : List Loc), rfW V A H0 ad E0 (su S 4 (fun _ => v)) H1 locs1 → W p l e R s m args below meth c H1 locs1 cells slots Q (F0 m (pc + 3) ls (rest))) : W p l e R s m args below meth c H locs cells slots Q (F0 m pc ls (.int v :: .ref (ad 50 0 0) :: rest)) := by
  obtain ⟨E, hG, hO, hX⟩ := hR
  refine gq_put hC hG hO.1 rfl inlX6 tyX6 tyX6_ok nmX6 4 (by decide) kf_RX6_79 (fun _ h => h) rfl rfl rfl (Nat.le_of_ble_eq_true rfl) hdg (fun H1 locs1 hG1 => kk H1 locs1 ⟨_, hG1, ⟨?_, hO.2⟩, hX.put (Or.inl rfl)⟩)
  rfl
theorem rg_5 (hC : gC p s m meth c RX6 cc nL ret args V) (hR : rfW V A H0 ad E0 S H locs) (hdg : decode cc pc = .ok (.getfield 16, 3)) (kk : W p l e R s m args below meth c H locs cells slots Q (F0 m (pc + 3) ls (.ref (ad 51 5 0) :: rest))) : W p l e R s m args below meth c H locs cells slots Q (F0 m pc ls (.ref (ad 50 0 0) :: rest)) := by
  obtain ⟨E, hG, hO, hX⟩ := hR
  exact gq_get hC hG hO.1 rfl inlX6 5 (by decide) kf_RX6_16 (fun _ h => h) rfl hdg kk
theorem rg_6 (hC : gC p s m meth c RX6 cc nL ret args V) (hR : rfW V A H0 ad E0 S H locs) (hdg : decode cc pc = .ok (.getfield 19, 3)) (kk : W p l e R s m args below meth c H locs cells slots Q (F0 m (pc + 3) ls (.ref (ad 51 6 0) :: rest))) : W p l e R s m args below meth c H locs cells slots Q (F0 m pc ls (.ref (ad 50 0 0) :: rest)) := by
  obtain ⟨E, hG, hO, hX⟩ := hR
  exact gq_get hC hG hO.1 rfl inlX6 6 (by decide) kf_RX6_19 (fun _ h => h) rfl hdg kk
theorem rg_7 (hC : gC p s m meth c RX6 cc nL ret args V) (hR : rfW V A H0 ad E0 S H locs) (hdg : decode cc pc = .ok (.getfield 22, 3)) (kk : W p l e R s m args below meth c H locs cells slots Q (F0 m (pc + 3) ls (.int (S.1 7 0) :: rest))) : W p l e R s m args below meth c H locs cells slots Q (F0 m pc ls (.ref (ad 50 0 0) :: rest)) := by
  obtain ⟨E, hG, hO, hX⟩ := hR
  exact gq_get hC hG hO.1 rfl inlX6 7 (by decide) kf_RX6_22 (fun _ h => h) rfl hdg kk
theorem rp_7 (hC : gC p s m meth c RX6 cc nL ret args V) (hR : rfW V A H0 ad E0 S H locs) {v : Int32} (hdg : decode cc pc = .ok (.putfield 22, 3)) (kk : ∀ (H1 : Heap) (locs1 : List Loc), rfW V A H0 ad E0 (su S 7 (fun _ => v)) H1 locs1 → W p l e R s m args below meth c H1 locs1 cells slots Q (F0 m (pc + 3) ls (rest))) : W p l e R s m args below meth c H locs cells slots Q (F0 m pc ls (.int v :: .ref (ad 50 0 0) :: rest)) := by
  obtain ⟨E, hG, hO, hX⟩ := hR
  refine gq_put hC hG hO.1 rfl inlX6 tyX6 tyX6_ok nmX6 7 (by decide) kf_RX6_22 (fun _ h => h) rfl rfl rfl (Nat.le_of_ble_eq_true rfl) hdg (fun H1 locs1 hG1 => kk H1 locs1 ⟨_, hG1, ⟨?_, hO.2⟩, hX.put (Or.inl rfl)⟩)
  rfl
theorem rg_8 (hC : gC p s m meth c RX6 cc nL ret args V) (hR : rfW V A H0 ad E0 S H locs) (hdg : decode cc pc = .ok (.getfield 26, 3)) (kk : W p l e R s m args below meth c H locs cells slots Q (F0 m (pc + 3) ls (.int (S.1 8 0) :: rest))) : W p l e R s m args below meth c H locs cells slots Q (F0 m pc ls (.ref (ad 50 0 0) :: rest)) := by
  obtain ⟨E, hG, hO, hX⟩ := hR
  exact gq_get hC hG hO.1 rfl inlX6 8 (by decide) kf_RX6_26 (fun _ h => h) rfl hdg kk
theorem rp_8 (hC : gC p s m meth c RX6 cc nL ret args V) (hR : rfW V A H0 ad E0 S H locs) {v : Int32} (hdg : decode cc pc = .ok (.putfield 26, 3)) (kk : ∀ (H1 : Heap) (locs1 : List Loc), rfW V A H0 ad E0 (su S 8 (fun _ => v)) H1 locs1 → W p l e R s m args below meth c H1 locs1 cells slots Q (F0 m (pc + 3) ls (rest))) : W p l e R s m args below meth c H locs cells slots Q (F0 m pc ls (.int v :: .ref (ad 50 0 0) :: rest)) := by
  obtain ⟨E, hG, hO, hX⟩ := hR
  refine gq_put hC hG hO.1 rfl inlX6 tyX6 tyX6_ok nmX6 8 (by decide) kf_RX6_26 (fun _ h => h) rfl rfl rfl (Nat.le_of_ble_eq_true rfl) hdg (fun H1 locs1 hG1 => kk H1 locs1 ⟨_, hG1, ⟨?_, hO.2⟩, hX.put (Or.inl rfl)⟩)
  rfl
theorem rg_9 (hC : gC p s m meth c RX6 cc nL ret args V) (hR : rfW V A H0 ad E0 S H locs) (hdg : decode cc pc = .ok (.getfield 29, 3)) (kk : W p l e R s m args below meth c H locs cells slots Q (F0 m (pc + 3) ls (.int (S.1 9 0) :: rest))) : W p l e R s m args below meth c H locs cells slots Q (F0 m pc ls (.ref (ad 50 0 0) :: rest)) := by
  obtain ⟨E, hG, hO, hX⟩ := hR
  exact gq_get hC hG hO.1 rfl inlX6 9 (by decide) kf_RX6_29 (fun _ h => h) rfl hdg kk
theorem rp_9 (hC : gC p s m meth c RX6 cc nL ret args V) (hR : rfW V A H0 ad E0 S H locs) {v : Int32} (hdg : decode cc pc = .ok (.putfield 29, 3)) (kk : ∀ (H1 : Heap) (locs1 : List Loc), rfW V A H0 ad E0 (su S 9 (fun _ => v)) H1 locs1 → W p l e R s m args below meth c H1 locs1 cells slots Q (F0 m (pc + 3) ls (rest))) : W p l e R s m args below meth c H locs cells slots Q (F0 m pc ls (.int v :: .ref (ad 50 0 0) :: rest)) := by
  obtain ⟨E, hG, hO, hX⟩ := hR
  refine gq_put hC hG hO.1 rfl inlX6 tyX6 tyX6_ok nmX6 9 (by decide) kf_RX6_29 (fun _ h => h) rfl rfl rfl (Nat.le_of_ble_eq_true rfl) hdg (fun H1 locs1 hG1 => kk H1 locs1 ⟨_, hG1, ⟨?_, hO.2⟩, hX.put (Or.inl rfl)⟩)
  rfl
theorem rg_10 (hC : gC p s m meth c RX6 cc nL ret args V) (hR : rfW V A H0 ad E0 S H locs) (hdg : decode cc pc = .ok (.getfield 32, 3)) (kk : W p l e R s m args below meth c H locs cells slots Q (F0 m (pc + 3) ls (.ref (ad 51 10 0) :: rest))) : W p l e R s m args below meth c H locs cells slots Q (F0 m pc ls (.ref (ad 50 0 0) :: rest)) := by
  obtain ⟨E, hG, hO, hX⟩ := hR
  exact gq_get hC hG hO.1 rfl inlX6 10 (by decide) kf_RX6_32 (fun _ h => h) rfl hdg kk
theorem rg_11 (hC : gC p s m meth c RX6 cc nL ret args V) (hR : rfW V A H0 ad E0 S H locs) (hdg : decode cc pc = .ok (.getfield 35, 3)) (kk : W p l e R s m args below meth c H locs cells slots Q (F0 m (pc + 3) ls (.ref (ad 51 11 0) :: rest))) : W p l e R s m args below meth c H locs cells slots Q (F0 m pc ls (.ref (ad 50 0 0) :: rest)) := by
  obtain ⟨E, hG, hO, hX⟩ := hR
  exact gq_get hC hG hO.1 rfl inlX6 11 (by decide) kf_RX6_35 (fun _ h => h) rfl hdg kk
theorem rg_12 (hC : gC p s m meth c RX6 cc nL ret args V) (hR : rfW V A H0 ad E0 S H locs) (hdg : decode cc pc = .ok (.getfield 38, 3)) (kk : W p l e R s m args below meth c H locs cells slots Q (F0 m (pc + 3) ls (.ref (ad 51 12 0) :: rest))) : W p l e R s m args below meth c H locs cells slots Q (F0 m pc ls (.ref (ad 50 0 0) :: rest)) := by
  obtain ⟨E, hG, hO, hX⟩ := hR
  exact gq_get hC hG hO.1 rfl inlX6 12 (by decide) kf_RX6_38 (fun _ h => h) rfl hdg kk
theorem rg_13 (hC : gC p s m meth c RX6 cc nL ret args V) (hR : rfW V A H0 ad E0 S H locs) (hdg : decode cc pc = .ok (.getfield 41, 3)) (kk : W p l e R s m args below meth c H locs cells slots Q (F0 m (pc + 3) ls (.ref (ad 51 13 0) :: rest))) : W p l e R s m args below meth c H locs cells slots Q (F0 m pc ls (.ref (ad 50 0 0) :: rest)) := by
  obtain ⟨E, hG, hO, hX⟩ := hR
  exact gq_get hC hG hO.1 rfl inlX6 13 (by decide) kf_RX6_41 (fun _ h => h) rfl hdg kk
theorem rg_14 (hC : gC p s m meth c RX6 cc nL ret args V) (hR : rfW V A H0 ad E0 S H locs) (hdg : decode cc pc = .ok (.getfield 44, 3)) (kk : W p l e R s m args below meth c H locs cells slots Q (F0 m (pc + 3) ls (.ref (ad 51 14 0) :: rest))) : W p l e R s m args below meth c H locs cells slots Q (F0 m pc ls (.ref (ad 50 0 0) :: rest)) := by
  obtain ⟨E, hG, hO, hX⟩ := hR
  exact gq_get hC hG hO.1 rfl inlX6 14 (by decide) kf_RX6_44 (fun _ h => h) rfl hdg kk
theorem rg_15 (hC : gC p s m meth c RX6 cc nL ret args V) (hR : rfW V A H0 ad E0 S H locs) (hdg : decode cc pc = .ok (.getfield 47, 3)) (kk : W p l e R s m args below meth c H locs cells slots Q (F0 m (pc + 3) ls (.ref (ad 51 15 0) :: rest))) : W p l e R s m args below meth c H locs cells slots Q (F0 m pc ls (.ref (ad 50 0 0) :: rest)) := by
  obtain ⟨E, hG, hO, hX⟩ := hR
  exact gq_get hC hG hO.1 rfl inlX6 15 (by decide) kf_RX6_47 (fun _ h => h) rfl hdg kk
theorem rg_16 (hC : gC p s m meth c RX6 cc nL ret args V) (hR : rfW V A H0 ad E0 S H locs) (hdg : decode cc pc = .ok (.getfield 51, 3)) (kk : W p l e R s m args below meth c H locs cells slots Q (F0 m (pc + 3) ls (.ref (ad 51 16 0) :: rest))) : W p l e R s m args below meth c H locs cells slots Q (F0 m pc ls (.ref (ad 50 0 0) :: rest)) := by
  obtain ⟨E, hG, hO, hX⟩ := hR
  exact gq_get hC hG hO.1 rfl inlX6 16 (by decide) kf_RX6_51 (fun _ h => h) rfl hdg kk
theorem rg_17 (hC : gC p s m meth c RX6 cc nL ret args V) (hR : rfW V A H0 ad E0 S H locs) (hdg : decode cc pc = .ok (.getfield 145, 3)) (kk : W p l e R s m args below meth c H locs cells slots Q (F0 m (pc + 3) ls (.int (S.1 17 0) :: rest))) : W p l e R s m args below meth c H locs cells slots Q (F0 m pc ls (.ref (ad 50 0 0) :: rest)) := by
  obtain ⟨E, hG, hO, hX⟩ := hR
  exact gq_get hC hG hO.1 rfl inlX6 17 (by decide) kf_RX6_145 (fun _ h => h) rfl hdg kk
theorem rp_17 (hC : gC p s m meth c RX6 cc nL ret args V) (hR : rfW V A H0 ad E0 S H locs) {v : Int32} (hdg : decode cc pc = .ok (.putfield 145, 3)) (kk : ∀ (H1 : Heap) (locs1 : List Loc), rfW V A H0 ad E0 (su S 17 (fun _ => v)) H1 locs1 → W p l e R s m args below meth c H1 locs1 cells slots Q (F0 m (pc + 3) ls (rest))) : W p l e R s m args below meth c H locs cells slots Q (F0 m pc ls (.int v :: .ref (ad 50 0 0) :: rest)) := by
  obtain ⟨E, hG, hO, hX⟩ := hR
  refine gq_put hC hG hO.1 rfl inlX6 tyX6 tyX6_ok nmX6 17 (by decide) kf_RX6_145 (fun _ h => h) rfl rfl rfl (Nat.le_of_ble_eq_true rfl) hdg (fun H1 locs1 hG1 => kk H1 locs1 ⟨_, hG1, ⟨?_, hO.2⟩, hX.put (Or.inl rfl)⟩)
  rfl
theorem rg_18 (hC : gC p s m meth c RX6 cc nL ret args V) (hR : rfW V A H0 ad E0 S H locs) (hdg : decode cc pc = .ok (.getfield 55, 3)) (kk : W p l e R s m args below meth c H locs cells slots Q (F0 m (pc + 3) ls (.ref (ad 51 18 0) :: rest))) : W p l e R s m args below meth c H locs cells slots Q (F0 m pc ls (.ref (ad 50 0 0) :: rest)) := by
  obtain ⟨E, hG, hO, hX⟩ := hR
  exact gq_get hC hG hO.1 rfl inlX6 18 (by decide) kf_RX6_55 (fun _ h => h) rfl hdg kk
theorem rg_19 (hC : gC p s m meth c RX6 cc nL ret args V) (hR : rfW V A H0 ad E0 S H locs) (hdg : decode cc pc = .ok (.getfield 58, 3)) (kk : W p l e R s m args below meth c H locs cells slots Q (F0 m (pc + 3) ls (.ref (ad 51 19 0) :: rest))) : W p l e R s m args below meth c H locs cells slots Q (F0 m pc ls (.ref (ad 50 0 0) :: rest)) := by
  obtain ⟨E, hG, hO, hX⟩ := hR
  exact gq_get hC hG hO.1 rfl inlX6 19 (by decide) kf_RX6_58 (fun _ h => h) rfl hdg kk
theorem rg_20 (hC : gC p s m meth c RX6 cc nL ret args V) (hR : rfW V A H0 ad E0 S H locs) (hdg : decode cc pc = .ok (.getfield 61, 3)) (kk : W p l e R s m args below meth c H locs cells slots Q (F0 m (pc + 3) ls (.ref (ad 51 20 0) :: rest))) : W p l e R s m args below meth c H locs cells slots Q (F0 m pc ls (.ref (ad 50 0 0) :: rest)) := by
  obtain ⟨E, hG, hO, hX⟩ := hR
  exact gq_get hC hG hO.1 rfl inlX6 20 (by decide) kf_RX6_61 (fun _ h => h) rfl hdg kk
theorem rg_21 (hC : gC p s m meth c RX6 cc nL ret args V) (hR : rfW V A H0 ad E0 S H locs) (hdg : decode cc pc = .ok (.getfield 64, 3)) (kk : W p l e R s m args below meth c H locs cells slots Q (F0 m (pc + 3) ls (.ref (ad 51 21 0) :: rest))) : W p l e R s m args below meth c H locs cells slots Q (F0 m pc ls (.ref (ad 50 0 0) :: rest)) := by
  obtain ⟨E, hG, hO, hX⟩ := hR
  exact gq_get hC hG hO.1 rfl inlX6 21 (by decide) kf_RX6_64 (fun _ h => h) rfl hdg kk
theorem rg_22 (hC : gC p s m meth c RX6 cc nL ret args V) (hR : rfW V A H0 ad E0 S H locs) (hdg : decode cc pc = .ok (.getfield 67, 3)) (kk : W p l e R s m args below meth c H locs cells slots Q (F0 m (pc + 3) ls (.ref (ad 51 22 0) :: rest))) : W p l e R s m args below meth c H locs cells slots Q (F0 m pc ls (.ref (ad 50 0 0) :: rest)) := by
  obtain ⟨E, hG, hO, hX⟩ := hR
  exact gq_get hC hG hO.1 rfl inlX6 22 (by decide) kf_RX6_67 (fun _ h => h) rfl hdg kk
theorem rg_23 (hC : gC p s m meth c RX6 cc nL ret args V) (hR : rfW V A H0 ad E0 S H locs) (hdg : decode cc pc = .ok (.getfield 70, 3)) (kk : W p l e R s m args below meth c H locs cells slots Q (F0 m (pc + 3) ls (.int (S.1 23 0) :: rest))) : W p l e R s m args below meth c H locs cells slots Q (F0 m pc ls (.ref (ad 50 0 0) :: rest)) := by
  obtain ⟨E, hG, hO, hX⟩ := hR
  exact gq_get hC hG hO.1 rfl inlX6 23 (by decide) kf_RX6_70 (fun _ h => h) rfl hdg kk
theorem rp_23 (hC : gC p s m meth c RX6 cc nL ret args V) (hR : rfW V A H0 ad E0 S H locs) {v : Int32} (hdg : decode cc pc = .ok (.putfield 70, 3)) (kk : ∀ (H1 : Heap) (locs1 : List Loc), rfW V A H0 ad E0 (su S 23 (fun _ => v)) H1 locs1 → W p l e R s m args below meth c H1 locs1 cells slots Q (F0 m (pc + 3) ls (rest))) : W p l e R s m args below meth c H locs cells slots Q (F0 m pc ls (.int v :: .ref (ad 50 0 0) :: rest)) := by
  obtain ⟨E, hG, hO, hX⟩ := hR
  refine gq_put hC hG hO.1 rfl inlX6 tyX6 tyX6_ok nmX6 23 (by decide) kf_RX6_70 (fun _ h => h) rfl rfl rfl (Nat.le_of_ble_eq_true rfl) hdg (fun H1 locs1 hG1 => kk H1 locs1 ⟨_, hG1, ⟨?_, hO.2⟩, hX.put (Or.inl rfl)⟩)
  rfl
theorem rg_24 (hC : gC p s m meth c RX6 cc nL ret args V) (hR : rfW V A H0 ad E0 S H locs) (hdg : decode cc pc = .ok (.getfield 166, 3)) (kk : W p l e R s m args below meth c H locs cells slots Q (F0 m (pc + 3) ls (.int (S.1 24 0) :: rest))) : W p l e R s m args below meth c H locs cells slots Q (F0 m pc ls (.ref (ad 50 0 0) :: rest)) := by
  obtain ⟨E, hG, hO, hX⟩ := hR
  exact gq_get hC hG hO.1 rfl inlX6 24 (by decide) kf_RX6_166 (fun _ h => h) rfl hdg kk
theorem rp_24 (hC : gC p s m meth c RX6 cc nL ret args V) (hR : rfW V A H0 ad E0 S H locs) {v : Int32} (hdg : decode cc pc = .ok (.putfield 166, 3)) (kk : ∀ (H1 : Heap) (locs1 : List Loc), rfW V A H0 ad E0 (su S 24 (fun _ => v)) H1 locs1 → W p l e R s m args below meth c H1 locs1 cells slots Q (F0 m (pc + 3) ls (rest))) : W p l e R s m args below meth c H locs cells slots Q (F0 m pc ls (.int v :: .ref (ad 50 0 0) :: rest)) := by
  obtain ⟨E, hG, hO, hX⟩ := hR
  refine gq_put hC hG hO.1 rfl inlX6 tyX6 tyX6_ok nmX6 24 (by decide) kf_RX6_166 (fun _ h => h) rfl rfl rfl (Nat.le_of_ble_eq_true rfl) hdg (fun H1 locs1 hG1 => kk H1 locs1 ⟨_, hG1, ⟨?_, hO.2⟩, hX.put (Or.inl rfl)⟩)
  rfl
theorem rg_25 (hC : gC p s m meth c RX6 cc nL ret args V) (hR : rfW V A H0 ad E0 S H locs) (hdg : decode cc pc = .ok (.getfield 176, 3)) (kk : W p l e R s m args below meth c H locs cells slots Q (F0 m (pc + 3) ls (.int (S.1 25 0) :: rest))) : W p l e R s m args below meth c H locs cells slots Q (F0 m pc ls (.ref (ad 50 0 0) :: rest)) := by
  obtain ⟨E, hG, hO, hX⟩ := hR
  exact gq_get hC hG hO.1 rfl inlX6 25 (by decide) kf_RX6_176 (fun _ h => h) rfl hdg kk
theorem rp_25 (hC : gC p s m meth c RX6 cc nL ret args V) (hR : rfW V A H0 ad E0 S H locs) {v : Int32} (hdg : decode cc pc = .ok (.putfield 176, 3)) (kk : ∀ (H1 : Heap) (locs1 : List Loc), rfW V A H0 ad E0 (su S 25 (fun _ => v)) H1 locs1 → W p l e R s m args below meth c H1 locs1 cells slots Q (F0 m (pc + 3) ls (rest))) : W p l e R s m args below meth c H locs cells slots Q (F0 m pc ls (.int v :: .ref (ad 50 0 0) :: rest)) := by
  obtain ⟨E, hG, hO, hX⟩ := hR
  refine gq_put hC hG hO.1 rfl inlX6 tyX6 tyX6_ok nmX6 25 (by decide) kf_RX6_176 (fun _ h => h) rfl rfl rfl (Nat.le_of_ble_eq_true rfl) hdg (fun H1 locs1 hG1 => kk H1 locs1 ⟨_, hG1, ⟨?_, hO.2⟩, hX.put (Or.inl rfl)⟩)
  rfl
theorem rg_26 (hC : gC p s m meth c RX6 cc nL ret args V) (hR : rfW V A H0 ad E0 S H locs) (hdg : decode cc pc = .ok (.getfield 131, 3)) (kk : W p l e R s m args below meth c H locs cells slots Q (F0 m (pc + 3) ls (.long (S.2 26 0) :: rest))) : W p l e R s m args below meth c H locs cells slots Q (F0 m pc ls (.ref (ad 50 0 0) :: rest)) := by
  obtain ⟨E, hG, hO, hX⟩ := hR
  exact gq_get hC hG hO.1 rfl inlX6 26 (by decide) kf_RX6_131 (fun _ h => h) rfl hdg kk
theorem rp_26 (hC : gC p s m meth c RX6 cc nL ret args V) (hR : rfW V A H0 ad E0 S H locs) {v : Int64} (hdg : decode cc pc = .ok (.putfield 131, 3)) (kk : ∀ (H1 : Heap) (locs1 : List Loc), rfW V A H0 ad E0 (sl S 26 (fun _ => v)) H1 locs1 → W p l e R s m args below meth c H1 locs1 cells slots Q (F0 m (pc + 3) ls (rest))) : W p l e R s m args below meth c H locs cells slots Q (F0 m pc ls (.long v :: .ref (ad 50 0 0) :: rest)) := by
  obtain ⟨E, hG, hO, hX⟩ := hR
  refine gq_put hC hG hO.1 rfl inlX6 tyX6 tyX6_ok nmX6 26 (by decide) kf_RX6_131 (fun _ h => h) rfl rfl rfl (Nat.le_of_ble_eq_true rfl) hdg (fun H1 locs1 hG1 => kk H1 locs1 ⟨_, hG1, ⟨?_, hO.2⟩, hX.put (Or.inl rfl)⟩)
  rfl
theorem rg_27 (hC : gC p s m meth c RX6 cc nL ret args V) (hR : rfW V A H0 ad E0 S H locs) (hdg : decode cc pc = .ok (.getfield 189, 3)) (kk : W p l e R s m args below meth c H locs cells slots Q (F0 m (pc + 3) ls (.int (S.1 27 0) :: rest))) : W p l e R s m args below meth c H locs cells slots Q (F0 m pc ls (.ref (ad 50 0 0) :: rest)) := by
  obtain ⟨E, hG, hO, hX⟩ := hR
  exact gq_get hC hG hO.1 rfl inlX6 27 (by decide) kf_RX6_189 (fun _ h => h) rfl hdg kk
theorem rp_27 (hC : gC p s m meth c RX6 cc nL ret args V) (hR : rfW V A H0 ad E0 S H locs) {v : Int32} (hdg : decode cc pc = .ok (.putfield 189, 3)) (kk : ∀ (H1 : Heap) (locs1 : List Loc), rfW V A H0 ad E0 (su S 27 (fun _ => v)) H1 locs1 → W p l e R s m args below meth c H1 locs1 cells slots Q (F0 m (pc + 3) ls (rest))) : W p l e R s m args below meth c H locs cells slots Q (F0 m pc ls (.int v :: .ref (ad 50 0 0) :: rest)) := by
  obtain ⟨E, hG, hO, hX⟩ := hR
  refine gq_put hC hG hO.1 rfl inlX6 tyX6 tyX6_ok nmX6 27 (by decide) kf_RX6_189 (fun _ h => h) rfl rfl rfl (Nat.le_of_ble_eq_true rfl) hdg (fun H1 locs1 hG1 => kk H1 locs1 ⟨_, hG1, ⟨?_, hO.2⟩, hX.put (Or.inl rfl)⟩)
  rfl
theorem rg_28 (hC : gC p s m meth c RX6 cc nL ret args V) (hR : rfW V A H0 ad E0 S H locs) (hdg : decode cc pc = .ok (.getfield 152, 3)) (kk : W p l e R s m args below meth c H locs cells slots Q (F0 m (pc + 3) ls (.int (S.1 28 0) :: rest))) : W p l e R s m args below meth c H locs cells slots Q (F0 m pc ls (.ref (ad 50 0 0) :: rest)) := by
  obtain ⟨E, hG, hO, hX⟩ := hR
  exact gq_get hC hG hO.1 rfl inlX6 28 (by decide) kf_RX6_152 (fun _ h => h) rfl hdg kk
theorem rp_28 (hC : gC p s m meth c RX6 cc nL ret args V) (hR : rfW V A H0 ad E0 S H locs) {v : Int32} (hdg : decode cc pc = .ok (.putfield 152, 3)) (kk : ∀ (H1 : Heap) (locs1 : List Loc), rfW V A H0 ad E0 (su S 28 (fun _ => v)) H1 locs1 → W p l e R s m args below meth c H1 locs1 cells slots Q (F0 m (pc + 3) ls (rest))) : W p l e R s m args below meth c H locs cells slots Q (F0 m pc ls (.int v :: .ref (ad 50 0 0) :: rest)) := by
  obtain ⟨E, hG, hO, hX⟩ := hR
  refine gq_put hC hG hO.1 rfl inlX6 tyX6 tyX6_ok nmX6 28 (by decide) kf_RX6_152 (fun _ h => h) rfl rfl rfl (Nat.le_of_ble_eq_true rfl) hdg (fun H1 locs1 hG1 => kk H1 locs1 ⟨_, hG1, ⟨?_, hO.2⟩, hX.put (Or.inl rfl)⟩)
  rfl
theorem ra_2 (hC : gC p s m meth c RX6 cc nL ret args V) (hR : rfW V A H0 ad E0 S H locs) {x : Nat} (hx : x < 8) (hdg : decode cc pc = .ok (.iaload, 1)) (kk : W p l e R s m args below meth c H locs cells slots Q (F0 m (pc + 1) ls (.int (S.1 2 x) :: rest))) : W p l e R s m args below meth c H locs cells slots Q (F0 m pc ls (.int (nI x) :: .ref (ad 51 2 0) :: rest)) := by
  obtain ⟨E, hG, hO, hX⟩ := hR
  refine gq_iald hC hG hO.2.1 (vp_in_nI hx (by decide)) hdg ?_
  rw [nI_clamp (by omega)]
  exact kk
theorem rs_2 (hC : gC p s m meth c RX6 cc nL ret args V) (hR : rfW V A H0 ad E0 S H locs) {x : Nat} {y : Int32} (hx : x < 8) (hdg : decode cc pc = .ok (.iastore, 1)) (kk : ∀ (H1 : Heap) (locs1 : List Loc), rfW V A H0 ad E0 (su S 2 (va_up (S.1 2) x y)) H1 locs1 → W p l e R s m args below meth c H1 locs1 cells slots Q (F0 m (pc + 1) ls (rest))) : W p l e R s m args below meth c H locs cells slots Q (F0 m pc ls (.int y :: .int (nI x) :: .ref (ad 51 2 0) :: rest)) := by
  obtain ⟨E, hG, hO, hX⟩ := hR
  refine gq_iast hC hG hO.2.1 (vp_in_nI hx (by decide)) hdg (fun H1 locs1 hG1 => ?_)
  rw [nI_clamp (by omega)] at hG1
  exact kk H1 locs1 ⟨_, hG1, ⟨hO.1, gu_eq _ _ _ _ _, hO.2.2.1, hO.2.2.2.1, hO.2.2.2.2.1, hO.2.2.2.2.2.1, hO.2.2.2.2.2.2.1, hO.2.2.2.2.2.2.2.1, hO.2.2.2.2.2.2.2.2.1, hO.2.2.2.2.2.2.2.2.2.1, hO.2.2.2.2.2.2.2.2.2.2.1, hO.2.2.2.2.2.2.2.2.2.2.2.1, hO.2.2.2.2.2.2.2.2.2.2.2.2.1, hO.2.2.2.2.2.2.2.2.2.2.2.2.2.1, hO.2.2.2.2.2.2.2.2.2.2.2.2.2.2.1, hO.2.2.2.2.2.2.2.2.2.2.2.2.2.2.2.1, hO.2.2.2.2.2.2.2.2.2.2.2.2.2.2.2.2⟩, hX.put (Or.inr rfl)⟩
theorem ra_3 (hC : gC p s m meth c RX6 cc nL ret args V) (hR : rfW V A H0 ad E0 S H locs) {x : Nat} (hx : x < 48) (hdg : decode cc pc = .ok (.iaload, 1)) (kk : W p l e R s m args below meth c H locs cells slots Q (F0 m (pc + 1) ls (.int (S.1 3 x) :: rest))) : W p l e R s m args below meth c H locs cells slots Q (F0 m pc ls (.int (nI x) :: .ref (ad 51 3 0) :: rest)) := by
  obtain ⟨E, hG, hO, hX⟩ := hR
  refine gq_iald hC hG hO.2.2.1 (vp_in_nI hx (by decide)) hdg ?_
  rw [nI_clamp (by omega)]
  exact kk
theorem rs_3 (hC : gC p s m meth c RX6 cc nL ret args V) (hR : rfW V A H0 ad E0 S H locs) {x : Nat} {y : Int32} (hx : x < 48) (hdg : decode cc pc = .ok (.iastore, 1)) (kk : ∀ (H1 : Heap) (locs1 : List Loc), rfW V A H0 ad E0 (su S 3 (va_up (S.1 3) x y)) H1 locs1 → W p l e R s m args below meth c H1 locs1 cells slots Q (F0 m (pc + 1) ls (rest))) : W p l e R s m args below meth c H locs cells slots Q (F0 m pc ls (.int y :: .int (nI x) :: .ref (ad 51 3 0) :: rest)) := by
  obtain ⟨E, hG, hO, hX⟩ := hR
  refine gq_iast hC hG hO.2.2.1 (vp_in_nI hx (by decide)) hdg (fun H1 locs1 hG1 => ?_)
  rw [nI_clamp (by omega)] at hG1
  exact kk H1 locs1 ⟨_, hG1, ⟨hO.1, hO.2.1, gu_eq _ _ _ _ _, hO.2.2.2.1, hO.2.2.2.2.1, hO.2.2.2.2.2.1, hO.2.2.2.2.2.2.1, hO.2.2.2.2.2.2.2.1, hO.2.2.2.2.2.2.2.2.1, hO.2.2.2.2.2.2.2.2.2.1, hO.2.2.2.2.2.2.2.2.2.2.1, hO.2.2.2.2.2.2.2.2.2.2.2.1, hO.2.2.2.2.2.2.2.2.2.2.2.2.1, hO.2.2.2.2.2.2.2.2.2.2.2.2.2.1, hO.2.2.2.2.2.2.2.2.2.2.2.2.2.2.1, hO.2.2.2.2.2.2.2.2.2.2.2.2.2.2.2.1, hO.2.2.2.2.2.2.2.2.2.2.2.2.2.2.2.2⟩, hX.put (Or.inr rfl)⟩
theorem ra_5 (hC : gC p s m meth c RX6 cc nL ret args V) (hR : rfW V A H0 ad E0 S H locs) {x : Nat} (hx : x < 12) (hdg : decode cc pc = .ok (.iaload, 1)) (kk : W p l e R s m args below meth c H locs cells slots Q (F0 m (pc + 1) ls (.int (S.1 5 x) :: rest))) : W p l e R s m args below meth c H locs cells slots Q (F0 m pc ls (.int (nI x) :: .ref (ad 51 5 0) :: rest)) := by
  obtain ⟨E, hG, hO, hX⟩ := hR
  refine gq_iald hC hG hO.2.2.2.1 (vp_in_nI hx (by decide)) hdg ?_
  rw [nI_clamp (by omega)]
  exact kk
theorem rs_5 (hC : gC p s m meth c RX6 cc nL ret args V) (hR : rfW V A H0 ad E0 S H locs) {x : Nat} {y : Int32} (hx : x < 12) (hdg : decode cc pc = .ok (.iastore, 1)) (kk : ∀ (H1 : Heap) (locs1 : List Loc), rfW V A H0 ad E0 (su S 5 (va_up (S.1 5) x y)) H1 locs1 → W p l e R s m args below meth c H1 locs1 cells slots Q (F0 m (pc + 1) ls (rest))) : W p l e R s m args below meth c H locs cells slots Q (F0 m pc ls (.int y :: .int (nI x) :: .ref (ad 51 5 0) :: rest)) := by
  obtain ⟨E, hG, hO, hX⟩ := hR
  refine gq_iast hC hG hO.2.2.2.1 (vp_in_nI hx (by decide)) hdg (fun H1 locs1 hG1 => ?_)
  rw [nI_clamp (by omega)] at hG1
  exact kk H1 locs1 ⟨_, hG1, ⟨hO.1, hO.2.1, hO.2.2.1, gu_eq _ _ _ _ _, hO.2.2.2.2.1, hO.2.2.2.2.2.1, hO.2.2.2.2.2.2.1, hO.2.2.2.2.2.2.2.1, hO.2.2.2.2.2.2.2.2.1, hO.2.2.2.2.2.2.2.2.2.1, hO.2.2.2.2.2.2.2.2.2.2.1, hO.2.2.2.2.2.2.2.2.2.2.2.1, hO.2.2.2.2.2.2.2.2.2.2.2.2.1, hO.2.2.2.2.2.2.2.2.2.2.2.2.2.1, hO.2.2.2.2.2.2.2.2.2.2.2.2.2.2.1, hO.2.2.2.2.2.2.2.2.2.2.2.2.2.2.2.1, hO.2.2.2.2.2.2.2.2.2.2.2.2.2.2.2.2⟩, hX.put (Or.inr rfl)⟩
theorem ra_6 (hC : gC p s m meth c RX6 cc nL ret args V) (hR : rfW V A H0 ad E0 S H locs) {x : Nat} (hx : x < 1200) (hdg : decode cc pc = .ok (.iaload, 1)) (kk : W p l e R s m args below meth c H locs cells slots Q (F0 m (pc + 1) ls (.int (S.1 6 x) :: rest))) : W p l e R s m args below meth c H locs cells slots Q (F0 m pc ls (.int (nI x) :: .ref (ad 51 6 0) :: rest)) := by
  obtain ⟨E, hG, hO, hX⟩ := hR
  refine gq_iald hC hG hO.2.2.2.2.1 (vp_in_nI hx (by decide)) hdg ?_
  rw [nI_clamp (by omega)]
  exact kk
theorem rs_6 (hC : gC p s m meth c RX6 cc nL ret args V) (hR : rfW V A H0 ad E0 S H locs) {x : Nat} {y : Int32} (hx : x < 1200) (hdg : decode cc pc = .ok (.iastore, 1)) (kk : ∀ (H1 : Heap) (locs1 : List Loc), rfW V A H0 ad E0 (su S 6 (va_up (S.1 6) x y)) H1 locs1 → W p l e R s m args below meth c H1 locs1 cells slots Q (F0 m (pc + 1) ls (rest))) : W p l e R s m args below meth c H locs cells slots Q (F0 m pc ls (.int y :: .int (nI x) :: .ref (ad 51 6 0) :: rest)) := by
  obtain ⟨E, hG, hO, hX⟩ := hR
  refine gq_iast hC hG hO.2.2.2.2.1 (vp_in_nI hx (by decide)) hdg (fun H1 locs1 hG1 => ?_)
  rw [nI_clamp (by omega)] at hG1
  exact kk H1 locs1 ⟨_, hG1, ⟨hO.1, hO.2.1, hO.2.2.1, hO.2.2.2.1, gu_eq _ _ _ _ _, hO.2.2.2.2.2.1, hO.2.2.2.2.2.2.1, hO.2.2.2.2.2.2.2.1, hO.2.2.2.2.2.2.2.2.1, hO.2.2.2.2.2.2.2.2.2.1, hO.2.2.2.2.2.2.2.2.2.2.1, hO.2.2.2.2.2.2.2.2.2.2.2.1, hO.2.2.2.2.2.2.2.2.2.2.2.2.1, hO.2.2.2.2.2.2.2.2.2.2.2.2.2.1, hO.2.2.2.2.2.2.2.2.2.2.2.2.2.2.1, hO.2.2.2.2.2.2.2.2.2.2.2.2.2.2.2.1, hO.2.2.2.2.2.2.2.2.2.2.2.2.2.2.2.2⟩, hX.put (Or.inr rfl)⟩
theorem ra_10 (hC : gC p s m meth c RX6 cc nL ret args V) (hR : rfW V A H0 ad E0 S H locs) {x : Nat} (hx : x < 12) (hdg : decode cc pc = .ok (.iaload, 1)) (kk : W p l e R s m args below meth c H locs cells slots Q (F0 m (pc + 1) ls (.int (S.1 10 x) :: rest))) : W p l e R s m args below meth c H locs cells slots Q (F0 m pc ls (.int (nI x) :: .ref (ad 51 10 0) :: rest)) := by
  obtain ⟨E, hG, hO, hX⟩ := hR
  refine gq_iald hC hG hO.2.2.2.2.2.1 (vp_in_nI hx (by decide)) hdg ?_
  rw [nI_clamp (by omega)]
  exact kk
theorem rs_10 (hC : gC p s m meth c RX6 cc nL ret args V) (hR : rfW V A H0 ad E0 S H locs) {x : Nat} {y : Int32} (hx : x < 12) (hdg : decode cc pc = .ok (.iastore, 1)) (kk : ∀ (H1 : Heap) (locs1 : List Loc), rfW V A H0 ad E0 (su S 10 (va_up (S.1 10) x y)) H1 locs1 → W p l e R s m args below meth c H1 locs1 cells slots Q (F0 m (pc + 1) ls (rest))) : W p l e R s m args below meth c H locs cells slots Q (F0 m pc ls (.int y :: .int (nI x) :: .ref (ad 51 10 0) :: rest)) := by
  obtain ⟨E, hG, hO, hX⟩ := hR
  refine gq_iast hC hG hO.2.2.2.2.2.1 (vp_in_nI hx (by decide)) hdg (fun H1 locs1 hG1 => ?_)
  rw [nI_clamp (by omega)] at hG1
  exact kk H1 locs1 ⟨_, hG1, ⟨hO.1, hO.2.1, hO.2.2.1, hO.2.2.2.1, hO.2.2.2.2.1, gu_eq _ _ _ _ _, hO.2.2.2.2.2.2.1, hO.2.2.2.2.2.2.2.1, hO.2.2.2.2.2.2.2.2.1, hO.2.2.2.2.2.2.2.2.2.1, hO.2.2.2.2.2.2.2.2.2.2.1, hO.2.2.2.2.2.2.2.2.2.2.2.1, hO.2.2.2.2.2.2.2.2.2.2.2.2.1, hO.2.2.2.2.2.2.2.2.2.2.2.2.2.1, hO.2.2.2.2.2.2.2.2.2.2.2.2.2.2.1, hO.2.2.2.2.2.2.2.2.2.2.2.2.2.2.2.1, hO.2.2.2.2.2.2.2.2.2.2.2.2.2.2.2.2⟩, hX.put (Or.inr rfl)⟩
theorem ra_11 (hC : gC p s m meth c RX6 cc nL ret args V) (hR : rfW V A H0 ad E0 S H locs) {x : Nat} (hx : x < 12) (hdg : decode cc pc = .ok (.iaload, 1)) (kk : W p l e R s m args below meth c H locs cells slots Q (F0 m (pc + 1) ls (.int (S.1 11 x) :: rest))) : W p l e R s m args below meth c H locs cells slots Q (F0 m pc ls (.int (nI x) :: .ref (ad 51 11 0) :: rest)) := by
  obtain ⟨E, hG, hO, hX⟩ := hR
  refine gq_iald hC hG hO.2.2.2.2.2.2.1 (vp_in_nI hx (by decide)) hdg ?_
  rw [nI_clamp (by omega)]
  exact kk
theorem rs_11 (hC : gC p s m meth c RX6 cc nL ret args V) (hR : rfW V A H0 ad E0 S H locs) {x : Nat} {y : Int32} (hx : x < 12) (hdg : decode cc pc = .ok (.iastore, 1)) (kk : ∀ (H1 : Heap) (locs1 : List Loc), rfW V A H0 ad E0 (su S 11 (va_up (S.1 11) x y)) H1 locs1 → W p l e R s m args below meth c H1 locs1 cells slots Q (F0 m (pc + 1) ls (rest))) : W p l e R s m args below meth c H locs cells slots Q (F0 m pc ls (.int y :: .int (nI x) :: .ref (ad 51 11 0) :: rest)) := by
  obtain ⟨E, hG, hO, hX⟩ := hR
  refine gq_iast hC hG hO.2.2.2.2.2.2.1 (vp_in_nI hx (by decide)) hdg (fun H1 locs1 hG1 => ?_)
  rw [nI_clamp (by omega)] at hG1
  exact kk H1 locs1 ⟨_, hG1, ⟨hO.1, hO.2.1, hO.2.2.1, hO.2.2.2.1, hO.2.2.2.2.1, hO.2.2.2.2.2.1, gu_eq _ _ _ _ _, hO.2.2.2.2.2.2.2.1, hO.2.2.2.2.2.2.2.2.1, hO.2.2.2.2.2.2.2.2.2.1, hO.2.2.2.2.2.2.2.2.2.2.1, hO.2.2.2.2.2.2.2.2.2.2.2.1, hO.2.2.2.2.2.2.2.2.2.2.2.2.1, hO.2.2.2.2.2.2.2.2.2.2.2.2.2.1, hO.2.2.2.2.2.2.2.2.2.2.2.2.2.2.1, hO.2.2.2.2.2.2.2.2.2.2.2.2.2.2.2.1, hO.2.2.2.2.2.2.2.2.2.2.2.2.2.2.2.2⟩, hX.put (Or.inr rfl)⟩
theorem ra_12 (hC : gC p s m meth c RX6 cc nL ret args V) (hR : rfW V A H0 ad E0 S H locs) {x : Nat} (hx : x < 12) (hdg : decode cc pc = .ok (.iaload, 1)) (kk : W p l e R s m args below meth c H locs cells slots Q (F0 m (pc + 1) ls (.int (S.1 12 x) :: rest))) : W p l e R s m args below meth c H locs cells slots Q (F0 m pc ls (.int (nI x) :: .ref (ad 51 12 0) :: rest)) := by
  obtain ⟨E, hG, hO, hX⟩ := hR
  refine gq_iald hC hG hO.2.2.2.2.2.2.2.1 (vp_in_nI hx (by decide)) hdg ?_
  rw [nI_clamp (by omega)]
  exact kk
theorem rs_12 (hC : gC p s m meth c RX6 cc nL ret args V) (hR : rfW V A H0 ad E0 S H locs) {x : Nat} {y : Int32} (hx : x < 12) (hdg : decode cc pc = .ok (.iastore, 1)) (kk : ∀ (H1 : Heap) (locs1 : List Loc), rfW V A H0 ad E0 (su S 12 (va_up (S.1 12) x y)) H1 locs1 → W p l e R s m args below meth c H1 locs1 cells slots Q (F0 m (pc + 1) ls (rest))) : W p l e R s m args below meth c H locs cells slots Q (F0 m pc ls (.int y :: .int (nI x) :: .ref (ad 51 12 0) :: rest)) := by
  obtain ⟨E, hG, hO, hX⟩ := hR
  refine gq_iast hC hG hO.2.2.2.2.2.2.2.1 (vp_in_nI hx (by decide)) hdg (fun H1 locs1 hG1 => ?_)
  rw [nI_clamp (by omega)] at hG1
  exact kk H1 locs1 ⟨_, hG1, ⟨hO.1, hO.2.1, hO.2.2.1, hO.2.2.2.1, hO.2.2.2.2.1, hO.2.2.2.2.2.1, hO.2.2.2.2.2.2.1, gu_eq _ _ _ _ _, hO.2.2.2.2.2.2.2.2.1, hO.2.2.2.2.2.2.2.2.2.1, hO.2.2.2.2.2.2.2.2.2.2.1, hO.2.2.2.2.2.2.2.2.2.2.2.1, hO.2.2.2.2.2.2.2.2.2.2.2.2.1, hO.2.2.2.2.2.2.2.2.2.2.2.2.2.1, hO.2.2.2.2.2.2.2.2.2.2.2.2.2.2.1, hO.2.2.2.2.2.2.2.2.2.2.2.2.2.2.2.1, hO.2.2.2.2.2.2.2.2.2.2.2.2.2.2.2.2⟩, hX.put (Or.inr rfl)⟩
theorem ra_13 (hC : gC p s m meth c RX6 cc nL ret args V) (hR : rfW V A H0 ad E0 S H locs) {x : Nat} (hx : x < 480) (hdg : decode cc pc = .ok (.iaload, 1)) (kk : W p l e R s m args below meth c H locs cells slots Q (F0 m (pc + 1) ls (.int (S.1 13 x) :: rest))) : W p l e R s m args below meth c H locs cells slots Q (F0 m pc ls (.int (nI x) :: .ref (ad 51 13 0) :: rest)) := by
  obtain ⟨E, hG, hO, hX⟩ := hR
  refine gq_iald hC hG hO.2.2.2.2.2.2.2.2.1 (vp_in_nI hx (by decide)) hdg ?_
  rw [nI_clamp (by omega)]
  exact kk
theorem rs_13 (hC : gC p s m meth c RX6 cc nL ret args V) (hR : rfW V A H0 ad E0 S H locs) {x : Nat} {y : Int32} (hx : x < 480) (hdg : decode cc pc = .ok (.iastore, 1)) (kk : ∀ (H1 : Heap) (locs1 : List Loc), rfW V A H0 ad E0 (su S 13 (va_up (S.1 13) x y)) H1 locs1 → W p l e R s m args below meth c H1 locs1 cells slots Q (F0 m (pc + 1) ls (rest))) : W p l e R s m args below meth c H locs cells slots Q (F0 m pc ls (.int y :: .int (nI x) :: .ref (ad 51 13 0) :: rest)) := by
  obtain ⟨E, hG, hO, hX⟩ := hR
  refine gq_iast hC hG hO.2.2.2.2.2.2.2.2.1 (vp_in_nI hx (by decide)) hdg (fun H1 locs1 hG1 => ?_)
  rw [nI_clamp (by omega)] at hG1
  exact kk H1 locs1 ⟨_, hG1, ⟨hO.1, hO.2.1, hO.2.2.1, hO.2.2.2.1, hO.2.2.2.2.1, hO.2.2.2.2.2.1, hO.2.2.2.2.2.2.1, hO.2.2.2.2.2.2.2.1, gu_eq _ _ _ _ _, hO.2.2.2.2.2.2.2.2.2.1, hO.2.2.2.2.2.2.2.2.2.2.1, hO.2.2.2.2.2.2.2.2.2.2.2.1, hO.2.2.2.2.2.2.2.2.2.2.2.2.1, hO.2.2.2.2.2.2.2.2.2.2.2.2.2.1, hO.2.2.2.2.2.2.2.2.2.2.2.2.2.2.1, hO.2.2.2.2.2.2.2.2.2.2.2.2.2.2.2.1, hO.2.2.2.2.2.2.2.2.2.2.2.2.2.2.2.2⟩, hX.put (Or.inr rfl)⟩
theorem ra_14 (hC : gC p s m meth c RX6 cc nL ret args V) (hR : rfW V A H0 ad E0 S H locs) {x : Nat} (hx : x < 1440) (hdg : decode cc pc = .ok (.iaload, 1)) (kk : W p l e R s m args below meth c H locs cells slots Q (F0 m (pc + 1) ls (.int (S.1 14 x) :: rest))) : W p l e R s m args below meth c H locs cells slots Q (F0 m pc ls (.int (nI x) :: .ref (ad 51 14 0) :: rest)) := by
  obtain ⟨E, hG, hO, hX⟩ := hR
  refine gq_iald hC hG hO.2.2.2.2.2.2.2.2.2.1 (vp_in_nI hx (by decide)) hdg ?_
  rw [nI_clamp (by omega)]
  exact kk
theorem rs_14 (hC : gC p s m meth c RX6 cc nL ret args V) (hR : rfW V A H0 ad E0 S H locs) {x : Nat} {y : Int32} (hx : x < 1440) (hdg : decode cc pc = .ok (.iastore, 1)) (kk : ∀ (H1 : Heap) (locs1 : List Loc), rfW V A H0 ad E0 (su S 14 (va_up (S.1 14) x y)) H1 locs1 → W p l e R s m args below meth c H1 locs1 cells slots Q (F0 m (pc + 1) ls (rest))) : W p l e R s m args below meth c H locs cells slots Q (F0 m pc ls (.int y :: .int (nI x) :: .ref (ad 51 14 0) :: rest)) := by
  obtain ⟨E, hG, hO, hX⟩ := hR
  refine gq_iast hC hG hO.2.2.2.2.2.2.2.2.2.1 (vp_in_nI hx (by decide)) hdg (fun H1 locs1 hG1 => ?_)
  rw [nI_clamp (by omega)] at hG1
  exact kk H1 locs1 ⟨_, hG1, ⟨hO.1, hO.2.1, hO.2.2.1, hO.2.2.2.1, hO.2.2.2.2.1, hO.2.2.2.2.2.1, hO.2.2.2.2.2.2.1, hO.2.2.2.2.2.2.2.1, hO.2.2.2.2.2.2.2.2.1, gu_eq _ _ _ _ _, hO.2.2.2.2.2.2.2.2.2.2.1, hO.2.2.2.2.2.2.2.2.2.2.2.1, hO.2.2.2.2.2.2.2.2.2.2.2.2.1, hO.2.2.2.2.2.2.2.2.2.2.2.2.2.1, hO.2.2.2.2.2.2.2.2.2.2.2.2.2.2.1, hO.2.2.2.2.2.2.2.2.2.2.2.2.2.2.2.1, hO.2.2.2.2.2.2.2.2.2.2.2.2.2.2.2.2⟩, hX.put (Or.inr rfl)⟩
theorem ra_15 (hC : gC p s m meth c RX6 cc nL ret args V) (hR : rfW V A H0 ad E0 S H locs) {x : Nat} (hx : x < 480) (hdg : decode cc pc = .ok (.baload, 1)) (kk : W p l e R s m args below meth c H locs cells slots Q (F0 m (pc + 1) ls (.int (S.1 15 x) :: rest))) : W p l e R s m args below meth c H locs cells slots Q (F0 m pc ls (.int (nI x) :: .ref (ad 51 15 0) :: rest)) := by
  obtain ⟨E, hG, hO, hX⟩ := hR
  refine gq_zald hC hG hO.2.2.2.2.2.2.2.2.2.2.1 (vp_in_nI hx (by decide)) hdg ?_
  rw [nI_clamp (by omega)]
  exact kk
theorem rs_15 (hC : gC p s m meth c RX6 cc nL ret args V) (hR : rfW V A H0 ad E0 S H locs) {x : Nat} {y : Int32} (hy : y = 0 ∨ y = 1) (hx : x < 480) (hdg : decode cc pc = .ok (.bastore, 1)) (kk : ∀ (H1 : Heap) (locs1 : List Loc), rfW V A H0 ad E0 (su S 15 (va_up (S.1 15) x y)) H1 locs1 → W p l e R s m args below meth c H1 locs1 cells slots Q (F0 m (pc + 1) ls (rest))) : W p l e R s m args below meth c H locs cells slots Q (F0 m pc ls (.int y :: .int (nI x) :: .ref (ad 51 15 0) :: rest)) := by
  obtain ⟨E, hG, hO, hX⟩ := hR
  refine gq_zast hC hG hO.2.2.2.2.2.2.2.2.2.2.1 hy (vp_in_nI hx (by decide)) hdg (fun H1 locs1 hG1 => ?_)
  rw [nI_clamp (by omega)] at hG1
  exact kk H1 locs1 ⟨_, hG1, ⟨hO.1, hO.2.1, hO.2.2.1, hO.2.2.2.1, hO.2.2.2.2.1, hO.2.2.2.2.2.1, hO.2.2.2.2.2.2.1, hO.2.2.2.2.2.2.2.1, hO.2.2.2.2.2.2.2.2.1, hO.2.2.2.2.2.2.2.2.2.1, gu_eq _ _ _ _ _, hO.2.2.2.2.2.2.2.2.2.2.2.1, hO.2.2.2.2.2.2.2.2.2.2.2.2.1, hO.2.2.2.2.2.2.2.2.2.2.2.2.2.1, hO.2.2.2.2.2.2.2.2.2.2.2.2.2.2.1, hO.2.2.2.2.2.2.2.2.2.2.2.2.2.2.2.1, hO.2.2.2.2.2.2.2.2.2.2.2.2.2.2.2.2⟩, hX.put (Or.inr rfl)⟩
theorem ra_16 (hC : gC p s m meth c RX6 cc nL ret args V) (hR : rfW V A H0 ad E0 S H locs) {x : Nat} (hx : x < 4) (hdg : decode cc pc = .ok (.laload, 1)) (kk : W p l e R s m args below meth c H locs cells slots Q (F0 m (pc + 1) ls (.long (S.2 16 x) :: rest))) : W p l e R s m args below meth c H locs cells slots Q (F0 m pc ls (.int (nI x) :: .ref (ad 51 16 0) :: rest)) := by
  obtain ⟨E, hG, hO, hX⟩ := hR
  refine gq_lald hC hG hO.2.2.2.2.2.2.2.2.2.2.2.1 (vp_in_nI hx (by decide)) hdg ?_
  rw [nI_clamp (by omega)]
  exact kk
theorem rs_16 (hC : gC p s m meth c RX6 cc nL ret args V) (hR : rfW V A H0 ad E0 S H locs) {x : Nat} {y : Int64} (hx : x < 4) (hdg : decode cc pc = .ok (.lastore, 1)) (kk : ∀ (H1 : Heap) (locs1 : List Loc), rfW V A H0 ad E0 (sl S 16 (va_up (S.2 16) x y)) H1 locs1 → W p l e R s m args below meth c H1 locs1 cells slots Q (F0 m (pc + 1) ls (rest))) : W p l e R s m args below meth c H locs cells slots Q (F0 m pc ls (.long y :: .int (nI x) :: .ref (ad 51 16 0) :: rest)) := by
  obtain ⟨E, hG, hO, hX⟩ := hR
  refine gq_last hC hG hO.2.2.2.2.2.2.2.2.2.2.2.1 (vp_in_nI hx (by decide)) hdg (fun H1 locs1 hG1 => ?_)
  rw [nI_clamp (by omega)] at hG1
  exact kk H1 locs1 ⟨_, hG1, ⟨hO.1, hO.2.1, hO.2.2.1, hO.2.2.2.1, hO.2.2.2.2.1, hO.2.2.2.2.2.1, hO.2.2.2.2.2.2.1, hO.2.2.2.2.2.2.2.1, hO.2.2.2.2.2.2.2.2.1, hO.2.2.2.2.2.2.2.2.2.1, hO.2.2.2.2.2.2.2.2.2.2.1, gu_eq _ _ _ _ _, hO.2.2.2.2.2.2.2.2.2.2.2.2.1, hO.2.2.2.2.2.2.2.2.2.2.2.2.2.1, hO.2.2.2.2.2.2.2.2.2.2.2.2.2.2.1, hO.2.2.2.2.2.2.2.2.2.2.2.2.2.2.2.1, hO.2.2.2.2.2.2.2.2.2.2.2.2.2.2.2.2⟩, hX.put (Or.inr rfl)⟩
theorem ra_18 (hC : gC p s m meth c RX6 cc nL ret args V) (hR : rfW V A H0 ad E0 S H locs) {x : Nat} (hx : x < 20) (hdg : decode cc pc = .ok (.iaload, 1)) (kk : W p l e R s m args below meth c H locs cells slots Q (F0 m (pc + 1) ls (.int (S.1 18 x) :: rest))) : W p l e R s m args below meth c H locs cells slots Q (F0 m pc ls (.int (nI x) :: .ref (ad 51 18 0) :: rest)) := by
  obtain ⟨E, hG, hO, hX⟩ := hR
  refine gq_iald hC hG hO.2.2.2.2.2.2.2.2.2.2.2.2.1 (vp_in_nI hx (by decide)) hdg ?_
  rw [nI_clamp (by omega)]
  exact kk
theorem rs_18 (hC : gC p s m meth c RX6 cc nL ret args V) (hR : rfW V A H0 ad E0 S H locs) {x : Nat} {y : Int32} (hx : x < 20) (hdg : decode cc pc = .ok (.iastore, 1)) (kk : ∀ (H1 : Heap) (locs1 : List Loc), rfW V A H0 ad E0 (su S 18 (va_up (S.1 18) x y)) H1 locs1 → W p l e R s m args below meth c H1 locs1 cells slots Q (F0 m (pc + 1) ls (rest))) : W p l e R s m args below meth c H locs cells slots Q (F0 m pc ls (.int y :: .int (nI x) :: .ref (ad 51 18 0) :: rest)) := by
  obtain ⟨E, hG, hO, hX⟩ := hR
  refine gq_iast hC hG hO.2.2.2.2.2.2.2.2.2.2.2.2.1 (vp_in_nI hx (by decide)) hdg (fun H1 locs1 hG1 => ?_)
  rw [nI_clamp (by omega)] at hG1
  exact kk H1 locs1 ⟨_, hG1, ⟨hO.1, hO.2.1, hO.2.2.1, hO.2.2.2.1, hO.2.2.2.2.1, hO.2.2.2.2.2.1, hO.2.2.2.2.2.2.1, hO.2.2.2.2.2.2.2.1, hO.2.2.2.2.2.2.2.2.1, hO.2.2.2.2.2.2.2.2.2.1, hO.2.2.2.2.2.2.2.2.2.2.1, hO.2.2.2.2.2.2.2.2.2.2.2.1, gu_eq _ _ _ _ _, hO.2.2.2.2.2.2.2.2.2.2.2.2.2.1, hO.2.2.2.2.2.2.2.2.2.2.2.2.2.2.1, hO.2.2.2.2.2.2.2.2.2.2.2.2.2.2.2.1, hO.2.2.2.2.2.2.2.2.2.2.2.2.2.2.2.2⟩, hX.put (Or.inr rfl)⟩
theorem ra_19 (hC : gC p s m meth c RX6 cc nL ret args V) (hR : rfW V A H0 ad E0 S H locs) {x : Nat} (hx : x < 20) (hdg : decode cc pc = .ok (.iaload, 1)) (kk : W p l e R s m args below meth c H locs cells slots Q (F0 m (pc + 1) ls (.int (S.1 19 x) :: rest))) : W p l e R s m args below meth c H locs cells slots Q (F0 m pc ls (.int (nI x) :: .ref (ad 51 19 0) :: rest)) := by
  obtain ⟨E, hG, hO, hX⟩ := hR
  refine gq_iald hC hG hO.2.2.2.2.2.2.2.2.2.2.2.2.2.1 (vp_in_nI hx (by decide)) hdg ?_
  rw [nI_clamp (by omega)]
  exact kk
theorem rs_19 (hC : gC p s m meth c RX6 cc nL ret args V) (hR : rfW V A H0 ad E0 S H locs) {x : Nat} {y : Int32} (hx : x < 20) (hdg : decode cc pc = .ok (.iastore, 1)) (kk : ∀ (H1 : Heap) (locs1 : List Loc), rfW V A H0 ad E0 (su S 19 (va_up (S.1 19) x y)) H1 locs1 → W p l e R s m args below meth c H1 locs1 cells slots Q (F0 m (pc + 1) ls (rest))) : W p l e R s m args below meth c H locs cells slots Q (F0 m pc ls (.int y :: .int (nI x) :: .ref (ad 51 19 0) :: rest)) := by
  obtain ⟨E, hG, hO, hX⟩ := hR
  refine gq_iast hC hG hO.2.2.2.2.2.2.2.2.2.2.2.2.2.1 (vp_in_nI hx (by decide)) hdg (fun H1 locs1 hG1 => ?_)
  rw [nI_clamp (by omega)] at hG1
  exact kk H1 locs1 ⟨_, hG1, ⟨hO.1, hO.2.1, hO.2.2.1, hO.2.2.2.1, hO.2.2.2.2.1, hO.2.2.2.2.2.1, hO.2.2.2.2.2.2.1, hO.2.2.2.2.2.2.2.1, hO.2.2.2.2.2.2.2.2.1, hO.2.2.2.2.2.2.2.2.2.1, hO.2.2.2.2.2.2.2.2.2.2.1, hO.2.2.2.2.2.2.2.2.2.2.2.1, hO.2.2.2.2.2.2.2.2.2.2.2.2.1, gu_eq _ _ _ _ _, hO.2.2.2.2.2.2.2.2.2.2.2.2.2.2.1, hO.2.2.2.2.2.2.2.2.2.2.2.2.2.2.2.1, hO.2.2.2.2.2.2.2.2.2.2.2.2.2.2.2.2⟩, hX.put (Or.inr rfl)⟩
theorem ra_20 (hC : gC p s m meth c RX6 cc nL ret args V) (hR : rfW V A H0 ad E0 S H locs) {x : Nat} (hx : x < 20) (hdg : decode cc pc = .ok (.iaload, 1)) (kk : W p l e R s m args below meth c H locs cells slots Q (F0 m (pc + 1) ls (.int (S.1 20 x) :: rest))) : W p l e R s m args below meth c H locs cells slots Q (F0 m pc ls (.int (nI x) :: .ref (ad 51 20 0) :: rest)) := by
  obtain ⟨E, hG, hO, hX⟩ := hR
  refine gq_iald hC hG hO.2.2.2.2.2.2.2.2.2.2.2.2.2.2.1 (vp_in_nI hx (by decide)) hdg ?_
  rw [nI_clamp (by omega)]
  exact kk
theorem rs_20 (hC : gC p s m meth c RX6 cc nL ret args V) (hR : rfW V A H0 ad E0 S H locs) {x : Nat} {y : Int32} (hx : x < 20) (hdg : decode cc pc = .ok (.iastore, 1)) (kk : ∀ (H1 : Heap) (locs1 : List Loc), rfW V A H0 ad E0 (su S 20 (va_up (S.1 20) x y)) H1 locs1 → W p l e R s m args below meth c H1 locs1 cells slots Q (F0 m (pc + 1) ls (rest))) : W p l e R s m args below meth c H locs cells slots Q (F0 m pc ls (.int y :: .int (nI x) :: .ref (ad 51 20 0) :: rest)) := by
  obtain ⟨E, hG, hO, hX⟩ := hR
  refine gq_iast hC hG hO.2.2.2.2.2.2.2.2.2.2.2.2.2.2.1 (vp_in_nI hx (by decide)) hdg (fun H1 locs1 hG1 => ?_)
  rw [nI_clamp (by omega)] at hG1
  exact kk H1 locs1 ⟨_, hG1, ⟨hO.1, hO.2.1, hO.2.2.1, hO.2.2.2.1, hO.2.2.2.2.1, hO.2.2.2.2.2.1, hO.2.2.2.2.2.2.1, hO.2.2.2.2.2.2.2.1, hO.2.2.2.2.2.2.2.2.1, hO.2.2.2.2.2.2.2.2.2.1, hO.2.2.2.2.2.2.2.2.2.2.1, hO.2.2.2.2.2.2.2.2.2.2.2.1, hO.2.2.2.2.2.2.2.2.2.2.2.2.1, hO.2.2.2.2.2.2.2.2.2.2.2.2.2.1, gu_eq _ _ _ _ _, hO.2.2.2.2.2.2.2.2.2.2.2.2.2.2.2.1, hO.2.2.2.2.2.2.2.2.2.2.2.2.2.2.2.2⟩, hX.put (Or.inr rfl)⟩
theorem ra_21 (hC : gC p s m meth c RX6 cc nL ret args V) (hR : rfW V A H0 ad E0 S H locs) {x : Nat} (hx : x < 80) (hdg : decode cc pc = .ok (.iaload, 1)) (kk : W p l e R s m args below meth c H locs cells slots Q (F0 m (pc + 1) ls (.int (S.1 21 x) :: rest))) : W p l e R s m args below meth c H locs cells slots Q (F0 m pc ls (.int (nI x) :: .ref (ad 51 21 0) :: rest)) := by
  obtain ⟨E, hG, hO, hX⟩ := hR
  refine gq_iald hC hG hO.2.2.2.2.2.2.2.2.2.2.2.2.2.2.2.1 (vp_in_nI hx (by decide)) hdg ?_
  rw [nI_clamp (by omega)]
  exact kk
theorem rs_21 (hC : gC p s m meth c RX6 cc nL ret args V) (hR : rfW V A H0 ad E0 S H locs) {x : Nat} {y : Int32} (hx : x < 80) (hdg : decode cc pc = .ok (.iastore, 1)) (kk : ∀ (H1 : Heap) (locs1 : List Loc), rfW V A H0 ad E0 (su S 21 (va_up (S.1 21) x y)) H1 locs1 → W p l e R s m args below meth c H1 locs1 cells slots Q (F0 m (pc + 1) ls (rest))) : W p l e R s m args below meth c H locs cells slots Q (F0 m pc ls (.int y :: .int (nI x) :: .ref (ad 51 21 0) :: rest)) := by
  obtain ⟨E, hG, hO, hX⟩ := hR
  refine gq_iast hC hG hO.2.2.2.2.2.2.2.2.2.2.2.2.2.2.2.1 (vp_in_nI hx (by decide)) hdg (fun H1 locs1 hG1 => ?_)
  rw [nI_clamp (by omega)] at hG1
  exact kk H1 locs1 ⟨_, hG1, ⟨hO.1, hO.2.1, hO.2.2.1, hO.2.2.2.1, hO.2.2.2.2.1, hO.2.2.2.2.2.1, hO.2.2.2.2.2.2.1, hO.2.2.2.2.2.2.2.1, hO.2.2.2.2.2.2.2.2.1, hO.2.2.2.2.2.2.2.2.2.1, hO.2.2.2.2.2.2.2.2.2.2.1, hO.2.2.2.2.2.2.2.2.2.2.2.1, hO.2.2.2.2.2.2.2.2.2.2.2.2.1, hO.2.2.2.2.2.2.2.2.2.2.2.2.2.1, hO.2.2.2.2.2.2.2.2.2.2.2.2.2.2.1, gu_eq _ _ _ _ _, hO.2.2.2.2.2.2.2.2.2.2.2.2.2.2.2.2⟩, hX.put (Or.inr rfl)⟩
theorem ra_22 (hC : gC p s m meth c RX6 cc nL ret args V) (hR : rfW V A H0 ad E0 S H locs) {x : Nat} (hx : x < 80) (hdg : decode cc pc = .ok (.iaload, 1)) (kk : W p l e R s m args below meth c H locs cells slots Q (F0 m (pc + 1) ls (.int (S.1 22 x) :: rest))) : W p l e R s m args below meth c H locs cells slots Q (F0 m pc ls (.int (nI x) :: .ref (ad 51 22 0) :: rest)) := by
  obtain ⟨E, hG, hO, hX⟩ := hR
  refine gq_iald hC hG hO.2.2.2.2.2.2.2.2.2.2.2.2.2.2.2.2 (vp_in_nI hx (by decide)) hdg ?_
  rw [nI_clamp (by omega)]
  exact kk
theorem rs_22 (hC : gC p s m meth c RX6 cc nL ret args V) (hR : rfW V A H0 ad E0 S H locs) {x : Nat} {y : Int32} (hx : x < 80) (hdg : decode cc pc = .ok (.iastore, 1)) (kk : ∀ (H1 : Heap) (locs1 : List Loc), rfW V A H0 ad E0 (su S 22 (va_up (S.1 22) x y)) H1 locs1 → W p l e R s m args below meth c H1 locs1 cells slots Q (F0 m (pc + 1) ls (rest))) : W p l e R s m args below meth c H locs cells slots Q (F0 m pc ls (.int y :: .int (nI x) :: .ref (ad 51 22 0) :: rest)) := by
  obtain ⟨E, hG, hO, hX⟩ := hR
  refine gq_iast hC hG hO.2.2.2.2.2.2.2.2.2.2.2.2.2.2.2.2 (vp_in_nI hx (by decide)) hdg (fun H1 locs1 hG1 => ?_)
  rw [nI_clamp (by omega)] at hG1
  exact kk H1 locs1 ⟨_, hG1, ⟨hO.1, hO.2.1, hO.2.2.1, hO.2.2.2.1, hO.2.2.2.2.1, hO.2.2.2.2.2.1, hO.2.2.2.2.2.2.1, hO.2.2.2.2.2.2.2.1, hO.2.2.2.2.2.2.2.2.1, hO.2.2.2.2.2.2.2.2.2.1, hO.2.2.2.2.2.2.2.2.2.2.1, hO.2.2.2.2.2.2.2.2.2.2.2.1, hO.2.2.2.2.2.2.2.2.2.2.2.2.1, hO.2.2.2.2.2.2.2.2.2.2.2.2.2.1, hO.2.2.2.2.2.2.2.2.2.2.2.2.2.2.1, hO.2.2.2.2.2.2.2.2.2.2.2.2.2.2.2.1, gu_eq _ _ _ _ _⟩, hX.put (Or.inr rfl)⟩
/-- ends -/
theorem rr_iret {sz mc ms : Nat} {E : gE} {post : Int32 → rS → Prop} (hC : gC p s m meth c own cc nL (some .int) args V) (hz : sz = s.heap.size) (hR : rfW V (gAd ad E sz) s.heap ad E S H locs) {v : Int32} (hp : post v S) (hc : cells ≤ mc) (hs : slots ≤ ms) (hdg : decode cc pc = .ok (.ireturn, 1)) : W p l e R s m args below meth c H locs cells slots (MQ below (gQi (rPi post V ad E) V ad E sz) args s mc ms (gAd ad E sz)) (F0 m pc ls [.int v]) := by
  obtain ⟨E1, hG, hO, hX⟩ := hR
  exact gq_iret hC hz hG ⟨rfl, hX, S, hO, hp⟩ hc hs hdg
theorem rr_zret {sz mc ms : Nat} {E : gE} {post : Int32 → rS → Prop} (hC : gC p s m meth c own cc nL (some .boolean) args V) (hz : sz = s.heap.size) (hR : rfW V (gAd ad E sz) s.heap ad E S H locs) {v : Int32} (hv : v = 0 ∨ v = 1) (hp : post v S) (hc : cells ≤ mc) (hs : slots ≤ ms) (hdg : decode cc pc = .ok (.ireturn, 1)) : W p l e R s m args below meth c H locs cells slots (MQ below (gQi (rPi post V ad E) V ad E sz) args s mc ms (gAd ad E sz)) (F0 m pc ls [.int v]) := by
  obtain ⟨E1, hG, hO, hX⟩ := hR
  exact gq_zret hC hz hG hv ⟨rfl, hX, S, hO, hp⟩ hc hs hdg
theorem rr_lret {sz mc ms : Nat} {E : gE} {post : Int64 → rS → Prop} (hC : gC p s m meth c own cc nL (some .long) args V) (hz : sz = s.heap.size) (hR : rfW V (gAd ad E sz) s.heap ad E S H locs) {v : Int64} (hp : post v S) (hc : cells ≤ mc) (hs : slots ≤ ms) (hdg : decode cc pc = .ok (.lreturn, 1)) : W p l e R s m args below meth c H locs cells slots (MQ below (gQl (rPl post V ad E) V ad E sz) args s mc ms (gAd ad E sz)) (F0 m pc ls [.long v]) := by
  obtain ⟨E1, hG, hO, hX⟩ := hR
  exact gq_lret hC hz hG ⟨rfl, hX, S, hO, hp⟩ hc hs hdg
theorem rr_vret {sz mc ms : Nat} {E : gE} {post : rS → Prop} (hC : gC p s m meth c own cc nL none args V) (hz : sz = s.heap.size) (hR : rfW V (gAd ad E sz) s.heap ad E S H locs) (hp : post S) (hc : cells ≤ mc) (hs : slots ≤ ms) (hdg : decode cc pc = .ok (.return_, 1)) : W p l e R s m args below meth c H locs cells slots (MQ below (gQv (rPv post V ad E) V ad E sz) args s mc ms (gAd ad E sz)) (F0 m pc ls []) := by
  obtain ⟨E1, hG, hO, hX⟩ := hR
  exact gq_vret hC hz hG ⟨rfl, hX, S, hO, hp⟩ hc hs hdg
/-- calls of the reference's own methods -/
theorem rr_room {E : gE} (hO : rfOK V ad S E) (hC : gC p s m meth c own cc nL ret args V) (hG : gW V A H0 ad E H locs) : ∃ cell : Cell, H[ad 50 0 0]? = some cell ∧ cell.vm.isStatics = false ∧ s.vm.findClass RX6 = some cell.cls := g_recv hC hG hO.1 (q := (RX6, TX6, 29)) rfl
theorem rr_calli {own : String} (hC : gC p s m meth c own cc nL ret args V) (hR : rfW V A s.heap ad E0 S H locs) {y : MethodName} {cy : ByteArray} {n index : Nat} {rt : Option FieldType} {rm : Room} {av st : List Value} {post : Int32 → rS → Prop} (hM : rMi l y cy n rt rm av V ad S post) (k1 : Cond.methodLink own index y ∈ wsL_law) (k2 : Cond.instanceMethod y ∈ wsL_law) (k3 : Cond.selects RX6 y y ∈ wsL_law) (k4 : Cond.initialized RX6 ∈ wsL_law) (k5 : Cond.code y cy n rt ∈ wsL_law) (hd : y.cls = RX6 ∧ y.cls ≠ "java/lang/invoke/MethodHandle" ∧ y.cls ≠ "java/lang/invoke/VarHandle" ∧ (parseMethodDescriptor y.desc).map (fun d => d.parameters.length) = some av.length) (hst : st = av.reverse ++ .ref (ad 50 0 0) :: rest) (hsz : ls.size = nL) (hrm : rm.frames + 1 ≤ R.frames ∧ 8 + (n + 11) + rm.locals ≤ R.locals) (hcat : (rest.map fun v => v.category).sum ≤ 8) (hf : cells + rm.cells ≤ R.cells ∧ slots + rm.slots ≤ R.slots) (hdg : decode cc pc = .ok (.invokevirtual index, 3))
    (kk : ∀ (r : Int32) (S' : rS) (H1 : Heap) (locs1 : List Loc), post r S' → rfW V A s.heap ad E0 S' H1 locs1 → W p l e R s m args below meth c H1 locs1 (cells + rm.cells) (slots + rm.slots) Q (F0 m (pc + 3) ls (.int r :: rest))) : W p l e R s m args below meth c H locs cells slots Q (F0 m pc ls st) := by
  obtain ⟨E, hG, hO, hX⟩ := hR
  refine va_calli (va_runV (As := av) (rest := rest) (g_fix hC) (hM E hO H.size) (cwV av.length hC.2.2.2.2.1 (gG_V (fun _ h => h) k1 k2 k3 k4 k5) rfl rfl rfl hd hrm) ⟨gB_blind, rr_room hO hC hG, g_pre hC hG⟩ rfl rfl hsz (by rw [hst]) (by simpa using hcat) hdg hf) hG.2.2.2.2 (fun q _ h => g_free hG q h) (g_free hG) (fun r u t H1 locs1 ht _ hp hB _ _ hS => ?_)
  obtain ⟨ad1, E1⟩ := u
  obtain ⟨h1, h2, S', h3, h4⟩ := hp
  dsimp only at h1 h2 h3
  subst h1
  exact kk r S' H1 locs1 h4 ⟨E1, g_back hG rfl ht hB hS, h3, hX.tr h2⟩
theorem rr_callv {own : String} (hC : gC p s m meth c own cc nL ret args V) (hR : rfW V A s.heap ad E0 S H locs) {y : MethodName} {cy : ByteArray} {n index : Nat} {rt : Option FieldType} {rm : Room} {av st : List Value} {post : rS → Prop} (hM : rMv l y cy n rt rm av V ad S post) (k1 : Cond.methodLink own index y ∈ wsL_law) (k2 : Cond.instanceMethod y ∈ wsL_law) (k3 : Cond.selects RX6 y y ∈ wsL_law) (k4 : Cond.initialized RX6 ∈ wsL_law) (k5 : Cond.code y cy n rt ∈ wsL_law) (hd : y.cls = RX6 ∧ y.cls ≠ "java/lang/invoke/MethodHandle" ∧ y.cls ≠ "java/lang/invoke/VarHandle" ∧ (parseMethodDescriptor y.desc).map (fun d => d.parameters.length) = some av.length) (hst : st = av.reverse ++ .ref (ad 50 0 0) :: rest) (hsz : ls.size = nL) (hrm : rm.frames + 1 ≤ R.frames ∧ 8 + (n + 11) + rm.locals ≤ R.locals) (hcat : (rest.map fun v => v.category).sum ≤ 8) (hf : cells + rm.cells ≤ R.cells ∧ slots + rm.slots ≤ R.slots) (hdg : decode cc pc = .ok (.invokevirtual index, 3))
    (kk : ∀ (S' : rS) (H1 : Heap) (locs1 : List Loc), post S' → rfW V A s.heap ad E0 S' H1 locs1 → W p l e R s m args below meth c H1 locs1 (cells + rm.cells) (slots + rm.slots) Q (F0 m (pc + 3) ls rest)) : W p l e R s m args below meth c H locs cells slots Q (F0 m pc ls st) := by
  obtain ⟨E, hG, hO, hX⟩ := hR
  refine va_callv (va_runV (As := av) (rest := rest) (g_fix hC) (hM E hO H.size) (cwV av.length hC.2.2.2.2.1 (gG_V (fun _ h => h) k1 k2 k3 k4 k5) rfl rfl rfl hd hrm) ⟨gB_blind, rr_room hO hC hG, g_pre hC hG⟩ rfl rfl hsz (by rw [hst]) (by simpa using hcat) hdg hf) hG.2.2.2.2 (fun q _ h => g_free hG q h) (g_free hG) (fun u t H1 locs1 ht _ hp hB _ _ hS => ?_)
  obtain ⟨ad1, E1⟩ := u
  obtain ⟨h1, h2, S', h3, h4⟩ := hp
  dsimp only at h1 h2 h3
  subst h1
  exact kk S' H1 locs1 h4 ⟨E1, g_back hG rfl ht hB hS, h3, hX.tr h2⟩
theorem rr_calll {own : String} (hC : gC p s m meth c own cc nL ret args V) (hR : rfW V A s.heap ad E0 S H locs) {y : MethodName} {cy : ByteArray} {n index : Nat} {rt : Option FieldType} {rm : Room} {av st : List Value} {post : Int64 → rS → Prop} (hM : rMl l y cy n rt rm av V ad S post) (k1 : Cond.methodLink own index y ∈ wsL_law) (k2 : Cond.instanceMethod y ∈ wsL_law) (k3 : Cond.selects RX6 y y ∈ wsL_law) (k4 : Cond.initialized RX6 ∈ wsL_law) (k5 : Cond.code y cy n rt ∈ wsL_law) (hd : y.cls = RX6 ∧ y.cls ≠ "java/lang/invoke/MethodHandle" ∧ y.cls ≠ "java/lang/invoke/VarHandle" ∧ (parseMethodDescriptor y.desc).map (fun d => d.parameters.length) = some av.length) (hst : st = av.reverse ++ .ref (ad 50 0 0) :: rest) (hsz : ls.size = nL) (hrm : rm.frames + 1 ≤ R.frames ∧ 8 + (n + 11) + rm.locals ≤ R.locals) (hcat : (rest.map fun v => v.category).sum ≤ 8) (hf : cells + rm.cells ≤ R.cells ∧ slots + rm.slots ≤ R.slots) (hdg : decode cc pc = .ok (.invokevirtual index, 3))
    (kk : ∀ (r : Int64) (S' : rS) (H1 : Heap) (locs1 : List Loc), post r S' → rfW V A s.heap ad E0 S' H1 locs1 → W p l e R s m args below meth c H1 locs1 (cells + rm.cells) (slots + rm.slots) Q (F0 m (pc + 3) ls (.long r :: rest))) : W p l e R s m args below meth c H locs cells slots Q (F0 m pc ls st) := by
  obtain ⟨E, hG, hO, hX⟩ := hR
  refine va_calll (va_runV (As := av) (rest := rest) (g_fix hC) (hM E hO H.size) (cwV av.length hC.2.2.2.2.1 (gG_V (fun _ h => h) k1 k2 k3 k4 k5) rfl rfl rfl hd hrm) ⟨gB_blind, rr_room hO hC hG, g_pre hC hG⟩ rfl rfl hsz (by rw [hst]) (by simpa using hcat) hdg hf) hG.2.2.2.2 (fun q _ h => g_free hG q h) (g_free hG) (fun r u t H1 locs1 ht _ hp hB _ _ hS => ?_)
  obtain ⟨ad1, E1⟩ := u
  obtain ⟨h1, h2, S', h3, h4⟩ := hp
  dsimp only at h1 h2 h3
  subst h1
  exact kk r S' H1 locs1 h4 ⟨E1, g_back hG rfl ht hB hS, h3, hX.tr h2⟩
/-- static methods: no object; any world stays as it is -/
def gSi (l : Launch) (y : MethodName) (cc : ByteArray) (n : Nat) (ret : Option FieldType) (rm : Room) (av : List Value) (post : Int32 → Prop) : Prop := ∀ (V : gV) (ad : gA) (E : gE), gMi l y cc n ret rm av V ad E (fun r ad' E' => ad' = ad ∧ E' = E ∧ post r)
theorem gs_calli {E : gE} (hC : gC p s m meth c own cc nL ret args V) (hG : gW V A s.heap ad E H locs) {y : MethodName} {cy : ByteArray} {n index : Nat} {rt : Option FieldType} {rm : Room} {av st : List Value} {post : Int32 → Prop} (hM : gSi l y cy n rt rm av post) (k1 : Cond.methodLink own index y ∈ wsL_law) (k2 : Cond.static y ∈ wsL_law) (k4 : Cond.initialized own ∈ wsL_law) (k5 : Cond.code y cy n rt ∈ wsL_law) (hd : y.cls = own ∧ y.cls ≠ "java/lang/invoke/MethodHandle" ∧ y.cls ≠ "java/lang/invoke/VarHandle" ∧ (parseMethodDescriptor y.desc).map (fun d => d.parameters.length) = some av.length) (hst : st = av.reverse ++ rest) (hsz : ls.size = nL) (hrm : rm.frames + 1 ≤ R.frames ∧ 8 + (n + 11) + rm.locals ≤ R.locals) (hcat : (rest.map fun v => v.category).sum ≤ 8) (hf : cells + rm.cells ≤ R.cells ∧ slots + rm.slots ≤ R.slots) (hdg : decode cc pc = .ok (.invokestatic index, 3))
    (kk : ∀ (r : Int32) (H1 : Heap) (locs1 : List Loc), post r → gW V A s.heap ad E H1 locs1 → W p l e R s m args below meth c H1 locs1 (cells + rm.cells) (slots + rm.slots) Q (F0 m (pc + 3) ls (.int r :: rest))) : W p l e R s m args below meth c H locs cells slots Q (F0 m pc ls st) := by
  refine va_calli (va_runS (As := av) (rest := rest) (g_fix hC) (hM V ad E H.size) (cwS av.length hC.2.2.2.2.1 (gG_S (fun _ h => h) k1 k2 k4 k5) rfl rfl rfl hd hrm) ⟨gB_blind, g_pre hC hG⟩ rfl rfl hsz (by rw [hst]) (by simpa using hcat) hdg hf) hG.2.2.2.2 (fun q _ h => g_free hG q h) (g_free hG) (fun r u t H1 locs1 ht _ hp hB _ _ hS => ?_)
  obtain ⟨ad1, E1⟩ := u
  obtain ⟨h1, h2, h4⟩ := hp
  dsimp only at h1 h2
  subst h1
  subst h2
  exact kk r H1 locs1 h4 (g_back hG rfl ht hB hS)
theorem rs_calli (hC : gC p s m meth c own cc nL ret args V) (hR : rfW V A s.heap ad E0 S H locs) {y : MethodName} {cy : ByteArray} {n index : Nat} {rt : Option FieldType} {rm : Room} {av st : List Value} {post : Int32 → Prop} (hM : gSi l y cy n rt rm av post) (k1 : Cond.methodLink own index y ∈ wsL_law) (k2 : Cond.static y ∈ wsL_law) (k4 : Cond.initialized own ∈ wsL_law) (k5 : Cond.code y cy n rt ∈ wsL_law) (hd : y.cls = own ∧ y.cls ≠ "java/lang/invoke/MethodHandle" ∧ y.cls ≠ "java/lang/invoke/VarHandle" ∧ (parseMethodDescriptor y.desc).map (fun d => d.parameters.length) = some av.length) (hst : st = av.reverse ++ rest) (hsz : ls.size = nL) (hrm : rm.frames + 1 ≤ R.frames ∧ 8 + (n + 11) + rm.locals ≤ R.locals) (hcat : (rest.map fun v => v.category).sum ≤ 8) (hf : cells + rm.cells ≤ R.cells ∧ slots + rm.slots ≤ R.slots) (hdg : decode cc pc = .ok (.invokestatic index, 3))
    (kk : ∀ (r : Int32) (H1 : Heap) (locs1 : List Loc), post r → rfW V A s.heap ad E0 S H1 locs1 → W p l e R s m args below meth c H1 locs1 (cells + rm.cells) (slots + rm.slots) Q (F0 m (pc + 3) ls (.int r :: rest))) : W p l e R s m args below meth c H locs cells slots Q (F0 m pc ls st) := by
  obtain ⟨E, hG, hO, hX⟩ := hR
  exact gs_calli hC hG hM k1 k2 k4 k5 hd hst hsz hrm hcat hf hdg (fun r H1 locs1 hp hG1 => kk r H1 locs1 hp ⟨E, hG1, hO, hX⟩)
end RR
/-- beginnings -/
theorem rMi.of {l : Launch} {y : MethodName} {cc : ByteArray} {n : Nat} {ret : Option FieldType} {rm : Room} {av : List Value} {V : gV} {ad : gA} {S : rS} {post : Int32 → rS → Prop} (hy : plainName y.cls = true) (hn : (lg_sl (.ref (ad 50 0 0) :: av)).length ≤ n)
    (body : ∀ (p : Program) (e : Env) (s : State) (m : MethodId) (below : List Frame) (meth : Method) (c : Code) (ls : Array Slot) (E : gE) (sz : Nat), gC p s m meth c y.cls cc n ret (.ref (ad 50 0 0) :: av).toArray V → sz = s.heap.size → rfW V (gAd ad E sz) s.heap ad E S s.heap [] → lv_has ls n (lv_args 0 (.ref (ad 50 0 0) :: av)) →
      W p l e rm s m (.ref (ad 50 0 0) :: av).toArray below meth c s.heap [] 0 0 (MQ below (gQi (rPi post V ad E) V ad E sz) (.ref (ad 50 0 0) :: av).toArray s rm.cells rm.slots (gAd ad E sz)) (F0 m 0 ls [])) : rMi l y cc n ret rm av V ad S post :=
  fun E hO sz => g_of hy hn (fun p e s m below meth c ls hC hz hG hl => body p e s m below meth c ls E sz hC hz ⟨E, hG, hO, rfX.rf⟩ hl)
theorem rMl.of {l : Launch} {y : MethodName} {cc : ByteArray} {n : Nat} {ret : Option FieldType} {rm : Room} {av : List Value} {V : gV} {ad : gA} {S : rS} {post : Int64 → rS → Prop} (hy : plainName y.cls = true) (hn : (lg_sl (.ref (ad 50 0 0) :: av)).length ≤ n)
    (body : ∀ (p : Program) (e : Env) (s : State) (m : MethodId) (below : List Frame) (meth : Method) (c : Code) (ls : Array Slot) (E : gE) (sz : Nat), gC p s m meth c y.cls cc n ret (.ref (ad 50 0 0) :: av).toArray V → sz = s.heap.size → rfW V (gAd ad E sz) s.heap ad E S s.heap [] → lv_has ls n (lv_args 0 (.ref (ad 50 0 0) :: av)) →
      W p l e rm s m (.ref (ad 50 0 0) :: av).toArray below meth c s.heap [] 0 0 (MQ below (gQl (rPl post V ad E) V ad E sz) (.ref (ad 50 0 0) :: av).toArray s rm.cells rm.slots (gAd ad E sz)) (F0 m 0 ls [])) : rMl l y cc n ret rm av V ad S post :=
  fun E hO sz => g_of hy hn (fun p e s m below meth c ls hC hz hG hl => body p e s m below meth c ls E sz hC hz ⟨E, hG, hO, rfX.rf⟩ hl)
theorem rMv.of {l : Launch} {y : MethodName} {cc : ByteArray} {n : Nat} {ret : Option FieldType} {rm : Room} {av : List Value} {V : gV} {ad : gA} {S : rS} {post : rS → Prop} (hy : plainName y.cls = true) (hn : (lg_sl (.ref (ad 50 0 0) :: av)).length ≤ n)
    (body : ∀ (p : Program) (e : Env) (s : State) (m : MethodId) (below : List Frame) (meth : Method) (c : Code) (ls : Array Slot) (E : gE) (sz : Nat), gC p s m meth c y.cls cc n ret (.ref (ad 50 0 0) :: av).toArray V → sz = s.heap.size → rfW V (gAd ad E sz) s.heap ad E S s.heap [] → lv_has ls n (lv_args 0 (.ref (ad 50 0 0) :: av)) →
      W p l e rm s m (.ref (ad 50 0 0) :: av).toArray below meth c s.heap [] 0 0 (MQ below (gQv (rPv post V ad E) V ad E sz) (.ref (ad 50 0 0) :: av).toArray s rm.cells rm.slots (gAd ad E sz)) (F0 m 0 ls [])) : rMv l y cc n ret rm av V ad S post :=
  fun E hO sz => g_of hy hn (fun p e s m below meth c ls hC hz hG hl => body p e s m below meth c ls E sz hC hz ⟨E, hG, hO, rfX.rf⟩ hl)
theorem gSi.of {l : Launch} {y : MethodName} {cc : ByteArray} {n : Nat} {ret : Option FieldType} {rm : Room} {av : List Value} {post : Int32 → Prop} (hy : plainName y.cls = true) (hn : (lg_sl av).length ≤ n)
    (body : ∀ (V : gV) (ad : gA) (E : gE) (p : Program) (e : Env) (s : State) (m : MethodId) (below : List Frame) (meth : Method) (c : Code) (ls : Array Slot) (sz : Nat), gC p s m meth c y.cls cc n ret av.toArray V → sz = s.heap.size → gW V (gAd ad E sz) s.heap ad E s.heap [] → lv_has ls n (lv_args 0 av) →
      W p l e rm s m av.toArray below meth c s.heap [] 0 0 (MQ below (gQi (fun r ad' E' => ad' = ad ∧ E' = E ∧ post r) V ad E sz) av.toArray s rm.cells rm.slots (gAd ad E sz)) (F0 m 0 ls [])) : gSi l y cc n ret rm av post :=
  fun V ad E sz => g_of hy hn (fun p e s m below meth c ls hC hz hG hl => body V ad E p e s m below meth c ls sz hC hz hG hl)
