def R_law : String := "TieredMachineLaw"
def lw_P (b : Addr) (xs : List Int32) (args : Array Value) (s : State) : Prop := args = #[.ref b] ∧ s.IntsAt b xs ∧ xs.length ≤ 3584 ∧ (Jvm.Cond.and given_1 narrow_1).before args s = true
def lw_Q (_ : Array Value) (s : State) (o : Outcome) (t : State) : Prop := o = .returned (some (.int 1)) ∧ Framed s o t [] 601024 7293034
def lw_Z (below : List Frame) (a : Array Value) (s : State) : State → Prop := fun t => ∃ o, t.status = .running ∧ Ended t below o ∧ lw_Q a s o t
/-- the law's own end, with 1 on the stack, nothing written that was there before, its room as the claim has it -/
theorem lw_ret {p : Program} {l : Launch} {e : Env} {s : State} {m : MethodId} {below : List Frame} {meth : Method} {c : Code} {b : Nat} (hx : p.tables.exec = Jvm.exec) (hb : c.code = code) (hr : meth.sig.returnType = ret) (hlocks : meth.locks = false) {pc : Nat} {H : Heap} {ls : Array Slot} (hdg : decode code pc = .ok (.ireturn, 1)) : W p l e room_1 s m #[Value.ref b] below meth c H [] 601024 7293034 (lw_Z below #[Value.ref b] s) (F0 m pc ls [.int 1]) := by
  intro T hT X
  obtain ⟨fs, hret, hrun, hended, hW, hframe⟩ := X.leave (v := some (.int 1)) (hlocks := hlocks) (fun h => by rw [hr] at h; cases h)
  have hmeth' : T.vm.method? m = some meth := X.method'
  refine ⟨T.setFrames fs, ?_, .returned (some (.int 1)), hrun, hended, rfl, ⟨_, rfl⟩, hW, hframe⟩
  jvm_step X.here [X.here.top, hx, hb, hdg, hmeth', hr, ret, narrow_b1]
  (try refine ⟨rfl, ?_⟩); (try refine ⟨rfl, ?_⟩)
  first | (intro acts; rw [hret _ acts rfl rfl rfl]) | rw [hret _ _ rfl rfl rfl]
  exact Steps.refl _
/-- what holds at the law's entry: the machine, the code, the tables' words (any of lw_tbl by 'hts w (by decide +kernel)'), the script of L ints xs at the cell b, what the Statement gives of the start (any of its parts by flat_of_before) -/
def lw_At (p : Program) (s : State) (m : MethodId) (meth : Method) (c : Code) (b L : Nat) (xs : Nat → Int32) : Prop :=
  p.tables.exec = Jvm.exec ∧ c.code = code ∧ meth.sig.returnType = ret ∧ c.maxLocals = 8 ∧ s.vm.findClass R_law = some m.cls ∧ (∀ w ∈ lw_tbl, w.before #[Value.ref b] s = true) ∧ va_X b L xs s s.heap ∧ b < s.heap.size ∧ meth.locks = false ∧ (Jvm.Cond.and given_1 narrow_1).before #[Value.ref b] s = true
section LWB
variable {p : Program} {l : Launch} {e : Env} {s : State} {m : MethodId} {below : List Frame} {meth : Method} {c : Code} {H : Heap} {locs : List Loc} {cells slots : Nat}
variable {ls : Array Slot} {V : gV} {b L n : Nat} {xs : Nat → Int32}
theorem lw_m7 (hL : L ≤ 3584) : (nI L - nI 7).toInt = (L : Int) - 7 := by
  by_cases h : 7 ≤ L
  · rw [nI_sub h, nI_toInt (by omega)]
    omega
  · rcases (show L = 0 ∨ L = 1 ∨ L = 2 ∨ L = 3 ∨ L = 4 ∨ L = 5 ∨ L = 6 by omega) with h | h | h | h | h | h | h <;> subst h <;> decide
theorem lw_sw (y : Int32) : (∃ k : Nat, k < 21 ∧ y = nI k) ∨ (y.toInt < 0 ∨ 20 < y.toInt) := by
  by_cases h : y.toInt < 0 ∨ 20 < y.toInt
  · exact Or.inr h
  · have h0 : ¬ y < 0 := fun z => h (Or.inl (by have := Int32.lt_iff_toInt_lt.mp z; have e : (0 : Int32).toInt = 0 := rfl; omega))
    obtain ⟨k, h1, h2⟩ := nI_of h0
    refine Or.inl ⟨k, ?_, h2⟩
    rw [h2, nI_toInt h1] at h
    omega
set_option maxHeartbeats 4000000 in
set_option maxRecDepth 100000 in
theorem lw_case (hC : gC p s m meth c RL cL_law 8 ret #[Value.ref b] V) (hST : l.stackTraces = false) (hX : va_X b L xs s s.heap) (hbl : b < s.heap.size) (hn : n + 7 ≤ L) (hL : L ≤ 3584) (hcl : cells + 8 ≤ 601024) (hsl : slots + 57 ≤ 7293034) {Q : State → Prop} (hI : lwJ V s b n H locs ls) (kk : ∀ (H : Heap) (locs : List Loc) (ls : Array Slot), lwJ V s b (n + 7) H locs ls → W p l e room_1 s m #[Value.ref b] below meth c H locs (cells + 8) (slots + 57) Q (F0 m 23 ls [])) (y : Int32) : W p l e room_1 s m #[Value.ref b] below meth c H locs cells slots Q (F0 m 40 ls [.int y]) := by
  have hx := hC.1
  have hb := hC.2.1
  have K : ∀ (H : Heap) (locs : List Loc) (ls : Array Slot), lwJ V s b n H locs ls → W p l e room_1 s m #[Value.ref b] below meth c H locs (cells + 8) (slots + 57) Q (F0 m 1150 ls []) := by
    rintro H locs ls ⟨ad, E, S, T, nc, nm, g, hG, hO, hR, e60, h52, hV, hl⟩
    refine lv_iinc (v := nI (n + 7)) (lv' := [(4, .int (nI (n + 7))), (0, .ref b), (1, .ref (ad 0 0 0)), (2, .ref (ad 50 0 0)), (3, .ref (ad 60 0 0))]) hx hb dL_law_1150 hl (k := 4) rfl (nI_add n 7) (by decide) rfl (fun ls hl => ?_)
    refine lv_goto (tgt := 23) hx hb dL_law_1153 (by decide) ?_
    exact kk H locs ls ⟨ad, E, S, T, nc, nm, g, hG, hO, hR, e60, h52, hV, lv_sub hl [1, 2, 3, 4, 0] rfl⟩
  rcases lw_sw y with ⟨k, hk, h⟩ | h
  · subst h
    rcases (show k = 0 ∨ k = 1 ∨ k = 2 ∨ k = 3 ∨ k = 4 ∨ k = 5 ∨ k = 6 ∨ k = 7 ∨ k = 8 ∨ k = 9 ∨ k = 10 ∨ k = 11 ∨ k = 12 ∨ k = 13 ∨ k = 14 ∨ k = 15 ∨ k = 16 ∨ k = 17 ∨ k = 18 ∨ k = 19 ∨ k = 20 by omega) with h | h | h | h | h | h | h | h | h | h | h | h | h | h | h | h | h | h | h | h | h
    · subst h
      exact lv_tableIn (tgt := 140) hx hb dL_law_40 (by decide) (by decide) rfl (by decide) (lk_addClass hC hST hX hbl hn hL (by omega) (by omega) hI K)
    · subst h
      exact lv_tableIn (tgt := 196) hx hb dL_law_40 (by decide) (by decide) rfl (by decide) (lk_addMethod hC hST hX hbl hn hL (by omega) (by omega) hI K)
    · subst h
      exact lv_tableIn (tgt := 240) hx hb dL_law_40 (by decide) (by decide) rfl (by decide) (lk_append hC hST hX hbl hn hL (by omega) (by omega) hI K)
    · subst h
      exact lv_tableIn (tgt := 358) hx hb dL_law_40 (by decide) (by decide) rfl (by decide) (lk_implement hC hST hX hbl hn hL (by omega) (by omega) hI K)
    · subst h
      exact lv_tableIn (tgt := 438) hx hb dL_law_40 (by decide) (by decide) rfl (by decide) (lk_understands hC hST hX hbl hn hL (by omega) (by omega) hI K)
    · subst h
      exact lv_tableIn (tgt := 506) hx hb dL_law_40 (by decide) (by decide) rfl (by decide) (lk_setPolicy hC hST hX hbl hn hL (by omega) (by omega) hI K)
    · subst h
      exact lv_tableIn (tgt := 593) hx hb dL_law_40 (by decide) (by decide) rfl (by decide) (lk_forget hC hST hX hbl hn hL (by omega) (by omega) hI K)
    · subst h
      exact lv_tableIn (tgt := 606) hx hb dL_law_40 (by decide) (by decide) rfl (by decide) (lk_run hC hST hX hbl hn hL (by omega) (by omega) hI K)
    · subst h
      exact lv_tableIn (tgt := 686) hx hb dL_law_40 (by decide) (by decide) rfl (by decide) (lk_result hC hST hX hbl hn hL (by omega) (by omega) hI K)
    · subst h
      exact lv_tableIn (tgt := 699) hx hb dL_law_40 (by decide) (by decide) rfl (by decide) (lk_resultClass hC hST hX hbl hn hL (by omega) (by omega) hI K)
    · subst h
      exact lv_tableIn (tgt := 712) hx hb dL_law_40 (by decide) (by decide) rfl (by decide) (lk_error hC hST hX hbl hn hL (by omega) (by omega) hI K)
    · subst h
      exact lv_tableIn (tgt := 725) hx hb dL_law_40 (by decide) (by decide) rfl (by decide) (lk_cost hC hST hX hbl hn hL (by omega) (by omega) hI K)
    · subst h
      exact lv_tableIn (tgt := 739) hx hb dL_law_40 (by decide) (by decide) rfl (by decide) (lk_steps hC hST hX hbl hn hL (by omega) (by omega) hI K)
    · subst h
      exact lv_tableIn (tgt := 752) hx hb dL_law_40 (by decide) (by decide) rfl (by decide) (lk_depth hC hST hX hbl hn hL (by omega) (by omega) hI K)
    · subst h
      exact lv_tableIn (tgt := 765) hx hb dL_law_40 (by decide) (by decide) rfl (by decide) (lk_total hC hST hX hbl hn hL (by omega) (by omega) hI K)
    · subst h
      exact lv_tableIn (tgt := 820) hx hb dL_law_40 (by decide) (by decide) rfl (by decide) (lk_tier hC hST hX hbl hn hL (by omega) (by omega) hI K)
    · subst h
      exact lv_tableIn (tgt := 876) hx hb dL_law_40 (by decide) (by decide) rfl (by decide) (lk_heat hC hST hX hbl hn hL (by omega) (by omega) hI K)
    · subst h
      exact lv_tableIn (tgt := 932) hx hb dL_law_40 (by decide) (by decide) rfl (by decide) (lk_disappointments hC hST hX hbl hn hL (by omega) (by omega) hI K)
    · subst h
      exact lv_tableIn (tgt := 988) hx hb dL_law_40 (by decide) (by decide) rfl (by decide) (lk_met hC hST hX hbl hn hL (by omega) (by omega) hI K)
    · subst h
      exact lv_tableIn (tgt := 1056) hx hb dL_law_40 (by decide) (by decide) rfl (by decide) (lk_metClass hC hST hX hbl hn hL (by omega) (by omega) hI K)
    · subst h
      exact lv_tableIn (tgt := 1136) hx hb dL_law_40 (by decide) (by decide) rfl (by decide) (lk_digest hC hST hX hbl hn hL (by omega) (by omega) hI K)
  · exact lv_tableOut (tgt := 1150) hx hb dL_law_40 h (by decide) (W.widen (by omega) (by omega) (K H locs ls hI))
theorem lw_loop (hC : gC p s m meth c RL cL_law 8 ret #[Value.ref b] V) (hST : l.stackTraces = false) (hX : va_X b L xs s s.heap) (hbl : b < s.heap.size) (hL : L ≤ 3584) (hcl : cells + 4096 ≤ 601024) (hsl : slots + 29184 ≤ 7293034) (hI : lwJ V s b 0 H locs ls) : W p l e room_1 s m #[Value.ref b] below meth c H locs cells slots (lw_Z below #[Value.ref b] s) (F0 m 23 ls []) := by
  have hx := hC.1
  have hb := hC.2.1
  refine g_loopC (T := Nat) (fun x H locs ls => x ≤ 512 ∧ lwJ V s b (7 * x) H locs ls) (fun x => cells + 8 * x) (fun x => slots + 57 * x) (fun x => 513 - x) (fun x ih H locs ls hI => ?_) 0 ⟨by omega, hI⟩ (by omega) (by omega)
  obtain ⟨hx5, hI⟩ := hI
  obtain ⟨ad, E, S, T, nc, nm, g, hG, hO, hR, e60, h52, hV, hl⟩ := hI
  have hbA : ¬ s.heap.size ≤ b := by omega
  refine lv_iload hx hb dL_law_23 (lv_at hl 4 rfl) ?_
  refine lv_aload_n hx hb dL_law_25 rfl (lv_at hl 0 rfl) ?_
  refine va_slen (A := fun q => s.heap.size ≤ q) hx hb hX hbl hbA hG.2.2.2.2 dL_law_26 ?_
  refine lv_bipush (v := nI 7) hx hb dL_law_27 (by decide) ?_
  refine lv_isub hx hb dL_law_29 ?_
  refine lv_icmp_gt (tgt := 1156) hx hb dL_law_30 (by decide) (fun _ => ?_) (fun z => ?_)
  · refine va_forget (fun q hq => hG.2.2.2.2.2.2 q hq) ?_
    refine lv_iconst (v := 1) hx hb dL_law_1156 (by decide) ?_
    exact W.widen (by omega) (by omega) (lw_ret hx hb hC.2.2.2.2.2.1 hC.2.2.2.2.2.2.1 dL_law_1157)
  · have z7 : 7 * x + 7 ≤ L := by
      have z2 : ¬ (nI L - nI 7).toInt < (nI (7 * x)).toInt := fun h => z (Int32.lt_iff_toInt_lt.mpr h)
      rw [lw_m7 hL, nI_toInt (by omega)] at z2
      omega
    refine lv_aload_n hx hb dL_law_33 rfl (lv_at hl 0 rfl) ?_
    refine lv_iload hx hb dL_law_34 (lv_at hl 4 rfl) ?_
    refine va_sld (A := fun q => s.heap.size ≤ q) hx hb hX hbl hbA hG.2.2.2.2 (vp_in_nI (by omega) (by omega)) dL_law_36 ?_
    refine lv_bipush (v := 31) hx hb dL_law_37 (by decide) ?_
    refine lv_iand hx hb dL_law_39 ?_
    refine lw_case hC hST hX hbl z7 hL (by omega) (by omega) ⟨ad, E, S, T, nc, nm, g, hG, hO, hR, e60, h52, hV, hl⟩ (fun H locs ls hJ => ?_) _
    exact ih (x + 1) (by omega) H locs ls ⟨by omega, hJ⟩
end LWB
