/-! The law's own walk. -/
section LWA
variable {p : Program} {l : Launch} {e : Env} {s : State} {m : MethodId} {below : List Frame} {meth : Method} {c : Code} {H : Heap} {locs : List Loc} {cells slots : Nat} {Q : State → Prop} {R : Room} {args : Array Value}
variable {cc : ByteArray} {pc : Nat} {ls : Array Slot} {rest : List Value} {V : gV} {b L n : Nat} {xs : Nat → Int32} {A : Nat → Prop} {H0 : Heap}
theorem lv_lcmpE (hexec : p.tables.exec = Jvm.exec) (hb : c.code = cc) {x y : Int64} (h : x = y) (hdg : decode cc pc = .ok (.lcmp, 1)) (k : W p l e R s m args below meth c H locs cells slots Q (F0 m (pc + 1) ls (.int 0 :: rest))) : W p l e R s m args below meth c H locs cells slots Q (F0 m pc ls (.long y :: .long x :: rest)) := by
  subst h
  intro T hT X
  obtain ⟨t, a, b⟩ := k T hT X
  refine ⟨t, ?_, b⟩
  jvm_step X.here [X.here.top, hexec, hb, hdg]
  exact a
theorem lw_sld (hx : p.tables.exec = Jvm.exec) (hb : c.code = cc) (hX : va_X b L xs s H0) (hbl : b < H0.size) (hbA : ¬ A b) (hS : va_S A H0 H locs) {k : Nat} (hk : n + k < L) (hL : L ≤ 3584) (hdg : decode cc pc = .ok (.iaload, 1)) (kk : W p l e R s m args below meth c H locs cells slots Q (F0 m (pc + 1) ls (.int (xs (n + k)) :: rest))) : W p l e R s m args below meth c H locs cells slots Q (F0 m pc ls (.int (nI n + nI k) :: .ref b :: rest)) := by
  rw [nI_add]
  refine va_sld hx hb hX hbl hbA hS (vp_in_nI (by omega) (by omega)) hdg ?_
  rw [nI_clamp (by omega)]
  exact kk
/-- between two calls of the law: the class at T, the reference at S, the row 'out' -/
def lwJ (V : gV) (s : State) (b n : Nat) (H : Heap) (locs : List Loc) (ls : Array Slot) : Prop := ∃ (ad : gA) (E : gE) (S T : rS) (nc nm : Nat) (g : Nat → Int64), gW V (fun q => s.heap.size ≤ q) s.heap ad E H locs ∧ cmOK V ad T E ∧ rfOK V ad S E ∧ E 60 0 0 = some (gOut V g) ∧ (∀ i j, E 52 i j = none) ∧ Inv S T nc nm ∧ lv_has ls 8 [(0, .ref b), (1, .ref (ad 0 0 0)), (2, .ref (ad 50 0 0)), (3, .ref (ad 60 0 0)), (4, .int (nI n))]
theorem dn_L_addClass : (yL_addClass).cls ≠ "java/lang/invoke/MethodHandle" ∧ (yL_addClass).cls ≠ "java/lang/invoke/VarHandle" ∧ (parseMethodDescriptor (yL_addClass).desc).map (fun d => d.parameters.length) = some 3 := by decide +kernel
theorem dn_L_addMethod : (yL_addMethod).cls ≠ "java/lang/invoke/MethodHandle" ∧ (yL_addMethod).cls ≠ "java/lang/invoke/VarHandle" ∧ (parseMethodDescriptor (yL_addMethod).desc).map (fun d => d.parameters.length) = some 2 := by decide +kernel
theorem dn_L_append : (yL_append).cls ≠ "java/lang/invoke/MethodHandle" ∧ (yL_append).cls ≠ "java/lang/invoke/VarHandle" ∧ (parseMethodDescriptor (yL_append).desc).map (fun d => d.parameters.length) = some 8 := by decide +kernel
theorem dn_L_implement : (yL_implement).cls ≠ "java/lang/invoke/MethodHandle" ∧ (yL_implement).cls ≠ "java/lang/invoke/VarHandle" ∧ (parseMethodDescriptor (yL_implement).desc).map (fun d => d.parameters.length) = some 5 := by decide +kernel
theorem dn_L_understands : (yL_understands).cls ≠ "java/lang/invoke/MethodHandle" ∧ (yL_understands).cls ≠ "java/lang/invoke/VarHandle" ∧ (parseMethodDescriptor (yL_understands).desc).map (fun d => d.parameters.length) = some 4 := by decide +kernel
theorem dn_L_setPolicy : (yL_setPolicy).cls ≠ "java/lang/invoke/MethodHandle" ∧ (yL_setPolicy).cls ≠ "java/lang/invoke/VarHandle" ∧ (parseMethodDescriptor (yL_setPolicy).desc).map (fun d => d.parameters.length) = some 5 := by decide +kernel
theorem dn_L_run : (yL_run).cls ≠ "java/lang/invoke/MethodHandle" ∧ (yL_run).cls ≠ "java/lang/invoke/VarHandle" ∧ (parseMethodDescriptor (yL_run).desc).map (fun d => d.parameters.length) = some 5 := by decide +kernel
theorem dn_L_total : (yL_total).cls ≠ "java/lang/invoke/MethodHandle" ∧ (yL_total).cls ≠ "java/lang/invoke/VarHandle" ∧ (parseMethodDescriptor (yL_total).desc).map (fun d => d.parameters.length) = some 3 := by decide +kernel
theorem dn_L_tier : (yL_tier).cls ≠ "java/lang/invoke/MethodHandle" ∧ (yL_tier).cls ≠ "java/lang/invoke/VarHandle" ∧ (parseMethodDescriptor (yL_tier).desc).map (fun d => d.parameters.length) = some 3 := by decide +kernel
theorem dn_L_heat : (yL_heat).cls ≠ "java/lang/invoke/MethodHandle" ∧ (yL_heat).cls ≠ "java/lang/invoke/VarHandle" ∧ (parseMethodDescriptor (yL_heat).desc).map (fun d => d.parameters.length) = some 3 := by decide +kernel
theorem dn_L_disappointments : (yL_disappointments).cls ≠ "java/lang/invoke/MethodHandle" ∧ (yL_disappointments).cls ≠ "java/lang/invoke/VarHandle" ∧ (parseMethodDescriptor (yL_disappointments).desc).map (fun d => d.parameters.length) = some 3 := by decide +kernel
theorem dn_L_met : (yL_met).cls ≠ "java/lang/invoke/MethodHandle" ∧ (yL_met).cls ≠ "java/lang/invoke/VarHandle" ∧ (parseMethodDescriptor (yL_met).desc).map (fun d => d.parameters.length) = some 4 := by decide +kernel
theorem dn_L_metClass : (yL_metClass).cls ≠ "java/lang/invoke/MethodHandle" ∧ (yL_metClass).cls ≠ "java/lang/invoke/VarHandle" ∧ (parseMethodDescriptor (yL_metClass).desc).map (fun d => d.parameters.length) = some 5 := by decide +kernel
set_option maxHeartbeats 4000000 in
set_option maxRecDepth 100000 in
theorem lk_addClass (hC : gC p s m meth c RL cL_law 8 ret #[Value.ref b] V) (hST : l.stackTraces = false) (hX : va_X b L xs s s.heap) (hbl : b < s.heap.size) (hn : n + 7 ≤ L) (hL : L ≤ 3584) (hcl : cells + 8 ≤ 601024) (hsl : slots + 57 ≤ 7293034) (hI : lwJ V s b n H locs ls) (kk : ∀ (H : Heap) (locs : List Loc) (ls : Array Slot), lwJ V s b n H locs ls → W p l e room_1 s m #[Value.ref b] below meth c H locs (cells + 8) (slots + 57) Q (F0 m 1150 ls [])) : W p l e room_1 s m #[Value.ref b] below meth c H locs cells slots Q (F0 m 140 ls []) := by
  obtain ⟨ad, E, S, T, nc, nm, g, hG, hO, hR, e60, h52, hV, hl⟩ := hI
  have hx := hC.1
  have hb := hC.2.1
  refine lv_aload_n hx hb dL_law_140 rfl (lv_at hl 1 rfl) ?_
  refine lv_aload_n hx hb dL_law_141 rfl (lv_at hl 0 rfl) ?_
  refine lv_iload hx hb dL_law_142 (lv_at hl 4 rfl) ?_
  refine lv_iconst (v := nI 1) hx hb dL_law_144 (by decide) ?_
  refine lv_iadd hx hb dL_law_145 ?_
  refine lw_sld hx hb hX hbl (by show ¬ s.heap.size ≤ b; omega) hG.2.2.2.2 (k := 1) (by omega) hL dL_law_146 ?_
  refine lv_aload_n hx hb dL_law_147 rfl (lv_at hl 3 rfl) ?_
  refine gc_Sh hC hG (hh_addClass l hST V ad E S T nc nm hV hO g e60 (xs (n + 1))) km_RL_65 kst_yL_addClass kz_RL kd_yL_addClass dn_L_addClass rfl hl.1 ⟨by decide, by decide⟩ (Nat.le_of_ble_eq_true rfl) ⟨by show cells + 6 ≤ (601024 : Nat); omega, by show slots + 41 ≤ (7293034 : Nat); omega⟩ dL_law_148 (fun k_ ad1 E1 H locs p_ hG hgr => ?_)
  refine lv_istore (lv' := [(5, .int k_), (0, .ref b), (1, .ref (ad 0 0 0)), (2, .ref (ad 50 0 0)), (3, .ref (ad 60 0 0)), (4, .int (nI n))]) hx hb dL_law_151 hl (by decide) rfl (fun ls hl => ?_)
  obtain ⟨fr, a0, a60, T1, g1, hO1, e61, hq⟩ := p_
  have a50 := (fr 50 0 0 (by omega)).2
  have hl : lv_has ls 8 [(5, .int k_), (0, .ref b), (1, .ref (ad1 0 0 0)), (2, .ref (ad1 50 0 0)), (3, .ref (ad1 60 0 0)), (4, .int (nI n))] := by rw [a0, a50, a60]; exact hl
  have hR1 : rfOK V ad1 S E1 := rf_ext (fun k i j h => fr k i j (by omega)) hR
  have h52 : ∀ i j, E1 52 i j = none := fun i j => (fr 52 i j (by omega)).1.trans (h52 i j)
  refine lv_aload_n hx hb dL_law_153 rfl (lv_at hl 3 rfl) ?_
  refine lv_aload_n hx hb dL_law_154 rfl (lv_at hl 1 rfl) ?_
  refine lv_iload hx hb dL_law_155 (lv_at hl 5 rfl) ?_
  refine lv_iconst (v := nI 1) hx hb dL_law_157 (by decide) ?_
  refine lv_iadd hx hb dL_law_158 ?_
  refine lw_sld hx hb hX hbl (by show ¬ s.heap.size ≤ b; omega) hG.2.2.2.2 (k := 1) (by omega) hL dL_law_159 ?_
  refine gc_Vi hC hG (hR1).1 rfl (c6_addClass l V ad1 S nc nm hV.1 (xs (n + 1)) E1 hR1) km_RL_70 kn_yX6_addClass ks_yX6_addClass kz_RX6 kd_yX6_addClass dn_X6_addClass rfl hl.1 ⟨by decide, by decide⟩ (Nat.le_of_ble_eq_true rfl) ⟨by show cells + 6 + 0 ≤ (601024 : Nat); omega, by show slots + 41 + 0 ≤ (7293034 : Nat); omega⟩ dL_law_160 (fun r_ ad9 E9 H locs q_ hG hgr => ?_)
  obtain ⟨h1, hX1, S1, hR2, hr, hS⟩ := q_
  have hq : hP r_ S1 k_ (g1 0) T1 := by rw [hr, hS]; exact hq
  rw [h1] at hG
  have hO2 : cmOK V ad1 T1 E9 := cm_ext (fun k i j h => hX1 k i j (by omega) (by omega)) hO1
  have e62 : E9 60 0 0 = some (gOut V g1) := (hX1 60 0 0 (by decide) (by decide)).trans e61
  have h52 : ∀ i j, E9 52 i j = none := fun i j => (hX1 52 i j (by decide) (by decide)).trans (h52 i j)
  clear h1 hX1 hgr
  refine lv_istore (lv' := [(6, .int r_), (5, .int k_), (0, .ref b), (1, .ref (ad1 0 0 0)), (2, .ref (ad1 50 0 0)), (3, .ref (ad1 60 0 0)), (4, .int (nI n))]) hx hb dL_law_163 hl (by decide) rfl (fun ls hl => ?_)
  refine lv_aload_n hx hb dL_law_165 rfl (lv_at hl 4 rfl) ?_
  refine gc_Vi hC hG hR2.1 rfl (c6_thrown l V ad1 S1 E9 hR2) km_RL_71 kn_yX6_thrown ks_yX6_thrown kz_RX6 kd_yX6_thrown dn_X6_thrown rfl hl.1 ⟨by decide, by decide⟩ (Nat.le_of_ble_eq_true rfl) ⟨by show cells + 6 + 0 + 0 ≤ (601024 : Nat); omega, by show slots + 41 + 0 + 0 ≤ (7293034 : Nat); omega⟩ dL_law_166 (fun t_ ad8 E8 H locs q_ hG hgr => ?_)
  obtain ⟨h1, hX1, S2, hR3, ht, hS2⟩ := q_
  rw [h1] at hG
  have hO3 : cmOK V ad1 T1 E8 := cm_ext (fun k i j h => hX1 k i j (by omega) (by omega)) hO2
  have e63 : E8 60 0 0 = some (gOut V g1) := (hX1 60 0 0 (by decide) (by decide)).trans e62
  have h52 : ∀ i j, E8 52 i j = none := fun i j => (hX1 52 i j (by decide) (by decide)).trans (h52 i j)
  obtain ⟨⟨nc1, nm1, hV1⟩, hk, hv⟩ := hq
  rw [hS2] at hR3
  refine lv_iload hx hb dL_law_169 (lv_at hl 1 rfl) ?_
  refine lv_icmp_eq (tgt := 176) hx hb dL_law_171 (by decide) (fun _ => ?_) (fun z => absurd (ht.trans hk.symm) z)
  refine lv_iload hx hb dL_law_176 (lv_at hl 1 rfl) ?_
  have K : W p l e room_1 s m #[Value.ref b] below meth c H locs (cells + 6 + 0 + 0) (slots + 41 + 0 + 0) Q (F0 m 193 ls []) := lv_goto (tgt := 1150) hx hb dL_law_193 (by decide) (W.widen (by omega) (by omega) (kk H locs ls ⟨ad1, E8, S1, T1, nc1, nm1, g1, hG, hO3, hR3, e63, h52, hV1, lv_sub hl [2, 3, 4, 5, 6] rfl⟩))
  refine lv_if_ne (tgt := 193) hx hb dL_law_178 (by decide) (fun _ => K) (fun k0 => ?_)
  refine lv_aload_n hx hb dL_law_181 rfl (lv_at hl 5 rfl) ?_
  refine lv_iconst (v := nI 0) hx hb dL_law_182 (by decide) ?_
  refine gq_lald hC hG e63 (vp_in_nI (n := 0) (by decide) (by decide)) dL_law_183 ?_
  refine gq_topl (g1 0) (congrArg g1 (nI_clamp (by decide))) ?_
  refine lv_iload hx hb dL_law_184 (lv_at hl 0 rfl) ?_
  refine lv_i2l hx hb dL_law_186 rfl ?_
  refine lv_lcmpE hx hb (hv k0) dL_law_187 ?_
  exact lv_if_eq (tgt := 193) hx hb dL_law_188 (by decide) (fun _ => K) (fun z => absurd rfl z)
set_option maxHeartbeats 4000000 in
set_option maxRecDepth 100000 in
theorem lk_addMethod (hC : gC p s m meth c RL cL_law 8 ret #[Value.ref b] V) (hST : l.stackTraces = false) (hX : va_X b L xs s s.heap) (hbl : b < s.heap.size) (hn : n + 7 ≤ L) (hL : L ≤ 3584) (hcl : cells + 8 ≤ 601024) (hsl : slots + 57 ≤ 7293034) (hI : lwJ V s b n H locs ls) (kk : ∀ (H : Heap) (locs : List Loc) (ls : Array Slot), lwJ V s b n H locs ls → W p l e room_1 s m #[Value.ref b] below meth c H locs (cells + 8) (slots + 57) Q (F0 m 1150 ls [])) : W p l e room_1 s m #[Value.ref b] below meth c H locs cells slots Q (F0 m 196 ls []) := by
  obtain ⟨ad, E, S, T, nc, nm, g, hG, hO, hR, e60, h52, hV, hl⟩ := hI
  have hx := hC.1
  have hb := hC.2.1
  refine lv_aload_n hx hb dL_law_196 rfl (lv_at hl 1 rfl) ?_
  refine lv_aload_n hx hb dL_law_197 rfl (lv_at hl 3 rfl) ?_
  refine gc_Sh hC hG (hh_addMethod l hST V ad E S T nc nm hV hO g e60) km_RL_74 kst_yL_addMethod kz_RL kd_yL_addMethod dn_L_addMethod rfl hl.1 ⟨by decide, by decide⟩ (Nat.le_of_ble_eq_true rfl) ⟨by show cells + 6 ≤ (601024 : Nat); omega, by show slots + 41 ≤ (7293034 : Nat); omega⟩ dL_law_198 (fun k_ ad1 E1 H locs p_ hG hgr => ?_)
  refine lv_istore (lv' := [(5, .int k_), (0, .ref b), (1, .ref (ad 0 0 0)), (2, .ref (ad 50 0 0)), (3, .ref (ad 60 0 0)), (4, .int (nI n))]) hx hb dL_law_201 hl (by decide) rfl (fun ls hl => ?_)
  obtain ⟨fr, a0, a60, T1, g1, hO1, e61, hq⟩ := p_
  have a50 := (fr 50 0 0 (by omega)).2
  have hl : lv_has ls 8 [(5, .int k_), (0, .ref b), (1, .ref (ad1 0 0 0)), (2, .ref (ad1 50 0 0)), (3, .ref (ad1 60 0 0)), (4, .int (nI n))] := by rw [a0, a50, a60]; exact hl
  have hR1 : rfOK V ad1 S E1 := rf_ext (fun k i j h => fr k i j (by omega)) hR
  have h52 : ∀ i j, E1 52 i j = none := fun i j => (fr 52 i j (by omega)).1.trans (h52 i j)
  refine lv_aload_n hx hb dL_law_203 rfl (lv_at hl 3 rfl) ?_
  refine gc_Vi hC hG (hR1).1 rfl (c6_addMethod l V ad1 S nc nm hV.1 E1 hR1) km_RL_77 kn_yX6_addMethod ks_yX6_addMethod kz_RX6 kd_yX6_addMethod dn_X6_addMethod rfl hl.1 ⟨by decide, by decide⟩ (Nat.le_of_ble_eq_true rfl) ⟨by show cells + 6 + 0 ≤ (601024 : Nat); omega, by show slots + 41 + 0 ≤ (7293034 : Nat); omega⟩ dL_law_204 (fun r_ ad9 E9 H locs q_ hG hgr => ?_)
  obtain ⟨h1, hX1, S1, hR2, hr, hS⟩ := q_
  have hq : hP r_ S1 k_ (g1 0) T1 := by rw [hr, hS]; exact hq
  rw [h1] at hG
  have hO2 : cmOK V ad1 T1 E9 := cm_ext (fun k i j h => hX1 k i j (by omega) (by omega)) hO1
  have e62 : E9 60 0 0 = some (gOut V g1) := (hX1 60 0 0 (by decide) (by decide)).trans e61
  have h52 : ∀ i j, E9 52 i j = none := fun i j => (hX1 52 i j (by decide) (by decide)).trans (h52 i j)
  clear h1 hX1 hgr
  refine lv_istore (lv' := [(6, .int r_), (5, .int k_), (0, .ref b), (1, .ref (ad1 0 0 0)), (2, .ref (ad1 50 0 0)), (3, .ref (ad1 60 0 0)), (4, .int (nI n))]) hx hb dL_law_207 hl (by decide) rfl (fun ls hl => ?_)
  refine lv_aload_n hx hb dL_law_209 rfl (lv_at hl 4 rfl) ?_
  refine gc_Vi hC hG hR2.1 rfl (c6_thrown l V ad1 S1 E9 hR2) km_RL_71 kn_yX6_thrown ks_yX6_thrown kz_RX6 kd_yX6_thrown dn_X6_thrown rfl hl.1 ⟨by decide, by decide⟩ (Nat.le_of_ble_eq_true rfl) ⟨by show cells + 6 + 0 + 0 ≤ (601024 : Nat); omega, by show slots + 41 + 0 + 0 ≤ (7293034 : Nat); omega⟩ dL_law_210 (fun t_ ad8 E8 H locs q_ hG hgr => ?_)
  obtain ⟨h1, hX1, S2, hR3, ht, hS2⟩ := q_
  rw [h1] at hG
  have hO3 : cmOK V ad1 T1 E8 := cm_ext (fun k i j h => hX1 k i j (by omega) (by omega)) hO2
  have e63 : E8 60 0 0 = some (gOut V g1) := (hX1 60 0 0 (by decide) (by decide)).trans e62
  have h52 : ∀ i j, E8 52 i j = none := fun i j => (hX1 52 i j (by decide) (by decide)).trans (h52 i j)
  obtain ⟨⟨nc1, nm1, hV1⟩, hk, hv⟩ := hq
  rw [hS2] at hR3
  refine lv_iload hx hb dL_law_213 (lv_at hl 1 rfl) ?_
  refine lv_icmp_eq (tgt := 220) hx hb dL_law_215 (by decide) (fun _ => ?_) (fun z => absurd (ht.trans hk.symm) z)
  refine lv_iload hx hb dL_law_220 (lv_at hl 1 rfl) ?_
  have K : W p l e room_1 s m #[Value.ref b] below meth c H locs (cells + 6 + 0 + 0) (slots + 41 + 0 + 0) Q (F0 m 237 ls []) := lv_goto (tgt := 1150) hx hb dL_law_237 (by decide) (W.widen (by omega) (by omega) (kk H locs ls ⟨ad1, E8, S1, T1, nc1, nm1, g1, hG, hO3, hR3, e63, h52, hV1, lv_sub hl [2, 3, 4, 5, 6] rfl⟩))
  refine lv_if_ne (tgt := 237) hx hb dL_law_222 (by decide) (fun _ => K) (fun k0 => ?_)
  refine lv_aload_n hx hb dL_law_225 rfl (lv_at hl 5 rfl) ?_
  refine lv_iconst (v := nI 0) hx hb dL_law_226 (by decide) ?_
  refine gq_lald hC hG e63 (vp_in_nI (n := 0) (by decide) (by decide)) dL_law_227 ?_
  refine gq_topl (g1 0) (congrArg g1 (nI_clamp (by decide))) ?_
  refine lv_iload hx hb dL_law_228 (lv_at hl 0 rfl) ?_
  refine lv_i2l hx hb dL_law_230 rfl ?_
  refine lv_lcmpE hx hb (hv k0) dL_law_231 ?_
  exact lv_if_eq (tgt := 237) hx hb dL_law_232 (by decide) (fun _ => K) (fun z => absurd rfl z)
set_option maxHeartbeats 4000000 in
set_option maxRecDepth 100000 in
theorem lk_append (hC : gC p s m meth c RL cL_law 8 ret #[Value.ref b] V) (hST : l.stackTraces = false) (hX : va_X b L xs s s.heap) (hbl : b < s.heap.size) (hn : n + 7 ≤ L) (hL : L ≤ 3584) (hcl : cells + 8 ≤ 601024) (hsl : slots + 57 ≤ 7293034) (hI : lwJ V s b n H locs ls) (kk : ∀ (H : Heap) (locs : List Loc) (ls : Array Slot), lwJ V s b n H locs ls → W p l e room_1 s m #[Value.ref b] below meth c H locs (cells + 8) (slots + 57) Q (F0 m 1150 ls [])) : W p l e room_1 s m #[Value.ref b] below meth c H locs cells slots Q (F0 m 240 ls []) := by
  obtain ⟨ad, E, S, T, nc, nm, g, hG, hO, hR, e60, h52, hV, hl⟩ := hI
  have hx := hC.1
  have hb := hC.2.1
  refine lv_aload_n hx hb dL_law_240 rfl (lv_at hl 1 rfl) ?_
  refine lv_aload_n hx hb dL_law_241 rfl (lv_at hl 0 rfl) ?_
  refine lv_iload hx hb dL_law_242 (lv_at hl 4 rfl) ?_
  refine lv_iconst (v := nI 1) hx hb dL_law_244 (by decide) ?_
  refine lv_iadd hx hb dL_law_245 ?_
  refine lw_sld hx hb hX hbl (by show ¬ s.heap.size ≤ b; omega) hG.2.2.2.2 (k := 1) (by omega) hL dL_law_246 ?_
  refine lv_aload_n hx hb dL_law_247 rfl (lv_at hl 0 rfl) ?_
  refine lv_iload hx hb dL_law_248 (lv_at hl 4 rfl) ?_
  refine lv_iconst (v := nI 2) hx hb dL_law_250 (by decide) ?_
  refine lv_iadd hx hb dL_law_251 ?_
  refine lw_sld hx hb hX hbl (by show ¬ s.heap.size ≤ b; omega) hG.2.2.2.2 (k := 2) (by omega) hL dL_law_252 ?_
  refine lv_aload_n hx hb dL_law_253 rfl (lv_at hl 0 rfl) ?_
  refine lv_iload hx hb dL_law_254 (lv_at hl 4 rfl) ?_
  refine lv_iconst (v := nI 3) hx hb dL_law_256 (by decide) ?_
  refine lv_iadd hx hb dL_law_257 ?_
  refine lw_sld hx hb hX hbl (by show ¬ s.heap.size ≤ b; omega) hG.2.2.2.2 (k := 3) (by omega) hL dL_law_258 ?_
  refine lv_aload_n hx hb dL_law_259 rfl (lv_at hl 0 rfl) ?_
  refine lv_iload hx hb dL_law_260 (lv_at hl 4 rfl) ?_
  refine lv_iconst (v := nI 4) hx hb dL_law_262 (by decide) ?_
  refine lv_iadd hx hb dL_law_263 ?_
  refine lw_sld hx hb hX hbl (by show ¬ s.heap.size ≤ b; omega) hG.2.2.2.2 (k := 4) (by omega) hL dL_law_264 ?_
  refine lv_aload_n hx hb dL_law_265 rfl (lv_at hl 0 rfl) ?_
  refine lv_iload hx hb dL_law_266 (lv_at hl 4 rfl) ?_
  refine lv_iconst (v := nI 5) hx hb dL_law_268 (by decide) ?_
  refine lv_iadd hx hb dL_law_269 ?_
  refine lw_sld hx hb hX hbl (by show ¬ s.heap.size ≤ b; omega) hG.2.2.2.2 (k := 5) (by omega) hL dL_law_270 ?_
  refine lv_aload_n hx hb dL_law_271 rfl (lv_at hl 0 rfl) ?_
  refine lv_iload hx hb dL_law_272 (lv_at hl 4 rfl) ?_
  refine lv_bipush (v := nI 6) hx hb dL_law_274 (by decide) ?_
  refine lv_iadd hx hb dL_law_276 ?_
  refine lw_sld hx hb hX hbl (by show ¬ s.heap.size ≤ b; omega) hG.2.2.2.2 (k := 6) (by omega) hL dL_law_277 ?_
  refine lv_aload_n hx hb dL_law_278 rfl (lv_at hl 3 rfl) ?_
  refine gc_Sh hC hG (hh_append l hST V ad E S T nc nm hV hO g e60 (xs (n + 1)) (xs (n + 2)) (xs (n + 3)) (xs (n + 4)) (xs (n + 5)) (xs (n + 6))) km_RL_78 kst_yL_append kz_RL kd_yL_append dn_L_append rfl hl.1 ⟨by decide, by decide⟩ (Nat.le_of_ble_eq_true rfl) ⟨by show cells + 6 ≤ (601024 : Nat); omega, by show slots + 41 ≤ (7293034 : Nat); omega⟩ dL_law_279 (fun k_ ad1 E1 H locs p_ hG hgr => ?_)
  refine lv_istore (lv' := [(5, .int k_), (0, .ref b), (1, .ref (ad 0 0 0)), (2, .ref (ad 50 0 0)), (3, .ref (ad 60 0 0)), (4, .int (nI n))]) hx hb dL_law_282 hl (by decide) rfl (fun ls hl => ?_)
  obtain ⟨fr, a0, a60, T1, g1, hO1, e61, hq⟩ := p_
  have a50 := (fr 50 0 0 (by omega)).2
  have hl : lv_has ls 8 [(5, .int k_), (0, .ref b), (1, .ref (ad1 0 0 0)), (2, .ref (ad1 50 0 0)), (3, .ref (ad1 60 0 0)), (4, .int (nI n))] := by rw [a0, a50, a60]; exact hl
  have hR1 : rfOK V ad1 S E1 := rf_ext (fun k i j h => fr k i j (by omega)) hR
  have h52 : ∀ i j, E1 52 i j = none := fun i j => (fr 52 i j (by omega)).1.trans (h52 i j)
  refine lv_aload_n hx hb dL_law_284 rfl (lv_at hl 3 rfl) ?_
  refine lv_aload_n hx hb dL_law_285 rfl (lv_at hl 1 rfl) ?_
  refine lv_iload hx hb dL_law_286 (lv_at hl 5 rfl) ?_
  refine lv_iconst (v := nI 1) hx hb dL_law_288 (by decide) ?_
  refine lv_iadd hx hb dL_law_289 ?_
  refine lw_sld hx hb hX hbl (by show ¬ s.heap.size ≤ b; omega) hG.2.2.2.2 (k := 1) (by omega) hL dL_law_290 ?_
  refine lv_aload_n hx hb dL_law_291 rfl (lv_at hl 1 rfl) ?_
  refine lv_iload hx hb dL_law_292 (lv_at hl 5 rfl) ?_
  refine lv_iconst (v := nI 2) hx hb dL_law_294 (by decide) ?_
  refine lv_iadd hx hb dL_law_295 ?_
  refine lw_sld hx hb hX hbl (by show ¬ s.heap.size ≤ b; omega) hG.2.2.2.2 (k := 2) (by omega) hL dL_law_296 ?_
  refine lv_aload_n hx hb dL_law_297 rfl (lv_at hl 1 rfl) ?_
  refine lv_iload hx hb dL_law_298 (lv_at hl 5 rfl) ?_
  refine lv_iconst (v := nI 3) hx hb dL_law_300 (by decide) ?_
  refine lv_iadd hx hb dL_law_301 ?_
  refine lw_sld hx hb hX hbl (by show ¬ s.heap.size ≤ b; omega) hG.2.2.2.2 (k := 3) (by omega) hL dL_law_302 ?_
  refine lv_aload_n hx hb dL_law_303 rfl (lv_at hl 1 rfl) ?_
  refine lv_iload hx hb dL_law_304 (lv_at hl 5 rfl) ?_
  refine lv_iconst (v := nI 4) hx hb dL_law_306 (by decide) ?_
  refine lv_iadd hx hb dL_law_307 ?_
  refine lw_sld hx hb hX hbl (by show ¬ s.heap.size ≤ b; omega) hG.2.2.2.2 (k := 4) (by omega) hL dL_law_308 ?_
  refine lv_aload_n hx hb dL_law_309 rfl (lv_at hl 1 rfl) ?_
  refine lv_iload hx hb dL_law_310 (lv_at hl 5 rfl) ?_
  refine lv_iconst (v := nI 5) hx hb dL_law_312 (by decide) ?_
  refine lv_iadd hx hb dL_law_313 ?_
  refine lw_sld hx hb hX hbl (by show ¬ s.heap.size ≤ b; omega) hG.2.2.2.2 (k := 5) (by omega) hL dL_law_314 ?_
  refine lv_aload_n hx hb dL_law_315 rfl (lv_at hl 1 rfl) ?_
  refine lv_iload hx hb dL_law_316 (lv_at hl 5 rfl) ?_
  refine lv_bipush (v := nI 6) hx hb dL_law_318 (by decide) ?_
  refine lv_iadd hx hb dL_law_320 ?_
  refine lw_sld hx hb hX hbl (by show ¬ s.heap.size ≤ b; omega) hG.2.2.2.2 (k := 6) (by omega) hL dL_law_321 ?_
  refine gc_Vi hC hG (hR1).1 rfl (c6_append l V ad1 S nc nm hV.1 (xs (n + 1)) (xs (n + 2)) (xs (n + 3)) (xs (n + 4)) (xs (n + 5)) (xs (n + 6)) E1 hR1) km_RL_81 kn_yX6_append ks_yX6_append kz_RX6 kd_yX6_append dn_X6_append rfl hl.1 ⟨by decide, by decide⟩ (Nat.le_of_ble_eq_true rfl) ⟨by show cells + 6 + 0 ≤ (601024 : Nat); omega, by show slots + 41 + 0 ≤ (7293034 : Nat); omega⟩ dL_law_322 (fun r_ ad9 E9 H locs q_ hG hgr => ?_)
  obtain ⟨h1, hX1, S1, hR2, hr, hS⟩ := q_
  have hq : hP r_ S1 k_ (g1 0) T1 := by rw [hr, hS]; exact hq
  rw [h1] at hG
  have hO2 : cmOK V ad1 T1 E9 := cm_ext (fun k i j h => hX1 k i j (by omega) (by omega)) hO1
  have e62 : E9 60 0 0 = some (gOut V g1) := (hX1 60 0 0 (by decide) (by decide)).trans e61
  have h52 : ∀ i j, E9 52 i j = none := fun i j => (hX1 52 i j (by decide) (by decide)).trans (h52 i j)
  clear h1 hX1 hgr
  refine lv_istore (lv' := [(6, .int r_), (5, .int k_), (0, .ref b), (1, .ref (ad1 0 0 0)), (2, .ref (ad1 50 0 0)), (3, .ref (ad1 60 0 0)), (4, .int (nI n))]) hx hb dL_law_325 hl (by decide) rfl (fun ls hl => ?_)
  refine lv_aload_n hx hb dL_law_327 rfl (lv_at hl 4 rfl) ?_
  refine gc_Vi hC hG hR2.1 rfl (c6_thrown l V ad1 S1 E9 hR2) km_RL_71 kn_yX6_thrown ks_yX6_thrown kz_RX6 kd_yX6_thrown dn_X6_thrown rfl hl.1 ⟨by decide, by decide⟩ (Nat.le_of_ble_eq_true rfl) ⟨by show cells + 6 + 0 + 0 ≤ (601024 : Nat); omega, by show slots + 41 + 0 + 0 ≤ (7293034 : Nat); omega⟩ dL_law_328 (fun t_ ad8 E8 H locs q_ hG hgr => ?_)
  obtain ⟨h1, hX1, S2, hR3, ht, hS2⟩ := q_
  rw [h1] at hG
  have hO3 : cmOK V ad1 T1 E8 := cm_ext (fun k i j h => hX1 k i j (by omega) (by omega)) hO2
  have e63 : E8 60 0 0 = some (gOut V g1) := (hX1 60 0 0 (by decide) (by decide)).trans e62
  have h52 : ∀ i j, E8 52 i j = none := fun i j => (hX1 52 i j (by decide) (by decide)).trans (h52 i j)
  obtain ⟨⟨nc1, nm1, hV1⟩, hk, hv⟩ := hq
  rw [hS2] at hR3
  refine lv_iload hx hb dL_law_331 (lv_at hl 1 rfl) ?_
  refine lv_icmp_eq (tgt := 338) hx hb dL_law_333 (by decide) (fun _ => ?_) (fun z => absurd (ht.trans hk.symm) z)
  refine lv_iload hx hb dL_law_338 (lv_at hl 1 rfl) ?_
  have K : W p l e room_1 s m #[Value.ref b] below meth c H locs (cells + 6 + 0 + 0) (slots + 41 + 0 + 0) Q (F0 m 355 ls []) := lv_goto (tgt := 1150) hx hb dL_law_355 (by decide) (W.widen (by omega) (by omega) (kk H locs ls ⟨ad1, E8, S1, T1, nc1, nm1, g1, hG, hO3, hR3, e63, h52, hV1, lv_sub hl [2, 3, 4, 5, 6] rfl⟩))
  refine lv_if_ne (tgt := 355) hx hb dL_law_340 (by decide) (fun _ => K) (fun k0 => ?_)
  refine lv_aload_n hx hb dL_law_343 rfl (lv_at hl 5 rfl) ?_
  refine lv_iconst (v := nI 0) hx hb dL_law_344 (by decide) ?_
  refine gq_lald hC hG e63 (vp_in_nI (n := 0) (by decide) (by decide)) dL_law_345 ?_
  refine gq_topl (g1 0) (congrArg g1 (nI_clamp (by decide))) ?_
  refine lv_iload hx hb dL_law_346 (lv_at hl 0 rfl) ?_
  refine lv_i2l hx hb dL_law_348 rfl ?_
  refine lv_lcmpE hx hb (hv k0) dL_law_349 ?_
  exact lv_if_eq (tgt := 355) hx hb dL_law_350 (by decide) (fun _ => K) (fun z => absurd rfl z)
set_option maxHeartbeats 4000000 in
set_option maxRecDepth 100000 in
theorem lk_implement (hC : gC p s m meth c RL cL_law 8 ret #[Value.ref b] V) (hST : l.stackTraces = false) (hX : va_X b L xs s s.heap) (hbl : b < s.heap.size) (hn : n + 7 ≤ L) (hL : L ≤ 3584) (hcl : cells + 8 ≤ 601024) (hsl : slots + 57 ≤ 7293034) (hI : lwJ V s b n H locs ls) (kk : ∀ (H : Heap) (locs : List Loc) (ls : Array Slot), lwJ V s b n H locs ls → W p l e room_1 s m #[Value.ref b] below meth c H locs (cells + 8) (slots + 57) Q (F0 m 1150 ls [])) : W p l e room_1 s m #[Value.ref b] below meth c H locs cells slots Q (F0 m 358 ls []) := by
  obtain ⟨ad, E, S, T, nc, nm, g, hG, hO, hR, e60, h52, hV, hl⟩ := hI
  have hx := hC.1
  have hb := hC.2.1
  refine lv_aload_n hx hb dL_law_358 rfl (lv_at hl 1 rfl) ?_
  refine lv_aload_n hx hb dL_law_359 rfl (lv_at hl 0 rfl) ?_
  refine lv_iload hx hb dL_law_360 (lv_at hl 4 rfl) ?_
  refine lv_iconst (v := nI 1) hx hb dL_law_362 (by decide) ?_
  refine lv_iadd hx hb dL_law_363 ?_
  refine lw_sld hx hb hX hbl (by show ¬ s.heap.size ≤ b; omega) hG.2.2.2.2 (k := 1) (by omega) hL dL_law_364 ?_
  refine lv_aload_n hx hb dL_law_365 rfl (lv_at hl 0 rfl) ?_
  refine lv_iload hx hb dL_law_366 (lv_at hl 4 rfl) ?_
  refine lv_iconst (v := nI 2) hx hb dL_law_368 (by decide) ?_
  refine lv_iadd hx hb dL_law_369 ?_
  refine lw_sld hx hb hX hbl (by show ¬ s.heap.size ≤ b; omega) hG.2.2.2.2 (k := 2) (by omega) hL dL_law_370 ?_
  refine lv_aload_n hx hb dL_law_371 rfl (lv_at hl 0 rfl) ?_
  refine lv_iload hx hb dL_law_372 (lv_at hl 4 rfl) ?_
  refine lv_iconst (v := nI 3) hx hb dL_law_374 (by decide) ?_
  refine lv_iadd hx hb dL_law_375 ?_
  refine lw_sld hx hb hX hbl (by show ¬ s.heap.size ≤ b; omega) hG.2.2.2.2 (k := 3) (by omega) hL dL_law_376 ?_
  refine lv_aload_n hx hb dL_law_377 rfl (lv_at hl 3 rfl) ?_
  refine gc_Sh hC hG (hh_implement l hST V ad E S T nc nm hV hO g e60 (xs (n + 1)) (xs (n + 2)) (xs (n + 3))) km_RL_82 kst_yL_implement kz_RL kd_yL_implement dn_L_implement rfl hl.1 ⟨by decide, by decide⟩ (Nat.le_of_ble_eq_true rfl) ⟨by show cells + 6 ≤ (601024 : Nat); omega, by show slots + 41 ≤ (7293034 : Nat); omega⟩ dL_law_378 (fun k_ ad1 E1 H locs p_ hG hgr => ?_)
  refine lv_istore (lv' := [(5, .int k_), (0, .ref b), (1, .ref (ad 0 0 0)), (2, .ref (ad 50 0 0)), (3, .ref (ad 60 0 0)), (4, .int (nI n))]) hx hb dL_law_381 hl (by decide) rfl (fun ls hl => ?_)
  obtain ⟨fr, a0, a60, T1, g1, hO1, e61, hq⟩ := p_
  have a50 := (fr 50 0 0 (by omega)).2
  have hl : lv_has ls 8 [(5, .int k_), (0, .ref b), (1, .ref (ad1 0 0 0)), (2, .ref (ad1 50 0 0)), (3, .ref (ad1 60 0 0)), (4, .int (nI n))] := by rw [a0, a50, a60]; exact hl
  have hR1 : rfOK V ad1 S E1 := rf_ext (fun k i j h => fr k i j (by omega)) hR
  have h52 : ∀ i j, E1 52 i j = none := fun i j => (fr 52 i j (by omega)).1.trans (h52 i j)
  refine lv_aload_n hx hb dL_law_383 rfl (lv_at hl 3 rfl) ?_
  refine lv_aload_n hx hb dL_law_384 rfl (lv_at hl 1 rfl) ?_
  refine lv_iload hx hb dL_law_385 (lv_at hl 5 rfl) ?_
  refine lv_iconst (v := nI 1) hx hb dL_law_387 (by decide) ?_
  refine lv_iadd hx hb dL_law_388 ?_
  refine lw_sld hx hb hX hbl (by show ¬ s.heap.size ≤ b; omega) hG.2.2.2.2 (k := 1) (by omega) hL dL_law_389 ?_
  refine lv_aload_n hx hb dL_law_390 rfl (lv_at hl 1 rfl) ?_
  refine lv_iload hx hb dL_law_391 (lv_at hl 5 rfl) ?_
  refine lv_iconst (v := nI 2) hx hb dL_law_393 (by decide) ?_
  refine lv_iadd hx hb dL_law_394 ?_
  refine lw_sld hx hb hX hbl (by show ¬ s.heap.size ≤ b; omega) hG.2.2.2.2 (k := 2) (by omega) hL dL_law_395 ?_
  refine lv_aload_n hx hb dL_law_396 rfl (lv_at hl 1 rfl) ?_
  refine lv_iload hx hb dL_law_397 (lv_at hl 5 rfl) ?_
  refine lv_iconst (v := nI 3) hx hb dL_law_399 (by decide) ?_
  refine lv_iadd hx hb dL_law_400 ?_
  refine lw_sld hx hb hX hbl (by show ¬ s.heap.size ≤ b; omega) hG.2.2.2.2 (k := 3) (by omega) hL dL_law_401 ?_
  refine gc_Vi hC hG (hR1).1 rfl (c6_implement l V ad1 S nc nm hV.1 (xs (n + 1)) (xs (n + 2)) (xs (n + 3)) E1 hR1 h52) km_RL_85 kn_yX6_implement ks_yX6_implement kz_RX6 kd_yX6_implement dn_X6_implement rfl hl.1 ⟨by decide, by decide⟩ (Nat.le_of_ble_eq_true rfl) ⟨by show cells + 6 + 2 ≤ (601024 : Nat); omega, by show slots + 41 + 16 ≤ (7293034 : Nat); omega⟩ dL_law_402 (fun r_ ad9 E9 H locs q_ hG hgr => ?_)
  obtain ⟨h1, hX1, S1, hR2, hr, hS⟩ := q_
  have hq : hP r_ S1 k_ (g1 0) T1 := by rw [hr, hS]; exact hq
  rw [h1] at hG
  have hO2 : cmOK V ad1 T1 E9 := cm_ext (fun k i j h => hX1 k i j (by omega) (by omega)) hO1
  have e62 : E9 60 0 0 = some (gOut V g1) := (hX1 60 0 0 (by decide) (by decide)).trans e61
  have h52 : ∀ i j, E9 52 i j = none := fun i j => (hX1 52 i j (by decide) (by decide)).trans (h52 i j)
  clear h1 hX1 hgr
  refine lv_istore (lv' := [(6, .int r_), (5, .int k_), (0, .ref b), (1, .ref (ad1 0 0 0)), (2, .ref (ad1 50 0 0)), (3, .ref (ad1 60 0 0)), (4, .int (nI n))]) hx hb dL_law_405 hl (by decide) rfl (fun ls hl => ?_)
  refine lv_aload_n hx hb dL_law_407 rfl (lv_at hl 4 rfl) ?_
  refine gc_Vi hC hG hR2.1 rfl (c6_thrown l V ad1 S1 E9 hR2) km_RL_71 kn_yX6_thrown ks_yX6_thrown kz_RX6 kd_yX6_thrown dn_X6_thrown rfl hl.1 ⟨by decide, by decide⟩ (Nat.le_of_ble_eq_true rfl) ⟨by show cells + 6 + 2 + 0 ≤ (601024 : Nat); omega, by show slots + 41 + 16 + 0 ≤ (7293034 : Nat); omega⟩ dL_law_408 (fun t_ ad8 E8 H locs q_ hG hgr => ?_)
  obtain ⟨h1, hX1, S2, hR3, ht, hS2⟩ := q_
  rw [h1] at hG
  have hO3 : cmOK V ad1 T1 E8 := cm_ext (fun k i j h => hX1 k i j (by omega) (by omega)) hO2
  have e63 : E8 60 0 0 = some (gOut V g1) := (hX1 60 0 0 (by decide) (by decide)).trans e62
  have h52 : ∀ i j, E8 52 i j = none := fun i j => (hX1 52 i j (by decide) (by decide)).trans (h52 i j)
  obtain ⟨⟨nc1, nm1, hV1⟩, hk, hv⟩ := hq
  rw [hS2] at hR3
  refine lv_iload hx hb dL_law_411 (lv_at hl 1 rfl) ?_
  refine lv_icmp_eq (tgt := 418) hx hb dL_law_413 (by decide) (fun _ => ?_) (fun z => absurd (ht.trans hk.symm) z)
  refine lv_iload hx hb dL_law_418 (lv_at hl 1 rfl) ?_
  have K : W p l e room_1 s m #[Value.ref b] below meth c H locs (cells + 6 + 2 + 0) (slots + 41 + 16 + 0) Q (F0 m 435 ls []) := lv_goto (tgt := 1150) hx hb dL_law_435 (by decide) (W.widen (by omega) (by omega) (kk H locs ls ⟨ad1, E8, S1, T1, nc1, nm1, g1, hG, hO3, hR3, e63, h52, hV1, lv_sub hl [2, 3, 4, 5, 6] rfl⟩))
  refine lv_if_ne (tgt := 435) hx hb dL_law_420 (by decide) (fun _ => K) (fun k0 => ?_)
  refine lv_aload_n hx hb dL_law_423 rfl (lv_at hl 5 rfl) ?_
  refine lv_iconst (v := nI 0) hx hb dL_law_424 (by decide) ?_
  refine gq_lald hC hG e63 (vp_in_nI (n := 0) (by decide) (by decide)) dL_law_425 ?_
  refine gq_topl (g1 0) (congrArg g1 (nI_clamp (by decide))) ?_
  refine lv_iload hx hb dL_law_426 (lv_at hl 0 rfl) ?_
  refine lv_i2l hx hb dL_law_428 rfl ?_
  refine lv_lcmpE hx hb (hv k0) dL_law_429 ?_
  exact lv_if_eq (tgt := 435) hx hb dL_law_430 (by decide) (fun _ => K) (fun z => absurd rfl z)
set_option maxHeartbeats 4000000 in
set_option maxRecDepth 100000 in
theorem lk_understands (hC : gC p s m meth c RL cL_law 8 ret #[Value.ref b] V) (hST : l.stackTraces = false) (hX : va_X b L xs s s.heap) (hbl : b < s.heap.size) (hn : n + 7 ≤ L) (hL : L ≤ 3584) (hcl : cells + 8 ≤ 601024) (hsl : slots + 57 ≤ 7293034) (hI : lwJ V s b n H locs ls) (kk : ∀ (H : Heap) (locs : List Loc) (ls : Array Slot), lwJ V s b n H locs ls → W p l e room_1 s m #[Value.ref b] below meth c H locs (cells + 8) (slots + 57) Q (F0 m 1150 ls [])) : W p l e room_1 s m #[Value.ref b] below meth c H locs cells slots Q (F0 m 438 ls []) := by
  obtain ⟨ad, E, S, T, nc, nm, g, hG, hO, hR, e60, h52, hV, hl⟩ := hI
  have hx := hC.1
  have hb := hC.2.1
  refine lv_aload_n hx hb dL_law_438 rfl (lv_at hl 1 rfl) ?_
  refine lv_aload_n hx hb dL_law_439 rfl (lv_at hl 0 rfl) ?_
  refine lv_iload hx hb dL_law_440 (lv_at hl 4 rfl) ?_
  refine lv_iconst (v := nI 1) hx hb dL_law_442 (by decide) ?_
  refine lv_iadd hx hb dL_law_443 ?_
  refine lw_sld hx hb hX hbl (by show ¬ s.heap.size ≤ b; omega) hG.2.2.2.2 (k := 1) (by omega) hL dL_law_444 ?_
  refine lv_aload_n hx hb dL_law_445 rfl (lv_at hl 0 rfl) ?_
  refine lv_iload hx hb dL_law_446 (lv_at hl 4 rfl) ?_
  refine lv_iconst (v := nI 2) hx hb dL_law_448 (by decide) ?_
  refine lv_iadd hx hb dL_law_449 ?_
  refine lw_sld hx hb hX hbl (by show ¬ s.heap.size ≤ b; omega) hG.2.2.2.2 (k := 2) (by omega) hL dL_law_450 ?_
  refine lv_aload_n hx hb dL_law_451 rfl (lv_at hl 3 rfl) ?_
  refine gc_Sh hC hG (hh_understands l hST V ad E S T nc nm hV hO g e60 (xs (n + 1)) (xs (n + 2))) km_RL_86 kst_yL_understands kz_RL kd_yL_understands dn_L_understands rfl hl.1 ⟨by decide, by decide⟩ (Nat.le_of_ble_eq_true rfl) ⟨by show cells + 6 ≤ (601024 : Nat); omega, by show slots + 41 ≤ (7293034 : Nat); omega⟩ dL_law_452 (fun k_ ad1 E1 H locs p_ hG hgr => ?_)
  refine lv_istore (lv' := [(5, .int k_), (0, .ref b), (1, .ref (ad 0 0 0)), (2, .ref (ad 50 0 0)), (3, .ref (ad 60 0 0)), (4, .int (nI n))]) hx hb dL_law_455 hl (by decide) rfl (fun ls hl => ?_)
  obtain ⟨fr, a0, a60, T1, g1, hO1, e61, hq⟩ := p_
  have a50 := (fr 50 0 0 (by omega)).2
  have hl : lv_has ls 8 [(5, .int k_), (0, .ref b), (1, .ref (ad1 0 0 0)), (2, .ref (ad1 50 0 0)), (3, .ref (ad1 60 0 0)), (4, .int (nI n))] := by rw [a0, a50, a60]; exact hl
  have hR1 : rfOK V ad1 S E1 := rf_ext (fun k i j h => fr k i j (by omega)) hR
  have h52 : ∀ i j, E1 52 i j = none := fun i j => (fr 52 i j (by omega)).1.trans (h52 i j)
  refine lv_aload_n hx hb dL_law_457 rfl (lv_at hl 3 rfl) ?_
  refine lv_aload_n hx hb dL_law_458 rfl (lv_at hl 1 rfl) ?_
  refine lv_iload hx hb dL_law_459 (lv_at hl 5 rfl) ?_
  refine lv_iconst (v := nI 1) hx hb dL_law_461 (by decide) ?_
  refine lv_iadd hx hb dL_law_462 ?_
  refine lw_sld hx hb hX hbl (by show ¬ s.heap.size ≤ b; omega) hG.2.2.2.2 (k := 1) (by omega) hL dL_law_463 ?_
  refine lv_aload_n hx hb dL_law_464 rfl (lv_at hl 1 rfl) ?_
  refine lv_iload hx hb dL_law_465 (lv_at hl 5 rfl) ?_
  refine lv_iconst (v := nI 2) hx hb dL_law_467 (by decide) ?_
  refine lv_iadd hx hb dL_law_468 ?_
  refine lw_sld hx hb hX hbl (by show ¬ s.heap.size ≤ b; omega) hG.2.2.2.2 (k := 2) (by omega) hL dL_law_469 ?_
  refine gc_Vi hC hG (hR1).1 rfl (c6_understands l V ad1 S nc nm hV.1 (xs (n + 1)) (xs (n + 2)) E1 hR1) km_RL_89 kn_yX6_understands ks_yX6_understands kz_RX6 kd_yX6_understands dn_X6_understands rfl hl.1 ⟨by decide, by decide⟩ (Nat.le_of_ble_eq_true rfl) ⟨by show cells + 6 + 0 ≤ (601024 : Nat); omega, by show slots + 41 + 0 ≤ (7293034 : Nat); omega⟩ dL_law_470 (fun r_ ad9 E9 H locs q_ hG hgr => ?_)
  obtain ⟨h1, hX1, S1, hR2, hr, hS⟩ := q_
  have hq : hP r_ S1 k_ (g1 0) T1 := by rw [hr, hS]; exact hq
  rw [h1] at hG
  have hO2 : cmOK V ad1 T1 E9 := cm_ext (fun k i j h => hX1 k i j (by omega) (by omega)) hO1
  have e62 : E9 60 0 0 = some (gOut V g1) := (hX1 60 0 0 (by decide) (by decide)).trans e61
  have h52 : ∀ i j, E9 52 i j = none := fun i j => (hX1 52 i j (by decide) (by decide)).trans (h52 i j)
  clear h1 hX1 hgr
  refine lv_istore (lv' := [(6, .int r_), (5, .int k_), (0, .ref b), (1, .ref (ad1 0 0 0)), (2, .ref (ad1 50 0 0)), (3, .ref (ad1 60 0 0)), (4, .int (nI n))]) hx hb dL_law_473 hl (by decide) rfl (fun ls hl => ?_)
  refine lv_aload_n hx hb dL_law_475 rfl (lv_at hl 4 rfl) ?_
  refine gc_Vi hC hG hR2.1 rfl (c6_thrown l V ad1 S1 E9 hR2) km_RL_71 kn_yX6_thrown ks_yX6_thrown kz_RX6 kd_yX6_thrown dn_X6_thrown rfl hl.1 ⟨by decide, by decide⟩ (Nat.le_of_ble_eq_true rfl) ⟨by show cells + 6 + 0 + 0 ≤ (601024 : Nat); omega, by show slots + 41 + 0 + 0 ≤ (7293034 : Nat); omega⟩ dL_law_476 (fun t_ ad8 E8 H locs q_ hG hgr => ?_)
  obtain ⟨h1, hX1, S2, hR3, ht, hS2⟩ := q_
  rw [h1] at hG
  have hO3 : cmOK V ad1 T1 E8 := cm_ext (fun k i j h => hX1 k i j (by omega) (by omega)) hO2
  have e63 : E8 60 0 0 = some (gOut V g1) := (hX1 60 0 0 (by decide) (by decide)).trans e62
  have h52 : ∀ i j, E8 52 i j = none := fun i j => (hX1 52 i j (by decide) (by decide)).trans (h52 i j)
  obtain ⟨⟨nc1, nm1, hV1⟩, hk, hv⟩ := hq
  rw [hS2] at hR3
  refine lv_iload hx hb dL_law_479 (lv_at hl 1 rfl) ?_
  refine lv_icmp_eq (tgt := 486) hx hb dL_law_481 (by decide) (fun _ => ?_) (fun z => absurd (ht.trans hk.symm) z)
  refine lv_iload hx hb dL_law_486 (lv_at hl 1 rfl) ?_
  have K : W p l e room_1 s m #[Value.ref b] below meth c H locs (cells + 6 + 0 + 0) (slots + 41 + 0 + 0) Q (F0 m 503 ls []) := lv_goto (tgt := 1150) hx hb dL_law_503 (by decide) (W.widen (by omega) (by omega) (kk H locs ls ⟨ad1, E8, S1, T1, nc1, nm1, g1, hG, hO3, hR3, e63, h52, hV1, lv_sub hl [2, 3, 4, 5, 6] rfl⟩))
  refine lv_if_ne (tgt := 503) hx hb dL_law_488 (by decide) (fun _ => K) (fun k0 => ?_)
  refine lv_aload_n hx hb dL_law_491 rfl (lv_at hl 5 rfl) ?_
  refine lv_iconst (v := nI 0) hx hb dL_law_492 (by decide) ?_
  refine gq_lald hC hG e63 (vp_in_nI (n := 0) (by decide) (by decide)) dL_law_493 ?_
  refine gq_topl (g1 0) (congrArg g1 (nI_clamp (by decide))) ?_
  refine lv_iload hx hb dL_law_494 (lv_at hl 0 rfl) ?_
  refine lv_i2l hx hb dL_law_496 rfl ?_
  refine lv_lcmpE hx hb (hv k0) dL_law_497 ?_
  exact lv_if_eq (tgt := 503) hx hb dL_law_498 (by decide) (fun _ => K) (fun z => absurd rfl z)
set_option maxHeartbeats 4000000 in
set_option maxRecDepth 100000 in
theorem lk_setPolicy (hC : gC p s m meth c RL cL_law 8 ret #[Value.ref b] V) (hST : l.stackTraces = false) (hX : va_X b L xs s s.heap) (hbl : b < s.heap.size) (hn : n + 7 ≤ L) (hL : L ≤ 3584) (hcl : cells + 8 ≤ 601024) (hsl : slots + 57 ≤ 7293034) (hI : lwJ V s b n H locs ls) (kk : ∀ (H : Heap) (locs : List Loc) (ls : Array Slot), lwJ V s b n H locs ls → W p l e room_1 s m #[Value.ref b] below meth c H locs (cells + 8) (slots + 57) Q (F0 m 1150 ls [])) : W p l e room_1 s m #[Value.ref b] below meth c H locs cells slots Q (F0 m 506 ls []) := by
  obtain ⟨ad, E, S, T, nc, nm, g, hG, hO, hR, e60, h52, hV, hl⟩ := hI
  have hx := hC.1
  have hb := hC.2.1
  refine lv_aload_n hx hb dL_law_506 rfl (lv_at hl 1 rfl) ?_
  refine lv_aload_n hx hb dL_law_507 rfl (lv_at hl 0 rfl) ?_
  refine lv_iload hx hb dL_law_508 (lv_at hl 4 rfl) ?_
  refine lv_iconst (v := nI 1) hx hb dL_law_510 (by decide) ?_
  refine lv_iadd hx hb dL_law_511 ?_
  refine lw_sld hx hb hX hbl (by show ¬ s.heap.size ≤ b; omega) hG.2.2.2.2 (k := 1) (by omega) hL dL_law_512 ?_
  refine lv_aload_n hx hb dL_law_513 rfl (lv_at hl 0 rfl) ?_
  refine lv_iload hx hb dL_law_514 (lv_at hl 4 rfl) ?_
  refine lv_iconst (v := nI 2) hx hb dL_law_516 (by decide) ?_
  refine lv_iadd hx hb dL_law_517 ?_
  refine lw_sld hx hb hX hbl (by show ¬ s.heap.size ≤ b; omega) hG.2.2.2.2 (k := 2) (by omega) hL dL_law_518 ?_
  refine lv_aload_n hx hb dL_law_519 rfl (lv_at hl 0 rfl) ?_
  refine lv_iload hx hb dL_law_520 (lv_at hl 4 rfl) ?_
  refine lv_iconst (v := nI 3) hx hb dL_law_522 (by decide) ?_
  refine lv_iadd hx hb dL_law_523 ?_
  refine lw_sld hx hb hX hbl (by show ¬ s.heap.size ≤ b; omega) hG.2.2.2.2 (k := 3) (by omega) hL dL_law_524 ?_
  refine lv_aload_n hx hb dL_law_525 rfl (lv_at hl 3 rfl) ?_
  refine gc_Sh hC hG (hh_setPolicy l hST V ad E S T nc nm hV hO g e60 (xs (n + 1)) (xs (n + 2)) (xs (n + 3))) km_RL_90 kst_yL_setPolicy kz_RL kd_yL_setPolicy dn_L_setPolicy rfl hl.1 ⟨by decide, by decide⟩ (Nat.le_of_ble_eq_true rfl) ⟨by show cells + 6 ≤ (601024 : Nat); omega, by show slots + 41 ≤ (7293034 : Nat); omega⟩ dL_law_526 (fun k_ ad1 E1 H locs p_ hG hgr => ?_)
  refine lv_istore (lv' := [(5, .int k_), (0, .ref b), (1, .ref (ad 0 0 0)), (2, .ref (ad 50 0 0)), (3, .ref (ad 60 0 0)), (4, .int (nI n))]) hx hb dL_law_529 hl (by decide) rfl (fun ls hl => ?_)
  obtain ⟨fr, a0, a60, T1, g1, hO1, e61, hq⟩ := p_
  have a50 := (fr 50 0 0 (by omega)).2
  have hl : lv_has ls 8 [(5, .int k_), (0, .ref b), (1, .ref (ad1 0 0 0)), (2, .ref (ad1 50 0 0)), (3, .ref (ad1 60 0 0)), (4, .int (nI n))] := by rw [a0, a50, a60]; exact hl
  have hR1 : rfOK V ad1 S E1 := rf_ext (fun k i j h => fr k i j (by omega)) hR
  have h52 : ∀ i j, E1 52 i j = none := fun i j => (fr 52 i j (by omega)).1.trans (h52 i j)
  refine lv_aload_n hx hb dL_law_531 rfl (lv_at hl 3 rfl) ?_
  refine lv_aload_n hx hb dL_law_532 rfl (lv_at hl 1 rfl) ?_
  refine lv_iload hx hb dL_law_533 (lv_at hl 5 rfl) ?_
  refine lv_iconst (v := nI 1) hx hb dL_law_535 (by decide) ?_
  refine lv_iadd hx hb dL_law_536 ?_
  refine lw_sld hx hb hX hbl (by show ¬ s.heap.size ≤ b; omega) hG.2.2.2.2 (k := 1) (by omega) hL dL_law_537 ?_
  refine lv_aload_n hx hb dL_law_538 rfl (lv_at hl 1 rfl) ?_
  refine lv_iload hx hb dL_law_539 (lv_at hl 5 rfl) ?_
  refine lv_iconst (v := nI 2) hx hb dL_law_541 (by decide) ?_
  refine lv_iadd hx hb dL_law_542 ?_
  refine lw_sld hx hb hX hbl (by show ¬ s.heap.size ≤ b; omega) hG.2.2.2.2 (k := 2) (by omega) hL dL_law_543 ?_
  refine lv_aload_n hx hb dL_law_544 rfl (lv_at hl 1 rfl) ?_
  refine lv_iload hx hb dL_law_545 (lv_at hl 5 rfl) ?_
  refine lv_iconst (v := nI 3) hx hb dL_law_547 (by decide) ?_
  refine lv_iadd hx hb dL_law_548 ?_
  refine lw_sld hx hb hX hbl (by show ¬ s.heap.size ≤ b; omega) hG.2.2.2.2 (k := 3) (by omega) hL dL_law_549 ?_
  refine gc_Vi hC hG (hR1).1 rfl (c6_setPolicy l V ad1 S (xs (n + 1)) (xs (n + 2)) (xs (n + 3)) E1 hR1) km_RL_92 kn_yX6_setPolicy ks_yX6_setPolicy kz_RX6 kd_yX6_setPolicy dn_X6_setPolicy rfl hl.1 ⟨by decide, by decide⟩ (Nat.le_of_ble_eq_true rfl) ⟨by show cells + 6 + 0 ≤ (601024 : Nat); omega, by show slots + 41 + 0 ≤ (7293034 : Nat); omega⟩ dL_law_550 (fun r_ ad9 E9 H locs q_ hG hgr => ?_)
  obtain ⟨h1, hX1, S1, hR2, hr, hS⟩ := q_
  have hq : hPz r_ S1 k_ (g1 0) T1 := by rw [hr, hS]; exact hq
  rw [h1] at hG
  have hO2 : cmOK V ad1 T1 E9 := cm_ext (fun k i j h => hX1 k i j (by omega) (by omega)) hO1
  have e62 : E9 60 0 0 = some (gOut V g1) := (hX1 60 0 0 (by decide) (by decide)).trans e61
  have h52 : ∀ i j, E9 52 i j = none := fun i j => (hX1 52 i j (by decide) (by decide)).trans (h52 i j)
  clear h1 hX1 hgr
  refine lv_istore (lv' := [(6, .int r_), (5, .int k_), (0, .ref b), (1, .ref (ad1 0 0 0)), (2, .ref (ad1 50 0 0)), (3, .ref (ad1 60 0 0)), (4, .int (nI n))]) hx hb dL_law_553 hl (by decide) rfl (fun ls hl => ?_)
  refine lv_aload_n hx hb dL_law_555 rfl (lv_at hl 4 rfl) ?_
  refine gc_Vi hC hG hR2.1 rfl (c6_thrown l V ad1 S1 E9 hR2) km_RL_71 kn_yX6_thrown ks_yX6_thrown kz_RX6 kd_yX6_thrown dn_X6_thrown rfl hl.1 ⟨by decide, by decide⟩ (Nat.le_of_ble_eq_true rfl) ⟨by show cells + 6 + 0 + 0 ≤ (601024 : Nat); omega, by show slots + 41 + 0 + 0 ≤ (7293034 : Nat); omega⟩ dL_law_556 (fun t_ ad8 E8 H locs q_ hG hgr => ?_)
  obtain ⟨h1, hX1, S2, hR3, ht, hS2⟩ := q_
  rw [h1] at hG
  have hO3 : cmOK V ad1 T1 E8 := cm_ext (fun k i j h => hX1 k i j (by omega) (by omega)) hO2
  have e63 : E8 60 0 0 = some (gOut V g1) := (hX1 60 0 0 (by decide) (by decide)).trans e62
  have h52 : ∀ i j, E8 52 i j = none := fun i j => (hX1 52 i j (by decide) (by decide)).trans (h52 i j)
  obtain ⟨⟨nc1, nm1, hV1⟩, hk, hv⟩ := hq
  rw [hS2] at hR3
  refine lv_iload hx hb dL_law_559 (lv_at hl 1 rfl) ?_
  refine lv_icmp_eq (tgt := 566) hx hb dL_law_561 (by decide) (fun _ => ?_) (fun z => absurd (ht.trans hk.symm) z)
  refine lv_iload hx hb dL_law_566 (lv_at hl 1 rfl) ?_
  have K : W p l e room_1 s m #[Value.ref b] below meth c H locs (cells + 6 + 0 + 0) (slots + 41 + 0 + 0) Q (F0 m 590 ls []) := lv_goto (tgt := 1150) hx hb dL_law_590 (by decide) (W.widen (by omega) (by omega) (kk H locs ls ⟨ad1, E8, S1, T1, nc1, nm1, g1, hG, hO3, hR3, e63, h52, hV1, lv_sub hl [2, 3, 4, 5, 6] rfl⟩))
  refine lv_if_ne (tgt := 590) hx hb dL_law_568 (by decide) (fun _ => K) (fun k0 => ?_)
  refine lv_aload_n hx hb dL_law_571 rfl (lv_at hl 5 rfl) ?_
  refine lv_iconst (v := nI 0) hx hb dL_law_572 (by decide) ?_
  refine gq_lald hC hG e63 (vp_in_nI (n := 0) (by decide) (by decide)) dL_law_573 ?_
  refine gq_topl (g1 0) (congrArg g1 (nI_clamp (by decide))) ?_
  refine lv_iload hx hb dL_law_574 (lv_at hl 0 rfl) ?_
  refine lv_if_eq (tgt := 583) hx hb dL_law_576 (by decide) (fun r0 => ?_) (fun r0 => ?_)
  · refine lv_lconst (v := 0) hx hb dL_law_583 (by decide) ?_
    refine lv_lcmpE hx hb ((hv k0).trans (if_pos r0)) dL_law_584 ?_
    refine lv_if_eq (tgt := 590) hx hb dL_law_585 (by decide) (fun _ => K) (fun z => absurd rfl z)
  · refine lv_lconst (v := 1) hx hb dL_law_579 (by decide) ?_
    refine lv_goto (tgt := 584) hx hb dL_law_580 (by decide) ?_
    refine lv_lcmpE hx hb ((hv k0).trans (if_neg r0)) dL_law_584 ?_
    refine lv_if_eq (tgt := 590) hx hb dL_law_585 (by decide) (fun _ => K) (fun z => absurd rfl z)
set_option maxHeartbeats 4000000 in
set_option maxRecDepth 100000 in
theorem lk_forget (hC : gC p s m meth c RL cL_law 8 ret #[Value.ref b] V) (hST : l.stackTraces = false) (hX : va_X b L xs s s.heap) (hbl : b < s.heap.size) (hn : n + 7 ≤ L) (hL : L ≤ 3584) (hcl : cells + 8 ≤ 601024) (hsl : slots + 57 ≤ 7293034) (hI : lwJ V s b n H locs ls) (kk : ∀ (H : Heap) (locs : List Loc) (ls : Array Slot), lwJ V s b n H locs ls → W p l e room_1 s m #[Value.ref b] below meth c H locs (cells + 8) (slots + 57) Q (F0 m 1150 ls [])) : W p l e room_1 s m #[Value.ref b] below meth c H locs cells slots Q (F0 m 593 ls []) := by
  obtain ⟨ad, E, S, T, nc, nm, g, hG, hO, hR, e60, h52, hV, hl⟩ := hI
  have hx := hC.1
  have hb := hC.2.1
  refine lv_aload_n hx hb dL_law_593 rfl (lv_at hl 1 rfl) ?_
  refine gc_Vi hC hG hO.1 rfl (c5_forget l V ad T nc nm (Inv_T hV) E hO) km_RL_93 kn_yX5_forget ks_yX5_forget kz_RX5 kd_yX5_forget dn_X5_forget rfl hl.1 ⟨by decide, by decide⟩ (Nat.le_of_ble_eq_true rfl) ⟨by show cells + 0 ≤ (601024 : Nat); omega, by show slots + 0 ≤ (7293034 : Nat); omega⟩ dL_law_594 (fun t_ ad1 E1 H locs q_ hG hgr => ?_)
  obtain ⟨h1, hX1, T1, hO1, ht, hT⟩ := q_
  rw [h1] at hG
  have hR1 : rfOK V ad S E1 := rf_ext (fun k i j h => ⟨hX1 k i j (by omega), rfl⟩) hR
  have e61 : E1 60 0 0 = some (gOut V g) := (hX1 60 0 0 (by omega)).trans e60
  have h52 : ∀ i j, E1 52 i j = none := fun i j => (hX1 52 i j (by omega)).trans (h52 i j)
  clear h1 hX1 hgr
  refine lv_aload_n hx hb dL_law_597 rfl (lv_at hl 2 rfl) ?_
  refine gc_Vi hC hG (hR1).1 rfl (c6_forget l V ad S nc nm hV.1 E1 hR1) km_RL_96 kn_yX6_forget ks_yX6_forget kz_RX6 kd_yX6_forget dn_X6_forget rfl hl.1 ⟨by decide, by decide⟩ (Nat.le_of_ble_eq_true rfl) ⟨by show cells + 0 + 0 ≤ (601024 : Nat); omega, by show slots + 0 + 0 ≤ (7293034 : Nat); omega⟩ dL_law_598 (fun r_ ad9 E9 H locs q_ hG hgr => ?_)
  obtain ⟨h1, hX1, S1, hR2, hr, hS⟩ := q_
  rw [h1] at hG
  have hO2 : cmOK V ad T1 E9 := cm_ext (fun k i j h => hX1 k i j (by omega) (by omega)) hO1
  have e62 : E9 60 0 0 = some (gOut V g) := (hX1 60 0 0 (by decide) (by decide)).trans e61
  have h52 : ∀ i j, E9 52 i j = none := fun i j => (hX1 52 i j (by decide) (by decide)).trans (h52 i j)
  have hq : t_ = r_ := by rw [ht, hr]; show nI (s_fc T nm) = nI (s_fc (su S 0 (fun _ => 0)) (tn (S.1 4 0))); rw [hV.1.2.2.1, tn_nI (by have := hV.1.2.2.2.1; omega), fc_er (T := T) (S := su S 0 (fun _ => 0)) (show T.1 10 = S.1 10 from er_f (k := 10) hV.2.2.2.2 (by decide) (by decide) (by decide) (by decide))]
  have hV1 : Inv S1 T1 nc nm := by
    rw [hS, hT]
    show Inv (s_fg (su S 0 (fun _ => 0)) (tn (S.1 4 0))) (s_fg T nm) nc nm
    rw [hV.1.2.2.1, tn_nI (by have := hV.1.2.2.2.1; omega)]
    exact op_fg (Inv_0 _ hV) nm (Nat.le_refl _)
  have K : W p l e room_1 s m #[Value.ref b] below meth c H locs (cells + 0 + 0) (slots + 0 + 0) Q (F0 m 1150 ls []) := W.widen (by omega) (by omega) (kk H locs ls ⟨ad, E9, S1, T1, nc, nm, g, hG, hO2, hR2, e62, h52, hV1, hl⟩)
  exact lv_icmp_eq (tgt := 1150) hx hb dL_law_601 (by decide) (fun _ => K) (fun z => absurd hq z)
set_option maxHeartbeats 4000000 in
set_option maxRecDepth 100000 in
theorem lk_run (hC : gC p s m meth c RL cL_law 8 ret #[Value.ref b] V) (hST : l.stackTraces = false) (hX : va_X b L xs s s.heap) (hbl : b < s.heap.size) (hn : n + 7 ≤ L) (hL : L ≤ 3584) (hcl : cells + 8 ≤ 601024) (hsl : slots + 57 ≤ 7293034) (hI : lwJ V s b n H locs ls) (kk : ∀ (H : Heap) (locs : List Loc) (ls : Array Slot), lwJ V s b n H locs ls → W p l e room_1 s m #[Value.ref b] below meth c H locs (cells + 8) (slots + 57) Q (F0 m 1150 ls [])) : W p l e room_1 s m #[Value.ref b] below meth c H locs cells slots Q (F0 m 606 ls []) := by
  obtain ⟨ad, E, S, T, nc, nm, g, hG, hO, hR, e60, h52, hV, hl⟩ := hI
  have hx := hC.1
  have hb := hC.2.1
  refine lv_aload_n hx hb dL_law_606 rfl (lv_at hl 1 rfl) ?_
  refine lv_aload_n hx hb dL_law_607 rfl (lv_at hl 0 rfl) ?_
  refine lv_iload hx hb dL_law_608 (lv_at hl 4 rfl) ?_
  refine lv_iconst (v := nI 1) hx hb dL_law_610 (by decide) ?_
  refine lv_iadd hx hb dL_law_611 ?_
  refine lw_sld hx hb hX hbl (by show ¬ s.heap.size ≤ b; omega) hG.2.2.2.2 (k := 1) (by omega) hL dL_law_612 ?_
  refine lv_aload_n hx hb dL_law_613 rfl (lv_at hl 0 rfl) ?_
  refine lv_iload hx hb dL_law_614 (lv_at hl 4 rfl) ?_
  refine lv_iconst (v := nI 2) hx hb dL_law_616 (by decide) ?_
  refine lv_iadd hx hb dL_law_617 ?_
  refine lw_sld hx hb hX hbl (by show ¬ s.heap.size ≤ b; omega) hG.2.2.2.2 (k := 2) (by omega) hL dL_law_618 ?_
  refine lv_aload_n hx hb dL_law_619 rfl (lv_at hl 0 rfl) ?_
  refine lv_iload hx hb dL_law_620 (lv_at hl 4 rfl) ?_
  refine lv_iconst (v := nI 3) hx hb dL_law_622 (by decide) ?_
  refine lv_iadd hx hb dL_law_623 ?_
  refine lw_sld hx hb hX hbl (by show ¬ s.heap.size ≤ b; omega) hG.2.2.2.2 (k := 3) (by omega) hL dL_law_624 ?_
  refine lv_aload_n hx hb dL_law_625 rfl (lv_at hl 3 rfl) ?_
  refine gc_Sh hC hG (hh_run l hST V ad E S T nc nm hV hO g e60 (xs (n + 1)) (xs (n + 2)) (xs (n + 3))) km_RL_97 kst_yL_run kz_RL kd_yL_run dn_L_run rfl hl.1 ⟨by decide, by decide⟩ (Nat.le_of_ble_eq_true rfl) ⟨by show cells + 6 ≤ (601024 : Nat); omega, by show slots + 41 ≤ (7293034 : Nat); omega⟩ dL_law_626 (fun k_ ad1 E1 H locs p_ hG hgr => ?_)
  refine lv_istore (lv' := [(5, .int k_), (0, .ref b), (1, .ref (ad 0 0 0)), (2, .ref (ad 50 0 0)), (3, .ref (ad 60 0 0)), (4, .int (nI n))]) hx hb dL_law_629 hl (by decide) rfl (fun ls hl => ?_)
  obtain ⟨fr, a0, a60, T1, g1, hO1, e61, hq⟩ := p_
  have a50 := (fr 50 0 0 (by omega)).2
  have hl : lv_has ls 8 [(5, .int k_), (0, .ref b), (1, .ref (ad1 0 0 0)), (2, .ref (ad1 50 0 0)), (3, .ref (ad1 60 0 0)), (4, .int (nI n))] := by rw [a0, a50, a60]; exact hl
  have hR1 : rfOK V ad1 S E1 := rf_ext (fun k i j h => fr k i j (by omega)) hR
  have h52 : ∀ i j, E1 52 i j = none := fun i j => (fr 52 i j (by omega)).1.trans (h52 i j)
  refine lv_aload_n hx hb dL_law_631 rfl (lv_at hl 3 rfl) ?_
  refine lv_aload_n hx hb dL_law_632 rfl (lv_at hl 1 rfl) ?_
  refine lv_iload hx hb dL_law_633 (lv_at hl 5 rfl) ?_
  refine lv_iconst (v := nI 1) hx hb dL_law_635 (by decide) ?_
  refine lv_iadd hx hb dL_law_636 ?_
  refine lw_sld hx hb hX hbl (by show ¬ s.heap.size ≤ b; omega) hG.2.2.2.2 (k := 1) (by omega) hL dL_law_637 ?_
  refine lv_aload_n hx hb dL_law_638 rfl (lv_at hl 1 rfl) ?_
  refine lv_iload hx hb dL_law_639 (lv_at hl 5 rfl) ?_
  refine lv_iconst (v := nI 2) hx hb dL_law_641 (by decide) ?_
  refine lv_iadd hx hb dL_law_642 ?_
  refine lw_sld hx hb hX hbl (by show ¬ s.heap.size ≤ b; omega) hG.2.2.2.2 (k := 2) (by omega) hL dL_law_643 ?_
  refine lv_aload_n hx hb dL_law_644 rfl (lv_at hl 1 rfl) ?_
  refine lv_iload hx hb dL_law_645 (lv_at hl 5 rfl) ?_
  refine lv_iconst (v := nI 3) hx hb dL_law_647 (by decide) ?_
  refine lv_iadd hx hb dL_law_648 ?_
  refine lw_sld hx hb hX hbl (by show ¬ s.heap.size ≤ b; omega) hG.2.2.2.2 (k := 3) (by omega) hL dL_law_649 ?_
  refine gc_Vi hC hG (hR1).1 rfl (c6_run l V ad1 S nc nm hV.1 (xs (n + 1)) (xs (n + 2)) (xs (n + 3)) E1 hR1) km_RL_99 kn_yX6_run ks_yX6_run kz_RX6 kd_yX6_run dn_X6_run rfl hl.1 ⟨by decide, by decide⟩ (Nat.le_of_ble_eq_true rfl) ⟨by show cells + 6 + 0 ≤ (601024 : Nat); omega, by show slots + 41 + 0 ≤ (7293034 : Nat); omega⟩ dL_law_650 (fun r_ ad9 E9 H locs q_ hG hgr => ?_)
  obtain ⟨h1, hX1, S1, hR2, hr⟩ := q_
  have hq : hP r_ S1 k_ (g1 0) T1 := hq r_ S1 hr
  rw [h1] at hG
  have hO2 : cmOK V ad1 T1 E9 := cm_ext (fun k i j h => hX1 k i j (by omega) (by omega)) hO1
  have e62 : E9 60 0 0 = some (gOut V g1) := (hX1 60 0 0 (by decide) (by decide)).trans e61
  have h52 : ∀ i j, E9 52 i j = none := fun i j => (hX1 52 i j (by decide) (by decide)).trans (h52 i j)
  clear h1 hX1 hgr
  refine lv_istore (lv' := [(6, .int r_), (5, .int k_), (0, .ref b), (1, .ref (ad1 0 0 0)), (2, .ref (ad1 50 0 0)), (3, .ref (ad1 60 0 0)), (4, .int (nI n))]) hx hb dL_law_653 hl (by decide) rfl (fun ls hl => ?_)
  refine lv_aload_n hx hb dL_law_655 rfl (lv_at hl 4 rfl) ?_
  refine gc_Vi hC hG hR2.1 rfl (c6_thrown l V ad1 S1 E9 hR2) km_RL_71 kn_yX6_thrown ks_yX6_thrown kz_RX6 kd_yX6_thrown dn_X6_thrown rfl hl.1 ⟨by decide, by decide⟩ (Nat.le_of_ble_eq_true rfl) ⟨by show cells + 6 + 0 + 0 ≤ (601024 : Nat); omega, by show slots + 41 + 0 + 0 ≤ (7293034 : Nat); omega⟩ dL_law_656 (fun t_ ad8 E8 H locs q_ hG hgr => ?_)
  obtain ⟨h1, hX1, S2, hR3, ht, hS2⟩ := q_
  rw [h1] at hG
  have hO3 : cmOK V ad1 T1 E8 := cm_ext (fun k i j h => hX1 k i j (by omega) (by omega)) hO2
  have e63 : E8 60 0 0 = some (gOut V g1) := (hX1 60 0 0 (by decide) (by decide)).trans e62
  have h52 : ∀ i j, E8 52 i j = none := fun i j => (hX1 52 i j (by decide) (by decide)).trans (h52 i j)
  obtain ⟨⟨nc1, nm1, hV1⟩, hk, hv⟩ := hq
  rw [hS2] at hR3
  refine lv_iload hx hb dL_law_659 (lv_at hl 1 rfl) ?_
  refine lv_icmp_eq (tgt := 666) hx hb dL_law_661 (by decide) (fun _ => ?_) (fun z => absurd (ht.trans hk.symm) z)
  refine lv_iload hx hb dL_law_666 (lv_at hl 1 rfl) ?_
  have K : W p l e room_1 s m #[Value.ref b] below meth c H locs (cells + 6 + 0 + 0) (slots + 41 + 0 + 0) Q (F0 m 683 ls []) := lv_goto (tgt := 1150) hx hb dL_law_683 (by decide) (W.widen (by omega) (by omega) (kk H locs ls ⟨ad1, E8, S1, T1, nc1, nm1, g1, hG, hO3, hR3, e63, h52, hV1, lv_sub hl [2, 3, 4, 5, 6] rfl⟩))
  refine lv_if_ne (tgt := 683) hx hb dL_law_668 (by decide) (fun _ => K) (fun k0 => ?_)
  refine lv_aload_n hx hb dL_law_671 rfl (lv_at hl 5 rfl) ?_
  refine lv_iconst (v := nI 0) hx hb dL_law_672 (by decide) ?_
  refine gq_lald hC hG e63 (vp_in_nI (n := 0) (by decide) (by decide)) dL_law_673 ?_
  refine gq_topl (g1 0) (congrArg g1 (nI_clamp (by decide))) ?_
  refine lv_iload hx hb dL_law_674 (lv_at hl 0 rfl) ?_
  refine lv_i2l hx hb dL_law_676 rfl ?_
  refine lv_lcmpE hx hb (hv k0) dL_law_677 ?_
  exact lv_if_eq (tgt := 683) hx hb dL_law_678 (by decide) (fun _ => K) (fun z => absurd rfl z)
set_option maxHeartbeats 4000000 in
set_option maxRecDepth 100000 in
theorem lk_result (hC : gC p s m meth c RL cL_law 8 ret #[Value.ref b] V) (hST : l.stackTraces = false) (hX : va_X b L xs s s.heap) (hbl : b < s.heap.size) (hn : n + 7 ≤ L) (hL : L ≤ 3584) (hcl : cells + 8 ≤ 601024) (hsl : slots + 57 ≤ 7293034) (hI : lwJ V s b n H locs ls) (kk : ∀ (H : Heap) (locs : List Loc) (ls : Array Slot), lwJ V s b n H locs ls → W p l e room_1 s m #[Value.ref b] below meth c H locs (cells + 8) (slots + 57) Q (F0 m 1150 ls [])) : W p l e room_1 s m #[Value.ref b] below meth c H locs cells slots Q (F0 m 686 ls []) := by
  obtain ⟨ad, E, S, T, nc, nm, g, hG, hO, hR, e60, h52, hV, hl⟩ := hI
  have hx := hC.1
  have hb := hC.2.1
  refine lv_aload_n hx hb dL_law_686 rfl (lv_at hl 1 rfl) ?_
  refine gc_Vi hC hG hO.1 rfl (c5_result l V ad T E hO) km_RL_100 kn_yX5_result ks_yX5_result kz_RX5 kd_yX5_result dn_X5_result rfl hl.1 ⟨by decide, by decide⟩ (Nat.le_of_ble_eq_true rfl) ⟨by show cells + 0 ≤ (601024 : Nat); omega, by show slots + 0 ≤ (7293034 : Nat); omega⟩ dL_law_687 (fun t_ ad1 E1 H locs q_ hG hgr => ?_)
  obtain ⟨h1, hX1, T1, hO1, ht, hT⟩ := q_
  rw [h1] at hG
  have hR1 : rfOK V ad S E1 := rf_ext (fun k i j h => ⟨hX1 k i j (by omega), rfl⟩) hR
  have e61 : E1 60 0 0 = some (gOut V g) := (hX1 60 0 0 (by omega)).trans e60
  have h52 : ∀ i j, E1 52 i j = none := fun i j => (hX1 52 i j (by omega)).trans (h52 i j)
  clear h1 hX1 hgr
  refine lv_aload_n hx hb dL_law_690 rfl (lv_at hl 2 rfl) ?_
  refine gc_Vi hC hG (hR1).1 rfl (c6_result l V ad S E1 hR1) km_RL_103 kn_yX6_result ks_yX6_result kz_RX6 kd_yX6_result dn_X6_result rfl hl.1 ⟨by decide, by decide⟩ (Nat.le_of_ble_eq_true rfl) ⟨by show cells + 0 + 0 ≤ (601024 : Nat); omega, by show slots + 0 + 0 ≤ (7293034 : Nat); omega⟩ dL_law_691 (fun r_ ad9 E9 H locs q_ hG hgr => ?_)
  obtain ⟨h1, hX1, S1, hR2, hr, hS⟩ := q_
  rw [h1] at hG
  have hO2 : cmOK V ad T1 E9 := cm_ext (fun k i j h => hX1 k i j (by omega) (by omega)) hO1
  have e62 : E9 60 0 0 = some (gOut V g) := (hX1 60 0 0 (by decide) (by decide)).trans e61
  have h52 : ∀ i j, E9 52 i j = none := fun i j => (hX1 52 i j (by decide) (by decide)).trans (h52 i j)
  have hq : t_ = r_ := by
    rw [ht, hr]
    show T.1 24 0 = if S.1 23 0 = -1 then S.1 24 0 else 0
    rw [er_f (k := 24) hV.2.2.2.2 (by decide) (by decide) (by decide) (by decide)]
    rcases hV.2.2.1 with h | h
    · rw [if_pos h]
    · rw [h]; split <;> rfl
  have hV1 : Inv S1 T1 nc nm := by rw [hS, hT]; exact Inv_0 _ hV
  have K : W p l e room_1 s m #[Value.ref b] below meth c H locs (cells + 0 + 0) (slots + 0 + 0) Q (F0 m 1150 ls []) := W.widen (by omega) (by omega) (kk H locs ls ⟨ad, E9, S1, T1, nc, nm, g, hG, hO2, hR2, e62, h52, hV1, hl⟩)
  exact lv_icmp_eq (tgt := 1150) hx hb dL_law_694 (by decide) (fun _ => K) (fun z => absurd hq z)
set_option maxHeartbeats 4000000 in
set_option maxRecDepth 100000 in
theorem lk_resultClass (hC : gC p s m meth c RL cL_law 8 ret #[Value.ref b] V) (hST : l.stackTraces = false) (hX : va_X b L xs s s.heap) (hbl : b < s.heap.size) (hn : n + 7 ≤ L) (hL : L ≤ 3584) (hcl : cells + 8 ≤ 601024) (hsl : slots + 57 ≤ 7293034) (hI : lwJ V s b n H locs ls) (kk : ∀ (H : Heap) (locs : List Loc) (ls : Array Slot), lwJ V s b n H locs ls → W p l e room_1 s m #[Value.ref b] below meth c H locs (cells + 8) (slots + 57) Q (F0 m 1150 ls [])) : W p l e room_1 s m #[Value.ref b] below meth c H locs cells slots Q (F0 m 699 ls []) := by
  obtain ⟨ad, E, S, T, nc, nm, g, hG, hO, hR, e60, h52, hV, hl⟩ := hI
  have hx := hC.1
  have hb := hC.2.1
  refine lv_aload_n hx hb dL_law_699 rfl (lv_at hl 1 rfl) ?_
  refine gc_Vi hC hG hO.1 rfl (c5_resultClass l V ad T E hO) km_RL_104 kn_yX5_resultClass ks_yX5_resultClass kz_RX5 kd_yX5_resultClass dn_X5_resultClass rfl hl.1 ⟨by decide, by decide⟩ (Nat.le_of_ble_eq_true rfl) ⟨by show cells + 0 ≤ (601024 : Nat); omega, by show slots + 0 ≤ (7293034 : Nat); omega⟩ dL_law_700 (fun t_ ad1 E1 H locs q_ hG hgr => ?_)
  obtain ⟨h1, hX1, T1, hO1, ht, hT⟩ := q_
  rw [h1] at hG
  have hR1 : rfOK V ad S E1 := rf_ext (fun k i j h => ⟨hX1 k i j (by omega), rfl⟩) hR
  have e61 : E1 60 0 0 = some (gOut V g) := (hX1 60 0 0 (by omega)).trans e60
  have h52 : ∀ i j, E1 52 i j = none := fun i j => (hX1 52 i j (by omega)).trans (h52 i j)
  clear h1 hX1 hgr
  refine lv_aload_n hx hb dL_law_703 rfl (lv_at hl 2 rfl) ?_
  refine gc_Vi hC hG (hR1).1 rfl (c6_resultClass l V ad S E1 hR1) km_RL_107 kn_yX6_resultClass ks_yX6_resultClass kz_RX6 kd_yX6_resultClass dn_X6_resultClass rfl hl.1 ⟨by decide, by decide⟩ (Nat.le_of_ble_eq_true rfl) ⟨by show cells + 0 + 0 ≤ (601024 : Nat); omega, by show slots + 0 + 0 ≤ (7293034 : Nat); omega⟩ dL_law_704 (fun r_ ad9 E9 H locs q_ hG hgr => ?_)
  obtain ⟨h1, hX1, S1, hR2, hr, hS⟩ := q_
  rw [h1] at hG
  have hO2 : cmOK V ad T1 E9 := cm_ext (fun k i j h => hX1 k i j (by omega) (by omega)) hO1
  have e62 : E9 60 0 0 = some (gOut V g) := (hX1 60 0 0 (by decide) (by decide)).trans e61
  have h52 : ∀ i j, E9 52 i j = none := fun i j => (hX1 52 i j (by decide) (by decide)).trans (h52 i j)
  have hq : t_ = r_ := by rw [ht, hr, er_f (k := 23) hV.2.2.2.2 (by decide) (by decide) (by decide) (by decide)]
  have hV1 : Inv S1 T1 nc nm := by rw [hS, hT]; exact Inv_0 _ hV
  have K : W p l e room_1 s m #[Value.ref b] below meth c H locs (cells + 0 + 0) (slots + 0 + 0) Q (F0 m 1150 ls []) := W.widen (by omega) (by omega) (kk H locs ls ⟨ad, E9, S1, T1, nc, nm, g, hG, hO2, hR2, e62, h52, hV1, hl⟩)
  exact lv_icmp_eq (tgt := 1150) hx hb dL_law_707 (by decide) (fun _ => K) (fun z => absurd hq z)
set_option maxHeartbeats 4000000 in
set_option maxRecDepth 100000 in
theorem lk_error (hC : gC p s m meth c RL cL_law 8 ret #[Value.ref b] V) (hST : l.stackTraces = false) (hX : va_X b L xs s s.heap) (hbl : b < s.heap.size) (hn : n + 7 ≤ L) (hL : L ≤ 3584) (hcl : cells + 8 ≤ 601024) (hsl : slots + 57 ≤ 7293034) (hI : lwJ V s b n H locs ls) (kk : ∀ (H : Heap) (locs : List Loc) (ls : Array Slot), lwJ V s b n H locs ls → W p l e room_1 s m #[Value.ref b] below meth c H locs (cells + 8) (slots + 57) Q (F0 m 1150 ls [])) : W p l e room_1 s m #[Value.ref b] below meth c H locs cells slots Q (F0 m 712 ls []) := by
  obtain ⟨ad, E, S, T, nc, nm, g, hG, hO, hR, e60, h52, hV, hl⟩ := hI
  have hx := hC.1
  have hb := hC.2.1
  refine lv_aload_n hx hb dL_law_712 rfl (lv_at hl 1 rfl) ?_
  refine gc_Vi hC hG hO.1 rfl (c5_error l V ad T E hO) km_RL_108 kn_yX5_error ks_yX5_error kz_RX5 kd_yX5_error dn_X5_error rfl hl.1 ⟨by decide, by decide⟩ (Nat.le_of_ble_eq_true rfl) ⟨by show cells + 0 ≤ (601024 : Nat); omega, by show slots + 0 ≤ (7293034 : Nat); omega⟩ dL_law_713 (fun t_ ad1 E1 H locs q_ hG hgr => ?_)
  obtain ⟨h1, hX1, T1, hO1, ht, hT⟩ := q_
  rw [h1] at hG
  have hR1 : rfOK V ad S E1 := rf_ext (fun k i j h => ⟨hX1 k i j (by omega), rfl⟩) hR
  have e61 : E1 60 0 0 = some (gOut V g) := (hX1 60 0 0 (by omega)).trans e60
  have h52 : ∀ i j, E1 52 i j = none := fun i j => (hX1 52 i j (by omega)).trans (h52 i j)
  clear h1 hX1 hgr
  refine lv_aload_n hx hb dL_law_716 rfl (lv_at hl 2 rfl) ?_
  refine gc_Vi hC hG (hR1).1 rfl (c6_error l V ad S E1 hR1) km_RL_111 kn_yX6_error ks_yX6_error kz_RX6 kd_yX6_error dn_X6_error rfl hl.1 ⟨by decide, by decide⟩ (Nat.le_of_ble_eq_true rfl) ⟨by show cells + 0 + 0 ≤ (601024 : Nat); omega, by show slots + 0 + 0 ≤ (7293034 : Nat); omega⟩ dL_law_717 (fun r_ ad9 E9 H locs q_ hG hgr => ?_)
  obtain ⟨h1, hX1, S1, hR2, hr, hS⟩ := q_
  rw [h1] at hG
  have hO2 : cmOK V ad T1 E9 := cm_ext (fun k i j h => hX1 k i j (by omega) (by omega)) hO1
  have e62 : E9 60 0 0 = some (gOut V g) := (hX1 60 0 0 (by decide) (by decide)).trans e61
  have h52 : ∀ i j, E9 52 i j = none := fun i j => (hX1 52 i j (by decide) (by decide)).trans (h52 i j)
  have hq : t_ = r_ := by rw [ht, hr, er_f (k := 25) hV.2.2.2.2 (by decide) (by decide) (by decide) (by decide)]
  have hV1 : Inv S1 T1 nc nm := by rw [hS, hT]; exact Inv_0 _ hV
  have K : W p l e room_1 s m #[Value.ref b] below meth c H locs (cells + 0 + 0) (slots + 0 + 0) Q (F0 m 1150 ls []) := W.widen (by omega) (by omega) (kk H locs ls ⟨ad, E9, S1, T1, nc, nm, g, hG, hO2, hR2, e62, h52, hV1, hl⟩)
  exact lv_icmp_eq (tgt := 1150) hx hb dL_law_720 (by decide) (fun _ => K) (fun z => absurd hq z)
set_option maxHeartbeats 4000000 in
set_option maxRecDepth 100000 in
theorem lk_cost (hC : gC p s m meth c RL cL_law 8 ret #[Value.ref b] V) (hST : l.stackTraces = false) (hX : va_X b L xs s s.heap) (hbl : b < s.heap.size) (hn : n + 7 ≤ L) (hL : L ≤ 3584) (hcl : cells + 8 ≤ 601024) (hsl : slots + 57 ≤ 7293034) (hI : lwJ V s b n H locs ls) (kk : ∀ (H : Heap) (locs : List Loc) (ls : Array Slot), lwJ V s b n H locs ls → W p l e room_1 s m #[Value.ref b] below meth c H locs (cells + 8) (slots + 57) Q (F0 m 1150 ls [])) : W p l e room_1 s m #[Value.ref b] below meth c H locs cells slots Q (F0 m 725 ls []) := by
  obtain ⟨ad, E, S, T, nc, nm, g, hG, hO, hR, e60, h52, hV, hl⟩ := hI
  have hx := hC.1
  have hb := hC.2.1
  refine lv_aload_n hx hb dL_law_725 rfl (lv_at hl 1 rfl) ?_
  refine gc_Vl hC hG hO.1 rfl (c5_cost l V ad T E hO) km_RL_112 kn_yX5_cost ks_yX5_cost kz_RX5 kd_yX5_cost dn_X5_cost rfl hl.1 ⟨by decide, by decide⟩ (Nat.le_of_ble_eq_true rfl) ⟨by show cells + 0 ≤ (601024 : Nat); omega, by show slots + 0 ≤ (7293034 : Nat); omega⟩ dL_law_726 (fun t_ ad1 E1 H locs q_ hG hgr => ?_)
  obtain ⟨h1, hX1, T1, hO1, ht, hT⟩ := q_
  rw [h1] at hG
  have hR1 : rfOK V ad S E1 := rf_ext (fun k i j h => ⟨hX1 k i j (by omega), rfl⟩) hR
  have e61 : E1 60 0 0 = some (gOut V g) := (hX1 60 0 0 (by omega)).trans e60
  have h52 : ∀ i j, E1 52 i j = none := fun i j => (hX1 52 i j (by omega)).trans (h52 i j)
  clear h1 hX1 hgr
  refine lv_aload_n hx hb dL_law_729 rfl (lv_at hl 2 rfl) ?_
  refine gc_Vl hC hG (hR1).1 rfl (c6_cost l V ad S E1 hR1) km_RL_116 kn_yX6_cost ks_yX6_cost kz_RX6 kd_yX6_cost dn_X6_cost rfl hl.1 ⟨by decide, by decide⟩ (Nat.le_of_ble_eq_true rfl) ⟨by show cells + 0 + 0 ≤ (601024 : Nat); omega, by show slots + 0 + 0 ≤ (7293034 : Nat); omega⟩ dL_law_730 (fun r_ ad9 E9 H locs q_ hG hgr => ?_)
  obtain ⟨h1, hX1, S1, hR2, hr, hS⟩ := q_
  rw [h1] at hG
  have hO2 : cmOK V ad T1 E9 := cm_ext (fun k i j h => hX1 k i j (by omega) (by omega)) hO1
  have e62 : E9 60 0 0 = some (gOut V g) := (hX1 60 0 0 (by decide) (by decide)).trans e61
  have h52 : ∀ i j, E9 52 i j = none := fun i j => (hX1 52 i j (by decide) (by decide)).trans (h52 i j)
  have hq : t_ = r_ := by rw [ht, hr, er_2 hV.2.2.2.2]
  have hV1 : Inv S1 T1 nc nm := by rw [hS, hT]; exact Inv_0 _ hV
  have K : W p l e room_1 s m #[Value.ref b] below meth c H locs (cells + 0 + 0) (slots + 0 + 0) Q (F0 m 1150 ls []) := W.widen (by omega) (by omega) (kk H locs ls ⟨ad, E9, S1, T1, nc, nm, g, hG, hO2, hR2, e62, h52, hV1, hl⟩)
  refine lv_lcmpE hx hb hq dL_law_733 ?_
  exact lv_if_eq (tgt := 1150) hx hb dL_law_734 (by decide) (fun _ => K) (fun z => absurd rfl z)
set_option maxHeartbeats 4000000 in
set_option maxRecDepth 100000 in
theorem lk_steps (hC : gC p s m meth c RL cL_law 8 ret #[Value.ref b] V) (hST : l.stackTraces = false) (hX : va_X b L xs s s.heap) (hbl : b < s.heap.size) (hn : n + 7 ≤ L) (hL : L ≤ 3584) (hcl : cells + 8 ≤ 601024) (hsl : slots + 57 ≤ 7293034) (hI : lwJ V s b n H locs ls) (kk : ∀ (H : Heap) (locs : List Loc) (ls : Array Slot), lwJ V s b n H locs ls → W p l e room_1 s m #[Value.ref b] below meth c H locs (cells + 8) (slots + 57) Q (F0 m 1150 ls [])) : W p l e room_1 s m #[Value.ref b] below meth c H locs cells slots Q (F0 m 739 ls []) := by
  obtain ⟨ad, E, S, T, nc, nm, g, hG, hO, hR, e60, h52, hV, hl⟩ := hI
  have hx := hC.1
  have hb := hC.2.1
  refine lv_aload_n hx hb dL_law_739 rfl (lv_at hl 1 rfl) ?_
  refine gc_Vi hC hG hO.1 rfl (c5_steps l V ad T E hO) km_RL_117 kn_yX5_steps ks_yX5_steps kz_RX5 kd_yX5_steps dn_X5_steps rfl hl.1 ⟨by decide, by decide⟩ (Nat.le_of_ble_eq_true rfl) ⟨by show cells + 0 ≤ (601024 : Nat); omega, by show slots + 0 ≤ (7293034 : Nat); omega⟩ dL_law_740 (fun t_ ad1 E1 H locs q_ hG hgr => ?_)
  obtain ⟨h1, hX1, T1, hO1, ht, hT⟩ := q_
  rw [h1] at hG
  have hR1 : rfOK V ad S E1 := rf_ext (fun k i j h => ⟨hX1 k i j (by omega), rfl⟩) hR
  have e61 : E1 60 0 0 = some (gOut V g) := (hX1 60 0 0 (by omega)).trans e60
  have h52 : ∀ i j, E1 52 i j = none := fun i j => (hX1 52 i j (by omega)).trans (h52 i j)
  clear h1 hX1 hgr
  refine lv_aload_n hx hb dL_law_743 rfl (lv_at hl 2 rfl) ?_
  refine gc_Vi hC hG (hR1).1 rfl (c6_steps l V ad S E1 hR1) km_RL_120 kn_yX6_steps ks_yX6_steps kz_RX6 kd_yX6_steps dn_X6_steps rfl hl.1 ⟨by decide, by decide⟩ (Nat.le_of_ble_eq_true rfl) ⟨by show cells + 0 + 0 ≤ (601024 : Nat); omega, by show slots + 0 + 0 ≤ (7293034 : Nat); omega⟩ dL_law_744 (fun r_ ad9 E9 H locs q_ hG hgr => ?_)
  obtain ⟨h1, hX1, S1, hR2, hr, hS⟩ := q_
  rw [h1] at hG
  have hO2 : cmOK V ad T1 E9 := cm_ext (fun k i j h => hX1 k i j (by omega) (by omega)) hO1
  have e62 : E9 60 0 0 = some (gOut V g) := (hX1 60 0 0 (by decide) (by decide)).trans e61
  have h52 : ∀ i j, E9 52 i j = none := fun i j => (hX1 52 i j (by decide) (by decide)).trans (h52 i j)
  have hq : t_ = r_ := by rw [ht, hr, er_f (k := 27) hV.2.2.2.2 (by decide) (by decide) (by decide) (by decide)]
  have hV1 : Inv S1 T1 nc nm := by rw [hS, hT]; exact Inv_0 _ hV
  have K : W p l e room_1 s m #[Value.ref b] below meth c H locs (cells + 0 + 0) (slots + 0 + 0) Q (F0 m 1150 ls []) := W.widen (by omega) (by omega) (kk H locs ls ⟨ad, E9, S1, T1, nc, nm, g, hG, hO2, hR2, e62, h52, hV1, hl⟩)
  exact lv_icmp_eq (tgt := 1150) hx hb dL_law_747 (by decide) (fun _ => K) (fun z => absurd hq z)
set_option maxHeartbeats 4000000 in
set_option maxRecDepth 100000 in
theorem lk_depth (hC : gC p s m meth c RL cL_law 8 ret #[Value.ref b] V) (hST : l.stackTraces = false) (hX : va_X b L xs s s.heap) (hbl : b < s.heap.size) (hn : n + 7 ≤ L) (hL : L ≤ 3584) (hcl : cells + 8 ≤ 601024) (hsl : slots + 57 ≤ 7293034) (hI : lwJ V s b n H locs ls) (kk : ∀ (H : Heap) (locs : List Loc) (ls : Array Slot), lwJ V s b n H locs ls → W p l e room_1 s m #[Value.ref b] below meth c H locs (cells + 8) (slots + 57) Q (F0 m 1150 ls [])) : W p l e room_1 s m #[Value.ref b] below meth c H locs cells slots Q (F0 m 752 ls []) := by
  obtain ⟨ad, E, S, T, nc, nm, g, hG, hO, hR, e60, h52, hV, hl⟩ := hI
  have hx := hC.1
  have hb := hC.2.1
  refine lv_aload_n hx hb dL_law_752 rfl (lv_at hl 1 rfl) ?_
  refine gc_Vi hC hG hO.1 rfl (c5_depth l V ad T E hO) km_RL_121 kn_yX5_depth ks_yX5_depth kz_RX5 kd_yX5_depth dn_X5_depth rfl hl.1 ⟨by decide, by decide⟩ (Nat.le_of_ble_eq_true rfl) ⟨by show cells + 0 ≤ (601024 : Nat); omega, by show slots + 0 ≤ (7293034 : Nat); omega⟩ dL_law_753 (fun t_ ad1 E1 H locs q_ hG hgr => ?_)
  obtain ⟨h1, hX1, T1, hO1, ht, hT⟩ := q_
  rw [h1] at hG
  have hR1 : rfOK V ad S E1 := rf_ext (fun k i j h => ⟨hX1 k i j (by omega), rfl⟩) hR
  have e61 : E1 60 0 0 = some (gOut V g) := (hX1 60 0 0 (by omega)).trans e60
  have h52 : ∀ i j, E1 52 i j = none := fun i j => (hX1 52 i j (by omega)).trans (h52 i j)
  clear h1 hX1 hgr
  refine lv_aload_n hx hb dL_law_756 rfl (lv_at hl 2 rfl) ?_
  refine gc_Vi hC hG (hR1).1 rfl (c6_depth l V ad S E1 hR1) km_RL_124 kn_yX6_depth ks_yX6_depth kz_RX6 kd_yX6_depth dn_X6_depth rfl hl.1 ⟨by decide, by decide⟩ (Nat.le_of_ble_eq_true rfl) ⟨by show cells + 0 + 0 ≤ (601024 : Nat); omega, by show slots + 0 + 0 ≤ (7293034 : Nat); omega⟩ dL_law_757 (fun r_ ad9 E9 H locs q_ hG hgr => ?_)
  obtain ⟨h1, hX1, S1, hR2, hr, hS⟩ := q_
  rw [h1] at hG
  have hO2 : cmOK V ad T1 E9 := cm_ext (fun k i j h => hX1 k i j (by omega) (by omega)) hO1
  have e62 : E9 60 0 0 = some (gOut V g) := (hX1 60 0 0 (by decide) (by decide)).trans e61
  have h52 : ∀ i j, E9 52 i j = none := fun i j => (hX1 52 i j (by decide) (by decide)).trans (h52 i j)
  have hq : t_ = r_ := by rw [ht, hr, er_f (k := 28) hV.2.2.2.2 (by decide) (by decide) (by decide) (by decide)]
  have hV1 : Inv S1 T1 nc nm := by rw [hS, hT]; exact Inv_0 _ hV
  have K : W p l e room_1 s m #[Value.ref b] below meth c H locs (cells + 0 + 0) (slots + 0 + 0) Q (F0 m 1150 ls []) := W.widen (by omega) (by omega) (kk H locs ls ⟨ad, E9, S1, T1, nc, nm, g, hG, hO2, hR2, e62, h52, hV1, hl⟩)
  exact lv_icmp_eq (tgt := 1150) hx hb dL_law_760 (by decide) (fun _ => K) (fun z => absurd hq z)
set_option maxHeartbeats 4000000 in
set_option maxRecDepth 100000 in
theorem lk_total (hC : gC p s m meth c RL cL_law 8 ret #[Value.ref b] V) (hST : l.stackTraces = false) (hX : va_X b L xs s s.heap) (hbl : b < s.heap.size) (hn : n + 7 ≤ L) (hL : L ≤ 3584) (hcl : cells + 8 ≤ 601024) (hsl : slots + 57 ≤ 7293034) (hI : lwJ V s b n H locs ls) (kk : ∀ (H : Heap) (locs : List Loc) (ls : Array Slot), lwJ V s b n H locs ls → W p l e room_1 s m #[Value.ref b] below meth c H locs (cells + 8) (slots + 57) Q (F0 m 1150 ls [])) : W p l e room_1 s m #[Value.ref b] below meth c H locs cells slots Q (F0 m 765 ls []) := by
  obtain ⟨ad, E, S, T, nc, nm, g, hG, hO, hR, e60, h52, hV, hl⟩ := hI
  have hx := hC.1
  have hb := hC.2.1
  refine lv_aload_n hx hb dL_law_765 rfl (lv_at hl 1 rfl) ?_
  refine lv_aload_n hx hb dL_law_766 rfl (lv_at hl 0 rfl) ?_
  refine lv_iload hx hb dL_law_767 (lv_at hl 4 rfl) ?_
  refine lv_iconst (v := nI 1) hx hb dL_law_769 (by decide) ?_
  refine lv_iadd hx hb dL_law_770 ?_
  refine lw_sld hx hb hX hbl (by show ¬ s.heap.size ≤ b; omega) hG.2.2.2.2 (k := 1) (by omega) hL dL_law_771 ?_
  refine lv_aload_n hx hb dL_law_772 rfl (lv_at hl 3 rfl) ?_
  refine gc_Sh hC hG (hh_total l hST V ad E S T nc nm hV hO g e60 (xs (n + 1))) km_RL_125 kst_yL_total kz_RL kd_yL_total dn_L_total rfl hl.1 ⟨by decide, by decide⟩ (Nat.le_of_ble_eq_true rfl) ⟨by show cells + 6 ≤ (601024 : Nat); omega, by show slots + 41 ≤ (7293034 : Nat); omega⟩ dL_law_773 (fun k_ ad1 E1 H locs p_ hG hgr => ?_)
  refine lv_istore (lv' := [(5, .int k_), (0, .ref b), (1, .ref (ad 0 0 0)), (2, .ref (ad 50 0 0)), (3, .ref (ad 60 0 0)), (4, .int (nI n))]) hx hb dL_law_776 hl (by decide) rfl (fun ls hl => ?_)
  obtain ⟨fr, a0, a60, T1, g1, hO1, e61, hq⟩ := p_
  have a50 := (fr 50 0 0 (by omega)).2
  have hl : lv_has ls 8 [(5, .int k_), (0, .ref b), (1, .ref (ad1 0 0 0)), (2, .ref (ad1 50 0 0)), (3, .ref (ad1 60 0 0)), (4, .int (nI n))] := by rw [a0, a50, a60]; exact hl
  have hR1 : rfOK V ad1 S E1 := rf_ext (fun k i j h => fr k i j (by omega)) hR
  have h52 : ∀ i j, E1 52 i j = none := fun i j => (fr 52 i j (by omega)).1.trans (h52 i j)
  refine lv_aload_n hx hb dL_law_778 rfl (lv_at hl 3 rfl) ?_
  refine lv_aload_n hx hb dL_law_779 rfl (lv_at hl 1 rfl) ?_
  refine lv_iload hx hb dL_law_780 (lv_at hl 5 rfl) ?_
  refine lv_iconst (v := nI 1) hx hb dL_law_782 (by decide) ?_
  refine lv_iadd hx hb dL_law_783 ?_
  refine lw_sld hx hb hX hbl (by show ¬ s.heap.size ≤ b; omega) hG.2.2.2.2 (k := 1) (by omega) hL dL_law_784 ?_
  refine gc_Vl hC hG (hR1).1 rfl (c6_total l V ad1 S (xs (n + 1)) E1 hR1) km_RL_127 kn_yX6_total ks_yX6_total kz_RX6 kd_yX6_total dn_X6_total rfl hl.1 ⟨by decide, by decide⟩ (Nat.le_of_ble_eq_true rfl) ⟨by show cells + 6 + 0 ≤ (601024 : Nat); omega, by show slots + 41 + 0 ≤ (7293034 : Nat); omega⟩ dL_law_785 (fun r_ ad9 E9 H locs q_ hG hgr => ?_)
  obtain ⟨h1, hX1, S1, hR2, hr, hS⟩ := q_
  have hq : hPl r_ S1 k_ (g1 0) T1 := by rw [hr, hS]; exact hq
  rw [h1] at hG
  have hO2 : cmOK V ad1 T1 E9 := cm_ext (fun k i j h => hX1 k i j (by omega) (by omega)) hO1
  have e62 : E9 60 0 0 = some (gOut V g1) := (hX1 60 0 0 (by decide) (by decide)).trans e61
  have h52 : ∀ i j, E9 52 i j = none := fun i j => (hX1 52 i j (by decide) (by decide)).trans (h52 i j)
  clear h1 hX1 hgr
  refine lv_lstore (lv' := [(6, .long r_), (5, .int k_), (0, .ref b), (1, .ref (ad1 0 0 0)), (2, .ref (ad1 50 0 0)), (3, .ref (ad1 60 0 0)), (4, .int (nI n))]) hx hb dL_law_788 hl (by decide) rfl (fun ls hl => ?_)
  refine lv_aload_n hx hb dL_law_790 rfl (lv_at hl 4 rfl) ?_
  refine gc_Vi hC hG hR2.1 rfl (c6_thrown l V ad1 S1 E9 hR2) km_RL_71 kn_yX6_thrown ks_yX6_thrown kz_RX6 kd_yX6_thrown dn_X6_thrown rfl hl.1 ⟨by decide, by decide⟩ (Nat.le_of_ble_eq_true rfl) ⟨by show cells + 6 + 0 + 0 ≤ (601024 : Nat); omega, by show slots + 41 + 0 + 0 ≤ (7293034 : Nat); omega⟩ dL_law_791 (fun t_ ad8 E8 H locs q_ hG hgr => ?_)
  obtain ⟨h1, hX1, S2, hR3, ht, hS2⟩ := q_
  rw [h1] at hG
  have hO3 : cmOK V ad1 T1 E8 := cm_ext (fun k i j h => hX1 k i j (by omega) (by omega)) hO2
  have e63 : E8 60 0 0 = some (gOut V g1) := (hX1 60 0 0 (by decide) (by decide)).trans e62
  have h52 : ∀ i j, E8 52 i j = none := fun i j => (hX1 52 i j (by decide) (by decide)).trans (h52 i j)
  obtain ⟨⟨nc1, nm1, hV1⟩, hk, hv⟩ := hq
  rw [hS2] at hR3
  refine lv_iload hx hb dL_law_794 (lv_at hl 1 rfl) ?_
  refine lv_icmp_eq (tgt := 801) hx hb dL_law_796 (by decide) (fun _ => ?_) (fun z => absurd (ht.trans hk.symm) z)
  refine lv_iload hx hb dL_law_801 (lv_at hl 1 rfl) ?_
  have K : W p l e room_1 s m #[Value.ref b] below meth c H locs (cells + 6 + 0 + 0) (slots + 41 + 0 + 0) Q (F0 m 817 ls []) := lv_goto (tgt := 1150) hx hb dL_law_817 (by decide) (W.widen (by omega) (by omega) (kk H locs ls ⟨ad1, E8, S1, T1, nc1, nm1, g1, hG, hO3, hR3, e63, h52, hV1, lv_sub hl [2, 3, 4, 5, 6] rfl⟩))
  refine lv_if_ne (tgt := 817) hx hb dL_law_803 (by decide) (fun _ => K) (fun k0 => ?_)
  refine lv_aload_n hx hb dL_law_806 rfl (lv_at hl 5 rfl) ?_
  refine lv_iconst (v := nI 0) hx hb dL_law_807 (by decide) ?_
  refine gq_lald hC hG e63 (vp_in_nI (n := 0) (by decide) (by decide)) dL_law_808 ?_
  refine gq_topl (g1 0) (congrArg g1 (nI_clamp (by decide))) ?_
  refine lv_lload hx hb dL_law_809 (lv_at hl 0 rfl) ?_
  refine lv_lcmpE hx hb (hv k0) dL_law_811 ?_
  exact lv_if_eq (tgt := 817) hx hb dL_law_812 (by decide) (fun _ => K) (fun z => absurd rfl z)
set_option maxHeartbeats 4000000 in
set_option maxRecDepth 100000 in
theorem lk_tier (hC : gC p s m meth c RL cL_law 8 ret #[Value.ref b] V) (hST : l.stackTraces = false) (hX : va_X b L xs s s.heap) (hbl : b < s.heap.size) (hn : n + 7 ≤ L) (hL : L ≤ 3584) (hcl : cells + 8 ≤ 601024) (hsl : slots + 57 ≤ 7293034) (hI : lwJ V s b n H locs ls) (kk : ∀ (H : Heap) (locs : List Loc) (ls : Array Slot), lwJ V s b n H locs ls → W p l e room_1 s m #[Value.ref b] below meth c H locs (cells + 8) (slots + 57) Q (F0 m 1150 ls [])) : W p l e room_1 s m #[Value.ref b] below meth c H locs cells slots Q (F0 m 820 ls []) := by
  obtain ⟨ad, E, S, T, nc, nm, g, hG, hO, hR, e60, h52, hV, hl⟩ := hI
  have hx := hC.1
  have hb := hC.2.1
  refine lv_aload_n hx hb dL_law_820 rfl (lv_at hl 1 rfl) ?_
  refine lv_aload_n hx hb dL_law_821 rfl (lv_at hl 0 rfl) ?_
  refine lv_iload hx hb dL_law_822 (lv_at hl 4 rfl) ?_
  refine lv_iconst (v := nI 1) hx hb dL_law_824 (by decide) ?_
  refine lv_iadd hx hb dL_law_825 ?_
  refine lw_sld hx hb hX hbl (by show ¬ s.heap.size ≤ b; omega) hG.2.2.2.2 (k := 1) (by omega) hL dL_law_826 ?_
  refine lv_aload_n hx hb dL_law_827 rfl (lv_at hl 3 rfl) ?_
  refine gc_Sh hC hG (hh_tier l hST V ad E S T nc nm hV hO g e60 (xs (n + 1))) km_RL_128 kst_yL_tier kz_RL kd_yL_tier dn_L_tier rfl hl.1 ⟨by decide, by decide⟩ (Nat.le_of_ble_eq_true rfl) ⟨by show cells + 6 ≤ (601024 : Nat); omega, by show slots + 41 ≤ (7293034 : Nat); omega⟩ dL_law_828 (fun k_ ad1 E1 H locs p_ hG hgr => ?_)
  refine lv_istore (lv' := [(5, .int k_), (0, .ref b), (1, .ref (ad 0 0 0)), (2, .ref (ad 50 0 0)), (3, .ref (ad 60 0 0)), (4, .int (nI n))]) hx hb dL_law_831 hl (by decide) rfl (fun ls hl => ?_)
  obtain ⟨fr, a0, a60, T1, g1, hO1, e61, hq⟩ := p_
  have a50 := (fr 50 0 0 (by omega)).2
  have hl : lv_has ls 8 [(5, .int k_), (0, .ref b), (1, .ref (ad1 0 0 0)), (2, .ref (ad1 50 0 0)), (3, .ref (ad1 60 0 0)), (4, .int (nI n))] := by rw [a0, a50, a60]; exact hl
  have hR1 : rfOK V ad1 S E1 := rf_ext (fun k i j h => fr k i j (by omega)) hR
  have h52 : ∀ i j, E1 52 i j = none := fun i j => (fr 52 i j (by omega)).1.trans (h52 i j)
  refine lv_aload_n hx hb dL_law_833 rfl (lv_at hl 3 rfl) ?_
  refine lv_aload_n hx hb dL_law_834 rfl (lv_at hl 1 rfl) ?_
  refine lv_iload hx hb dL_law_835 (lv_at hl 5 rfl) ?_
  refine lv_iconst (v := nI 1) hx hb dL_law_837 (by decide) ?_
  refine lv_iadd hx hb dL_law_838 ?_
  refine lw_sld hx hb hX hbl (by show ¬ s.heap.size ≤ b; omega) hG.2.2.2.2 (k := 1) (by omega) hL dL_law_839 ?_
  refine gc_Vi hC hG (hR1).1 rfl (c6_tier l V ad1 S nc nm hV.1 (xs (n + 1)) E1 hR1) km_RL_130 kn_yX6_tier ks_yX6_tier kz_RX6 kd_yX6_tier dn_X6_tier rfl hl.1 ⟨by decide, by decide⟩ (Nat.le_of_ble_eq_true rfl) ⟨by show cells + 6 + 0 ≤ (601024 : Nat); omega, by show slots + 41 + 0 ≤ (7293034 : Nat); omega⟩ dL_law_840 (fun r_ ad9 E9 H locs q_ hG hgr => ?_)
  obtain ⟨h1, hX1, S1, hR2, hr, hS⟩ := q_
  have hq : hP r_ S1 k_ (g1 0) T1 := by rw [hr, hS]; exact hq
  rw [h1] at hG
  have hO2 : cmOK V ad1 T1 E9 := cm_ext (fun k i j h => hX1 k i j (by omega) (by omega)) hO1
  have e62 : E9 60 0 0 = some (gOut V g1) := (hX1 60 0 0 (by decide) (by decide)).trans e61
  have h52 : ∀ i j, E9 52 i j = none := fun i j => (hX1 52 i j (by decide) (by decide)).trans (h52 i j)
  clear h1 hX1 hgr
  refine lv_istore (lv' := [(6, .int r_), (5, .int k_), (0, .ref b), (1, .ref (ad1 0 0 0)), (2, .ref (ad1 50 0 0)), (3, .ref (ad1 60 0 0)), (4, .int (nI n))]) hx hb dL_law_843 hl (by decide) rfl (fun ls hl => ?_)
  refine lv_aload_n hx hb dL_law_845 rfl (lv_at hl 4 rfl) ?_
  refine gc_Vi hC hG hR2.1 rfl (c6_thrown l V ad1 S1 E9 hR2) km_RL_71 kn_yX6_thrown ks_yX6_thrown kz_RX6 kd_yX6_thrown dn_X6_thrown rfl hl.1 ⟨by decide, by decide⟩ (Nat.le_of_ble_eq_true rfl) ⟨by show cells + 6 + 0 + 0 ≤ (601024 : Nat); omega, by show slots + 41 + 0 + 0 ≤ (7293034 : Nat); omega⟩ dL_law_846 (fun t_ ad8 E8 H locs q_ hG hgr => ?_)
  obtain ⟨h1, hX1, S2, hR3, ht, hS2⟩ := q_
  rw [h1] at hG
  have hO3 : cmOK V ad1 T1 E8 := cm_ext (fun k i j h => hX1 k i j (by omega) (by omega)) hO2
  have e63 : E8 60 0 0 = some (gOut V g1) := (hX1 60 0 0 (by decide) (by decide)).trans e62
  have h52 : ∀ i j, E8 52 i j = none := fun i j => (hX1 52 i j (by decide) (by decide)).trans (h52 i j)
  obtain ⟨⟨nc1, nm1, hV1⟩, hk, hv⟩ := hq
  rw [hS2] at hR3
  refine lv_iload hx hb dL_law_849 (lv_at hl 1 rfl) ?_
  refine lv_icmp_eq (tgt := 856) hx hb dL_law_851 (by decide) (fun _ => ?_) (fun z => absurd (ht.trans hk.symm) z)
  refine lv_iload hx hb dL_law_856 (lv_at hl 1 rfl) ?_
  have K : W p l e room_1 s m #[Value.ref b] below meth c H locs (cells + 6 + 0 + 0) (slots + 41 + 0 + 0) Q (F0 m 873 ls []) := lv_goto (tgt := 1150) hx hb dL_law_873 (by decide) (W.widen (by omega) (by omega) (kk H locs ls ⟨ad1, E8, S1, T1, nc1, nm1, g1, hG, hO3, hR3, e63, h52, hV1, lv_sub hl [2, 3, 4, 5, 6] rfl⟩))
  refine lv_if_ne (tgt := 873) hx hb dL_law_858 (by decide) (fun _ => K) (fun k0 => ?_)
  refine lv_aload_n hx hb dL_law_861 rfl (lv_at hl 5 rfl) ?_
  refine lv_iconst (v := nI 0) hx hb dL_law_862 (by decide) ?_
  refine gq_lald hC hG e63 (vp_in_nI (n := 0) (by decide) (by decide)) dL_law_863 ?_
  refine gq_topl (g1 0) (congrArg g1 (nI_clamp (by decide))) ?_
  refine lv_iload hx hb dL_law_864 (lv_at hl 0 rfl) ?_
  refine lv_i2l hx hb dL_law_866 rfl ?_
  refine lv_lcmpE hx hb (hv k0) dL_law_867 ?_
  exact lv_if_eq (tgt := 873) hx hb dL_law_868 (by decide) (fun _ => K) (fun z => absurd rfl z)
set_option maxHeartbeats 4000000 in
set_option maxRecDepth 100000 in
theorem lk_heat (hC : gC p s m meth c RL cL_law 8 ret #[Value.ref b] V) (hST : l.stackTraces = false) (hX : va_X b L xs s s.heap) (hbl : b < s.heap.size) (hn : n + 7 ≤ L) (hL : L ≤ 3584) (hcl : cells + 8 ≤ 601024) (hsl : slots + 57 ≤ 7293034) (hI : lwJ V s b n H locs ls) (kk : ∀ (H : Heap) (locs : List Loc) (ls : Array Slot), lwJ V s b n H locs ls → W p l e room_1 s m #[Value.ref b] below meth c H locs (cells + 8) (slots + 57) Q (F0 m 1150 ls [])) : W p l e room_1 s m #[Value.ref b] below meth c H locs cells slots Q (F0 m 876 ls []) := by
  obtain ⟨ad, E, S, T, nc, nm, g, hG, hO, hR, e60, h52, hV, hl⟩ := hI
  have hx := hC.1
  have hb := hC.2.1
  refine lv_aload_n hx hb dL_law_876 rfl (lv_at hl 1 rfl) ?_
  refine lv_aload_n hx hb dL_law_877 rfl (lv_at hl 0 rfl) ?_
  refine lv_iload hx hb dL_law_878 (lv_at hl 4 rfl) ?_
  refine lv_iconst (v := nI 1) hx hb dL_law_880 (by decide) ?_
  refine lv_iadd hx hb dL_law_881 ?_
  refine lw_sld hx hb hX hbl (by show ¬ s.heap.size ≤ b; omega) hG.2.2.2.2 (k := 1) (by omega) hL dL_law_882 ?_
  refine lv_aload_n hx hb dL_law_883 rfl (lv_at hl 3 rfl) ?_
  refine gc_Sh hC hG (hh_heat l hST V ad E S T nc nm hV hO g e60 (xs (n + 1))) km_RL_131 kst_yL_heat kz_RL kd_yL_heat dn_L_heat rfl hl.1 ⟨by decide, by decide⟩ (Nat.le_of_ble_eq_true rfl) ⟨by show cells + 6 ≤ (601024 : Nat); omega, by show slots + 41 ≤ (7293034 : Nat); omega⟩ dL_law_884 (fun k_ ad1 E1 H locs p_ hG hgr => ?_)
  refine lv_istore (lv' := [(5, .int k_), (0, .ref b), (1, .ref (ad 0 0 0)), (2, .ref (ad 50 0 0)), (3, .ref (ad 60 0 0)), (4, .int (nI n))]) hx hb dL_law_887 hl (by decide) rfl (fun ls hl => ?_)
  obtain ⟨fr, a0, a60, T1, g1, hO1, e61, hq⟩ := p_
  have a50 := (fr 50 0 0 (by omega)).2
  have hl : lv_has ls 8 [(5, .int k_), (0, .ref b), (1, .ref (ad1 0 0 0)), (2, .ref (ad1 50 0 0)), (3, .ref (ad1 60 0 0)), (4, .int (nI n))] := by rw [a0, a50, a60]; exact hl
  have hR1 : rfOK V ad1 S E1 := rf_ext (fun k i j h => fr k i j (by omega)) hR
  have h52 : ∀ i j, E1 52 i j = none := fun i j => (fr 52 i j (by omega)).1.trans (h52 i j)
  refine lv_aload_n hx hb dL_law_889 rfl (lv_at hl 3 rfl) ?_
  refine lv_aload_n hx hb dL_law_890 rfl (lv_at hl 1 rfl) ?_
  refine lv_iload hx hb dL_law_891 (lv_at hl 5 rfl) ?_
  refine lv_iconst (v := nI 1) hx hb dL_law_893 (by decide) ?_
  refine lv_iadd hx hb dL_law_894 ?_
  refine lw_sld hx hb hX hbl (by show ¬ s.heap.size ≤ b; omega) hG.2.2.2.2 (k := 1) (by omega) hL dL_law_895 ?_
  refine gc_Vi hC hG (hR1).1 rfl (c6_heat l V ad1 S nc nm hV.1 (xs (n + 1)) E1 hR1) km_RL_133 kn_yX6_heat ks_yX6_heat kz_RX6 kd_yX6_heat dn_X6_heat rfl hl.1 ⟨by decide, by decide⟩ (Nat.le_of_ble_eq_true rfl) ⟨by show cells + 6 + 0 ≤ (601024 : Nat); omega, by show slots + 41 + 0 ≤ (7293034 : Nat); omega⟩ dL_law_896 (fun r_ ad9 E9 H locs q_ hG hgr => ?_)
  obtain ⟨h1, hX1, S1, hR2, hr, hS⟩ := q_
  have hq : hP r_ S1 k_ (g1 0) T1 := by rw [hr, hS]; exact hq
  rw [h1] at hG
  have hO2 : cmOK V ad1 T1 E9 := cm_ext (fun k i j h => hX1 k i j (by omega) (by omega)) hO1
  have e62 : E9 60 0 0 = some (gOut V g1) := (hX1 60 0 0 (by decide) (by decide)).trans e61
  have h52 : ∀ i j, E9 52 i j = none := fun i j => (hX1 52 i j (by decide) (by decide)).trans (h52 i j)
  clear h1 hX1 hgr
  refine lv_istore (lv' := [(6, .int r_), (5, .int k_), (0, .ref b), (1, .ref (ad1 0 0 0)), (2, .ref (ad1 50 0 0)), (3, .ref (ad1 60 0 0)), (4, .int (nI n))]) hx hb dL_law_899 hl (by decide) rfl (fun ls hl => ?_)
  refine lv_aload_n hx hb dL_law_901 rfl (lv_at hl 4 rfl) ?_
  refine gc_Vi hC hG hR2.1 rfl (c6_thrown l V ad1 S1 E9 hR2) km_RL_71 kn_yX6_thrown ks_yX6_thrown kz_RX6 kd_yX6_thrown dn_X6_thrown rfl hl.1 ⟨by decide, by decide⟩ (Nat.le_of_ble_eq_true rfl) ⟨by show cells + 6 + 0 + 0 ≤ (601024 : Nat); omega, by show slots + 41 + 0 + 0 ≤ (7293034 : Nat); omega⟩ dL_law_902 (fun t_ ad8 E8 H locs q_ hG hgr => ?_)
  obtain ⟨h1, hX1, S2, hR3, ht, hS2⟩ := q_
  rw [h1] at hG
  have hO3 : cmOK V ad1 T1 E8 := cm_ext (fun k i j h => hX1 k i j (by omega) (by omega)) hO2
  have e63 : E8 60 0 0 = some (gOut V g1) := (hX1 60 0 0 (by decide) (by decide)).trans e62
  have h52 : ∀ i j, E8 52 i j = none := fun i j => (hX1 52 i j (by decide) (by decide)).trans (h52 i j)
  obtain ⟨⟨nc1, nm1, hV1⟩, hk, hv⟩ := hq
  rw [hS2] at hR3
  refine lv_iload hx hb dL_law_905 (lv_at hl 1 rfl) ?_
  refine lv_icmp_eq (tgt := 912) hx hb dL_law_907 (by decide) (fun _ => ?_) (fun z => absurd (ht.trans hk.symm) z)
  refine lv_iload hx hb dL_law_912 (lv_at hl 1 rfl) ?_
  have K : W p l e room_1 s m #[Value.ref b] below meth c H locs (cells + 6 + 0 + 0) (slots + 41 + 0 + 0) Q (F0 m 929 ls []) := lv_goto (tgt := 1150) hx hb dL_law_929 (by decide) (W.widen (by omega) (by omega) (kk H locs ls ⟨ad1, E8, S1, T1, nc1, nm1, g1, hG, hO3, hR3, e63, h52, hV1, lv_sub hl [2, 3, 4, 5, 6] rfl⟩))
  refine lv_if_ne (tgt := 929) hx hb dL_law_914 (by decide) (fun _ => K) (fun k0 => ?_)
  refine lv_aload_n hx hb dL_law_917 rfl (lv_at hl 5 rfl) ?_
  refine lv_iconst (v := nI 0) hx hb dL_law_918 (by decide) ?_
  refine gq_lald hC hG e63 (vp_in_nI (n := 0) (by decide) (by decide)) dL_law_919 ?_
  refine gq_topl (g1 0) (congrArg g1 (nI_clamp (by decide))) ?_
  refine lv_iload hx hb dL_law_920 (lv_at hl 0 rfl) ?_
  refine lv_i2l hx hb dL_law_922 rfl ?_
  refine lv_lcmpE hx hb (hv k0) dL_law_923 ?_
  exact lv_if_eq (tgt := 929) hx hb dL_law_924 (by decide) (fun _ => K) (fun z => absurd rfl z)
set_option maxHeartbeats 4000000 in
set_option maxRecDepth 100000 in
theorem lk_disappointments (hC : gC p s m meth c RL cL_law 8 ret #[Value.ref b] V) (hST : l.stackTraces = false) (hX : va_X b L xs s s.heap) (hbl : b < s.heap.size) (hn : n + 7 ≤ L) (hL : L ≤ 3584) (hcl : cells + 8 ≤ 601024) (hsl : slots + 57 ≤ 7293034) (hI : lwJ V s b n H locs ls) (kk : ∀ (H : Heap) (locs : List Loc) (ls : Array Slot), lwJ V s b n H locs ls → W p l e room_1 s m #[Value.ref b] below meth c H locs (cells + 8) (slots + 57) Q (F0 m 1150 ls [])) : W p l e room_1 s m #[Value.ref b] below meth c H locs cells slots Q (F0 m 932 ls []) := by
  obtain ⟨ad, E, S, T, nc, nm, g, hG, hO, hR, e60, h52, hV, hl⟩ := hI
  have hx := hC.1
  have hb := hC.2.1
  refine lv_aload_n hx hb dL_law_932 rfl (lv_at hl 1 rfl) ?_
  refine lv_aload_n hx hb dL_law_933 rfl (lv_at hl 0 rfl) ?_
  refine lv_iload hx hb dL_law_934 (lv_at hl 4 rfl) ?_
  refine lv_iconst (v := nI 1) hx hb dL_law_936 (by decide) ?_
  refine lv_iadd hx hb dL_law_937 ?_
  refine lw_sld hx hb hX hbl (by show ¬ s.heap.size ≤ b; omega) hG.2.2.2.2 (k := 1) (by omega) hL dL_law_938 ?_
  refine lv_aload_n hx hb dL_law_939 rfl (lv_at hl 3 rfl) ?_
  refine gc_Sh hC hG (hh_disappointments l hST V ad E S T nc nm hV hO g e60 (xs (n + 1))) km_RL_134 kst_yL_disappointments kz_RL kd_yL_disappointments dn_L_disappointments rfl hl.1 ⟨by decide, by decide⟩ (Nat.le_of_ble_eq_true rfl) ⟨by show cells + 6 ≤ (601024 : Nat); omega, by show slots + 41 ≤ (7293034 : Nat); omega⟩ dL_law_940 (fun k_ ad1 E1 H locs p_ hG hgr => ?_)
  refine lv_istore (lv' := [(5, .int k_), (0, .ref b), (1, .ref (ad 0 0 0)), (2, .ref (ad 50 0 0)), (3, .ref (ad 60 0 0)), (4, .int (nI n))]) hx hb dL_law_943 hl (by decide) rfl (fun ls hl => ?_)
  obtain ⟨fr, a0, a60, T1, g1, hO1, e61, hq⟩ := p_
  have a50 := (fr 50 0 0 (by omega)).2
  have hl : lv_has ls 8 [(5, .int k_), (0, .ref b), (1, .ref (ad1 0 0 0)), (2, .ref (ad1 50 0 0)), (3, .ref (ad1 60 0 0)), (4, .int (nI n))] := by rw [a0, a50, a60]; exact hl
  have hR1 : rfOK V ad1 S E1 := rf_ext (fun k i j h => fr k i j (by omega)) hR
  have h52 : ∀ i j, E1 52 i j = none := fun i j => (fr 52 i j (by omega)).1.trans (h52 i j)
  refine lv_aload_n hx hb dL_law_945 rfl (lv_at hl 3 rfl) ?_
  refine lv_aload_n hx hb dL_law_946 rfl (lv_at hl 1 rfl) ?_
  refine lv_iload hx hb dL_law_947 (lv_at hl 5 rfl) ?_
  refine lv_iconst (v := nI 1) hx hb dL_law_949 (by decide) ?_
  refine lv_iadd hx hb dL_law_950 ?_
  refine lw_sld hx hb hX hbl (by show ¬ s.heap.size ≤ b; omega) hG.2.2.2.2 (k := 1) (by omega) hL dL_law_951 ?_
  refine gc_Vi hC hG (hR1).1 rfl (c6_disappointments l V ad1 S nc nm hV.1 (xs (n + 1)) E1 hR1) km_RL_136 kn_yX6_disappointments ks_yX6_disappointments kz_RX6 kd_yX6_disappointments dn_X6_disappointments rfl hl.1 ⟨by decide, by decide⟩ (Nat.le_of_ble_eq_true rfl) ⟨by show cells + 6 + 0 ≤ (601024 : Nat); omega, by show slots + 41 + 0 ≤ (7293034 : Nat); omega⟩ dL_law_952 (fun r_ ad9 E9 H locs q_ hG hgr => ?_)
  obtain ⟨h1, hX1, S1, hR2, hr, hS⟩ := q_
  have hq : hP r_ S1 k_ (g1 0) T1 := by rw [hr, hS]; exact hq
  rw [h1] at hG
  have hO2 : cmOK V ad1 T1 E9 := cm_ext (fun k i j h => hX1 k i j (by omega) (by omega)) hO1
  have e62 : E9 60 0 0 = some (gOut V g1) := (hX1 60 0 0 (by decide) (by decide)).trans e61
  have h52 : ∀ i j, E9 52 i j = none := fun i j => (hX1 52 i j (by decide) (by decide)).trans (h52 i j)
  clear h1 hX1 hgr
  refine lv_istore (lv' := [(6, .int r_), (5, .int k_), (0, .ref b), (1, .ref (ad1 0 0 0)), (2, .ref (ad1 50 0 0)), (3, .ref (ad1 60 0 0)), (4, .int (nI n))]) hx hb dL_law_955 hl (by decide) rfl (fun ls hl => ?_)
  refine lv_aload_n hx hb dL_law_957 rfl (lv_at hl 4 rfl) ?_
  refine gc_Vi hC hG hR2.1 rfl (c6_thrown l V ad1 S1 E9 hR2) km_RL_71 kn_yX6_thrown ks_yX6_thrown kz_RX6 kd_yX6_thrown dn_X6_thrown rfl hl.1 ⟨by decide, by decide⟩ (Nat.le_of_ble_eq_true rfl) ⟨by show cells + 6 + 0 + 0 ≤ (601024 : Nat); omega, by show slots + 41 + 0 + 0 ≤ (7293034 : Nat); omega⟩ dL_law_958 (fun t_ ad8 E8 H locs q_ hG hgr => ?_)
  obtain ⟨h1, hX1, S2, hR3, ht, hS2⟩ := q_
  rw [h1] at hG
  have hO3 : cmOK V ad1 T1 E8 := cm_ext (fun k i j h => hX1 k i j (by omega) (by omega)) hO2
  have e63 : E8 60 0 0 = some (gOut V g1) := (hX1 60 0 0 (by decide) (by decide)).trans e62
  have h52 : ∀ i j, E8 52 i j = none := fun i j => (hX1 52 i j (by decide) (by decide)).trans (h52 i j)
  obtain ⟨⟨nc1, nm1, hV1⟩, hk, hv⟩ := hq
  rw [hS2] at hR3
  refine lv_iload hx hb dL_law_961 (lv_at hl 1 rfl) ?_
  refine lv_icmp_eq (tgt := 968) hx hb dL_law_963 (by decide) (fun _ => ?_) (fun z => absurd (ht.trans hk.symm) z)
  refine lv_iload hx hb dL_law_968 (lv_at hl 1 rfl) ?_
  have K : W p l e room_1 s m #[Value.ref b] below meth c H locs (cells + 6 + 0 + 0) (slots + 41 + 0 + 0) Q (F0 m 985 ls []) := lv_goto (tgt := 1150) hx hb dL_law_985 (by decide) (W.widen (by omega) (by omega) (kk H locs ls ⟨ad1, E8, S1, T1, nc1, nm1, g1, hG, hO3, hR3, e63, h52, hV1, lv_sub hl [2, 3, 4, 5, 6] rfl⟩))
  refine lv_if_ne (tgt := 985) hx hb dL_law_970 (by decide) (fun _ => K) (fun k0 => ?_)
  refine lv_aload_n hx hb dL_law_973 rfl (lv_at hl 5 rfl) ?_
  refine lv_iconst (v := nI 0) hx hb dL_law_974 (by decide) ?_
  refine gq_lald hC hG e63 (vp_in_nI (n := 0) (by decide) (by decide)) dL_law_975 ?_
  refine gq_topl (g1 0) (congrArg g1 (nI_clamp (by decide))) ?_
  refine lv_iload hx hb dL_law_976 (lv_at hl 0 rfl) ?_
  refine lv_i2l hx hb dL_law_978 rfl ?_
  refine lv_lcmpE hx hb (hv k0) dL_law_979 ?_
  exact lv_if_eq (tgt := 985) hx hb dL_law_980 (by decide) (fun _ => K) (fun z => absurd rfl z)
set_option maxHeartbeats 4000000 in
set_option maxRecDepth 100000 in
theorem lk_met (hC : gC p s m meth c RL cL_law 8 ret #[Value.ref b] V) (hST : l.stackTraces = false) (hX : va_X b L xs s s.heap) (hbl : b < s.heap.size) (hn : n + 7 ≤ L) (hL : L ≤ 3584) (hcl : cells + 8 ≤ 601024) (hsl : slots + 57 ≤ 7293034) (hI : lwJ V s b n H locs ls) (kk : ∀ (H : Heap) (locs : List Loc) (ls : Array Slot), lwJ V s b n H locs ls → W p l e room_1 s m #[Value.ref b] below meth c H locs (cells + 8) (slots + 57) Q (F0 m 1150 ls [])) : W p l e room_1 s m #[Value.ref b] below meth c H locs cells slots Q (F0 m 988 ls []) := by
  obtain ⟨ad, E, S, T, nc, nm, g, hG, hO, hR, e60, h52, hV, hl⟩ := hI
  have hx := hC.1
  have hb := hC.2.1
  refine lv_aload_n hx hb dL_law_988 rfl (lv_at hl 1 rfl) ?_
  refine lv_aload_n hx hb dL_law_989 rfl (lv_at hl 0 rfl) ?_
  refine lv_iload hx hb dL_law_990 (lv_at hl 4 rfl) ?_
  refine lv_iconst (v := nI 1) hx hb dL_law_992 (by decide) ?_
  refine lv_iadd hx hb dL_law_993 ?_
  refine lw_sld hx hb hX hbl (by show ¬ s.heap.size ≤ b; omega) hG.2.2.2.2 (k := 1) (by omega) hL dL_law_994 ?_
  refine lv_aload_n hx hb dL_law_995 rfl (lv_at hl 0 rfl) ?_
  refine lv_iload hx hb dL_law_996 (lv_at hl 4 rfl) ?_
  refine lv_iconst (v := nI 2) hx hb dL_law_998 (by decide) ?_
  refine lv_iadd hx hb dL_law_999 ?_
  refine lw_sld hx hb hX hbl (by show ¬ s.heap.size ≤ b; omega) hG.2.2.2.2 (k := 2) (by omega) hL dL_law_1000 ?_
  refine lv_aload_n hx hb dL_law_1001 rfl (lv_at hl 3 rfl) ?_
  refine gc_Sh hC hG (hh_met l hST V ad E S T nc nm hV hO g e60 (xs (n + 1)) (xs (n + 2))) km_RL_137 kst_yL_met kz_RL kd_yL_met dn_L_met rfl hl.1 ⟨by decide, by decide⟩ (Nat.le_of_ble_eq_true rfl) ⟨by show cells + 6 ≤ (601024 : Nat); omega, by show slots + 41 ≤ (7293034 : Nat); omega⟩ dL_law_1002 (fun k_ ad1 E1 H locs p_ hG hgr => ?_)
  refine lv_istore (lv' := [(5, .int k_), (0, .ref b), (1, .ref (ad 0 0 0)), (2, .ref (ad 50 0 0)), (3, .ref (ad 60 0 0)), (4, .int (nI n))]) hx hb dL_law_1005 hl (by decide) rfl (fun ls hl => ?_)
  obtain ⟨fr, a0, a60, T1, g1, hO1, e61, hq⟩ := p_
  have a50 := (fr 50 0 0 (by omega)).2
  have hl : lv_has ls 8 [(5, .int k_), (0, .ref b), (1, .ref (ad1 0 0 0)), (2, .ref (ad1 50 0 0)), (3, .ref (ad1 60 0 0)), (4, .int (nI n))] := by rw [a0, a50, a60]; exact hl
  have hR1 : rfOK V ad1 S E1 := rf_ext (fun k i j h => fr k i j (by omega)) hR
  have h52 : ∀ i j, E1 52 i j = none := fun i j => (fr 52 i j (by omega)).1.trans (h52 i j)
  refine lv_aload_n hx hb dL_law_1007 rfl (lv_at hl 3 rfl) ?_
  refine lv_aload_n hx hb dL_law_1008 rfl (lv_at hl 1 rfl) ?_
  refine lv_iload hx hb dL_law_1009 (lv_at hl 5 rfl) ?_
  refine lv_iconst (v := nI 1) hx hb dL_law_1011 (by decide) ?_
  refine lv_iadd hx hb dL_law_1012 ?_
  refine lw_sld hx hb hX hbl (by show ¬ s.heap.size ≤ b; omega) hG.2.2.2.2 (k := 1) (by omega) hL dL_law_1013 ?_
  refine lv_aload_n hx hb dL_law_1014 rfl (lv_at hl 1 rfl) ?_
  refine lv_iload hx hb dL_law_1015 (lv_at hl 5 rfl) ?_
  refine lv_iconst (v := nI 2) hx hb dL_law_1017 (by decide) ?_
  refine lv_iadd hx hb dL_law_1018 ?_
  refine lw_sld hx hb hX hbl (by show ¬ s.heap.size ≤ b; omega) hG.2.2.2.2 (k := 2) (by omega) hL dL_law_1019 ?_
  refine gc_Vi hC hG (hR1).1 rfl (c6_met l V ad1 S nc nm hV.1 (xs (n + 1)) (xs (n + 2)) E1 hR1) km_RL_139 kn_yX6_met ks_yX6_met kz_RX6 kd_yX6_met dn_X6_met rfl hl.1 ⟨by decide, by decide⟩ (Nat.le_of_ble_eq_true rfl) ⟨by show cells + 6 + 0 ≤ (601024 : Nat); omega, by show slots + 41 + 0 ≤ (7293034 : Nat); omega⟩ dL_law_1020 (fun r_ ad9 E9 H locs q_ hG hgr => ?_)
  obtain ⟨h1, hX1, S1, hR2, hr, hS⟩ := q_
  have hq : hP r_ S1 k_ (g1 0) T1 := by rw [hr, hS]; exact hq
  rw [h1] at hG
  have hO2 : cmOK V ad1 T1 E9 := cm_ext (fun k i j h => hX1 k i j (by omega) (by omega)) hO1
  have e62 : E9 60 0 0 = some (gOut V g1) := (hX1 60 0 0 (by decide) (by decide)).trans e61
  have h52 : ∀ i j, E9 52 i j = none := fun i j => (hX1 52 i j (by decide) (by decide)).trans (h52 i j)
  clear h1 hX1 hgr
  refine lv_istore (lv' := [(6, .int r_), (5, .int k_), (0, .ref b), (1, .ref (ad1 0 0 0)), (2, .ref (ad1 50 0 0)), (3, .ref (ad1 60 0 0)), (4, .int (nI n))]) hx hb dL_law_1023 hl (by decide) rfl (fun ls hl => ?_)
  refine lv_aload_n hx hb dL_law_1025 rfl (lv_at hl 4 rfl) ?_
  refine gc_Vi hC hG hR2.1 rfl (c6_thrown l V ad1 S1 E9 hR2) km_RL_71 kn_yX6_thrown ks_yX6_thrown kz_RX6 kd_yX6_thrown dn_X6_thrown rfl hl.1 ⟨by decide, by decide⟩ (Nat.le_of_ble_eq_true rfl) ⟨by show cells + 6 + 0 + 0 ≤ (601024 : Nat); omega, by show slots + 41 + 0 + 0 ≤ (7293034 : Nat); omega⟩ dL_law_1026 (fun t_ ad8 E8 H locs q_ hG hgr => ?_)
  obtain ⟨h1, hX1, S2, hR3, ht, hS2⟩ := q_
  rw [h1] at hG
  have hO3 : cmOK V ad1 T1 E8 := cm_ext (fun k i j h => hX1 k i j (by omega) (by omega)) hO2
  have e63 : E8 60 0 0 = some (gOut V g1) := (hX1 60 0 0 (by decide) (by decide)).trans e62
  have h52 : ∀ i j, E8 52 i j = none := fun i j => (hX1 52 i j (by decide) (by decide)).trans (h52 i j)
  obtain ⟨⟨nc1, nm1, hV1⟩, hk, hv⟩ := hq
  rw [hS2] at hR3
  refine lv_iload hx hb dL_law_1029 (lv_at hl 1 rfl) ?_
  refine lv_icmp_eq (tgt := 1036) hx hb dL_law_1031 (by decide) (fun _ => ?_) (fun z => absurd (ht.trans hk.symm) z)
  refine lv_iload hx hb dL_law_1036 (lv_at hl 1 rfl) ?_
  have K : W p l e room_1 s m #[Value.ref b] below meth c H locs (cells + 6 + 0 + 0) (slots + 41 + 0 + 0) Q (F0 m 1053 ls []) := lv_goto (tgt := 1150) hx hb dL_law_1053 (by decide) (W.widen (by omega) (by omega) (kk H locs ls ⟨ad1, E8, S1, T1, nc1, nm1, g1, hG, hO3, hR3, e63, h52, hV1, lv_sub hl [2, 3, 4, 5, 6] rfl⟩))
  refine lv_if_ne (tgt := 1053) hx hb dL_law_1038 (by decide) (fun _ => K) (fun k0 => ?_)
  refine lv_aload_n hx hb dL_law_1041 rfl (lv_at hl 5 rfl) ?_
  refine lv_iconst (v := nI 0) hx hb dL_law_1042 (by decide) ?_
  refine gq_lald hC hG e63 (vp_in_nI (n := 0) (by decide) (by decide)) dL_law_1043 ?_
  refine gq_topl (g1 0) (congrArg g1 (nI_clamp (by decide))) ?_
  refine lv_iload hx hb dL_law_1044 (lv_at hl 0 rfl) ?_
  refine lv_i2l hx hb dL_law_1046 rfl ?_
  refine lv_lcmpE hx hb (hv k0) dL_law_1047 ?_
  exact lv_if_eq (tgt := 1053) hx hb dL_law_1048 (by decide) (fun _ => K) (fun z => absurd rfl z)
set_option maxHeartbeats 4000000 in
set_option maxRecDepth 100000 in
theorem lk_metClass (hC : gC p s m meth c RL cL_law 8 ret #[Value.ref b] V) (hST : l.stackTraces = false) (hX : va_X b L xs s s.heap) (hbl : b < s.heap.size) (hn : n + 7 ≤ L) (hL : L ≤ 3584) (hcl : cells + 8 ≤ 601024) (hsl : slots + 57 ≤ 7293034) (hI : lwJ V s b n H locs ls) (kk : ∀ (H : Heap) (locs : List Loc) (ls : Array Slot), lwJ V s b n H locs ls → W p l e room_1 s m #[Value.ref b] below meth c H locs (cells + 8) (slots + 57) Q (F0 m 1150 ls [])) : W p l e room_1 s m #[Value.ref b] below meth c H locs cells slots Q (F0 m 1056 ls []) := by
  obtain ⟨ad, E, S, T, nc, nm, g, hG, hO, hR, e60, h52, hV, hl⟩ := hI
  have hx := hC.1
  have hb := hC.2.1
  refine lv_aload_n hx hb dL_law_1056 rfl (lv_at hl 1 rfl) ?_
  refine lv_aload_n hx hb dL_law_1057 rfl (lv_at hl 0 rfl) ?_
  refine lv_iload hx hb dL_law_1058 (lv_at hl 4 rfl) ?_
  refine lv_iconst (v := nI 1) hx hb dL_law_1060 (by decide) ?_
  refine lv_iadd hx hb dL_law_1061 ?_
  refine lw_sld hx hb hX hbl (by show ¬ s.heap.size ≤ b; omega) hG.2.2.2.2 (k := 1) (by omega) hL dL_law_1062 ?_
  refine lv_aload_n hx hb dL_law_1063 rfl (lv_at hl 0 rfl) ?_
  refine lv_iload hx hb dL_law_1064 (lv_at hl 4 rfl) ?_
  refine lv_iconst (v := nI 2) hx hb dL_law_1066 (by decide) ?_
  refine lv_iadd hx hb dL_law_1067 ?_
  refine lw_sld hx hb hX hbl (by show ¬ s.heap.size ≤ b; omega) hG.2.2.2.2 (k := 2) (by omega) hL dL_law_1068 ?_
  refine lv_aload_n hx hb dL_law_1069 rfl (lv_at hl 0 rfl) ?_
  refine lv_iload hx hb dL_law_1070 (lv_at hl 4 rfl) ?_
  refine lv_iconst (v := nI 3) hx hb dL_law_1072 (by decide) ?_
  refine lv_iadd hx hb dL_law_1073 ?_
  refine lw_sld hx hb hX hbl (by show ¬ s.heap.size ≤ b; omega) hG.2.2.2.2 (k := 3) (by omega) hL dL_law_1074 ?_
  refine lv_aload_n hx hb dL_law_1075 rfl (lv_at hl 3 rfl) ?_
  refine gc_Sh hC hG (hh_metClass l hST V ad E S T nc nm hV hO g e60 (xs (n + 1)) (xs (n + 2)) (xs (n + 3))) km_RL_140 kst_yL_metClass kz_RL kd_yL_metClass dn_L_metClass rfl hl.1 ⟨by decide, by decide⟩ (Nat.le_of_ble_eq_true rfl) ⟨by show cells + 6 ≤ (601024 : Nat); omega, by show slots + 41 ≤ (7293034 : Nat); omega⟩ dL_law_1076 (fun k_ ad1 E1 H locs p_ hG hgr => ?_)
  refine lv_istore (lv' := [(5, .int k_), (0, .ref b), (1, .ref (ad 0 0 0)), (2, .ref (ad 50 0 0)), (3, .ref (ad 60 0 0)), (4, .int (nI n))]) hx hb dL_law_1079 hl (by decide) rfl (fun ls hl => ?_)
  obtain ⟨fr, a0, a60, T1, g1, hO1, e61, hq⟩ := p_
  have a50 := (fr 50 0 0 (by omega)).2
  have hl : lv_has ls 8 [(5, .int k_), (0, .ref b), (1, .ref (ad1 0 0 0)), (2, .ref (ad1 50 0 0)), (3, .ref (ad1 60 0 0)), (4, .int (nI n))] := by rw [a0, a50, a60]; exact hl
  have hR1 : rfOK V ad1 S E1 := rf_ext (fun k i j h => fr k i j (by omega)) hR
  have h52 : ∀ i j, E1 52 i j = none := fun i j => (fr 52 i j (by omega)).1.trans (h52 i j)
  refine lv_aload_n hx hb dL_law_1081 rfl (lv_at hl 3 rfl) ?_
  refine lv_aload_n hx hb dL_law_1082 rfl (lv_at hl 1 rfl) ?_
  refine lv_iload hx hb dL_law_1083 (lv_at hl 5 rfl) ?_
  refine lv_iconst (v := nI 1) hx hb dL_law_1085 (by decide) ?_
  refine lv_iadd hx hb dL_law_1086 ?_
  refine lw_sld hx hb hX hbl (by show ¬ s.heap.size ≤ b; omega) hG.2.2.2.2 (k := 1) (by omega) hL dL_law_1087 ?_
  refine lv_aload_n hx hb dL_law_1088 rfl (lv_at hl 1 rfl) ?_
  refine lv_iload hx hb dL_law_1089 (lv_at hl 5 rfl) ?_
  refine lv_iconst (v := nI 2) hx hb dL_law_1091 (by decide) ?_
  refine lv_iadd hx hb dL_law_1092 ?_
  refine lw_sld hx hb hX hbl (by show ¬ s.heap.size ≤ b; omega) hG.2.2.2.2 (k := 2) (by omega) hL dL_law_1093 ?_
  refine lv_aload_n hx hb dL_law_1094 rfl (lv_at hl 1 rfl) ?_
  refine lv_iload hx hb dL_law_1095 (lv_at hl 5 rfl) ?_
  refine lv_iconst (v := nI 3) hx hb dL_law_1097 (by decide) ?_
  refine lv_iadd hx hb dL_law_1098 ?_
  refine lw_sld hx hb hX hbl (by show ¬ s.heap.size ≤ b; omega) hG.2.2.2.2 (k := 3) (by omega) hL dL_law_1099 ?_
  refine gc_Vi hC hG (hR1).1 rfl (c6_metClass l V ad1 S nc nm hV.1 (xs (n + 1)) (xs (n + 2)) (xs (n + 3)) E1 hR1) km_RL_142 kn_yX6_metClass ks_yX6_metClass kz_RX6 kd_yX6_metClass dn_X6_metClass rfl hl.1 ⟨by decide, by decide⟩ (Nat.le_of_ble_eq_true rfl) ⟨by show cells + 6 + 0 ≤ (601024 : Nat); omega, by show slots + 41 + 0 ≤ (7293034 : Nat); omega⟩ dL_law_1100 (fun r_ ad9 E9 H locs q_ hG hgr => ?_)
  obtain ⟨h1, hX1, S1, hR2, hr, hS⟩ := q_
  have hq : hP r_ S1 k_ (g1 0) T1 := by rw [hr, hS]; exact hq
  rw [h1] at hG
  have hO2 : cmOK V ad1 T1 E9 := cm_ext (fun k i j h => hX1 k i j (by omega) (by omega)) hO1
  have e62 : E9 60 0 0 = some (gOut V g1) := (hX1 60 0 0 (by decide) (by decide)).trans e61
  have h52 : ∀ i j, E9 52 i j = none := fun i j => (hX1 52 i j (by decide) (by decide)).trans (h52 i j)
  clear h1 hX1 hgr
  refine lv_istore (lv' := [(6, .int r_), (5, .int k_), (0, .ref b), (1, .ref (ad1 0 0 0)), (2, .ref (ad1 50 0 0)), (3, .ref (ad1 60 0 0)), (4, .int (nI n))]) hx hb dL_law_1103 hl (by decide) rfl (fun ls hl => ?_)
  refine lv_aload_n hx hb dL_law_1105 rfl (lv_at hl 4 rfl) ?_
  refine gc_Vi hC hG hR2.1 rfl (c6_thrown l V ad1 S1 E9 hR2) km_RL_71 kn_yX6_thrown ks_yX6_thrown kz_RX6 kd_yX6_thrown dn_X6_thrown rfl hl.1 ⟨by decide, by decide⟩ (Nat.le_of_ble_eq_true rfl) ⟨by show cells + 6 + 0 + 0 ≤ (601024 : Nat); omega, by show slots + 41 + 0 + 0 ≤ (7293034 : Nat); omega⟩ dL_law_1106 (fun t_ ad8 E8 H locs q_ hG hgr => ?_)
  obtain ⟨h1, hX1, S2, hR3, ht, hS2⟩ := q_
  rw [h1] at hG
  have hO3 : cmOK V ad1 T1 E8 := cm_ext (fun k i j h => hX1 k i j (by omega) (by omega)) hO2
  have e63 : E8 60 0 0 = some (gOut V g1) := (hX1 60 0 0 (by decide) (by decide)).trans e62
  have h52 : ∀ i j, E8 52 i j = none := fun i j => (hX1 52 i j (by decide) (by decide)).trans (h52 i j)
  obtain ⟨⟨nc1, nm1, hV1⟩, hk, hv⟩ := hq
  rw [hS2] at hR3
  refine lv_iload hx hb dL_law_1109 (lv_at hl 1 rfl) ?_
  refine lv_icmp_eq (tgt := 1116) hx hb dL_law_1111 (by decide) (fun _ => ?_) (fun z => absurd (ht.trans hk.symm) z)
  refine lv_iload hx hb dL_law_1116 (lv_at hl 1 rfl) ?_
  have K : W p l e room_1 s m #[Value.ref b] below meth c H locs (cells + 6 + 0 + 0) (slots + 41 + 0 + 0) Q (F0 m 1133 ls []) := lv_goto (tgt := 1150) hx hb dL_law_1133 (by decide) (W.widen (by omega) (by omega) (kk H locs ls ⟨ad1, E8, S1, T1, nc1, nm1, g1, hG, hO3, hR3, e63, h52, hV1, lv_sub hl [2, 3, 4, 5, 6] rfl⟩))
  refine lv_if_ne (tgt := 1133) hx hb dL_law_1118 (by decide) (fun _ => K) (fun k0 => ?_)
  refine lv_aload_n hx hb dL_law_1121 rfl (lv_at hl 5 rfl) ?_
  refine lv_iconst (v := nI 0) hx hb dL_law_1122 (by decide) ?_
  refine gq_lald hC hG e63 (vp_in_nI (n := 0) (by decide) (by decide)) dL_law_1123 ?_
  refine gq_topl (g1 0) (congrArg g1 (nI_clamp (by decide))) ?_
  refine lv_iload hx hb dL_law_1124 (lv_at hl 0 rfl) ?_
  refine lv_i2l hx hb dL_law_1126 rfl ?_
  refine lv_lcmpE hx hb (hv k0) dL_law_1127 ?_
  exact lv_if_eq (tgt := 1133) hx hb dL_law_1128 (by decide) (fun _ => K) (fun z => absurd rfl z)
set_option maxHeartbeats 4000000 in
set_option maxRecDepth 100000 in
theorem lk_digest (hC : gC p s m meth c RL cL_law 8 ret #[Value.ref b] V) (hST : l.stackTraces = false) (hX : va_X b L xs s s.heap) (hbl : b < s.heap.size) (hn : n + 7 ≤ L) (hL : L ≤ 3584) (hcl : cells + 8 ≤ 601024) (hsl : slots + 57 ≤ 7293034) (hI : lwJ V s b n H locs ls) (kk : ∀ (H : Heap) (locs : List Loc) (ls : Array Slot), lwJ V s b n H locs ls → W p l e room_1 s m #[Value.ref b] below meth c H locs (cells + 8) (slots + 57) Q (F0 m 1150 ls [])) : W p l e room_1 s m #[Value.ref b] below meth c H locs cells slots Q (F0 m 1136 ls []) := by
  obtain ⟨ad, E, S, T, nc, nm, g, hG, hO, hR, e60, h52, hV, hl⟩ := hI
  have hx := hC.1
  have hb := hC.2.1
  refine lv_aload_n hx hb dL_law_1136 rfl (lv_at hl 1 rfl) ?_
  refine gc_Vl hC hG hO.1 rfl (c5_digest l V ad T nc nm (Inv_T hV) E hO) km_RL_143 kn_yX5_digest ks_yX5_digest kz_RX5 kd_yX5_digest dn_X5_digest rfl hl.1 ⟨by decide, by decide⟩ (Nat.le_of_ble_eq_true rfl) ⟨by show cells + 0 ≤ (601024 : Nat); omega, by show slots + 0 ≤ (7293034 : Nat); omega⟩ dL_law_1137 (fun t_ ad1 E1 H locs q_ hG hgr => ?_)
  obtain ⟨h1, hX1, T1, hO1, ht, hT⟩ := q_
  rw [h1] at hG
  have hR1 : rfOK V ad S E1 := rf_ext (fun k i j h => ⟨hX1 k i j (by omega), rfl⟩) hR
  have e61 : E1 60 0 0 = some (gOut V g) := (hX1 60 0 0 (by omega)).trans e60
  have h52 : ∀ i j, E1 52 i j = none := fun i j => (hX1 52 i j (by omega)).trans (h52 i j)
  clear h1 hX1 hgr
  refine lv_aload_n hx hb dL_law_1140 rfl (lv_at hl 2 rfl) ?_
  refine gc_Vl hC hG (hR1).1 rfl (c6_digest l V ad S nc nm hV.1 E1 hR1) km_RL_146 kn_yX6_digest ks_yX6_digest kz_RX6 kd_yX6_digest dn_X6_digest rfl hl.1 ⟨by decide, by decide⟩ (Nat.le_of_ble_eq_true rfl) ⟨by show cells + 0 + 0 ≤ (601024 : Nat); omega, by show slots + 0 + 0 ≤ (7293034 : Nat); omega⟩ dL_law_1141 (fun r_ ad9 E9 H locs q_ hG hgr => ?_)
  obtain ⟨h1, hX1, S1, hR2, hr, hS⟩ := q_
  rw [h1] at hG
  have hO2 : cmOK V ad T1 E9 := cm_ext (fun k i j h => hX1 k i j (by omega) (by omega)) hO1
  have e62 : E9 60 0 0 = some (gOut V g) := (hX1 60 0 0 (by decide) (by decide)).trans e61
  have h52 : ∀ i j, E9 52 i j = none := fun i j => (hX1 52 i j (by decide) (by decide)).trans (h52 i j)
  have hq : t_ = r_ := by rw [ht, hr]; exact dig_er hV.2.2.2.2
  have hV1 : Inv S1 T1 nc nm := by rw [hS, hT]; exact Inv_0 _ hV
  have K : W p l e room_1 s m #[Value.ref b] below meth c H locs (cells + 0 + 0) (slots + 0 + 0) Q (F0 m 1150 ls []) := W.widen (by omega) (by omega) (kk H locs ls ⟨ad, E9, S1, T1, nc, nm, g, hG, hO2, hR2, e62, h52, hV1, hl⟩)
  refine lv_lcmpE hx hb hq dL_law_1144 ?_
  exact lv_if_eq (tgt := 1150) hx hb dL_law_1145 (by decide) (fun _ => K) (fun z => absurd rfl z)
end LWA
