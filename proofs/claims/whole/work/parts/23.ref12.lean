theorem gW.sub {V : gV} {A : Nat → Prop} {H0 : Heap} {ad ad2 : gA} {E E2 : gE} {H : Heap} {locs : List Loc} (h : gW V A H0 ad E H locs) (hs : ∀ (k i j : Nat) (e : va_E), E2 k i j = some e → E k i j = some e ∧ ad2 k i j = ad k i j) : gW V A H0 ad2 E2 H locs := by
  refine ⟨⟨fun k i j e he => ?_, fun k i j e k' i' j' e' h1 h2 z => ?_⟩, fun k i j e he => ?_, h.2.2.1, h.2.2.2.1, h.2.2.2.2⟩
  · obtain ⟨g1, g2⟩ := hs _ _ _ _ he
    rw [g2]
    exact h.1.1 _ _ _ _ g1
  · obtain ⟨g1, g2⟩ := hs _ _ _ _ h1
    obtain ⟨g3, g4⟩ := hs _ _ _ _ h2
    rw [g2, g4] at z
    exact h.1.2 _ _ _ _ _ _ _ _ g1 g3 z
  · obtain ⟨g1, g2⟩ := hs _ _ _ _ he
    rw [g2]
    exact h.2.1 _ _ _ _ g1
theorem rfX.gu {E0 E : gE} {i j : Nat} {e : va_E} (h : rfX E0 E) : rfX (gu E0 52 i j e) (gu E 52 i j e) := by
  intro k' i' j' h1 h2
  by_cases q : k' = 52 ∧ i' = i ∧ j' = j
  · obtain ⟨rfl, rfl, rfl⟩ := q
    rw [gu_eq, gu_eq]
  · rw [gu_ne q, gu_ne q]
    exact h k' i' j' h1 h2
section RX
variable {p : Program} {l : Launch} {e : Env} {R : Room} {s : State} {m : MethodId} {args : Array Value} {below : List Frame} {meth : Method} {c : Code} {H : Heap} {locs : List Loc} {cells slots : Nat} {Q : State → Prop}
variable {cc : ByteArray} {pc nL : Nat} {ls : Array Slot} {rest : List Value} {V : gV} {A : Nat → Prop} {H0 : Heap} {ad : gA} {E0 : gE} {own : String} {ret : Option FieldType} {S : rS}
theorem rx_zald (hC : gC p s m meth c own cc nL ret args V) (hR : rfW V A H0 ad E0 S H locs) {i j n : Nat} {f : Nat → Int32} (hE : E0 52 i j = some (.inl (V.2.1 2, n, .inl f))) (hn : n < 2 ^ 31) {x : Nat} (hx : x < n) (hdg : decode cc pc = .ok (.baload, 1)) (kk : W p l e R s m args below meth c H locs cells slots Q (F0 m (pc + 1) ls (.int (f x) :: rest))) : W p l e R s m args below meth c H locs cells slots Q (F0 m pc ls (.int (nI x) :: .ref (ad 52 i j) :: rest)) := by
  obtain ⟨E, hG, hO, hX⟩ := hR
  refine gq_zald hC hG ((hX 52 i j (by decide) (by decide)).trans hE) (vp_in_nI hx hn) hdg ?_
  rw [nI_clamp (by omega)]
  exact kk
theorem rx_iald (hC : gC p s m meth c own cc nL ret args V) (hR : rfW V A H0 ad E0 S H locs) {i j n : Nat} {f : Nat → Int32} (hE : E0 52 i j = some (.inl (V.2.1 0, n, .inl f))) (hn : n < 2 ^ 31) {x : Nat} (hx : x < n) (hdg : decode cc pc = .ok (.iaload, 1)) (kk : W p l e R s m args below meth c H locs cells slots Q (F0 m (pc + 1) ls (.int (f x) :: rest))) : W p l e R s m args below meth c H locs cells slots Q (F0 m pc ls (.int (nI x) :: .ref (ad 52 i j) :: rest)) := by
  obtain ⟨E, hG, hO, hX⟩ := hR
  refine gq_iald hC hG ((hX 52 i j (by decide) (by decide)).trans hE) (vp_in_nI hx hn) hdg ?_
  rw [nI_clamp (by omega)]
  exact kk
theorem rx_iast (hC : gC p s m meth c own cc nL ret args V) (hR : rfW V A H0 ad E0 S H locs) {i j n : Nat} {f : Nat → Int32} (hE : E0 52 i j = some (.inl (V.2.1 0, n, .inl f))) (hn : n < 2 ^ 31) {x : Nat} {y : Int32} (hx : x < n) (hdg : decode cc pc = .ok (.iastore, 1)) (kk : ∀ (H1 : Heap) (locs1 : List Loc), rfW V A H0 ad (gu E0 52 i j (.inl (V.2.1 0, n, .inl (va_up f x y)))) S H1 locs1 → W p l e R s m args below meth c H1 locs1 cells slots Q (F0 m (pc + 1) ls rest)) : W p l e R s m args below meth c H locs cells slots Q (F0 m pc ls (.int y :: .int (nI x) :: .ref (ad 52 i j) :: rest)) := by
  obtain ⟨E, hG, hO, hX⟩ := hR
  refine gq_iast hC hG ((hX 52 i j (by decide) (by decide)).trans hE) (vp_in_nI hx hn) hdg (fun H1 locs1 hG1 => ?_)
  rw [nI_clamp (by omega)] at hG1
  exact kk H1 locs1 ⟨_, hG1, hO, hX.gu⟩
theorem rx_zast (hC : gC p s m meth c own cc nL ret args V) (hR : rfW V A H0 ad E0 S H locs) {i j n : Nat} {f : Nat → Int32} (hE : E0 52 i j = some (.inl (V.2.1 2, n, .inl f))) (hn : n < 2 ^ 31) {x : Nat} {y : Int32} (hy : y = 0 ∨ y = 1) (hx : x < n) (hdg : decode cc pc = .ok (.bastore, 1)) (kk : ∀ (H1 : Heap) (locs1 : List Loc), rfW V A H0 ad (gu E0 52 i j (.inl (V.2.1 2, n, .inl (va_up f x y)))) S H1 locs1 → W p l e R s m args below meth c H1 locs1 cells slots Q (F0 m (pc + 1) ls rest)) : W p l e R s m args below meth c H locs cells slots Q (F0 m pc ls (.int y :: .int (nI x) :: .ref (ad 52 i j) :: rest)) := by
  obtain ⟨E, hG, hO, hX⟩ := hR
  refine gq_zast hC hG ((hX 52 i j (by decide) (by decide)).trans hE) hy (vp_in_nI hx hn) hdg (fun H1 locs1 hG1 => ?_)
  rw [nI_clamp (by omega)] at hG1
  exact kk H1 locs1 ⟨_, hG1, hO, hX.gu⟩
theorem rx_newi (hC : gC p s m meth c own cc nL ret args V) (hR : rfW V A H0 ad E0 S H locs) (i j : Nat) {N' : Nat} (hN : N' ≤ 100) (hcells : cells + 1 ≤ R.cells) (hslots : slots + N' ≤ R.slots) (hdg : decode cc pc = .ok (.newarray .int, 2)) (kk : ∀ (H1 : Heap) (ad1 : gA), ad1 50 0 0 = ad 50 0 0 → (∀ i' j', (i' ≠ i ∨ j' ≠ j) → ad1 52 i' j' = ad 52 i' j') → (∀ k i' j', k ≠ 52 → ad1 k i' j' = ad k i' j') → rfW V A H0 ad1 (gu E0 52 i j (.inl (V.2.1 0, N', .inl (fun _ => 0)))) S H1 locs → W p l e R s m args below meth c H1 locs (cells + 1) (slots + N') Q (F0 m (pc + 2) ls (.ref (ad1 52 i j) :: rest))) : W p l e R s m args below meth c H locs cells slots Q (F0 m pc ls (.int (nI N') :: rest)) := by
  obtain ⟨E, hG, hO, hX⟩ := hR
  refine gq_newa hC hG (atype := .int) (ty := .int) (t0 := 0) (a0 := (N', .inl (fun _ => 0))) ka__int rfl rfl (fun C h => by cases h) (by rw [vp_cell_i]; rfl) (nI_pos (by omega)) (nI_clamp (by omega)) (by show N' * 4 ≤ 536870912; omega) hcells hslots hdg 52 i j (fun H1 _ hG1 => ?_)
  have h := kk H1 (gau ad 52 i j H.size) rfl (fun i' j' h => gau_ne (fun z => by omega)) (fun k i' j' h => gau_ne (fun z => h z.1)) ⟨_, hG1, hO, hX.gu⟩
  rw [gau_eq] at h
  exact h
theorem rx_newz (hC : gC p s m meth c own cc nL ret args V) (hR : rfW V A H0 ad E0 S H locs) (i j : Nat) {N' : Nat} (hN : N' ≤ 100) (hcells : cells + 1 ≤ R.cells) (hslots : slots + N' ≤ R.slots) (hdg : decode cc pc = .ok (.newarray .boolean, 2)) (kk : ∀ (H1 : Heap) (ad1 : gA), ad1 50 0 0 = ad 50 0 0 → (∀ i' j', (i' ≠ i ∨ j' ≠ j) → ad1 52 i' j' = ad 52 i' j') → (∀ k i' j', k ≠ 52 → ad1 k i' j' = ad k i' j') → rfW V A H0 ad1 (gu E0 52 i j (.inl (V.2.1 2, N', .inl (fun _ => 0)))) S H1 locs → W p l e R s m args below meth c H1 locs (cells + 1) (slots + N') Q (F0 m (pc + 2) ls (.ref (ad1 52 i j) :: rest))) : W p l e R s m args below meth c H locs cells slots Q (F0 m pc ls (.int (nI N') :: rest)) := by
  obtain ⟨E, hG, hO, hX⟩ := hR
  refine gq_newa hC hG (atype := .boolean) (ty := .boolean) (t0 := 2) (a0 := (N', .inl (fun _ => 0))) ka__boolean rfl rfl (fun C h => by cases h) (by rw [vp_cell_i]; rfl) (nI_pos (by omega)) (nI_clamp (by omega)) (by show N' * 1 ≤ 536870912; omega) hcells hslots hdg 52 i j (fun H1 _ hG1 => ?_)
  have h := kk H1 (gau ad 52 i j H.size) rfl (fun i' j' h => gau_ne (fun z => by omega)) (fun k i' j' h => gau_ne (fun z => h z.1)) ⟨_, hG1, hO, hX.gu⟩
  rw [gau_eq] at h
  exact h
end RX
/-- does m trust, at a SEND with g, one of the classes that sm marks -/
def bi (b : Bool) : Int32 := if b = true then 1 else 0
theorem bi_or (b : Bool) : bi b = 0 ∨ bi b = 1 := by cases b <;> decide
def s_tk (S : rS) (sm : Nat → Int32) (r : Nat) (b : Bool) : Nat → Bool
  | 0 => b
  | k + 1 => s_tk S sm r b k || decide (sm (tn (S.1 14 (3 * r + k))) ≠ 0)
abbrev s_tq (S : rS) (m g q : Nat) : Prop := S.1 6 (5 * (20 * m + q)) = 5 ∧ S.1 6 (5 * (20 * m + q) + 2) = nI g ∧ S.1 15 (240 + 20 * m + q) = 0
def s_tp (S : rS) (sm : Nat → Int32) (m g : Nat) : Nat → Bool
  | 0 => false
  | q + 1 => if s_tq S m g q then s_tk S sm (240 + 20 * m + q) (s_tp S sm m g q) (tn (S.1 13 (240 + 20 * m + q))) else s_tp S sm m g q
set_option maxHeartbeats 4000000 in
set_option maxRecDepth 100000 in
theorem c6_trusts (l : Launch) (V : gV) (ad : gA) (S : rS) (m g z nc : Nat) (sm : Nat → Int32) (hm : m < 12) (h5 : S.1 5 m = nI z) (hz20 : z ≤ 20) (hp : s_par S nc) (hI13 : ∀ r : Nat, r < 480 → ∃ n : Nat, n ≤ 3 ∧ S.1 13 r = nI n ∧ ∀ k : Nat, k < n → ∃ d : Nat, d < nc ∧ S.1 14 (3 * r + k) = nI d) : ∀ E : gE, rfOK V ad S E → E 52 1 0 = some (.inl (V.2.1 2, 8, .inl sm)) → gMi l yX6_trusts cX6_trusts 8 (some .boolean) ({ frames := 1, cells := 0, slots := 0, locals := 23 } : Room) [.ref (ad 50 0 0), .int (nI m), .int (nI g), .ref (ad 52 1 0)] V ad E (rPi (fun r S' => r = bi (s_tp S sm m g z) ∧ S' = S) V ad E) := by
  intro E hO hsm sz
  refine g_of (by decide) (Nat.le_of_ble_eq_true rfl) ?_
  intro p e s m_ below meth c ls hC hz hG hl
  have hR : rfW V (gAd ad E sz) s.heap ad E S s.heap [] := ⟨E, hG, hO, rfX.rf⟩
  have hx := hC.1
  have hb := hC.2.1
  have hl : lv_has ls 8 [(0, .ref (ad 50 0 0)), (1, .int (nI m)), (2, .int (nI g)), (3, .ref (ad 52 1 0))] := hl
  have hnc := hp.1
  refine lv_iconst (v := 0) hx hb dX6_trusts_0 (by decide) ?_
  refine gq_top (bi (s_tp S sm m g 0)) (rfl) ?_
  refine lv_istore (lv' := [(4, .int (bi (s_tp S sm m g 0))), (0, .ref (ad 50 0 0)), (1, .int (nI m)), (2, .int (nI g)), (3, .ref (ad 52 1 0))]) hx hb dX6_trusts_1 hl (by decide) rfl (fun ls hl => ?_)
  refine lv_iconst (v := (nI 0)) hx hb dX6_trusts_3 (by decide) ?_
  refine lv_istore (lv' := [(5, .int ((nI 0))), (4, .int (bi (s_tp S sm m g 0))), (0, .ref (ad 50 0 0)), (1, .int (nI m)), (2, .int (nI g)), (3, .ref (ad 52 1 0))]) hx hb dX6_trusts_4 hl (by decide) rfl (fun ls hl => ?_)
  refine g_loop (T := Nat) (fun yy H locs ls => yy ≤ z ∧ rfW V (gAd ad E sz) s.heap ad E S H locs ∧ lv_has ls 8 [(5, .int (nI yy)), (4, .int (bi (s_tp S sm m g yy))), (0, .ref (ad 50 0 0)), (1, .int (nI m)), (2, .int (nI g)), (3, .ref (ad 52 1 0))]) (fun yy => z - yy) (fun yy ih H locs ls hI => ?_) (0) ⟨by omega, hR, lv_sub hl [0, 1, 2, 3, 4, 5] rfl⟩
  obtain ⟨hyz, hR, hl⟩ := hI
  refine lv_iload hx hb dX6_trusts_6 (lv_at hl 0 rfl) ?_
  refine lv_aload_n hx hb dX6_trusts_8 rfl (lv_at hl 2 rfl) ?_
  refine rg_5 hC hR dX6_trusts_9 ?_
  refine lv_iload_n hx hb dX6_trusts_12 rfl (lv_at hl 3 rfl) ?_
  refine ra_5 hC hR (by omega) dX6_trusts_13 ?_
  refine gq_top (nI z) (h5) ?_
  refine gn_icmp_ge (tgt := 122) hx hb (by omega) (by omega) dX6_trusts_14 (by decide) (fun c_14 => ?_) (fun c_14 => ?_)
  · refine lv_iload hx hb dX6_trusts_122 (lv_at hl 1 rfl) ?_
    exact rr_zret hC hz hR (bi_or _) (⟨by rw [show yy = z by omega], rfl⟩) (by decide) (by decide) dX6_trusts_124
  · refine lv_sipush (v := 240) hx hb dX6_trusts_17 (by decide) ?_
    refine lv_bipush (v := 20) hx hb dX6_trusts_20 (by decide) ?_
    refine lv_iload_n hx hb dX6_trusts_22 rfl (lv_at hl 3 rfl) ?_
    refine lv_imul hx hb dX6_trusts_23 ?_
    refine lv_iadd hx hb dX6_trusts_24 ?_
    refine lv_iload hx hb dX6_trusts_25 (lv_at hl 0 rfl) ?_
    refine lv_iadd hx hb dX6_trusts_27 ?_
    refine gq_top (nI (240 + 20 * m + yy)) (by simp only [nl1, nl2, nl3, nl4, nl5, nl6, nl20, nl240, nI_mul, nI_add]) ?_
    refine lv_istore (lv' := [(6, .int (nI (240 + 20 * m + yy))), (5, .int (nI yy)), (4, .int (bi (s_tp S sm m g yy))), (0, .ref (ad 50 0 0)), (1, .int (nI m)), (2, .int (nI g)), (3, .ref (ad 52 1 0))]) hx hb dX6_trusts_28 hl (by decide) rfl (fun ls hl => ?_)
    refine lv_aload_n hx hb dX6_trusts_30 rfl (lv_at hl 3 rfl) ?_
    refine lv_iload_n hx hb dX6_trusts_31 rfl (lv_at hl 4 rfl) ?_
    refine lv_iload hx hb dX6_trusts_32 (lv_at hl 1 rfl) ?_
    refine rr_calli hC hR (c6_kindAt l V ad _ m yy z hm (by omega) h5 hz20) km_RX6_124 kn_yX6_kindAt ks_yX6_kindAt kz_RX6 kd_yX6_kindAt dn_X6_kindAt rfl hl.1 ⟨by decide, by decide⟩ (Nat.le_of_ble_eq_true rfl) ⟨by decide, by decide⟩ dX6_trusts_34 (fun r_34 S_34 H locs p_34 hR => ?_)
    obtain ⟨q_34, p_34⟩ := p_34
    rw [p_34] at hR
    rw [if_pos (by omega)] at q_34
    refine gq_top (S.1 6 (5 * (20 * m + yy))) q_34 ?_
    refine lv_iconst (v := 5) hx hb dX6_trusts_37 (by decide) ?_
    refine lv_icmp_ne (tgt := 116) hx hb dX6_trusts_38 (by decide) (fun c_38 => ?_) (fun c_38 => ?_)
    · have hst : bi (s_tp S sm m g yy) = bi (s_tp S sm m g (yy + 1)) := congrArg bi (if_neg (fun w => c_38 w.1)).symm
      rw [hst] at hl
      refine lv_iinc (v := (nI (yy + 1))) (lv' := [(5, .int ((nI (yy + 1)))), (6, .int (nI (240 + 20 * m + yy))), (4, .int (bi (s_tp S sm m g (yy + 1)))), (0, .ref (ad 50 0 0)), (1, .int (nI m)), (2, .int (nI g)), (3, .ref (ad 52 1 0))]) hx hb dX6_trusts_116 hl (k := 1) rfl (nI_1 yy) (by decide) rfl (fun ls hl => ?_)
      refine lv_goto (tgt := 6) hx hb dX6_trusts_119 (by decide) ?_
      exact ih (yy + 1) (by omega) _ _ _ ⟨by omega, hR, lv_sub hl [0, 2, 3, 4, 5, 6] rfl⟩
    · refine lv_aload_n hx hb dX6_trusts_41 rfl (lv_at hl 3 rfl) ?_
      refine lv_iload_n hx hb dX6_trusts_42 rfl (lv_at hl 4 rfl) ?_
      refine lv_iload hx hb dX6_trusts_43 (lv_at hl 1 rfl) ?_
      refine lv_iconst (v := (nI 2)) hx hb dX6_trusts_45 (by decide) ?_
      refine rr_calli hC hR (c6_operand l V ad _ m yy 2 hm (by omega) (by omega)) km_RX6_127 kn_yX6_operand ks_yX6_operand kz_RX6 kd_yX6_operand dn_X6_operand rfl hl.1 ⟨by decide, by decide⟩ (Nat.le_of_ble_eq_true rfl) ⟨by decide, by decide⟩ dX6_trusts_46 (fun r_46 S_46 H locs p_46 hR => ?_)
      obtain ⟨q_46, p_46⟩ := p_46
      rw [p_46] at hR
      refine gq_top (S.1 6 (5 * (20 * m + yy) + 2)) q_46 ?_
      refine lv_iload_n hx hb dX6_trusts_49 rfl (lv_at hl 5 rfl) ?_
      refine lv_icmp_ne (tgt := 116) hx hb dX6_trusts_50 (by decide) (fun c_50 => ?_) (fun c_50 => ?_)
      · have hst : bi (s_tp S sm m g yy) = bi (s_tp S sm m g (yy + 1)) := congrArg bi (if_neg (fun w => c_50 w.2.1)).symm
        rw [hst] at hl
        refine lv_iinc (v := (nI (yy + 1))) (lv' := [(5, .int ((nI (yy + 1)))), (6, .int (nI (240 + 20 * m + yy))), (4, .int (bi (s_tp S sm m g (yy + 1)))), (0, .ref (ad 50 0 0)), (1, .int (nI m)), (2, .int (nI g)), (3, .ref (ad 52 1 0))]) hx hb dX6_trusts_116 hl (k := 1) rfl (nI_1 yy) (by decide) rfl (fun ls hl => ?_)
        refine lv_goto (tgt := 6) hx hb dX6_trusts_119 (by decide) ?_
        exact ih (yy + 1) (by omega) _ _ _ ⟨by omega, hR, lv_sub hl [0, 2, 3, 4, 5, 6] rfl⟩
      · refine lv_aload_n hx hb dX6_trusts_53 rfl (lv_at hl 3 rfl) ?_
        refine rg_15 hC hR dX6_trusts_54 ?_
        refine lv_iload hx hb dX6_trusts_57 (lv_at hl 0 rfl) ?_
        refine ra_15 hC hR (by omega) dX6_trusts_59 ?_
        refine lv_if_eq (tgt := 66) hx hb dX6_trusts_60 (by decide) (fun c_60 => ?_) (fun c_60 => ?_)
        · obtain ⟨n, hn3, hn, hmet⟩ := hI13 (240 + 20 * m + yy) (by omega)
          have htn : tn (S.1 13 (240 + 20 * m + yy)) = n := by rw [hn]; exact tn_nI (by omega)
          refine lv_iconst (v := (nI 0)) hx hb dX6_trusts_66 (by decide) ?_
          refine lv_istore (lv' := [(7, .int ((nI 0))), (6, .int (nI (240 + 20 * m + yy))), (5, .int (nI yy)), (4, .int (bi (s_tp S sm m g yy))), (0, .ref (ad 50 0 0)), (1, .int (nI m)), (2, .int (nI g)), (3, .ref (ad 52 1 0))]) hx hb dX6_trusts_67 hl (by decide) rfl (fun ls hl => ?_)
          refine g_loop (T := Nat) (fun kk H locs ls => kk ≤ n ∧ rfW V (gAd ad E sz) s.heap ad E S H locs ∧ lv_has ls 8 [(7, .int (nI kk)), (6, .int (nI (240 + 20 * m + yy))), (5, .int (nI yy)), (4, .int (bi (s_tk S sm (240 + 20 * m + yy) (s_tp S sm m g yy) kk))), (0, .ref (ad 50 0 0)), (1, .int (nI m)), (2, .int (nI g)), (3, .ref (ad 52 1 0))]) (fun kk => n - kk) (fun kk ih_k H locs ls hI => ?_) (0) ⟨by omega, hR, lv_sub hl [0, 1, 2, 3, 4, 5, 6, 7] rfl⟩
          obtain ⟨hkn, hR, hl⟩ := hI
          refine lv_iload hx hb dX6_trusts_69 (lv_at hl 0 rfl) ?_
          refine lv_aload_n hx hb dX6_trusts_71 rfl (lv_at hl 4 rfl) ?_
          refine rg_13 hC hR dX6_trusts_72 ?_
          refine lv_iload hx hb dX6_trusts_75 (lv_at hl 1 rfl) ?_
          refine ra_13 hC hR (by omega) dX6_trusts_77 ?_
          refine gq_top (nI n) (hn) ?_
          refine gn_icmp_ge (tgt := 116) hx hb (by omega) (by omega) dX6_trusts_78 (by decide) (fun c_78 => ?_) (fun c_78 => ?_)
          · have hst : bi (s_tk S sm (240 + 20 * m + yy) (s_tp S sm m g yy) kk) = bi (s_tp S sm m g (yy + 1)) := by
              show _ = bi (if s_tq S m g yy then s_tk S sm (240 + 20 * m + yy) (s_tp S sm m g yy) (tn (S.1 13 (240 + 20 * m + yy))) else s_tp S sm m g yy)
              rw [if_pos ⟨c_38, c_50, c_60⟩, htn, show kk = n by omega]
            rw [hst] at hl
            refine lv_iinc (v := (nI (yy + 1))) (lv' := [(5, .int ((nI (yy + 1)))), (7, .int (nI kk)), (6, .int (nI (240 + 20 * m + yy))), (4, .int (bi (s_tp S sm m g (yy + 1)))), (0, .ref (ad 50 0 0)), (1, .int (nI m)), (2, .int (nI g)), (3, .ref (ad 52 1 0))]) hx hb dX6_trusts_116 hl (k := 2) rfl (nI_1 yy) (by decide) rfl (fun ls hl => ?_)
            refine lv_goto (tgt := 6) hx hb dX6_trusts_119 (by decide) ?_
            exact ih (yy + 1) (by omega) _ _ _ ⟨by omega, hR, lv_sub hl [0, 3, 4, 5, 6, 7] rfl⟩
          · obtain ⟨d, hdn, hd⟩ := hmet kk (by omega)
            have htd : tn (S.1 14 (3 * (240 + 20 * m + yy) + kk)) = d := by rw [hd]; exact tn_nI (by omega)
            refine lv_iload hx hb dX6_trusts_81 (lv_at hl 3 rfl) ?_
            refine lv_if_ne (tgt := 103) hx hb dX6_trusts_83 (by decide) (fun c_83 => ?_) (fun c_83 => ?_)
            · have hb1 : s_tk S sm (240 + 20 * m + yy) (s_tp S sm m g yy) kk = true := by
                cases hb : s_tk S sm (240 + 20 * m + yy) (s_tp S sm m g yy) kk
                · rw [hb] at c_83; exact absurd rfl c_83
                · rfl
              refine lv_iconst (v := 1) hx hb dX6_trusts_103 (by decide) ?_
              refine gq_top (bi (s_tk S sm (240 + 20 * m + yy) (s_tp S sm m g yy) (kk + 1))) (by first | exact (show bi (s_tk S sm (240 + 20 * m + yy) (s_tp S sm m g yy) kk || decide (sm (tn (S.1 14 (3 * (240 + 20 * m + yy) + kk))) ≠ 0)) = 1 by rw [hb1]; rfl).symm | exact (show bi (s_tk S sm (240 + 20 * m + yy) (s_tp S sm m g yy) kk || decide (sm (tn (S.1 14 (3 * (240 + 20 * m + yy) + kk))) ≠ 0)) = 1 by rw [htd, decide_eq_true c_100, Bool.or_true]; rfl).symm) ?_
              refine lv_goto (tgt := 108) hx hb dX6_trusts_104 (by decide) ?_
              refine lv_istore (lv' := [(4, .int (bi (s_tk S sm (240 + 20 * m + yy) (s_tp S sm m g yy) (kk + 1)))), (7, .int (nI kk)), (6, .int (nI (240 + 20 * m + yy))), (5, .int (nI yy)), (0, .ref (ad 50 0 0)), (1, .int (nI m)), (2, .int (nI g)), (3, .ref (ad 52 1 0))]) hx hb dX6_trusts_108 hl (by decide) rfl (fun ls hl => ?_)
              refine lv_iinc (v := (nI (kk + 1))) (lv' := [(7, .int ((nI (kk + 1)))), (4, .int (bi (s_tk S sm (240 + 20 * m + yy) (s_tp S sm m g yy) (kk + 1)))), (6, .int (nI (240 + 20 * m + yy))), (5, .int (nI yy)), (0, .ref (ad 50 0 0)), (1, .int (nI m)), (2, .int (nI g)), (3, .ref (ad 52 1 0))]) hx hb dX6_trusts_110 hl (k := 1) rfl (nI_1 kk) (by decide) rfl (fun ls hl => ?_)
              refine lv_goto (tgt := 69) hx hb dX6_trusts_113 (by decide) ?_
              exact ih_k (kk + 1) (by omega) _ _ _ ⟨by omega, hR, lv_sub hl [0, 2, 3, 1, 4, 5, 6, 7] rfl⟩
            · have hb0 : s_tk S sm (240 + 20 * m + yy) (s_tp S sm m g yy) kk = false := by
                cases hb : s_tk S sm (240 + 20 * m + yy) (s_tp S sm m g yy) kk
                · rfl
                · rw [hb] at c_83; exact absurd c_83 (by decide)
              refine lv_aload_n hx hb dX6_trusts_86 rfl (lv_at hl 7 rfl) ?_
              refine lv_aload_n hx hb dX6_trusts_87 rfl (lv_at hl 4 rfl) ?_
              refine rg_14 hC hR dX6_trusts_88 ?_
              refine lv_iconst (v := 3) hx hb dX6_trusts_91 (by decide) ?_
              refine lv_iload hx hb dX6_trusts_92 (lv_at hl 1 rfl) ?_
              refine lv_imul hx hb dX6_trusts_94 ?_
              refine lv_iload hx hb dX6_trusts_95 (lv_at hl 0 rfl) ?_
              refine lv_iadd hx hb dX6_trusts_97 ?_
              refine gq_top (nI (3 * (240 + 20 * m + yy) + kk)) (by simp only [nl1, nl2, nl3, nl4, nl5, nl6, nl20, nl240, nI_mul, nI_add]) ?_
              refine ra_14 hC hR (by omega) dX6_trusts_98 ?_
              refine gq_top (nI d) (hd) ?_
              refine rx_zald hC hR hsm (by decide) (by omega) dX6_trusts_99 ?_
              refine lv_if_eq (tgt := 107) hx hb dX6_trusts_100 (by decide) (fun c_100 => ?_) (fun c_100 => ?_)
              · refine lv_iconst (v := 0) hx hb dX6_trusts_107 (by decide) ?_
                refine gq_top (bi (s_tk S sm (240 + 20 * m + yy) (s_tp S sm m g yy) (kk + 1))) ((show bi (s_tk S sm (240 + 20 * m + yy) (s_tp S sm m g yy) kk || decide (sm (tn (S.1 14 (3 * (240 + 20 * m + yy) + kk))) ≠ 0)) = 0 by rw [hb0, htd, decide_eq_false (fun w => w c_100)]; rfl).symm) ?_
                refine lv_istore (lv' := [(4, .int (bi (s_tk S sm (240 + 20 * m + yy) (s_tp S sm m g yy) (kk + 1)))), (7, .int (nI kk)), (6, .int (nI (240 + 20 * m + yy))), (5, .int (nI yy)), (0, .ref (ad 50 0 0)), (1, .int (nI m)), (2, .int (nI g)), (3, .ref (ad 52 1 0))]) hx hb dX6_trusts_108 hl (by decide) rfl (fun ls hl => ?_)
                refine lv_iinc (v := (nI (kk + 1))) (lv' := [(7, .int ((nI (kk + 1)))), (4, .int (bi (s_tk S sm (240 + 20 * m + yy) (s_tp S sm m g yy) (kk + 1)))), (6, .int (nI (240 + 20 * m + yy))), (5, .int (nI yy)), (0, .ref (ad 50 0 0)), (1, .int (nI m)), (2, .int (nI g)), (3, .ref (ad 52 1 0))]) hx hb dX6_trusts_110 hl (k := 1) rfl (nI_1 kk) (by decide) rfl (fun ls hl => ?_)
                refine lv_goto (tgt := 69) hx hb dX6_trusts_113 (by decide) ?_
                exact ih_k (kk + 1) (by omega) _ _ _ ⟨by omega, hR, lv_sub hl [0, 2, 3, 1, 4, 5, 6, 7] rfl⟩
              · refine lv_iconst (v := 1) hx hb dX6_trusts_103 (by decide) ?_
                refine gq_top (bi (s_tk S sm (240 + 20 * m + yy) (s_tp S sm m g yy) (kk + 1))) (by first | exact (show bi (s_tk S sm (240 + 20 * m + yy) (s_tp S sm m g yy) kk || decide (sm (tn (S.1 14 (3 * (240 + 20 * m + yy) + kk))) ≠ 0)) = 1 by rw [hb1]; rfl).symm | exact (show bi (s_tk S sm (240 + 20 * m + yy) (s_tp S sm m g yy) kk || decide (sm (tn (S.1 14 (3 * (240 + 20 * m + yy) + kk))) ≠ 0)) = 1 by rw [htd, decide_eq_true c_100, Bool.or_true]; rfl).symm) ?_
                refine lv_goto (tgt := 108) hx hb dX6_trusts_104 (by decide) ?_
                refine lv_istore (lv' := [(4, .int (bi (s_tk S sm (240 + 20 * m + yy) (s_tp S sm m g yy) (kk + 1)))), (7, .int (nI kk)), (6, .int (nI (240 + 20 * m + yy))), (5, .int (nI yy)), (0, .ref (ad 50 0 0)), (1, .int (nI m)), (2, .int (nI g)), (3, .ref (ad 52 1 0))]) hx hb dX6_trusts_108 hl (by decide) rfl (fun ls hl => ?_)
                refine lv_iinc (v := (nI (kk + 1))) (lv' := [(7, .int ((nI (kk + 1)))), (4, .int (bi (s_tk S sm (240 + 20 * m + yy) (s_tp S sm m g yy) (kk + 1)))), (6, .int (nI (240 + 20 * m + yy))), (5, .int (nI yy)), (0, .ref (ad 50 0 0)), (1, .int (nI m)), (2, .int (nI g)), (3, .ref (ad 52 1 0))]) hx hb dX6_trusts_110 hl (k := 1) rfl (nI_1 kk) (by decide) rfl (fun ls hl => ?_)
                refine lv_goto (tgt := 69) hx hb dX6_trusts_113 (by decide) ?_
                exact ih_k (kk + 1) (by omega) _ _ _ ⟨by omega, hR, lv_sub hl [0, 2, 3, 1, 4, 5, 6, 7] rfl⟩
        · refine lv_goto (tgt := 116) hx hb dX6_trusts_63 (by decide) ?_
          have hst : bi (s_tp S sm m g yy) = bi (s_tp S sm m g (yy + 1)) := congrArg bi (if_neg (fun w => c_60 w.2.2)).symm
          rw [hst] at hl
          refine lv_iinc (v := (nI (yy + 1))) (lv' := [(5, .int ((nI (yy + 1)))), (6, .int (nI (240 + 20 * m + yy))), (4, .int (bi (s_tp S sm m g (yy + 1)))), (0, .ref (ad 50 0 0)), (1, .int (nI m)), (2, .int (nI g)), (3, .ref (ad 52 1 0))]) hx hb dX6_trusts_116 hl (k := 1) rfl (nI_1 yy) (by decide) rfl (fun ls hl => ?_)
          refine lv_goto (tgt := 6) hx hb dX6_trusts_119 (by decide) ?_
          exact ih (yy + 1) (by omega) _ _ _ ⟨by omega, hR, lv_sub hl [0, 2, 3, 4, 5, 6] rfl⟩
