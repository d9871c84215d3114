section RX2
variable {p : Program} {l : Launch} {e : Env} {R : Room} {s : State} {m : MethodId} {args : Array Value} {below : List Frame} {meth : Method} {c : Code} {H : Heap} {locs : List Loc} {cells slots : Nat} {Q : State → Prop}
variable {cc : ByteArray} {pc nL : Nat} {ls : Array Slot} {rest : List Value} {V : gV} {A : Nat → Prop} {H0 : Heap} {ad : gA} {E0 : gE} {own : String} {ret : Option FieldType} {S : rS}
theorem rr_callix {own : String} (hC : gC p s m meth c own cc nL ret args V) (hR : rfW V A s.heap ad E0 S H locs) {y : MethodName} {cy : ByteArray} {n index : Nat} {rt : Option FieldType} {rm : Room} {av st : List Value} {post : Int32 → rS → Prop} (hM : ∀ E : gE, rfOK V ad S E → rfX E0 E → gMi l y cy n rt rm (.ref (ad 50 0 0) :: av) V ad E (rPi post V ad E)) (k1 : Cond.methodLink own index y ∈ wsL_law) (k2 : Cond.instanceMethod y ∈ wsL_law) (k3 : Cond.selects RX6 y y ∈ wsL_law) (k4 : Cond.initialized RX6 ∈ wsL_law) (k5 : Cond.code y cy n rt ∈ wsL_law) (hd : y.cls = RX6 ∧ y.cls ≠ "java/lang/invoke/MethodHandle" ∧ y.cls ≠ "java/lang/invoke/VarHandle" ∧ (parseMethodDescriptor y.desc).map (fun d => d.parameters.length) = some av.length) (hst : st = av.reverse ++ .ref (ad 50 0 0) :: rest) (hsz : ls.size = nL) (hrm : rm.frames + 1 ≤ R.frames ∧ 8 + (n + 11) + rm.locals ≤ R.locals) (hcat : (rest.map fun v => v.category).sum ≤ 8) (hf : cells + rm.cells ≤ R.cells ∧ slots + rm.slots ≤ R.slots) (hdg : decode cc pc = .ok (.invokevirtual index, 3))
    (kk : ∀ (r : Int32) (S' : rS) (H1 : Heap) (locs1 : List Loc), post r S' → rfW V A s.heap ad E0 S' H1 locs1 → W p l e R s m args below meth c H1 locs1 (cells + rm.cells) (slots + rm.slots) Q (F0 m (pc + 3) ls (.int r :: rest))) : W p l e R s m args below meth c H locs cells slots Q (F0 m pc ls st) := by
  obtain ⟨E, hG, hO, hX⟩ := hR
  refine va_calli (va_runV (As := av) (rest := rest) (g_fix hC) (hM E hO hX H.size) (cwV av.length hC.2.2.2.2.1 (gG_V (fun _ h => h) k1 k2 k3 k4 k5) rfl rfl rfl hd hrm) ⟨gB_blind, rr_room hO hC hG, g_pre hC hG⟩ rfl rfl hsz (by rw [hst]) (by simpa using hcat) hdg hf) hG.2.2.2.2 (fun q _ h => g_free hG q h) (g_free hG) (fun r u t H1 locs1 ht _ hp hB _ _ hS => ?_)
  obtain ⟨ad1, E1⟩ := u
  obtain ⟨h1, h2, S', h3, h4⟩ := hp
  dsimp only at h1 h2 h3
  subst h1
  exact kk r S' H1 locs1 h4 ⟨E1, g_back hG rfl ht hB hS, h3, hX.tr h2⟩
end RX2
theorem gu_gu (E : gE) (k i j : Nat) (e e2 : va_E) : gu (gu E k i j e) k i j e2 = gu E k i j e2 := by
  funext k' i' j'
  by_cases q : k' = k ∧ i' = i ∧ j' = j <;> simp only [gu, q, if_true, if_false, and_self]
theorem rfo_congr {ad ad2 : gA} {S : rS} (h : ∀ f, ad2 51 f 0 = ad 51 f 0) : rfo ad2 S = rfo ad S := by
  unfold rfo
  simp only [h]
theorem up_lt {α : Type} (f : Nat → α) (d : α) (k : Nat) : va_up (fun c => if c < k then f c else d) k (f k) = (fun c => if c < k + 1 then f c else d) := by
  funext i
  simp only [va_up]
  by_cases h : i = k
  · rw [if_pos h, if_pos (by omega), h]
  · rw [if_neg h]
    by_cases h2 : i < k
    · rw [if_pos h2, if_pos (by omega)]
    · rw [if_neg h2, if_neg (by omega)]
def s_sm (S S1 : rS) (g nc : Nat) : Nat → Int32 := fun c => if c < nc then rb (s_und S1 (c + 1) g ≠ s_und S (c + 1) g) else 0
def s_il (S : rS) (sm : Nat → Int32) (g : Nat) : Nat → rS × Nat
  | 0 => (S, 0)
  | m + 1 => if S.1 10 m = 2 ∧ s_tp S sm m g (tn (S.1 5 m)) = true then (su (su (s_il S sm g m).1 10 (va_up ((s_il S sm g m).1.1 10) m 0)) 11 (va_up ((s_il S sm g m).1.1 11) m 0), (s_il S sm g m).2 + 1) else s_il S sm g m
theorem s_il_f {S : rS} {sm : Nat → Int32} {g f : Nat} (h1 : f ≠ 10) (h2 : f ≠ 11) : ∀ k : Nat, (s_il S sm g k).1.1 f = S.1 f
  | 0 => rfl
  | k + 1 => by
    unfold s_il
    split
    · show (if f = 11 then _ else if f = 10 then _ else (s_il S sm g k).1.1 f) = _
      rw [if_neg h2, if_neg h1]
      exact s_il_f h1 h2 k
    · exact s_il_f h1 h2 k
theorem s_il_10 {S : rS} {sm : Nat → Int32} {g : Nat} : ∀ k j : Nat, k ≤ j → (s_il S sm g k).1.1 10 j = S.1 10 j
  | 0, _, _ => rfl
  | k + 1, j, h => by
    unfold s_il
    split
    · show va_up ((s_il S sm g k).1.1 10) k 0 j = _
      rw [va_up_ne _ _ (by omega)]
      exact s_il_10 k j (by omega)
    · exact s_il_10 k j (by omega)
theorem s_il_le {S : rS} {sm : Nat → Int32} {g : Nat} : ∀ k : Nat, (s_il S sm g k).2 ≤ k
  | 0 => Nat.le_refl _
  | k + 1 => by
    unfold s_il
    have := s_il_le (S := S) (sm := sm) (g := g) k
    split
    · show (s_il S sm g k).2 + 1 ≤ k + 1
      omega
    · omega
theorem s_tk_congr {S S2 : rS} (h14 : S2.1 14 = S.1 14) (sm : Nat → Int32) (r : Nat) (b : Bool) : ∀ k : Nat, s_tk S2 sm r b k = s_tk S sm r b k
  | 0 => rfl
  | k + 1 => by
    unfold s_tk
    rw [h14, s_tk_congr h14 sm r b k]
theorem s_tp_congr {S S2 : rS} (h6 : S2.1 6 = S.1 6) (h13 : S2.1 13 = S.1 13) (h14 : S2.1 14 = S.1 14) (h15 : S2.1 15 = S.1 15) (sm : Nat → Int32) (m g : Nat) : ∀ k : Nat, s_tp S2 sm m g k = s_tp S sm m g k
  | 0 => rfl
  | k + 1 => by
    unfold s_tp
    rw [s_tp_congr h6 h13 h14 h15 sm m g k]
    unfold s_tq
    simp only [h6, h13, h15]
    split
    · exact s_tk_congr h14 _ _ _ _
    · rfl
abbrev s_iok (S : rS) (x y w : Int32) : Prop := s_isC S x ∧ s_sl y ∧ (w = -1 ∨ s_isM S w)
def s_i1 (S : rS) (c g : Nat) (w : Int32) : rS := su S 3 (va_up (S.1 3) (6 * c + g) w)
def o_imp2 (S : rS) (c g nc nm : Nat) (w : Int32) : rS × Nat := s_il (s_i1 S c g w) (s_sm S (s_i1 S c g w) g nc) g nm
def o_implement (S : rS) (x y w : Int32) : Int32 × rS :=
  if s_iok S x y w then (nI (o_imp2 S (tn x) (tn y) (tn (S.1 1 0)) (tn (S.1 4 0)) w).2, (o_imp2 S (tn x) (tn y) (tn (S.1 1 0)) (tn (S.1 4 0)) w).1) else (0, su S 0 (fun _ => 1))
set_option maxHeartbeats 4000000 in
set_option maxRecDepth 100000 in
theorem c6_implement (l : Launch) (V : gV) (ad : gA) (S : rS) (nc nm : Nat) (hI : rI S nc nm) (x y w_ : Int32) : ∀ E : gE, rfOK V ad S E → (∀ i j, E 52 i j = none) → gMi l yX6_implement cX6_implement 8 (some .int) ({ frames := 2, cells := 2, slots := 16, locals := 50 } : Room) [.ref (ad 50 0 0), .int x, .int y, .int w_] V ad E (rPi (fun r S' => r = (o_implement (su S 0 (fun _ => 0)) x y w_).1 ∧ S' = (o_implement (su S 0 (fun _ => 0)) x y w_).2) V ad E) := by
  intro E hO h52 sz
  refine g_of (by decide) (Nat.le_of_ble_eq_true rfl) ?_
  intro p e s m_ below meth c ls hC hz hG hl
  have hR : rfW V (gAd ad E sz) s.heap ad E S s.heap [] := ⟨E, hG, hO, rfX.rf⟩
  have hx := hC.1
  have hb := hC.2.1
  have hl : lv_has ls 8 [(0, .ref (ad 50 0 0)), (1, .int x), (2, .int y), (3, .int w_)] := hl
  have h1 := hI.1
  have h4 := hI.2.2.1
  have hp := hI.2.1
  have hnc := hp.1
  have hnm := hI.2.2.2.1
  have hpZ : s_par (su S 0 (fun _ => 0)) nc := hp
  refine lv_aload_n hx hb dX6_implement_0 rfl (lv_at hl 0 rfl) ?_
  refine lv_iconst (v := 0) hx hb dX6_implement_1 (by decide) ?_
  refine rp_0 hC hR dX6_implement_2 (fun H locs hR => ?_)
  refine g_cut (pc2 := 39) (fun H locs ls => (s_isC S x ∧ s_sl y ∧ (w_ = -1 ∨ s_isM S w_)) ∧ rfW V (gAd ad E sz) s.heap ad E (su S 0 (fun _ => 0)) H locs ∧ lv_has ls 8 [(0, .ref (ad 50 0 0)), (1, .int x), (2, .int y), (3, .int w_)]) (fun H locs ls hI => ?_) (fun k39 => ?_)
  · obtain ⟨hok, hR, hl⟩ := hI
    obtain ⟨cx, hc31, ex⟩ := nI_of hok.1.1
    have hcn : cx < nc := by have h := hok.1.2; rw [ex, h1] at h; exact (nI_ltI hc31 (by omega)).mp h
    obtain ⟨g, hg31, ey⟩ := nI_of hok.2.1.1
    have hg : g < 6 := by have h := hok.2.1.2; rw [ey, nl6] at h; exact (nI_ltI hg31 (by decide)).mp h
    have tx : tn x = cx := by rw [ex]; exact tn_nI hc31
    have ty : tn y = g := by rw [ey]; exact tn_nI hg31
    rw [ex, ey] at hl
    refine lv_bipush (v := (nI 8)) hx hb dX6_implement_39 (by decide) ?_
    refine rx_newi hC hR 0 0 (by decide) (by decide) (by decide) dX6_implement_41 (fun H ad1 aad150 aad152 aad1o hR => ?_)
    rw [← aad150] at hl
    refine lv_astore (lv' := [(4, .ref (ad1 52 0 0)), (0, .ref (ad1 50 0 0)), (1, .int (nI cx)), (2, .int (nI g)), (3, .int w_)]) hx hb dX6_implement_43 hl (by decide) rfl (fun ls hl => ?_)
    refine lv_iconst (v := (nI 0)) hx hb dX6_implement_45 (by decide) ?_
    refine lv_istore (lv' := [(5, .int ((nI 0))), (4, .ref (ad1 52 0 0)), (0, .ref (ad1 50 0 0)), (1, .int (nI cx)), (2, .int (nI g)), (3, .int w_)]) hx hb dX6_implement_46 hl (by decide) rfl (fun ls hl => ?_)
    refine g_loop (T := Nat) (fun xx H locs ls => xx ≤ nc ∧ rfW V (gAd ad E sz) s.heap ad1 (gu E 52 0 0 (.inl (V.2.1 0, 8, .inl (fun c => if c < xx then s_und (su S 0 (fun _ => 0)) (c + 1) g else 0)))) (su S 0 (fun _ => 0)) H locs ∧ lv_has ls 8 [(5, .int (nI xx)), (4, .ref (ad1 52 0 0)), (0, .ref (ad1 50 0 0)), (1, .int (nI cx)), (2, .int (nI g)), (3, .int w_)]) (fun xx => nc - xx) (fun xx ih H locs ls hI => ?_) (0) ⟨by omega, (by rw [show (fun c => if c < 0 then s_und (su S 0 (fun _ => 0)) (c + 1) g else 0) = (fun _ => (0 : Int32)) from funext fun c => if_neg (by omega)]; exact hR), lv_sub hl [0, 1, 2, 3, 4, 5] rfl⟩
    obtain ⟨hxn, hR, hl⟩ := hI
    refine lv_iload hx hb dX6_implement_48 (lv_at hl 0 rfl) ?_
    refine lv_aload_n hx hb dX6_implement_50 rfl (lv_at hl 2 rfl) ?_
    refine rg_1 hC hR dX6_implement_51 ?_
    refine gq_top (nI nc) (h1) ?_
    refine gn_icmp_ge (tgt := 75) hx hb (by omega) (by omega) dX6_implement_54 (by decide) (fun c_54 => ?_) (fun c_54 => ?_)
    · refine lv_aload_n hx hb dX6_implement_75 rfl (lv_at hl 2 rfl) ?_
      refine rg_3 hC hR dX6_implement_76 ?_
      refine lv_bipush (v := 6) hx hb dX6_implement_79 (by decide) ?_
      refine lv_iload_n hx hb dX6_implement_81 rfl (lv_at hl 3 rfl) ?_
      refine lv_imul hx hb dX6_implement_82 ?_
      refine lv_iload_n hx hb dX6_implement_83 rfl (lv_at hl 4 rfl) ?_
      refine lv_iadd hx hb dX6_implement_84 ?_
      refine gq_top (nI (6 * cx + g)) (by simp only [nl1, nl2, nl3, nl4, nl5, nl6, nl20, nl240, nI_mul, nI_add]) ?_
      refine lv_iload_n hx hb dX6_implement_85 rfl (lv_at hl 5 rfl) ?_
      refine rs_3 hC hR (by omega) dX6_implement_86 (fun H locs hR => ?_)
      refine lv_bipush (v := (nI 8)) hx hb dX6_implement_87 (by decide) ?_
      refine rx_newz hC hR 1 0 (by decide) (by decide) (by decide) dX6_implement_89 (fun H ad2 aad250 aad252 aad2o hR => ?_)
      rw [← aad250] at hl
      rw [← aad252 0 0 (Or.inl (by decide))] at hl
      refine lv_astore (lv' := [(5, .ref (ad2 52 1 0)), (4, .ref (ad2 52 0 0)), (0, .ref (ad2 50 0 0)), (1, .int (nI cx)), (2, .int (nI g)), (3, .int w_)]) hx hb dX6_implement_91 hl (by decide) rfl (fun ls hl => ?_)
      refine lv_iconst (v := (nI 0)) hx hb dX6_implement_93 (by decide) ?_
      refine lv_istore (lv' := [(6, .int ((nI 0))), (5, .ref (ad2 52 1 0)), (4, .ref (ad2 52 0 0)), (0, .ref (ad2 50 0 0)), (1, .int (nI cx)), (2, .int (nI g)), (3, .int w_)]) hx hb dX6_implement_94 hl (by decide) rfl (fun ls hl => ?_)
      rw [show xx = nc by omega] at hR
      refine g_loop (T := Nat) (fun xx H locs ls => xx ≤ nc ∧ rfW V (gAd ad E sz) s.heap ad2 (gu (gu E 52 0 0 (.inl (V.2.1 0, 8, .inl (fun c => if c < nc then s_und (su S 0 (fun _ => 0)) (c + 1) g else 0)))) 52 1 0 (.inl (V.2.1 2, 8, .inl (fun c => if c < xx then rb (s_und (s_i1 (su S 0 (fun _ => 0)) cx g w_) (c + 1) g ≠ s_und (su S 0 (fun _ => 0)) (c + 1) g) else 0)))) (s_i1 (su S 0 (fun _ => 0)) cx g w_) H locs ∧ lv_has ls 8 [(6, .int (nI xx)), (5, .ref (ad2 52 1 0)), (4, .ref (ad2 52 0 0)), (0, .ref (ad2 50 0 0)), (1, .int (nI cx)), (2, .int (nI g)), (3, .int w_)]) (fun xx => nc - xx) (fun xx ih2 H locs ls hI => ?_) (0) ⟨by omega, (by rw [show (fun c => if c < 0 then rb (s_und (s_i1 (su S 0 (fun _ => 0)) cx g w_) (c + 1) g ≠ s_und (su S 0 (fun _ => 0)) (c + 1) g) else 0) = (fun _ => (0 : Int32)) from funext fun c => if_neg (by omega)]; exact hR), lv_sub hl [0, 1, 2, 3, 4, 5, 6] rfl⟩
      obtain ⟨hxn, hR, hl⟩ := hI
      refine lv_iload hx hb dX6_implement_96 (lv_at hl 0 rfl) ?_
      refine lv_aload_n hx hb dX6_implement_98 rfl (lv_at hl 3 rfl) ?_
      refine rg_1 hC hR dX6_implement_99 ?_
      refine gq_top (nI nc) (h1) ?_
      refine gn_icmp_ge (tgt := 136) hx hb (by omega) (by omega) dX6_implement_102 (by decide) (fun c_102 => ?_) (fun c_102 => ?_)
      · obtain ⟨sm, hsm⟩ : ∃ sm, sm = s_sm (su S 0 (fun _ => 0)) (s_i1 (su S 0 (fun _ => 0)) cx g w_) g nc := ⟨_, rfl⟩
        obtain ⟨S1, hS1⟩ : ∃ S1, S1 = (s_i1 (su S 0 (fun _ => 0)) cx g w_) := ⟨_, rfl⟩
        have hR : rfW V (gAd ad E sz) s.heap ad2 (gu (gu E 52 0 0 (.inl (V.2.1 0, 8, .inl (fun c => if c < nc then s_und (su S 0 (fun _ => 0)) (c + 1) g else 0)))) 52 1 0 (.inl (V.2.1 2, 8, .inl sm))) S1 H locs := by rw [hsm, hS1]; unfold s_sm; rw [show xx = nc by omega] at hR; exact hR
        refine lv_iconst (v := 0) hx hb dX6_implement_136 (by decide) ?_
        refine gq_top (nI (s_il S1 sm g 0).2) (rfl) ?_
        refine lv_istore (lv' := [(6, .int (nI (s_il S1 sm g 0).2)), (5, .ref (ad2 52 1 0)), (4, .ref (ad2 52 0 0)), (0, .ref (ad2 50 0 0)), (1, .int (nI cx)), (2, .int (nI g)), (3, .int w_)]) hx hb dX6_implement_137 hl (by decide) rfl (fun ls hl => ?_)
        refine lv_iconst (v := (nI 0)) hx hb dX6_implement_139 (by decide) ?_
        refine lv_istore (lv' := [(7, .int ((nI 0))), (6, .int (nI (s_il S1 sm g 0).2)), (5, .ref (ad2 52 1 0)), (4, .ref (ad2 52 0 0)), (0, .ref (ad2 50 0 0)), (1, .int (nI cx)), (2, .int (nI g)), (3, .int w_)]) hx hb dX6_implement_140 hl (by decide) rfl (fun ls hl => ?_)
        refine g_loop (T := Nat) (fun xx H locs ls => xx ≤ nm ∧ rfW V (gAd ad E sz) s.heap ad2 (gu (gu E 52 0 0 (.inl (V.2.1 0, 8, .inl (fun c => if c < nc then s_und (su S 0 (fun _ => 0)) (c + 1) g else 0)))) 52 1 0 (.inl (V.2.1 2, 8, .inl sm))) (s_il S1 sm g xx).1 H locs ∧ lv_has ls 8 [(7, .int (nI xx)), (6, .int (nI (s_il S1 sm g xx).2)), (5, .ref (ad2 52 1 0)), (4, .ref (ad2 52 0 0)), (0, .ref (ad2 50 0 0)), (1, .int (nI cx)), (2, .int (nI g)), (3, .int w_)]) (fun xx => nm - xx) (fun xx ih3 H locs ls hI => ?_) (0) ⟨by omega, hR, lv_sub hl [0, 1, 2, 3, 4, 5, 6, 7] rfl⟩
        obtain ⟨hxm, hR, hl⟩ := hI
        refine lv_iload hx hb dX6_implement_142 (lv_at hl 0 rfl) ?_
        refine lv_aload_n hx hb dX6_implement_144 rfl (lv_at hl 4 rfl) ?_
        refine rg_4 hC hR dX6_implement_145 ?_
        refine gq_top (nI nm) (by rw [s_il_f (by decide) (by decide), hS1]; exact h4) ?_
        refine gn_icmp_ge (tgt := 202) hx hb (by omega) (by omega) dX6_implement_148 (by decide) (fun c_148 => ?_) (fun c_148 => ?_)
        · refine lv_iload hx hb dX6_implement_202 (lv_at hl 1 rfl) ?_
          obtain ⟨E9, hG9, hO9, hX9⟩ := hR
          have a51 : ∀ f, ad2 51 f 0 = ad 51 f 0 := fun f => (aad2o 51 f 0 (by decide)).trans (aad1o 51 f 0 (by decide))
          refine gq_iret (post := rPi _ V ad E) (E := fun k i j => if k = 52 then none else E9 k i j) (ad := ad) hC hz (hG9.sub (fun k i j e he => ?_)) ⟨rfl, ?_, (s_il S1 sm g xx).1, ?_, ?_⟩ (by decide) (by decide) dX6_implement_204
          · by_cases q : k = 52
            · rw [if_pos q] at he; cases he
            · rw [if_neg q] at he
              exact ⟨he, ((aad2o k i j q).trans (aad1o k i j q)).symm⟩
          · intro k i j h1 h2
            show (if k = 52 then none else E9 k i j) = E k i j
            by_cases q : k = 52
            · rw [if_pos q, q, h52]
            · rw [if_neg q, hX9 k i j h1 h2]
              rw [gu_ne (fun z => q z.1), gu_ne (fun z => q z.1)]
          · exact (show rfOK V ad _ E9 by unfold rfOK at hO9 ⊢; rw [← rfo_congr a51]; exact hO9)
          · exact (by rw [show o_implement (su S 0 (fun _ => 0)) x y w_ = _ from if_pos hok, tx, ty, show tn (((su S 0 (fun _ => 0))).1 1 0) = nc by show tn (S.1 1 0) = nc; rw [h1]; exact tn_nI (by omega), show tn (((su S 0 (fun _ => 0))).1 4 0) = nm by show tn (S.1 4 0) = nm; rw [h4]; exact tn_nI (by omega)]; unfold o_imp2; rw [← hsm, ← hS1, show xx = nm by omega]; exact ⟨rfl, rfl⟩)
        · obtain ⟨z, hz20, h5, -⟩ := hI.2.2.2.2.2.1 xx (by omega)
          have h5x : (s_il S1 sm g xx).1.1 5 xx = nI z := by rw [s_il_f (by decide) (by decide), hS1]; exact h5
          have tz : tn (S1.1 5 xx) = z := by rw [hS1]; show tn (S.1 5 xx) = z; rw [h5]; exact tn_nI (by omega)
          have hpx : s_par (s_il S1 sm g xx).1 nc := s_par_congr (S := S1) (s_il_f (by decide) (by decide) xx) (by rw [hS1]; exact hpZ)
          have hI13x : ∀ r : Nat, r < 480 → ∃ n : Nat, n ≤ 3 ∧ (s_il S1 sm g xx).1.1 13 r = nI n ∧ ∀ k : Nat, k < n → ∃ d : Nat, d < nc ∧ (s_il S1 sm g xx).1.1 14 (3 * r + k) = nI d := by rw [s_il_f (by decide) (by decide), s_il_f (by decide) (by decide), hS1]; exact hI.2.2.2.2.2.2.1
          have f6 : (s_il S1 sm g xx).1.1 6 = S1.1 6 := s_il_f (by decide) (by decide) xx
          have f13 : (s_il S1 sm g xx).1.1 13 = S1.1 13 := s_il_f (by decide) (by decide) xx
          have f14 : (s_il S1 sm g xx).1.1 14 = S1.1 14 := s_il_f (by decide) (by decide) xx
          have f15 : (s_il S1 sm g xx).1.1 15 = S1.1 15 := s_il_f (by decide) (by decide) xx
          refine lv_aload_n hx hb dX6_implement_151 rfl (lv_at hl 4 rfl) ?_
          refine rg_10 hC hR dX6_implement_152 ?_
          refine lv_iload hx hb dX6_implement_155 (lv_at hl 0 rfl) ?_
          refine ra_10 hC hR (by omega) dX6_implement_157 ?_
          refine gq_top (S1.1 10 xx) (s_il_10 xx xx (Nat.le_refl _)) ?_
          refine lv_iconst (v := 2) hx hb dX6_implement_158 (by decide) ?_
          refine lv_icmp_ne (tgt := 196) hx hb dX6_implement_159 (by decide) (fun c_159 => ?_) (fun c_159 => ?_)
          · have hno : s_il S1 sm g (xx + 1) = s_il S1 sm g xx := if_neg (fun w => c_159 w.1)
            rw [← hno] at hR hl
            refine lv_iinc (v := (nI (xx + 1))) (lv' := [(7, .int ((nI (xx + 1)))), (6, .int (nI (s_il S1 sm g (xx + 1)).2)), (5, .ref (ad2 52 1 0)), (4, .ref (ad2 52 0 0)), (0, .ref (ad2 50 0 0)), (1, .int (nI cx)), (2, .int (nI g)), (3, .int w_)]) hx hb dX6_implement_196 hl (k := 0) rfl (nI_1 xx) (by decide) rfl (fun ls hl => ?_)
            refine lv_goto (tgt := 142) hx hb dX6_implement_199 (by decide) ?_
            exact ih3 (xx + 1) (by omega) _ _ _ ⟨by omega, (by first | exact hR | (rw [hyes]; exact hR)), lv_sub hl [0, 1, 2, 3, 4, 5, 6, 7] rfl⟩
          · refine lv_aload_n hx hb dX6_implement_162 rfl (lv_at hl 4 rfl) ?_
            refine lv_iload hx hb dX6_implement_163 (lv_at hl 0 rfl) ?_
            refine lv_iload_n hx hb dX6_implement_165 rfl (lv_at hl 6 rfl) ?_
            refine lv_aload hx hb dX6_implement_166 (lv_at hl 2 rfl) ?_
            refine rr_callix hC hR (rm := ({ frames := 1, cells := 0, slots := 0, locals := 23 } : Room)) (av := [.int (nI xx), .int (nI g), .ref (ad2 52 1 0)]) (fun E9 hO9 hX9 => c6_trusts l V ad2 _ xx g z nc _ (by omega) h5x hz20 hpx hI13x E9 hO9 ((hX9 52 1 0 (by decide) (by decide)).trans (gu_eq _ _ _ _ _))) km_RX6_120 kn_yX6_trusts ks_yX6_trusts kz_RX6 kd_yX6_trusts dn_X6_trusts rfl hl.1 ⟨by decide, by decide⟩ (Nat.le_of_ble_eq_true rfl) ⟨by decide, by decide⟩ dX6_implement_168 (fun r_168 S_168 H locs p_168 hR => ?_)
            obtain ⟨q_168, p_168⟩ := p_168
            rw [p_168] at hR
            refine gq_top (bi (s_tp S1 sm xx g z)) (q_168.trans (congrArg bi (s_tp_congr f6 f13 f14 f15 sm xx g z))) ?_
            refine lv_if_ne (tgt := 177) hx hb dX6_implement_171 (by decide) (fun c_171 => ?_) (fun c_171 => ?_)
            · have htr : s_tp S1 sm xx g z = true := by
                cases hb : s_tp S1 sm xx g z
                · rw [hb] at c_171; exact absurd rfl c_171
                · rfl
              have hyes : s_il S1 sm g (xx + 1) = (su (su (s_il S1 sm g xx).1 10 (va_up ((s_il S1 sm g xx).1.1 10) xx 0)) 11 (va_up ((s_il S1 sm g xx).1.1 11) xx 0), (s_il S1 sm g xx).2 + 1) := if_pos ⟨c_159, by rw [tz]; exact htr⟩
              refine lv_aload_n hx hb dX6_implement_177 rfl (lv_at hl 4 rfl) ?_
              refine rg_10 hC hR dX6_implement_178 ?_
              refine lv_iload hx hb dX6_implement_181 (lv_at hl 0 rfl) ?_
              refine lv_iconst (v := 0) hx hb dX6_implement_183 (by decide) ?_
              refine rs_10 hC hR (by omega) dX6_implement_184 (fun H locs hR => ?_)
              refine lv_aload_n hx hb dX6_implement_185 rfl (lv_at hl 4 rfl) ?_
              refine rg_11 hC hR dX6_implement_186 ?_
              refine lv_iload hx hb dX6_implement_189 (lv_at hl 0 rfl) ?_
              refine lv_iconst (v := 0) hx hb dX6_implement_191 (by decide) ?_
              refine rs_11 hC hR (by omega) dX6_implement_192 (fun H locs hR => ?_)
              refine lv_iinc (v := nI (s_il S1 sm g (xx + 1)).2) (lv' := [(6, .int (nI (s_il S1 sm g (xx + 1)).2)), (7, .int (nI xx)), (5, .ref (ad2 52 1 0)), (4, .ref (ad2 52 0 0)), (0, .ref (ad2 50 0 0)), (1, .int (nI cx)), (2, .int (nI g)), (3, .int w_)]) hx hb dX6_implement_193 hl (k := 1) rfl (by rw [hyes]; exact nI_1 _) (by decide) rfl (fun ls hl => ?_)
              refine lv_iinc (v := (nI (xx + 1))) (lv' := [(7, .int ((nI (xx + 1)))), (6, .int (nI (s_il S1 sm g (xx + 1)).2)), (5, .ref (ad2 52 1 0)), (4, .ref (ad2 52 0 0)), (0, .ref (ad2 50 0 0)), (1, .int (nI cx)), (2, .int (nI g)), (3, .int w_)]) hx hb dX6_implement_196 hl (k := 1) rfl (nI_1 xx) (by decide) rfl (fun ls hl => ?_)
              refine lv_goto (tgt := 142) hx hb dX6_implement_199 (by decide) ?_
              exact ih3 (xx + 1) (by omega) _ _ _ ⟨by omega, (by first | exact hR | (rw [hyes]; exact hR)), lv_sub hl [0, 1, 2, 3, 4, 5, 6, 7] rfl⟩
            · refine lv_goto (tgt := 196) hx hb dX6_implement_174 (by decide) ?_
              have hno : s_il S1 sm g (xx + 1) = s_il S1 sm g xx := if_neg (fun w => by rw [tz] at w; rw [w.2] at c_171; exact absurd c_171 (by decide))
              rw [← hno] at hR hl
              refine lv_iinc (v := (nI (xx + 1))) (lv' := [(7, .int ((nI (xx + 1)))), (6, .int (nI (s_il S1 sm g (xx + 1)).2)), (5, .ref (ad2 52 1 0)), (4, .ref (ad2 52 0 0)), (0, .ref (ad2 50 0 0)), (1, .int (nI cx)), (2, .int (nI g)), (3, .int w_)]) hx hb dX6_implement_196 hl (k := 0) rfl (nI_1 xx) (by decide) rfl (fun ls hl => ?_)
              refine lv_goto (tgt := 142) hx hb dX6_implement_199 (by decide) ?_
              exact ih3 (xx + 1) (by omega) _ _ _ ⟨by omega, (by first | exact hR | (rw [hyes]; exact hR)), lv_sub hl [0, 1, 2, 3, 4, 5, 6, 7] rfl⟩
      · have hB : (gu (gu E 52 0 0 (.inl (V.2.1 0, 8, .inl (fun c => if c < nc then s_und (su S 0 (fun _ => 0)) (c + 1) g else 0)))) 52 1 0 (.inl (V.2.1 2, 8, .inl (fun c => if c < xx then rb (s_und (s_i1 (su S 0 (fun _ => 0)) cx g w_) (c + 1) g ≠ s_und (su S 0 (fun _ => 0)) (c + 1) g) else 0)))) 52 0 0 = some (.inl (V.2.1 0, 8, .inl (fun c => if c < nc then s_und (su S 0 (fun _ => 0)) (c + 1) g else 0))) := (gu_ne (by decide)).trans (gu_eq _ _ _ _ _)
        refine lv_aload hx hb dX6_implement_105 (lv_at hl 1 rfl) ?_
        refine lv_iload hx hb dX6_implement_107 (lv_at hl 0 rfl) ?_
        refine lv_aload_n hx hb dX6_implement_109 rfl (lv_at hl 3 rfl) ?_
        refine lv_iload hx hb dX6_implement_110 (lv_at hl 0 rfl) ?_
        refine gq_top (nI (xx + 1) - 1) ((nI_m1s xx).symm) ?_
        refine lv_iload_n hx hb dX6_implement_112 rfl (lv_at hl 5 rfl) ?_
        refine rr_calli hC hR (c6_understood l V ad2 _ (xx + 1) g nc hpZ (by omega) hg) km_RX6_117 kn_yX6_understood ks_yX6_understood kz_RX6 kd_yX6_understood dn_X6_understood rfl hl.1 ⟨by decide, by decide⟩ (Nat.le_of_ble_eq_true rfl) ⟨by decide, by decide⟩ dX6_implement_113 (fun r_113 S_113 H locs p_113 hR => ?_)
        obtain ⟨q_113, p_113⟩ := p_113
        rw [p_113] at hR
        refine gq_top (s_und (s_i1 (su S 0 (fun _ => 0)) cx g w_) (xx + 1) g) q_113 ?_
        refine lv_aload hx hb dX6_implement_116 (lv_at hl 2 rfl) ?_
        refine lv_iload hx hb dX6_implement_118 (lv_at hl 0 rfl) ?_
        refine rx_iald hC hR hB (by decide) (by omega) dX6_implement_120 ?_
        refine gq_top (s_und (su S 0 (fun _ => 0)) (xx + 1) g) (if_pos (show xx < nc by omega)) ?_
        refine lv_icmp_eq (tgt := 128) hx hb dX6_implement_121 (by decide) (fun c_121 => ?_) (fun c_121 => ?_)
        · refine lv_iconst (v := 0) hx hb dX6_implement_128 (by decide) ?_
          refine gq_top (rb (s_und (s_i1 (su S 0 (fun _ => 0)) cx g w_) (xx + 1) g ≠ s_und (su S 0 (fun _ => 0)) (xx + 1) g)) ((rb_0 (fun w => w c_121)).symm) ?_
          refine rx_zast hC hR (gu_eq _ _ _ _ _) (by decide) (rb_or _) (by omega) dX6_implement_129 (fun H locs hR => ?_)
          refine lv_iinc (v := (nI (xx + 1))) (lv' := [(6, .int ((nI (xx + 1)))), (5, .ref (ad2 52 1 0)), (4, .ref (ad2 52 0 0)), (0, .ref (ad2 50 0 0)), (1, .int (nI cx)), (2, .int (nI g)), (3, .int w_)]) hx hb dX6_implement_130 hl (k := 0) rfl (nI_1 xx) (by decide) rfl (fun ls hl => ?_)
          refine lv_goto (tgt := 96) hx hb dX6_implement_133 (by decide) ?_
          exact ih2 (xx + 1) (by omega) _ _ _ ⟨by omega, (by rw [← up_lt (fun c => rb (s_und (s_i1 (su S 0 (fun _ => 0)) cx g w_) (c + 1) g ≠ s_und (su S 0 (fun _ => 0)) (c + 1) g)) 0 xx]; rw [gu_gu] at hR; exact hR), lv_sub hl [0, 1, 2, 3, 4, 5, 6] rfl⟩
        · refine lv_iconst (v := 1) hx hb dX6_implement_124 (by decide) ?_
          refine gq_top (rb (s_und (s_i1 (su S 0 (fun _ => 0)) cx g w_) (xx + 1) g ≠ s_und (su S 0 (fun _ => 0)) (xx + 1) g)) ((rb_1 c_121).symm) ?_
          refine lv_goto (tgt := 129) hx hb dX6_implement_125 (by decide) ?_
          refine rx_zast hC hR (gu_eq _ _ _ _ _) (by decide) (rb_or _) (by omega) dX6_implement_129 (fun H locs hR => ?_)
          refine lv_iinc (v := (nI (xx + 1))) (lv' := [(6, .int ((nI (xx + 1)))), (5, .ref (ad2 52 1 0)), (4, .ref (ad2 52 0 0)), (0, .ref (ad2 50 0 0)), (1, .int (nI cx)), (2, .int (nI g)), (3, .int w_)]) hx hb dX6_implement_130 hl (k := 0) rfl (nI_1 xx) (by decide) rfl (fun ls hl => ?_)
          refine lv_goto (tgt := 96) hx hb dX6_implement_133 (by decide) ?_
          exact ih2 (xx + 1) (by omega) _ _ _ ⟨by omega, (by rw [← up_lt (fun c => rb (s_und (s_i1 (su S 0 (fun _ => 0)) cx g w_) (c + 1) g ≠ s_und (su S 0 (fun _ => 0)) (c + 1) g)) 0 xx]; rw [gu_gu] at hR; exact hR), lv_sub hl [0, 1, 2, 3, 4, 5, 6] rfl⟩
    · refine lv_aload hx hb dX6_implement_57 (lv_at hl 1 rfl) ?_
      refine lv_iload hx hb dX6_implement_59 (lv_at hl 0 rfl) ?_
      refine lv_aload_n hx hb dX6_implement_61 rfl (lv_at hl 2 rfl) ?_
      refine lv_iload hx hb dX6_implement_62 (lv_at hl 0 rfl) ?_
      refine gq_top (nI (xx + 1) - 1) ((nI_m1s xx).symm) ?_
      refine lv_iload_n hx hb dX6_implement_64 rfl (lv_at hl 4 rfl) ?_
      refine rr_calli hC hR (c6_understood l V ad1 _ (xx + 1) g nc hpZ (by omega) hg) km_RX6_117 kn_yX6_understood ks_yX6_understood kz_RX6 kd_yX6_understood dn_X6_understood rfl hl.1 ⟨by decide, by decide⟩ (Nat.le_of_ble_eq_true rfl) ⟨by decide, by decide⟩ dX6_implement_65 (fun r_65 S_65 H locs p_65 hR => ?_)
      obtain ⟨q_65, p_65⟩ := p_65
      rw [p_65] at hR
      refine gq_top (s_und (su S 0 (fun _ => 0)) (xx + 1) g) q_65 ?_
      refine rx_iast hC hR (gu_eq _ _ _ _ _) (by decide) (by omega) dX6_implement_68 (fun H locs hR => ?_)
      refine lv_iinc (v := (nI (xx + 1))) (lv' := [(5, .int ((nI (xx + 1)))), (4, .ref (ad1 52 0 0)), (0, .ref (ad1 50 0 0)), (1, .int (nI cx)), (2, .int (nI g)), (3, .int w_)]) hx hb dX6_implement_69 hl (k := 0) rfl (nI_1 xx) (by decide) rfl (fun ls hl => ?_)
      refine lv_goto (tgt := 48) hx hb dX6_implement_72 (by decide) ?_
      exact ih (xx + 1) (by omega) _ _ _ ⟨by omega, (by rw [← up_lt (fun c => s_und (su S 0 (fun _ => 0)) (c + 1) g) 0 xx]; rw [gu_gu] at hR; exact hR), lv_sub hl [0, 1, 2, 3, 4, 5] rfl⟩
  · refine lv_aload_n hx hb dX6_implement_5 rfl (lv_at hl 0 rfl) ?_
    refine lv_iload_n hx hb dX6_implement_6 rfl (lv_at hl 1 rfl) ?_
    refine rr_calli hC hR (c6_isClass l V ad _ x) km_RX6_82 kn_yX6_isClass ks_yX6_isClass kz_RX6 kd_yX6_isClass dn_X6_isClass rfl hl.1 ⟨by decide, by decide⟩ (Nat.le_of_ble_eq_true rfl) ⟨by decide, by decide⟩ dX6_implement_7 (fun r_7 S_7 H locs p_7 hR => ?_)
    obtain ⟨q_7, p_7⟩ := p_7
    rw [p_7] at hR
    refine gq_top (rb (s_isC S x)) q_7 ?_
    refine lv_if_eq (tgt := 33) hx hb dX6_implement_10 (by decide) (fun c_10 => ?_) (fun c_10 => ?_)
    · refine lv_aload_n hx hb dX6_implement_33 rfl (lv_at hl 0 rfl) ?_
      refine lv_iconst (v := 1) hx hb dX6_implement_34 (by decide) ?_
      refine rr_calli hC hR (c6_fail l V ad _ 1) km_RX6_86 kn_yX6_fail ks_yX6_fail kz_RX6 kd_yX6_fail dn_X6_fail rfl hl.1 ⟨by decide, by decide⟩ (Nat.le_of_ble_eq_true rfl) ⟨by decide, by decide⟩ dX6_implement_35 (fun r_35 S_35 H locs p_35 hR => ?_)
      obtain ⟨q_35, p_35⟩ := p_35
      subst p_35
      rw [q_35]
      exact rr_iret hC hz hR (by rw [show o_implement (su S 0 (fun _ => 0)) x y w_ = _ from if_neg (fun w => rb_n c_10 w.1)]; exact ⟨rfl, rfl⟩) (by decide) (by decide) dX6_implement_38
    · refine lv_iload_n hx hb dX6_implement_13 rfl (lv_at hl 2 rfl) ?_
      refine rs_calli hC hR (c6_isSelector l y) km_RX6_97 kst_yX6_isSelector kz_RX6 kd_yX6_isSelector dn_X6_isSelector rfl hl.1 ⟨by decide, by decide⟩ (Nat.le_of_ble_eq_true rfl) ⟨by decide, by decide⟩ dX6_implement_14 (fun r_14 H locs p_14 hR => ?_)
      refine gq_top (rb (s_sl y)) p_14 ?_
      refine lv_if_eq (tgt := 33) hx hb dX6_implement_17 (by decide) (fun c_17 => ?_) (fun c_17 => ?_)
      · refine lv_aload_n hx hb dX6_implement_33 rfl (lv_at hl 0 rfl) ?_
        refine lv_iconst (v := 1) hx hb dX6_implement_34 (by decide) ?_
        refine rr_calli hC hR (c6_fail l V ad _ 1) km_RX6_86 kn_yX6_fail ks_yX6_fail kz_RX6 kd_yX6_fail dn_X6_fail rfl hl.1 ⟨by decide, by decide⟩ (Nat.le_of_ble_eq_true rfl) ⟨by decide, by decide⟩ dX6_implement_35 (fun r_35 S_35 H locs p_35 hR => ?_)
        obtain ⟨q_35, p_35⟩ := p_35
        subst p_35
        rw [q_35]
        exact rr_iret hC hz hR (by rw [show o_implement (su S 0 (fun _ => 0)) x y w_ = _ from if_neg (fun w => rb_n c_17 w.2.1)]; exact ⟨rfl, rfl⟩) (by decide) (by decide) dX6_implement_38
      · refine lv_iload_n hx hb dX6_implement_20 rfl (lv_at hl 3 rfl) ?_
        refine lv_iconst (v := (-1)) hx hb dX6_implement_21 (by decide) ?_
        refine lv_icmp_eq (tgt := 39) hx hb dX6_implement_22 (by decide) (fun c_22 => ?_) (fun c_22 => ?_)
        · exact k39 _ _ _ ⟨⟨rb_t c_10, rb_t c_17, Or.inl c_22⟩, hR, lv_sub hl [0, 1, 2, 3] rfl⟩
        · refine lv_aload_n hx hb dX6_implement_25 rfl (lv_at hl 0 rfl) ?_
          refine lv_iload_n hx hb dX6_implement_26 rfl (lv_at hl 3 rfl) ?_
          refine rr_calli hC hR (c6_isMethod l V ad _ w_) km_RX6_103 kn_yX6_isMethod ks_yX6_isMethod kz_RX6 kd_yX6_isMethod dn_X6_isMethod rfl hl.1 ⟨by decide, by decide⟩ (Nat.le_of_ble_eq_true rfl) ⟨by decide, by decide⟩ dX6_implement_27 (fun r_27 S_27 H locs p_27 hR => ?_)
          obtain ⟨q_27, p_27⟩ := p_27
          rw [p_27] at hR
          refine gq_top (rb (s_isM S w_)) q_27 ?_
          refine lv_if_ne (tgt := 39) hx hb dX6_implement_30 (by decide) (fun c_30 => ?_) (fun c_30 => ?_)
          · exact k39 _ _ _ ⟨⟨rb_t c_10, rb_t c_17, Or.inr (rb_t c_30)⟩, hR, lv_sub hl [0, 1, 2, 3] rfl⟩
          · refine lv_aload_n hx hb dX6_implement_33 rfl (lv_at hl 0 rfl) ?_
            refine lv_iconst (v := 1) hx hb dX6_implement_34 (by decide) ?_
            refine rr_calli hC hR (c6_fail l V ad _ 1) km_RX6_86 kn_yX6_fail ks_yX6_fail kz_RX6 kd_yX6_fail dn_X6_fail rfl hl.1 ⟨by decide, by decide⟩ (Nat.le_of_ble_eq_true rfl) ⟨by decide, by decide⟩ dX6_implement_35 (fun r_35 S_35 H locs p_35 hR => ?_)
            obtain ⟨q_35, p_35⟩ := p_35
            subst p_35
            rw [q_35]
            exact rr_iret hC hz hR (by rw [show o_implement (su S 0 (fun _ => 0)) x y w_ = _ from if_neg (fun w => w.2.2.elim c_22 (rb_n c_30))]; exact ⟨rfl, rfl⟩) (by decide) (by decide) dX6_implement_38
