theorem nI_of' {x : Int32} (h : ¬ x < 0) : ∃ n : Nat, n < 2 ^ 31 ∧ x = nI n := nI_of h
set_option maxHeartbeats 4000000 in
set_option maxRecDepth 100000 in
theorem x_eM (l : Launch) (hST : l.stackTraces = false) (V : gV) (ad : gA) (T : rS) (nc nm : Nat) (hI : rI T nc nm) (x : Int32) (hx_ : ¬ s_isM T x) : kX l yX5_existingMethod cX5_existingMethod 2 (some (.object "TieredMachine$Method")) ({ frames := 6, cells := 1, slots := 6, locals := 90 } : Room) [.ref (ad 0 0 0), .int x] V ad T "java/lang/IndexOutOfBoundsException" := by
  refine kX.of (by decide) (Nat.le_of_ble_eq_true rfl) ?_
  intro p e s m_ below meth c ls E sz htab hC hz hW hl
  have hx := hC.1
  have hb := hC.2.1
  have hl : lv_has ls 2 [(0, .ref (ad 0 0 0)), (1, .int x)] := hl
  have hnm := hI.2.2.2.1
  have ecn := rI_cnm hI
  have h4 : T.1 4 0 = nI (cnm T) := by rw [ecn]; exact hI.2.2.1
  refine lv_iload_n hx hb dX5_existingMethod_0 rfl (lv_at hl 1 rfl) ?_
  refine lv_if_lt (tgt := 15) hx hb dX5_existingMethod_1 (by decide) (fun c_1 => ?_) (fun c_1 => ?_)
  · exact kx_throw_IO (tx := "no such method") hST htab hC hz hW hl.1 (by decide +kernel) dX5_existingMethod_15 dX5_existingMethod_18 dX5_existingMethod_19 dX5_existingMethod_21 dX5_existingMethod_24 (by decide) (Nat.le_of_ble_eq_true rfl) (Nat.le_of_ble_eq_true rfl) (Nat.le_of_ble_eq_true rfl) (Nat.le_of_ble_eq_true rfl) (Nat.le_of_ble_eq_true rfl)
  · refine lv_iload_n hx hb dX5_existingMethod_4 rfl (lv_at hl 1 rfl) ?_
    refine lv_aload_n hx hb dX5_existingMethod_5 rfl (lv_at hl 0 rfl) ?_
    refine kg_tm_1 hC hW kf_RX5_19 dX5_existingMethod_6 ?_
    refine kc_Vi hC hW (kv_ml ) rfl (kc_size_ml l V ad _) km_RX5_70 kn_yJx4a65c_size_8abf5 ks_yJx4a65c_size_8abf5 kz_RJx4a65c kd_yJx4a65c_size_8abf5 dn_Jx4a65c_size_8abf5 rfl hl.1 ⟨by decide, by decide⟩ (Nat.le_of_ble_eq_true rfl) ⟨by decide, by decide⟩ dX5_existingMethod_9 (fun r_9 T_9 H locs p_9 hW => ?_)
    obtain ⟨q_9, p_9⟩ := p_9
    rw [p_9] at hW
    refine gq_top (T.1 4 0) (q_9.trans h4.symm) ?_
    refine lv_icmp_lt (tgt := 25) hx hb dX5_existingMethod_12 (by decide) (fun c_12 => absurd c_12 (fun z => hx_ ⟨c_1, z⟩)) (fun c_12 => ?_)
    exact kx_throw_IO (tx := "no such method") hST htab hC hz hW hl.1 (by decide +kernel) dX5_existingMethod_15 dX5_existingMethod_18 dX5_existingMethod_19 dX5_existingMethod_21 dX5_existingMethod_24 (by decide) (Nat.le_of_ble_eq_true rfl) (Nat.le_of_ble_eq_true rfl) (Nat.le_of_ble_eq_true rfl) (Nat.le_of_ble_eq_true rfl) (Nat.le_of_ble_eq_true rfl)
set_option maxHeartbeats 4000000 in
set_option maxRecDepth 100000 in
theorem x_eR1 (l : Launch) (hST : l.stackTraces = false) (V : gV) (ad : gA) (T : rS) (nc nm : Nat) (hI : rI T nc nm) (x y : Int32) (hx_ : ¬ s_isM T x) : kX l yX5_existingRecord cX5_existingRecord 4 (some (.object "TieredMachine$Meetings")) ({ frames := 7, cells := 1, slots := 6, locals := 111 } : Room) [.ref (ad 0 0 0), .int x, .int y] V ad T "java/lang/IndexOutOfBoundsException" := by
  refine kX.of (by decide) (Nat.le_of_ble_eq_true rfl) ?_
  intro p e s m_ below meth c ls E sz htab hC hz hW hl
  have hx := hC.1
  have hb := hC.2.1
  have hl : lv_has ls 4 [(0, .ref (ad 0 0 0)), (1, .int x), (2, .int y)] := hl
  refine lv_aload_n hx hb dX5_existingRecord_0 rfl (lv_at hl 0 rfl) ?_
  refine lv_iload_n hx hb dX5_existingRecord_1 rfl (lv_at hl 1 rfl) ?_
  exact kx_V htab hC hz hW (kv_tm ) rfl (x_eM l hST V ad _ nc nm hI x hx_) km_RX5_83 kn_yX5_existingMethod ks_yX5_existingMethod kz_RX5 kd_yX5_existingMethod dn_X5_existingMethod rfl hl.1 ⟨by decide, by decide⟩ (Nat.le_of_ble_eq_true rfl) ⟨Nat.le_of_ble_eq_true rfl, Nat.le_of_ble_eq_true rfl⟩ dX5_existingRecord_2 (Nat.le_of_ble_eq_true rfl) (Nat.le_of_ble_eq_true rfl)
set_option maxHeartbeats 4000000 in
set_option maxRecDepth 100000 in
theorem x_eR2 (l : Launch) (hST : l.stackTraces = false) (V : gV) (ad : gA) (T : rS) (nc nm : Nat) (hI : rI T nc nm) (m : Nat) (hm : m < nm) (y : Int32) (hx_ : ¬ (¬ y < 0 ∧ y < T.1 5 m ∧ T.1 6 (5 * (20 * m + tn y)) = 5)) : kX l yX5_existingRecord cX5_existingRecord 4 (some (.object "TieredMachine$Meetings")) ({ frames := 6, cells := 1, slots := 6, locals := 90 } : Room) [.ref (ad 0 0 0), .int (nI m), .int y] V ad T "java/lang/IndexOutOfBoundsException" := by
  refine kX.of (by decide) (Nat.le_of_ble_eq_true rfl) ?_
  intro p e s m_ below meth c ls E sz htab hC hz hW hl
  have hx := hC.1
  have hb := hC.2.1
  have hl : lv_has ls 4 [(0, .ref (ad 0 0 0)), (1, .int (nI m)), (2, .int y)] := hl
  have hnm := hI.2.2.2.1
  have ecn := rI_cnm hI
  have h4 : T.1 4 0 = nI (cnm T) := by rw [ecn]; exact hI.2.2.1
  have hm1 : m < cnm T := by omega
  obtain ⟨z, hz20, h5, -, -⟩ := hI.2.2.2.2.2.1 m (by omega)
  have ez : csz T m = z := by unfold csz; rw [h5]; exact tn_nI (by omega)
  refine lv_aload_n hx hb dX5_existingRecord_0 rfl (lv_at hl 0 rfl) ?_
  refine lv_iload_n hx hb dX5_existingRecord_1 rfl (lv_at hl 1 rfl) ?_
  refine kc_Vr hC hW (kv_tm ) rfl (c5_existingMethod l V ad _ m (by omega) (by omega)) km_RX5_83 kn_yX5_existingMethod ks_yX5_existingMethod kz_RX5 kd_yX5_existingMethod dn_X5_existingMethod rfl hl.1 ⟨by decide, by decide⟩ (Nat.le_of_ble_eq_true rfl) ⟨by decide, by decide⟩ dX5_existingRecord_2 (fun r_2 T_2 H locs p_2 hW => ?_)
  obtain ⟨q_2, p_2⟩ := p_2
  rw [p_2] at hW
  rw [q_2]
  refine lv_astore_n (lv' := [(3, .ref (ad 13 m 0)), (0, .ref (ad 0 0 0)), (1, .int (nI m)), (2, .int y)]) hx hb dX5_existingRecord_5 rfl hl (by decide) rfl (fun ls hl => ?_)
  refine lv_aload_n hx hb dX5_existingRecord_6 rfl (lv_at hl 0 rfl) ?_
  refine lv_iload_n hx hb dX5_existingRecord_7 rfl (lv_at hl 3 rfl) ?_
  refine kc_Vi hC hW (kv_me hm1) rfl (c4_hasPlace l V ad _ m hm1 y) km_RX5_215 kn_yX4_hasPlace ks_yX4_hasPlace kz_RX4 kd_yX4_hasPlace dn_X4_hasPlace rfl hl.1 ⟨by decide, by decide⟩ (Nat.le_of_ble_eq_true rfl) ⟨by decide, by decide⟩ dX5_existingRecord_8 (fun r_8 T_8 H locs p_8 hW => ?_)
  obtain ⟨q_8, p_8⟩ := p_8
  rw [p_8] at hW
  refine gq_top (rb (¬ y < 0 ∧ y < nI (csz T m))) (q_8) ?_
  refine lv_if_eq (tgt := 32) hx hb dX5_existingRecord_11 (by decide) (fun c_11 => ?_) (fun c_11 => ?_)
  · exact kx_throw_IO (tx := "no SEND at this place") hST htab hC hz hW hl.1 (by decide +kernel) dX5_existingRecord_32 dX5_existingRecord_35 dX5_existingRecord_36 dX5_existingRecord_38 dX5_existingRecord_41 (by decide) (Nat.le_of_ble_eq_true rfl) (Nat.le_of_ble_eq_true rfl) (Nat.le_of_ble_eq_true rfl) (Nat.le_of_ble_eq_true rfl) (Nat.le_of_ble_eq_true rfl)
  · obtain ⟨q, hq31, eq_⟩ := nI_of (rb_t c_11).1
    have hq : q < csz T m := nI_ltn hq31 (by omega) (by rw [← eq_]; exact (rb_t c_11).2)
    rw [eq_] at hl
    refine lv_aload_n hx hb dX5_existingRecord_14 rfl (lv_at hl 0 rfl) ?_
    refine kg_me_0 hC hW hm1 kf_RX5_101 dX5_existingRecord_15 ?_
    refine lv_iload_n hx hb dX5_existingRecord_18 rfl (lv_at hl 3 rfl) ?_
    refine kc_Vr hC hW (kv_cl hm1) rfl (kc_get_cl l V ad _ hm1 hq) km_RX5_120 kn_yJx4a65c_get_915e3 ks_yJx4a65c_get_915e3 kz_RJx4a65c kd_yJx4a65c_get_915e3 dn_Jx4a65c_get_915e3 rfl hl.1 ⟨by decide, by decide⟩ (Nat.le_of_ble_eq_true rfl) ⟨by decide, by decide⟩ dX5_existingRecord_19 (fun r_19 T_19 H locs p_19 hW => ?_)
    obtain ⟨q_19, p_19⟩ := p_19
    rw [p_19] at hW
    rw [q_19]
    refine kx_cast hC hW (kv_ins hm1 hq) rfl kc_RX5_104 dX5_existingRecord_22 ?_
    refine kg_ins_0 hC hW hm1 hq kf_RX5_218 dX5_existingRecord_25 ?_
    refine lv_iconst (v := 5) hx hb dX5_existingRecord_28 (by decide) ?_
    refine lv_icmp_eq (tgt := 42) hx hb dX5_existingRecord_29 (by decide) (fun c_29 => absurd c_29 (fun z => hx_ ⟨(rb_t c_11).1, by rw [h5, ← ez]; exact (rb_t c_11).2, by rw [eq_, tn_nI hq31]; exact z⟩)) (fun c_29 => ?_)
    exact kx_throw_IO (tx := "no SEND at this place") hST htab hC hz hW hl.1 (by decide +kernel) dX5_existingRecord_32 dX5_existingRecord_35 dX5_existingRecord_36 dX5_existingRecord_38 dX5_existingRecord_41 (by decide) (Nat.le_of_ble_eq_true rfl) (Nat.le_of_ble_eq_true rfl) (Nat.le_of_ble_eq_true rfl) (Nat.le_of_ble_eq_true rfl) (Nat.le_of_ble_eq_true rfl)
set_option maxHeartbeats 4000000 in
set_option maxRecDepth 100000 in
theorem x_cc (l : Launch) (hST : l.stackTraces = false) (V : gV) (ad : gA) (T : rS) (x y : Int32) (hx_ : ¬ (s_isC T x ∧ s_sl y)) : kX l yX5_checkClassAndSelector cX5_checkClassAndSelector 3 none ({ frames := 6, cells := 1, slots := 6, locals := 90 } : Room) [.ref (ad 0 0 0), .int x, .int y] V ad T "java/lang/IndexOutOfBoundsException" := by
  refine kX.of (by decide) (Nat.le_of_ble_eq_true rfl) ?_
  intro p e s m_ below meth c ls E sz htab hC hz hW hl
  have hx := hC.1
  have hb := hC.2.1
  have hl : lv_has ls 3 [(0, .ref (ad 0 0 0)), (1, .int x), (2, .int y)] := hl
  refine lv_aload_n hx hb dX5_checkClassAndSelector_0 rfl (lv_at hl 0 rfl) ?_
  refine kg_tm_0 hC hW kf_RX5_10 dX5_checkClassAndSelector_1 ?_
  refine lv_iload_n hx hb dX5_checkClassAndSelector_4 rfl (lv_at hl 1 rfl) ?_
  refine kc_Vi hC hW (kv_hi ) rfl (c1_hasClass l V ad _ x) km_RX5_47 kn_yX1_hasClass ks_yX1_hasClass kz_RX1 kd_yX1_hasClass dn_X1_hasClass rfl hl.1 ⟨by decide, by decide⟩ (Nat.le_of_ble_eq_true rfl) ⟨by decide, by decide⟩ dX5_checkClassAndSelector_5 (fun r_5 T_5 H locs p_5 hW => ?_)
  obtain ⟨q_5, p_5⟩ := p_5
  rw [p_5] at hW
  refine gq_top (rb (s_isC T x)) (q_5) ?_
  refine lv_if_eq (tgt := 18) hx hb dX5_checkClassAndSelector_8 (by decide) (fun c_8 => ?_) (fun c_8 => ?_)
  · exact kx_throw_IO (tx := "no such class or selector") hST htab hC hz hW hl.1 (by decide +kernel) dX5_checkClassAndSelector_18 dX5_checkClassAndSelector_21 dX5_checkClassAndSelector_22 dX5_checkClassAndSelector_24 dX5_checkClassAndSelector_27 (by decide) (Nat.le_of_ble_eq_true rfl) (Nat.le_of_ble_eq_true rfl) (Nat.le_of_ble_eq_true rfl) (Nat.le_of_ble_eq_true rfl) (Nat.le_of_ble_eq_true rfl)
  · refine lv_iload_n hx hb dX5_checkClassAndSelector_11 rfl (lv_at hl 2 rfl) ?_
    refine kc_Si hC hW (c5_isSelector l V ad _ y) km_RX5_227 kst_yX5_isSelector kz_RX5 kd_yX5_isSelector dn_X5_isSelector.2 rfl hl.1 ⟨by decide, by decide⟩ (Nat.le_of_ble_eq_true rfl) ⟨by decide, by decide⟩ dX5_checkClassAndSelector_12 (fun r_12 T_12 H locs p_12 hW => ?_)
    obtain ⟨q_12, p_12⟩ := p_12
    rw [p_12] at hW
    refine gq_top (rb (s_sl y)) (q_12) ?_
    refine lv_if_ne (tgt := 28) hx hb dX5_checkClassAndSelector_15 (by decide) (fun c_15 => absurd (rb_0 (fun w => hx_ ⟨rb_t c_8, w⟩)) c_15) (fun c_15 => ?_)
    exact kx_throw_IO (tx := "no such class or selector") hST htab hC hz hW hl.1 (by decide +kernel) dX5_checkClassAndSelector_18 dX5_checkClassAndSelector_21 dX5_checkClassAndSelector_22 dX5_checkClassAndSelector_24 dX5_checkClassAndSelector_27 (by decide) (Nat.le_of_ble_eq_true rfl) (Nat.le_of_ble_eq_true rfl) (Nat.le_of_ble_eq_true rfl) (Nat.le_of_ble_eq_true rfl) (Nat.le_of_ble_eq_true rfl)
set_option maxHeartbeats 4000000 in
set_option maxRecDepth 100000 in
theorem x_ac1 (l : Launch) (hST : l.stackTraces = false) (V : gV) (ad : gA) (T : rS) (x : Int32) (h1 : x ≠ -1) (h2 : ¬ s_isC T x) : kX l yX5_addClass cX5_addClass 2 (some .int) ({ frames := 6, cells := 1, slots := 6, locals := 90 } : Room) [.ref (ad 0 0 0), .int x] V ad T "java/lang/IndexOutOfBoundsException" := by
  refine kX.of (by decide) (Nat.le_of_ble_eq_true rfl) ?_
  intro p e s m_ below meth c ls E sz htab hC hz hW hl
  have hx := hC.1
  have hb := hC.2.1
  have hl : lv_has ls 2 [(0, .ref (ad 0 0 0)), (1, .int x)] := hl
  refine lv_iload_n hx hb dX5_addClass_0 rfl (lv_at hl 1 rfl) ?_
  refine lv_iconst (v := (-1)) hx hb dX5_addClass_1 (by decide) ?_
  refine lv_icmp_eq (tgt := 26) hx hb dX5_addClass_2 (by decide) (fun c_2 => absurd c_2 (h1)) (fun c_2 => ?_)
  refine lv_aload_n hx hb dX5_addClass_5 rfl (lv_at hl 0 rfl) ?_
  refine kg_tm_0 hC hW kf_RX5_10 dX5_addClass_6 ?_
  refine lv_iload_n hx hb dX5_addClass_9 rfl (lv_at hl 1 rfl) ?_
  refine kc_Vi hC hW (kv_hi ) rfl (c1_hasClass l V ad _ x) km_RX5_47 kn_yX1_hasClass ks_yX1_hasClass kz_RX1 kd_yX1_hasClass dn_X1_hasClass rfl hl.1 ⟨by decide, by decide⟩ (Nat.le_of_ble_eq_true rfl) ⟨by decide, by decide⟩ dX5_addClass_10 (fun r_10 T_10 H locs p_10 hW => ?_)
  obtain ⟨q_10, p_10⟩ := p_10
  rw [p_10] at hW
  refine gq_top (rb (s_isC T x)) (q_10) ?_
  refine lv_if_ne (tgt := 26) hx hb dX5_addClass_13 (by decide) (fun c_13 => absurd (rb_0 h2) c_13) (fun c_13 => ?_)
  exact kx_throw_IO (tx := "no such parent") hST htab hC hz hW hl.1 (by decide +kernel) dX5_addClass_16 dX5_addClass_19 dX5_addClass_20 dX5_addClass_22 dX5_addClass_25 (by decide) (Nat.le_of_ble_eq_true rfl) (Nat.le_of_ble_eq_true rfl) (Nat.le_of_ble_eq_true rfl) (Nat.le_of_ble_eq_true rfl) (Nat.le_of_ble_eq_true rfl)
set_option maxHeartbeats 4000000 in
set_option maxRecDepth 100000 in
theorem x_ac2 (l : Launch) (hST : l.stackTraces = false) (V : gV) (ad : gA) (T : rS) (nm : Nat) (hI : rI T 8 nm) (x : Int32) (hx_ : x = -1 ∨ s_isC T x) : kX l yX5_addClass cX5_addClass 2 (some .int) ({ frames := 6, cells := 1, slots := 6, locals := 90 } : Room) [.ref (ad 0 0 0), .int x] V ad T "java/lang/IllegalStateException" := by
  refine kX.of (by decide) (Nat.le_of_ble_eq_true rfl) ?_
  intro p e s m_ below meth c ls E sz htab hC hz hW hl
  have hx := hC.1
  have hb := hC.2.1
  have hl : lv_has ls 2 [(0, .ref (ad 0 0 0)), (1, .int x)] := hl
  refine lv_iload_n hx hb dX5_addClass_0 rfl (lv_at hl 1 rfl) ?_
  refine lv_iconst (v := (-1)) hx hb dX5_addClass_1 (by decide) ?_
  refine lv_icmp_eq (tgt := 26) hx hb dX5_addClass_2 (by decide) (fun c_2 => ?_) (fun c_2 => ?_)
  · refine lv_aload_n hx hb dX5_addClass_26 rfl (lv_at hl 0 rfl) ?_
    refine kg_tm_0 hC hW kf_RX5_10 dX5_addClass_27 ?_
    refine kg_hi_3 hC hW kf_RX5_58 dX5_addClass_30 ?_
    refine gq_top (nI 8) (hI.1) ?_
    refine lv_bipush (v := (nI 8)) hx hb dX5_addClass_33 (by decide) ?_
    refine gn_icmp_lt (tgt := 48) hx hb (by decide) (by decide) dX5_addClass_35 (by decide) (fun c_35 => absurd c_35 (by omega)) (fun c_35 => ?_)
    exact kx_throw_IS (tx := "too many classes") hST htab hC hz hW hl.1 (by decide +kernel) dX5_addClass_38 dX5_addClass_41 dX5_addClass_42 dX5_addClass_44 dX5_addClass_47 (by decide) (Nat.le_of_ble_eq_true rfl) (Nat.le_of_ble_eq_true rfl) (Nat.le_of_ble_eq_true rfl) (Nat.le_of_ble_eq_true rfl) (Nat.le_of_ble_eq_true rfl)
  · refine lv_aload_n hx hb dX5_addClass_5 rfl (lv_at hl 0 rfl) ?_
    refine kg_tm_0 hC hW kf_RX5_10 dX5_addClass_6 ?_
    refine lv_iload_n hx hb dX5_addClass_9 rfl (lv_at hl 1 rfl) ?_
    refine kc_Vi hC hW (kv_hi ) rfl (c1_hasClass l V ad _ x) km_RX5_47 kn_yX1_hasClass ks_yX1_hasClass kz_RX1 kd_yX1_hasClass dn_X1_hasClass rfl hl.1 ⟨by decide, by decide⟩ (Nat.le_of_ble_eq_true rfl) ⟨by decide, by decide⟩ dX5_addClass_10 (fun r_10 T_10 H locs p_10 hW => ?_)
    obtain ⟨q_10, p_10⟩ := p_10
    rw [p_10] at hW
    refine gq_top (rb (s_isC T x)) (q_10) ?_
    refine lv_if_ne (tgt := 26) hx hb dX5_addClass_13 (by decide) (fun c_13 => ?_) (fun c_13 => absurd c_13 (fun z => rb_n z (hx_.resolve_left c_2)))
    refine lv_aload_n hx hb dX5_addClass_26 rfl (lv_at hl 0 rfl) ?_
    refine kg_tm_0 hC hW kf_RX5_10 dX5_addClass_27 ?_
    refine kg_hi_3 hC hW kf_RX5_58 dX5_addClass_30 ?_
    refine gq_top (nI 8) (hI.1) ?_
    refine lv_bipush (v := (nI 8)) hx hb dX5_addClass_33 (by decide) ?_
    refine gn_icmp_lt (tgt := 48) hx hb (by decide) (by decide) dX5_addClass_35 (by decide) (fun c_35 => absurd c_35 (by omega)) (fun c_35 => ?_)
    exact kx_throw_IS (tx := "too many classes") hST htab hC hz hW hl.1 (by decide +kernel) dX5_addClass_38 dX5_addClass_41 dX5_addClass_42 dX5_addClass_44 dX5_addClass_47 (by decide) (Nat.le_of_ble_eq_true rfl) (Nat.le_of_ble_eq_true rfl) (Nat.le_of_ble_eq_true rfl) (Nat.le_of_ble_eq_true rfl) (Nat.le_of_ble_eq_true rfl)
set_option maxHeartbeats 4000000 in
set_option maxRecDepth 100000 in
theorem x_am (l : Launch) (hST : l.stackTraces = false) (V : gV) (ad : gA) (T : rS) (nc : Nat) (hI : rI T nc 12) : kX l yX5_addMethod cX5_addMethod 1 (some .int) ({ frames := 6, cells := 1, slots := 6, locals := 90 } : Room) [.ref (ad 0 0 0)] V ad T "java/lang/IllegalStateException" := by
  refine kX.of (by decide) (Nat.le_of_ble_eq_true rfl) ?_
  intro p e s m_ below meth c ls E sz htab hC hz hW hl
  have hx := hC.1
  have hb := hC.2.1
  have hl : lv_has ls 1 [(0, .ref (ad 0 0 0))] := hl
  have ecn := rI_cnm hI
  refine lv_aload_n hx hb dX5_addMethod_0 rfl (lv_at hl 0 rfl) ?_
  refine kg_tm_1 hC hW kf_RX5_19 dX5_addMethod_1 ?_
  refine kc_Vi hC hW (kv_ml ) rfl (kc_size_ml l V ad _) km_RX5_70 kn_yJx4a65c_size_8abf5 ks_yJx4a65c_size_8abf5 kz_RJx4a65c kd_yJx4a65c_size_8abf5 dn_Jx4a65c_size_8abf5 rfl hl.1 ⟨by decide, by decide⟩ (Nat.le_of_ble_eq_true rfl) ⟨by decide, by decide⟩ dX5_addMethod_4 (fun r_4 T_4 H locs p_4 hW => ?_)
  obtain ⟨q_4, p_4⟩ := p_4
  rw [p_4] at hW
  refine gq_top (nI 12) (q_4.trans (congrArg nI ecn)) ?_
  refine lv_bipush (v := (nI 12)) hx hb dX5_addMethod_7 (by decide) ?_
  refine gn_icmp_lt (tgt := 22) hx hb (by decide) (by decide) dX5_addMethod_9 (by decide) (fun c_9 => absurd c_9 (by omega)) (fun c_9 => ?_)
  exact kx_throw_IS (tx := "too many methods") hST htab hC hz hW hl.1 (by decide +kernel) dX5_addMethod_12 dX5_addMethod_15 dX5_addMethod_16 dX5_addMethod_18 dX5_addMethod_21 (by decide) (Nat.le_of_ble_eq_true rfl) (Nat.le_of_ble_eq_true rfl) (Nat.le_of_ble_eq_true rfl) (Nat.le_of_ble_eq_true rfl) (Nat.le_of_ble_eq_true rfl)
set_option maxHeartbeats 4000000 in
set_option maxRecDepth 100000 in
theorem x_ap1 (l : Launch) (hST : l.stackTraces = false) (V : gV) (ad : gA) (T : rS) (nc nm : Nat) (hI : rI T nc nm) (x : Int32) (hx_ : ¬ s_isM T x) (k a b c_ d : Int32) : kX l yX5_append cX5_append 8 (some .int) ({ frames := 7, cells := 1, slots := 6, locals := 111 } : Room) [.ref (ad 0 0 0), .int x, .int k, .int a, .int b, .int c_, .int d] V ad T "java/lang/IndexOutOfBoundsException" := by
  refine kX.of (by decide) (Nat.le_of_ble_eq_true rfl) ?_
  intro p e s m_ below meth c ls E sz htab hC hz hW hl
  have hx := hC.1
  have hb := hC.2.1
  have hl : lv_has ls 8 [(0, .ref (ad 0 0 0)), (1, .int x), (2, .int k), (3, .int a), (4, .int b), (5, .int c_), (6, .int d)] := hl
  refine lv_aload_n hx hb dX5_append_0 rfl (lv_at hl 0 rfl) ?_
  refine lv_iload_n hx hb dX5_append_1 rfl (lv_at hl 1 rfl) ?_
  exact kx_V htab hC hz hW (kv_tm ) rfl (x_eM l hST V ad _ nc nm hI x hx_) km_RX5_83 kn_yX5_existingMethod ks_yX5_existingMethod kz_RX5 kd_yX5_existingMethod dn_X5_existingMethod rfl hl.1 ⟨by decide, by decide⟩ (Nat.le_of_ble_eq_true rfl) ⟨Nat.le_of_ble_eq_true rfl, Nat.le_of_ble_eq_true rfl⟩ dX5_append_2 (Nat.le_of_ble_eq_true rfl) (Nat.le_of_ble_eq_true rfl)
set_option maxHeartbeats 4000000 in
set_option maxRecDepth 100000 in
theorem x_ap2 (l : Launch) (hST : l.stackTraces = false) (V : gV) (ad : gA) (T : rS) (nc nm : Nat) (hI : rI T nc nm) (m : Nat) (hm : m < nm) (k a b c_ d : Int32) (hf : ¬ s_fit T k a b c_ d) : kX l yX5_append cX5_append 8 (some .int) ({ frames := 6, cells := 1, slots := 6, locals := 90 } : Room) [.ref (ad 0 0 0), .int (nI m), .int k, .int a, .int b, .int c_, .int d] V ad T "java/lang/IllegalArgumentException" := by
  refine kX.of (by decide) (Nat.le_of_ble_eq_true rfl) ?_
  intro p e s m_ below meth c ls E sz htab hC hz hW hl
  have hx := hC.1
  have hb := hC.2.1
  have hl : lv_has ls 8 [(0, .ref (ad 0 0 0)), (1, .int (nI m)), (2, .int k), (3, .int a), (4, .int b), (5, .int c_), (6, .int d)] := hl
  have hnm := hI.2.2.2.1
  have ecn := rI_cnm hI
  have h4 : T.1 4 0 = nI (cnm T) := by rw [ecn]; exact hI.2.2.1
  refine lv_aload_n hx hb dX5_append_0 rfl (lv_at hl 0 rfl) ?_
  refine lv_iload_n hx hb dX5_append_1 rfl (lv_at hl 1 rfl) ?_
  refine kc_Vr hC hW (kv_tm ) rfl (c5_existingMethod l V ad _ m (by omega) (by omega)) km_RX5_83 kn_yX5_existingMethod ks_yX5_existingMethod kz_RX5 kd_yX5_existingMethod dn_X5_existingMethod rfl hl.1 ⟨by decide, by decide⟩ (Nat.le_of_ble_eq_true rfl) ⟨by decide, by decide⟩ dX5_append_2 (fun r_2 T_2 H locs p_2 hW => ?_)
  obtain ⟨q_2, p_2⟩ := p_2
  rw [p_2] at hW
  rw [q_2]
  refine lv_astore (lv' := [(7, .ref (ad 13 m 0)), (0, .ref (ad 0 0 0)), (1, .int (nI m)), (2, .int k), (3, .int a), (4, .int b), (5, .int c_), (6, .int d)]) hx hb dX5_append_5 hl (by decide) rfl (fun ls hl => ?_)
  refine lv_aload_n hx hb dX5_append_7 rfl (lv_at hl 1 rfl) ?_
  refine lv_iload_n hx hb dX5_append_8 rfl (lv_at hl 3 rfl) ?_
  refine lv_iload_n hx hb dX5_append_9 rfl (lv_at hl 4 rfl) ?_
  refine lv_iload hx hb dX5_append_10 (lv_at hl 5 rfl) ?_
  refine lv_iload hx hb dX5_append_12 (lv_at hl 6 rfl) ?_
  refine lv_iload hx hb dX5_append_14 (lv_at hl 7 rfl) ?_
  refine kc_Vi hC hW (kv_tm ) rfl (c5_fits l V ad _ k a b c_ d) km_RX5_87 kn_yX5_fits ks_yX5_fits kz_RX5 kd_yX5_fits dn_X5_fits rfl hl.1 ⟨by decide, by decide⟩ (Nat.le_of_ble_eq_true rfl) ⟨by decide, by decide⟩ dX5_append_16 (fun r_16 T_16 H locs p_16 hW => ?_)
  obtain ⟨q_16, p_16⟩ := p_16
  rw [p_16] at hW
  refine gq_top (rb (s_fit T k a b c_ d)) (q_16) ?_
  refine lv_if_ne (tgt := 32) hx hb dX5_append_19 (by decide) (fun c_19 => absurd (rb_0 hf) c_19) (fun c_19 => ?_)
  exact kx_throw_IA (tx := "no such instruction") hST htab hC hz hW hl.1 (by decide +kernel) dX5_append_22 dX5_append_25 dX5_append_26 dX5_append_28 dX5_append_31 (by decide) (Nat.le_of_ble_eq_true rfl) (Nat.le_of_ble_eq_true rfl) (Nat.le_of_ble_eq_true rfl) (Nat.le_of_ble_eq_true rfl) (Nat.le_of_ble_eq_true rfl)
set_option maxHeartbeats 4000000 in
set_option maxRecDepth 100000 in
theorem x_ap3 (l : Launch) (hST : l.stackTraces = false) (V : gV) (ad : gA) (T : rS) (nc nm : Nat) (hI : rI T nc nm) (m : Nat) (hm : m < nm) (k a b c_ d : Int32) (hf : s_fit T k a b c_ d) (h5 : csz T m = 20) : kX l yX5_append cX5_append 8 (some .int) ({ frames := 6, cells := 1, slots := 6, locals := 90 } : Room) [.ref (ad 0 0 0), .int (nI m), .int k, .int a, .int b, .int c_, .int d] V ad T "java/lang/IllegalStateException" := by
  refine kX.of (by decide) (Nat.le_of_ble_eq_true rfl) ?_
  intro p e s m_ below meth c ls E sz htab hC hz hW hl
  have hx := hC.1
  have hb := hC.2.1
  have hl : lv_has ls 8 [(0, .ref (ad 0 0 0)), (1, .int (nI m)), (2, .int k), (3, .int a), (4, .int b), (5, .int c_), (6, .int d)] := hl
  have hnm := hI.2.2.2.1
  have ecn := rI_cnm hI
  have h4 : T.1 4 0 = nI (cnm T) := by rw [ecn]; exact hI.2.2.1
  refine lv_aload_n hx hb dX5_append_0 rfl (lv_at hl 0 rfl) ?_
  refine lv_iload_n hx hb dX5_append_1 rfl (lv_at hl 1 rfl) ?_
  refine kc_Vr hC hW (kv_tm ) rfl (c5_existingMethod l V ad _ m (by omega) (by omega)) km_RX5_83 kn_yX5_existingMethod ks_yX5_existingMethod kz_RX5 kd_yX5_existingMethod dn_X5_existingMethod rfl hl.1 ⟨by decide, by decide⟩ (Nat.le_of_ble_eq_true rfl) ⟨by decide, by decide⟩ dX5_append_2 (fun r_2 T_2 H locs p_2 hW => ?_)
  obtain ⟨q_2, p_2⟩ := p_2
  rw [p_2] at hW
  rw [q_2]
  refine lv_astore (lv' := [(7, .ref (ad 13 m 0)), (0, .ref (ad 0 0 0)), (1, .int (nI m)), (2, .int k), (3, .int a), (4, .int b), (5, .int c_), (6, .int d)]) hx hb dX5_append_5 hl (by decide) rfl (fun ls hl => ?_)
  refine lv_aload_n hx hb dX5_append_7 rfl (lv_at hl 1 rfl) ?_
  refine lv_iload_n hx hb dX5_append_8 rfl (lv_at hl 3 rfl) ?_
  refine lv_iload_n hx hb dX5_append_9 rfl (lv_at hl 4 rfl) ?_
  refine lv_iload hx hb dX5_append_10 (lv_at hl 5 rfl) ?_
  refine lv_iload hx hb dX5_append_12 (lv_at hl 6 rfl) ?_
  refine lv_iload hx hb dX5_append_14 (lv_at hl 7 rfl) ?_
  refine kc_Vi hC hW (kv_tm ) rfl (c5_fits l V ad _ k a b c_ d) km_RX5_87 kn_yX5_fits ks_yX5_fits kz_RX5 kd_yX5_fits dn_X5_fits rfl hl.1 ⟨by decide, by decide⟩ (Nat.le_of_ble_eq_true rfl) ⟨by decide, by decide⟩ dX5_append_16 (fun r_16 T_16 H locs p_16 hW => ?_)
  obtain ⟨q_16, p_16⟩ := p_16
  rw [p_16] at hW
  refine gq_top (rb (s_fit T k a b c_ d)) (q_16) ?_
  refine lv_if_ne (tgt := 32) hx hb dX5_append_19 (by decide) (fun c_19 => ?_) (fun c_19 => absurd c_19 (fun z => rb_n z hf))
  refine lv_aload hx hb dX5_append_32 (lv_at hl 0 rfl) ?_
  refine kc_Vi hC hW (kv_me (show m < cnm T by omega)) rfl (c4_length l V ad _ m (by omega)) km_RX5_96 kn_yX4_length ks_yX4_length kz_RX4 kd_yX4_length dn_X4_length rfl hl.1 ⟨by decide, by decide⟩ (Nat.le_of_ble_eq_true rfl) ⟨by decide, by decide⟩ dX5_append_34 (fun r_34 T_34 H locs p_34 hW => ?_)
  obtain ⟨q_34, p_34⟩ := p_34
  rw [p_34] at hW
  refine gq_top (nI 20) (q_34.trans (congrArg nI h5)) ?_
  refine lv_bipush (v := (nI 20)) hx hb dX5_append_37 (by decide) ?_
  refine gn_icmp_lt (tgt := 52) hx hb (by decide) (by decide) dX5_append_39 (by decide) (fun c_39 => absurd c_39 (by omega)) (fun c_39 => ?_)
  exact kx_throw_IS (tx := "too many instructions") hST htab hC hz hW hl.1 (by decide +kernel) dX5_append_42 dX5_append_45 dX5_append_46 dX5_append_48 dX5_append_51 (by decide) (Nat.le_of_ble_eq_true rfl) (Nat.le_of_ble_eq_true rfl) (Nat.le_of_ble_eq_true rfl) (Nat.le_of_ble_eq_true rfl) (Nat.le_of_ble_eq_true rfl)
set_option maxHeartbeats 4000000 in
set_option maxRecDepth 100000 in
theorem x_im1 (l : Launch) (hST : l.stackTraces = false) (V : gV) (ad : gA) (T : rS) (x y w_ : Int32) (hx_ : ¬ (s_isC T x ∧ s_sl y)) : kX l yX5_implement cX5_implement 7 (some .int) ({ frames := 7, cells := 1, slots := 6, locals := 112 } : Room) [.ref (ad 0 0 0), .int x, .int y, .int w_] V ad T "java/lang/IndexOutOfBoundsException" := by
  refine kX.of (by decide) (Nat.le_of_ble_eq_true rfl) ?_
  intro p e s m_ below meth c ls E sz htab hC hz hW hl
  have hx := hC.1
  have hb := hC.2.1
  have hl : lv_has ls 7 [(0, .ref (ad 0 0 0)), (1, .int x), (2, .int y), (3, .int w_)] := hl
  refine lv_aload_n hx hb dX5_implement_0 rfl (lv_at hl 0 rfl) ?_
  refine lv_iload_n hx hb dX5_implement_1 rfl (lv_at hl 1 rfl) ?_
  refine lv_iload_n hx hb dX5_implement_2 rfl (lv_at hl 2 rfl) ?_
  exact kx_V htab hC hz hW (kv_tm ) rfl (x_cc l hST V ad _ x y hx_) km_RX5_112 kn_yX5_checkClassAndSelector ks_yX5_checkClassAndSelector kz_RX5 kd_yX5_checkClassAndSelector dn_X5_checkClassAndSelector rfl hl.1 ⟨by decide, by decide⟩ (Nat.le_of_ble_eq_true rfl) ⟨Nat.le_of_ble_eq_true rfl, Nat.le_of_ble_eq_true rfl⟩ dX5_implement_3 (Nat.le_of_ble_eq_true rfl) (Nat.le_of_ble_eq_true rfl)
set_option maxHeartbeats 4000000 in
set_option maxRecDepth 100000 in
theorem x_im2 (l : Launch) (hST : l.stackTraces = false) (V : gV) (ad : gA) (T : rS) (nc nm : Nat) (hI : rI T nc nm) (c_ g : Nat) (hc : c_ < nc) (hg : g < 6) (w_ : Int32) (hw : w_ ≠ -1) (hw2 : ¬ s_isM T w_) : kX l yX5_implement cX5_implement 7 (some .int) ({ frames := 7, cells := 1, slots := 6, locals := 111 } : Room) [.ref (ad 0 0 0), .int (nI c_), .int (nI g), .int w_] V ad T "java/lang/IndexOutOfBoundsException" := by
  refine kX.of (by decide) (Nat.le_of_ble_eq_true rfl) ?_
  intro p e s m_ below meth c ls E sz htab hC hz hW hl
  have hx := hC.1
  have hb := hC.2.1
  have hl : lv_has ls 7 [(0, .ref (ad 0 0 0)), (1, .int (nI c_)), (2, .int (nI g)), (3, .int w_)] := hl
  refine lv_aload_n hx hb dX5_implement_0 rfl (lv_at hl 0 rfl) ?_
  refine lv_iload_n hx hb dX5_implement_1 rfl (lv_at hl 1 rfl) ?_
  refine lv_iload_n hx hb dX5_implement_2 rfl (lv_at hl 2 rfl) ?_
  refine kc_Vv hC hW (kv_tm ) rfl (c5_checkClassAndSelector l V ad _ c_ g nc nm hI hc hg) km_RX5_112 kn_yX5_checkClassAndSelector ks_yX5_checkClassAndSelector kz_RX5 kd_yX5_checkClassAndSelector dn_X5_checkClassAndSelector rfl hl.1 ⟨by decide, by decide⟩ (Nat.le_of_ble_eq_true rfl) ⟨by decide, by decide⟩ dX5_implement_3 (fun T_3 H locs p_3 hW => ?_)
  rw [p_3] at hW
  refine lv_iload_n hx hb dX5_implement_6 rfl (lv_at hl 3 rfl) ?_
  refine lv_iconst (v := (-1)) hx hb dX5_implement_7 (by decide) ?_
  refine lv_icmp_eq (tgt := 17) hx hb dX5_implement_8 (by decide) (fun c_8 => absurd c_8 (hw)) (fun c_8 => ?_)
  refine lv_aload_n hx hb dX5_implement_11 rfl (lv_at hl 0 rfl) ?_
  refine lv_iload_n hx hb dX5_implement_12 rfl (lv_at hl 3 rfl) ?_
  exact kx_V htab hC hz hW (kv_tm ) rfl (x_eM l hST V ad _ nc nm hI w_ hw2) km_RX5_83 kn_yX5_existingMethod ks_yX5_existingMethod kz_RX5 kd_yX5_existingMethod dn_X5_existingMethod rfl hl.1 ⟨by decide, by decide⟩ (Nat.le_of_ble_eq_true rfl) ⟨Nat.le_of_ble_eq_true rfl, Nat.le_of_ble_eq_true rfl⟩ dX5_implement_13 (Nat.le_of_ble_eq_true rfl) (Nat.le_of_ble_eq_true rfl)
set_option maxHeartbeats 4000000 in
set_option maxRecDepth 100000 in
theorem x_un (l : Launch) (hST : l.stackTraces = false) (V : gV) (ad : gA) (T : rS) (x y : Int32) (hx_ : ¬ (s_isC T x ∧ s_sl y)) : kX l yX5_understands cX5_understands 3 (some .int) ({ frames := 7, cells := 1, slots := 6, locals := 112 } : Room) [.ref (ad 0 0 0), .int x, .int y] V ad T "java/lang/IndexOutOfBoundsException" := by
  refine kX.of (by decide) (Nat.le_of_ble_eq_true rfl) ?_
  intro p e s m_ below meth c ls E sz htab hC hz hW hl
  have hx := hC.1
  have hb := hC.2.1
  have hl : lv_has ls 3 [(0, .ref (ad 0 0 0)), (1, .int x), (2, .int y)] := hl
  refine lv_aload_n hx hb dX5_understands_0 rfl (lv_at hl 0 rfl) ?_
  refine lv_iload_n hx hb dX5_understands_1 rfl (lv_at hl 1 rfl) ?_
  refine lv_iload_n hx hb dX5_understands_2 rfl (lv_at hl 2 rfl) ?_
  exact kx_V htab hC hz hW (kv_tm ) rfl (x_cc l hST V ad _ x y hx_) km_RX5_112 kn_yX5_checkClassAndSelector ks_yX5_checkClassAndSelector kz_RX5 kd_yX5_checkClassAndSelector dn_X5_checkClassAndSelector rfl hl.1 ⟨by decide, by decide⟩ (Nat.le_of_ble_eq_true rfl) ⟨Nat.le_of_ble_eq_true rfl, Nat.le_of_ble_eq_true rfl⟩ dX5_understands_3 (Nat.le_of_ble_eq_true rfl) (Nat.le_of_ble_eq_true rfl)
set_option maxHeartbeats 4000000 in
set_option maxRecDepth 100000 in
theorem x_sp (l : Launch) (hST : l.stackTraces = false) (V : gV) (ad : gA) (T : rS) (a b c_ : Int32) (hx_ : ¬ s_pok a b c_) : kX l yX5_setPolicy cX5_setPolicy 5 (some .boolean) ({ frames := 6, cells := 1, slots := 6, locals := 90 } : Room) [.ref (ad 0 0 0), .int a, .int b, .int c_] V ad T "java/lang/IllegalArgumentException" := by
  refine kX.of (by decide) (Nat.le_of_ble_eq_true rfl) ?_
  intro p e s m_ below meth c ls E sz htab hC hz hW hl
  have hx := hC.1
  have hb := hC.2.1
  have hl : lv_has ls 5 [(0, .ref (ad 0 0 0)), (1, .int a), (2, .int b), (3, .int c_)] := hl
  refine lv_iload_n hx hb dX5_setPolicy_0 rfl (lv_at hl 1 rfl) ?_
  refine kc_Si hC hW (c5_isThreshold l V ad _ a) km_RX5_138 kst_yX5_isThreshold kz_RX5 kd_yX5_isThreshold dn_X5_isThreshold.2 rfl hl.1 ⟨by decide, by decide⟩ (Nat.le_of_ble_eq_true rfl) ⟨by decide, by decide⟩ dX5_setPolicy_1 (fun r_1 T_1 H locs p_1 hW => ?_)
  obtain ⟨q_1, p_1⟩ := p_1
  rw [p_1] at hW
  refine gq_top (rb (¬ a < 1 ∧ a ≤ 1000)) (q_1) ?_
  refine lv_if_eq (tgt := 23) hx hb dX5_setPolicy_4 (by decide) (fun c_4 => ?_) (fun c_4 => ?_)
  · exact kx_throw_IA (tx := "no such policy") hST htab hC hz hW hl.1 (by decide +kernel) dX5_setPolicy_23 dX5_setPolicy_26 dX5_setPolicy_27 dX5_setPolicy_29 dX5_setPolicy_32 (by decide) (Nat.le_of_ble_eq_true rfl) (Nat.le_of_ble_eq_true rfl) (Nat.le_of_ble_eq_true rfl) (Nat.le_of_ble_eq_true rfl) (Nat.le_of_ble_eq_true rfl)
  · refine lv_iload_n hx hb dX5_setPolicy_7 rfl (lv_at hl 2 rfl) ?_
    refine kc_Si hC hW (c5_isThreshold l V ad _ b) km_RX5_138 kst_yX5_isThreshold kz_RX5 kd_yX5_isThreshold dn_X5_isThreshold.2 rfl hl.1 ⟨by decide, by decide⟩ (Nat.le_of_ble_eq_true rfl) ⟨by decide, by decide⟩ dX5_setPolicy_8 (fun r_8 T_8 H locs p_8 hW => ?_)
    obtain ⟨q_8, p_8⟩ := p_8
    rw [p_8] at hW
    refine gq_top (rb (¬ b < 1 ∧ b ≤ 1000)) (q_8) ?_
    refine lv_if_eq (tgt := 23) hx hb dX5_setPolicy_11 (by decide) (fun c_11 => ?_) (fun c_11 => ?_)
    · exact kx_throw_IA (tx := "no such policy") hST htab hC hz hW hl.1 (by decide +kernel) dX5_setPolicy_23 dX5_setPolicy_26 dX5_setPolicy_27 dX5_setPolicy_29 dX5_setPolicy_32 (by decide) (Nat.le_of_ble_eq_true rfl) (Nat.le_of_ble_eq_true rfl) (Nat.le_of_ble_eq_true rfl) (Nat.le_of_ble_eq_true rfl) (Nat.le_of_ble_eq_true rfl)
    · refine lv_iload_n hx hb dX5_setPolicy_14 rfl (lv_at hl 3 rfl) ?_
      refine lv_if_lt (tgt := 23) hx hb dX5_setPolicy_15 (by decide) (fun c_15 => ?_) (fun c_15 => ?_)
      · exact kx_throw_IA (tx := "no such policy") hST htab hC hz hW hl.1 (by decide +kernel) dX5_setPolicy_23 dX5_setPolicy_26 dX5_setPolicy_27 dX5_setPolicy_29 dX5_setPolicy_32 (by decide) (Nat.le_of_ble_eq_true rfl) (Nat.le_of_ble_eq_true rfl) (Nat.le_of_ble_eq_true rfl) (Nat.le_of_ble_eq_true rfl) (Nat.le_of_ble_eq_true rfl)
      · refine lv_iload_n hx hb dX5_setPolicy_18 rfl (lv_at hl 3 rfl) ?_
        refine lv_iconst (v := 5) hx hb dX5_setPolicy_19 (by decide) ?_
        refine lv_icmp_le (tgt := 33) hx hb dX5_setPolicy_20 (by decide) (fun c_20 => absurd c_20 (fun z => hx_ ⟨(rb_t c_4).1, (rb_t c_4).2, (rb_t c_11).1, (rb_t c_11).2, c_15, z⟩)) (fun c_20 => ?_)
        exact kx_throw_IA (tx := "no such policy") hST htab hC hz hW hl.1 (by decide +kernel) dX5_setPolicy_23 dX5_setPolicy_26 dX5_setPolicy_27 dX5_setPolicy_29 dX5_setPolicy_32 (by decide) (Nat.le_of_ble_eq_true rfl) (Nat.le_of_ble_eq_true rfl) (Nat.le_of_ble_eq_true rfl) (Nat.le_of_ble_eq_true rfl) (Nat.le_of_ble_eq_true rfl)
set_option maxHeartbeats 4000000 in
set_option maxRecDepth 100000 in
theorem x_ru1 (l : Launch) (hST : l.stackTraces = false) (V : gV) (ad : gA) (T : rS) (nc nm : Nat) (hI : rI T nc nm) (x v y : Int32) (hx_ : ¬ s_isM T x) : kX l yX5_run cX5_run 5 (some .int) ({ frames := 7, cells := 1, slots := 6, locals := 111 } : Room) [.ref (ad 0 0 0), .int x, .int v, .int y] V ad T "java/lang/IndexOutOfBoundsException" := by
  refine kX.of (by decide) (Nat.le_of_ble_eq_true rfl) ?_
  intro p e s m_ below meth c ls E sz htab hC hz hW hl
  have hx := hC.1
  have hb := hC.2.1
  have hl : lv_has ls 5 [(0, .ref (ad 0 0 0)), (1, .int x), (2, .int v), (3, .int y)] := hl
  refine lv_aload_n hx hb dX5_run_0 rfl (lv_at hl 0 rfl) ?_
  refine lv_iload_n hx hb dX5_run_1 rfl (lv_at hl 1 rfl) ?_
  exact kx_V htab hC hz hW (kv_tm ) rfl (x_eM l hST V ad _ nc nm hI x hx_) km_RX5_83 kn_yX5_existingMethod ks_yX5_existingMethod kz_RX5 kd_yX5_existingMethod dn_X5_existingMethod rfl hl.1 ⟨by decide, by decide⟩ (Nat.le_of_ble_eq_true rfl) ⟨Nat.le_of_ble_eq_true rfl, Nat.le_of_ble_eq_true rfl⟩ dX5_run_2 (Nat.le_of_ble_eq_true rfl) (Nat.le_of_ble_eq_true rfl)
set_option maxHeartbeats 4000000 in
set_option maxRecDepth 100000 in
theorem x_ru2 (l : Launch) (hST : l.stackTraces = false) (V : gV) (ad : gA) (T : rS) (nc nm : Nat) (hI : rI T nc nm) (m : Nat) (hm : m < nm) (v y : Int32) (hy : y < 0 ∨ 2000 < y) : kX l yX5_run cX5_run 5 (some .int) ({ frames := 6, cells := 1, slots := 6, locals := 90 } : Room) [.ref (ad 0 0 0), .int (nI m), .int v, .int y] V ad T "java/lang/IllegalArgumentException" := by
  refine kX.of (by decide) (Nat.le_of_ble_eq_true rfl) ?_
  intro p e s m_ below meth c ls E sz htab hC hz hW hl
  have hx := hC.1
  have hb := hC.2.1
  have hl : lv_has ls 5 [(0, .ref (ad 0 0 0)), (1, .int (nI m)), (2, .int v), (3, .int y)] := hl
  have hnm := hI.2.2.2.1
  have ecn := rI_cnm hI
  have h4 : T.1 4 0 = nI (cnm T) := by rw [ecn]; exact hI.2.2.1
  refine lv_aload_n hx hb dX5_run_0 rfl (lv_at hl 0 rfl) ?_
  refine lv_iload_n hx hb dX5_run_1 rfl (lv_at hl 1 rfl) ?_
  refine kc_Vr hC hW (kv_tm ) rfl (c5_existingMethod l V ad _ m (by omega) (by omega)) km_RX5_83 kn_yX5_existingMethod ks_yX5_existingMethod kz_RX5 kd_yX5_existingMethod dn_X5_existingMethod rfl hl.1 ⟨by decide, by decide⟩ (Nat.le_of_ble_eq_true rfl) ⟨by decide, by decide⟩ dX5_run_2 (fun r_2 T_2 H locs p_2 hW => ?_)
  obtain ⟨q_2, p_2⟩ := p_2
  rw [p_2] at hW
  rw [q_2]
  refine lv_pop hx hb dX5_run_5 rfl ?_
  refine lv_iload_n hx hb dX5_run_6 rfl (lv_at hl 3 rfl) ?_
  refine lv_if_lt (tgt := 17) hx hb dX5_run_7 (by decide) (fun c_7 => ?_) (fun c_7 => ?_)
  · exact kx_throw_IA (tx := "steps out of range") hST htab hC hz hW hl.1 (by decide +kernel) dX5_run_17 dX5_run_20 dX5_run_21 dX5_run_23 dX5_run_26 (by decide) (Nat.le_of_ble_eq_true rfl) (Nat.le_of_ble_eq_true rfl) (Nat.le_of_ble_eq_true rfl) (Nat.le_of_ble_eq_true rfl) (Nat.le_of_ble_eq_true rfl)
  · refine lv_iload_n hx hb dX5_run_10 rfl (lv_at hl 3 rfl) ?_
    refine lv_sipush (v := 2000) hx hb dX5_run_11 (by decide) ?_
    refine lv_icmp_le (tgt := 27) hx hb dX5_run_14 (by decide) (fun c_14 => absurd c_14 (fun z => hy.elim c_7 (Int32.not_lt.mpr z))) (fun c_14 => ?_)
    exact kx_throw_IA (tx := "steps out of range") hST htab hC hz hW hl.1 (by decide +kernel) dX5_run_17 dX5_run_20 dX5_run_21 dX5_run_23 dX5_run_26 (by decide) (Nat.le_of_ble_eq_true rfl) (Nat.le_of_ble_eq_true rfl) (Nat.le_of_ble_eq_true rfl) (Nat.le_of_ble_eq_true rfl) (Nat.le_of_ble_eq_true rfl)
theorem i_lt4 {x : Int32} (h : x < 4) : x ≤ 3 := by
  rw [Int32.lt_iff_toInt_lt] at h
  rw [Int32.le_iff_toInt_le]
  have e4 : (4 : Int32).toInt = 4 := rfl
  have e3 : (3 : Int32).toInt = 3 := rfl
  omega
set_option maxHeartbeats 4000000 in
set_option maxRecDepth 100000 in
theorem x_to (l : Launch) (hST : l.stackTraces = false) (V : gV) (ad : gA) (T : rS) (x : Int32) (hx_ : ¬ (¬ x < 0 ∧ x ≤ 3)) : kX l yX5_total cX5_total 2 (some .long) ({ frames := 6, cells := 1, slots := 6, locals := 90 } : Room) [.ref (ad 0 0 0), .int x] V ad T "java/lang/IndexOutOfBoundsException" := by
  refine kX.of (by decide) (Nat.le_of_ble_eq_true rfl) ?_
  intro p e s m_ below meth c ls E sz htab hC hz hW hl
  have hx := hC.1
  have hb := hC.2.1
  have hl : lv_has ls 2 [(0, .ref (ad 0 0 0)), (1, .int x)] := hl
  refine lv_iload_n hx hb dX5_total_0 rfl (lv_at hl 1 rfl) ?_
  refine lv_if_lt (tgt := 9) hx hb dX5_total_1 (by decide) (fun c_1 => ?_) (fun c_1 => ?_)
  · exact kx_throw_IO (tx := "no such total") hST htab hC hz hW hl.1 (by decide +kernel) dX5_total_9 dX5_total_12 dX5_total_13 dX5_total_15 dX5_total_18 (by decide) (Nat.le_of_ble_eq_true rfl) (Nat.le_of_ble_eq_true rfl) (Nat.le_of_ble_eq_true rfl) (Nat.le_of_ble_eq_true rfl) (Nat.le_of_ble_eq_true rfl)
  · refine lv_iload_n hx hb dX5_total_4 rfl (lv_at hl 1 rfl) ?_
    refine lv_iconst (v := 4) hx hb dX5_total_5 (by decide) ?_
    refine lv_icmp_lt (tgt := 19) hx hb dX5_total_6 (by decide) (fun c_6 => absurd c_6 (fun z => hx_ ⟨c_1, i_lt4 z⟩)) (fun c_6 => ?_)
    exact kx_throw_IO (tx := "no such total") hST htab hC hz hW hl.1 (by decide +kernel) dX5_total_9 dX5_total_12 dX5_total_13 dX5_total_15 dX5_total_18 (by decide) (Nat.le_of_ble_eq_true rfl) (Nat.le_of_ble_eq_true rfl) (Nat.le_of_ble_eq_true rfl) (Nat.le_of_ble_eq_true rfl) (Nat.le_of_ble_eq_true rfl)
set_option maxHeartbeats 4000000 in
set_option maxRecDepth 100000 in
theorem x_ti (l : Launch) (hST : l.stackTraces = false) (V : gV) (ad : gA) (T : rS) (nc nm : Nat) (hI : rI T nc nm) (x : Int32) (hx_ : ¬ s_isM T x) : kX l yX5_tier cX5_tier 2 (some .int) ({ frames := 7, cells := 1, slots := 6, locals := 111 } : Room) [.ref (ad 0 0 0), .int x] V ad T "java/lang/IndexOutOfBoundsException" := by
  refine kX.of (by decide) (Nat.le_of_ble_eq_true rfl) ?_
  intro p e s m_ below meth c ls E sz htab hC hz hW hl
  have hx := hC.1
  have hb := hC.2.1
  have hl : lv_has ls 2 [(0, .ref (ad 0 0 0)), (1, .int x)] := hl
  refine lv_aload_n hx hb dX5_tier_0 rfl (lv_at hl 0 rfl) ?_
  refine lv_iload_n hx hb dX5_tier_1 rfl (lv_at hl 1 rfl) ?_
  exact kx_V htab hC hz hW (kv_tm ) rfl (x_eM l hST V ad _ nc nm hI x hx_) km_RX5_83 kn_yX5_existingMethod ks_yX5_existingMethod kz_RX5 kd_yX5_existingMethod dn_X5_existingMethod rfl hl.1 ⟨by decide, by decide⟩ (Nat.le_of_ble_eq_true rfl) ⟨Nat.le_of_ble_eq_true rfl, Nat.le_of_ble_eq_true rfl⟩ dX5_tier_2 (Nat.le_of_ble_eq_true rfl) (Nat.le_of_ble_eq_true rfl)
set_option maxHeartbeats 4000000 in
set_option maxRecDepth 100000 in
theorem x_he (l : Launch) (hST : l.stackTraces = false) (V : gV) (ad : gA) (T : rS) (nc nm : Nat) (hI : rI T nc nm) (x : Int32) (hx_ : ¬ s_isM T x) : kX l yX5_heat cX5_heat 2 (some .int) ({ frames := 7, cells := 1, slots := 6, locals := 111 } : Room) [.ref (ad 0 0 0), .int x] V ad T "java/lang/IndexOutOfBoundsException" := by
  refine kX.of (by decide) (Nat.le_of_ble_eq_true rfl) ?_
  intro p e s m_ below meth c ls E sz htab hC hz hW hl
  have hx := hC.1
  have hb := hC.2.1
  have hl : lv_has ls 2 [(0, .ref (ad 0 0 0)), (1, .int x)] := hl
  refine lv_aload_n hx hb dX5_heat_0 rfl (lv_at hl 0 rfl) ?_
  refine lv_iload_n hx hb dX5_heat_1 rfl (lv_at hl 1 rfl) ?_
  exact kx_V htab hC hz hW (kv_tm ) rfl (x_eM l hST V ad _ nc nm hI x hx_) km_RX5_83 kn_yX5_existingMethod ks_yX5_existingMethod kz_RX5 kd_yX5_existingMethod dn_X5_existingMethod rfl hl.1 ⟨by decide, by decide⟩ (Nat.le_of_ble_eq_true rfl) ⟨Nat.le_of_ble_eq_true rfl, Nat.le_of_ble_eq_true rfl⟩ dX5_heat_2 (Nat.le_of_ble_eq_true rfl) (Nat.le_of_ble_eq_true rfl)
set_option maxHeartbeats 4000000 in
set_option maxRecDepth 100000 in
theorem x_di (l : Launch) (hST : l.stackTraces = false) (V : gV) (ad : gA) (T : rS) (nc nm : Nat) (hI : rI T nc nm) (x : Int32) (hx_ : ¬ s_isM T x) : kX l yX5_disappointments cX5_disappointments 2 (some .int) ({ frames := 7, cells := 1, slots := 6, locals := 111 } : Room) [.ref (ad 0 0 0), .int x] V ad T "java/lang/IndexOutOfBoundsException" := by
  refine kX.of (by decide) (Nat.le_of_ble_eq_true rfl) ?_
  intro p e s m_ below meth c ls E sz htab hC hz hW hl
  have hx := hC.1
  have hb := hC.2.1
  have hl : lv_has ls 2 [(0, .ref (ad 0 0 0)), (1, .int x)] := hl
  refine lv_aload_n hx hb dX5_disappointments_0 rfl (lv_at hl 0 rfl) ?_
  refine lv_iload_n hx hb dX5_disappointments_1 rfl (lv_at hl 1 rfl) ?_
  exact kx_V htab hC hz hW (kv_tm ) rfl (x_eM l hST V ad _ nc nm hI x hx_) km_RX5_83 kn_yX5_existingMethod ks_yX5_existingMethod kz_RX5 kd_yX5_existingMethod dn_X5_existingMethod rfl hl.1 ⟨by decide, by decide⟩ (Nat.le_of_ble_eq_true rfl) ⟨Nat.le_of_ble_eq_true rfl, Nat.le_of_ble_eq_true rfl⟩ dX5_disappointments_2 (Nat.le_of_ble_eq_true rfl) (Nat.le_of_ble_eq_true rfl)
set_option maxHeartbeats 4000000 in
set_option maxRecDepth 100000 in
theorem x_me1 (l : Launch) (hST : l.stackTraces = false) (V : gV) (ad : gA) (T : rS) (nc nm : Nat) (hI : rI T nc nm) (x y : Int32) (hx_ : ¬ s_isM T x) : kX l yX5_met cX5_met 3 (some .int) ({ frames := 8, cells := 1, slots := 6, locals := 134 } : Room) [.ref (ad 0 0 0), .int x, .int y] V ad T "java/lang/IndexOutOfBoundsException" := by
  refine kX.of (by decide) (Nat.le_of_ble_eq_true rfl) ?_
  intro p e s m_ below meth c ls E sz htab hC hz hW hl
  have hx := hC.1
  have hb := hC.2.1
  have hl : lv_has ls 3 [(0, .ref (ad 0 0 0)), (1, .int x), (2, .int y)] := hl
  refine lv_aload_n hx hb dX5_met_0 rfl (lv_at hl 0 rfl) ?_
  refine lv_iload_n hx hb dX5_met_1 rfl (lv_at hl 1 rfl) ?_
  refine lv_iload_n hx hb dX5_met_2 rfl (lv_at hl 2 rfl) ?_
  exact kx_V htab hC hz hW (kv_tm ) rfl (x_eR1 l hST V ad _ nc nm hI x y hx_) km_RX5_189 kn_yX5_existingRecord ks_yX5_existingRecord kz_RX5 kd_yX5_existingRecord dn_X5_existingRecord rfl hl.1 ⟨by decide, by decide⟩ (Nat.le_of_ble_eq_true rfl) ⟨Nat.le_of_ble_eq_true rfl, Nat.le_of_ble_eq_true rfl⟩ dX5_met_3 (Nat.le_of_ble_eq_true rfl) (Nat.le_of_ble_eq_true rfl)
set_option maxHeartbeats 4000000 in
set_option maxRecDepth 100000 in
theorem x_me2 (l : Launch) (hST : l.stackTraces = false) (V : gV) (ad : gA) (T : rS) (nc nm : Nat) (hI : rI T nc nm) (m : Nat) (hm : m < nm) (y : Int32) (hx_ : ¬ (¬ y < 0 ∧ y < T.1 5 m ∧ T.1 6 (5 * (20 * m + tn y)) = 5)) : kX l yX5_met cX5_met 3 (some .int) ({ frames := 7, cells := 1, slots := 6, locals := 113 } : Room) [.ref (ad 0 0 0), .int (nI m), .int y] V ad T "java/lang/IndexOutOfBoundsException" := by
  refine kX.of (by decide) (Nat.le_of_ble_eq_true rfl) ?_
  intro p e s m_ below meth c ls E sz htab hC hz hW hl
  have hx := hC.1
  have hb := hC.2.1
  have hl : lv_has ls 3 [(0, .ref (ad 0 0 0)), (1, .int (nI m)), (2, .int y)] := hl
  refine lv_aload_n hx hb dX5_met_0 rfl (lv_at hl 0 rfl) ?_
  refine lv_iload_n hx hb dX5_met_1 rfl (lv_at hl 1 rfl) ?_
  refine lv_iload_n hx hb dX5_met_2 rfl (lv_at hl 2 rfl) ?_
  exact kx_V htab hC hz hW (kv_tm ) rfl (x_eR2 l hST V ad _ nc nm hI m hm y hx_) km_RX5_189 kn_yX5_existingRecord ks_yX5_existingRecord kz_RX5 kd_yX5_existingRecord dn_X5_existingRecord rfl hl.1 ⟨by decide, by decide⟩ (Nat.le_of_ble_eq_true rfl) ⟨Nat.le_of_ble_eq_true rfl, Nat.le_of_ble_eq_true rfl⟩ dX5_met_3 (Nat.le_of_ble_eq_true rfl) (Nat.le_of_ble_eq_true rfl)
set_option maxHeartbeats 4000000 in
set_option maxRecDepth 100000 in
theorem x_mc1 (l : Launch) (hST : l.stackTraces = false) (V : gV) (ad : gA) (T : rS) (nc nm : Nat) (hI : rI T nc nm) (x y : Int32) (z_ : Int32) (hx_ : ¬ s_isM T x) : kX l yX5_metClass cX5_metClass 5 (some .int) ({ frames := 8, cells := 1, slots := 6, locals := 134 } : Room) [.ref (ad 0 0 0), .int x, .int y, .int z_] V ad T "java/lang/IndexOutOfBoundsException" := by
  refine kX.of (by decide) (Nat.le_of_ble_eq_true rfl) ?_
  intro p e s m_ below meth c ls E sz htab hC hz hW hl
  have hx := hC.1
  have hb := hC.2.1
  have hl : lv_has ls 5 [(0, .ref (ad 0 0 0)), (1, .int x), (2, .int y), (3, .int z_)] := hl
  refine lv_aload_n hx hb dX5_metClass_0 rfl (lv_at hl 0 rfl) ?_
  refine lv_iload_n hx hb dX5_metClass_1 rfl (lv_at hl 1 rfl) ?_
  refine lv_iload_n hx hb dX5_metClass_2 rfl (lv_at hl 2 rfl) ?_
  exact kx_V htab hC hz hW (kv_tm ) rfl (x_eR1 l hST V ad _ nc nm hI x y hx_) km_RX5_189 kn_yX5_existingRecord ks_yX5_existingRecord kz_RX5 kd_yX5_existingRecord dn_X5_existingRecord rfl hl.1 ⟨by decide, by decide⟩ (Nat.le_of_ble_eq_true rfl) ⟨Nat.le_of_ble_eq_true rfl, Nat.le_of_ble_eq_true rfl⟩ dX5_metClass_3 (Nat.le_of_ble_eq_true rfl) (Nat.le_of_ble_eq_true rfl)
set_option maxHeartbeats 4000000 in
set_option maxRecDepth 100000 in
theorem x_mc2 (l : Launch) (hST : l.stackTraces = false) (V : gV) (ad : gA) (T : rS) (nc nm : Nat) (hI : rI T nc nm) (m : Nat) (hm : m < nm) (y : Int32) (z_ : Int32) (hx_ : ¬ (¬ y < 0 ∧ y < T.1 5 m ∧ T.1 6 (5 * (20 * m + tn y)) = 5)) : kX l yX5_metClass cX5_metClass 5 (some .int) ({ frames := 7, cells := 1, slots := 6, locals := 113 } : Room) [.ref (ad 0 0 0), .int (nI m), .int y, .int z_] V ad T "java/lang/IndexOutOfBoundsException" := by
  refine kX.of (by decide) (Nat.le_of_ble_eq_true rfl) ?_
  intro p e s m_ below meth c ls E sz htab hC hz hW hl
  have hx := hC.1
  have hb := hC.2.1
  have hl : lv_has ls 5 [(0, .ref (ad 0 0 0)), (1, .int (nI m)), (2, .int y), (3, .int z_)] := hl
  refine lv_aload_n hx hb dX5_metClass_0 rfl (lv_at hl 0 rfl) ?_
  refine lv_iload_n hx hb dX5_metClass_1 rfl (lv_at hl 1 rfl) ?_
  refine lv_iload_n hx hb dX5_metClass_2 rfl (lv_at hl 2 rfl) ?_
  exact kx_V htab hC hz hW (kv_tm ) rfl (x_eR2 l hST V ad _ nc nm hI m hm y hx_) km_RX5_189 kn_yX5_existingRecord ks_yX5_existingRecord kz_RX5 kd_yX5_existingRecord dn_X5_existingRecord rfl hl.1 ⟨by decide, by decide⟩ (Nat.le_of_ble_eq_true rfl) ⟨Nat.le_of_ble_eq_true rfl, Nat.le_of_ble_eq_true rfl⟩ dX5_metClass_3 (Nat.le_of_ble_eq_true rfl) (Nat.le_of_ble_eq_true rfl)
set_option maxHeartbeats 4000000 in
set_option maxRecDepth 100000 in
theorem x_mc3 (l : Launch) (hST : l.stackTraces = false) (V : gV) (ad : gA) (T : rS) (m q : Nat) (hm : m < cnm T) (hm12 : cnm T ≤ 12) (hq : q < csz T m) (hz20 : csz T m ≤ 20) (hk : T.1 6 (5 * (20 * m + q)) = 5) (z_ : Int32) (hz_ : ¬ (¬ z_ < 0 ∧ z_ < T.1 13 (20 * m + q))) : kX l yX5_metClass cX5_metClass 5 (some .int) ({ frames := 6, cells := 1, slots := 6, locals := 108 } : Room) [.ref (ad 0 0 0), .int (nI m), .int (nI q), .int z_] V ad T "java/lang/IndexOutOfBoundsException" := by
  refine kX.of (by decide) (Nat.le_of_ble_eq_true rfl) ?_
  intro p e s m_ below meth c ls E sz htab hC hz hW hl
  have hx := hC.1
  have hb := hC.2.1
  have hl : lv_has ls 5 [(0, .ref (ad 0 0 0)), (1, .int (nI m)), (2, .int (nI q)), (3, .int z_)] := hl
  refine lv_aload_n hx hb dX5_metClass_0 rfl (lv_at hl 0 rfl) ?_
  refine lv_iload_n hx hb dX5_metClass_1 rfl (lv_at hl 1 rfl) ?_
  refine lv_iload_n hx hb dX5_metClass_2 rfl (lv_at hl 2 rfl) ?_
  refine kc_Vr hC hW (kv_tm ) rfl (c5_existingRecord l V ad _ m q hm hm12 hq hz20 hk) km_RX5_189 kn_yX5_existingRecord ks_yX5_existingRecord kz_RX5 kd_yX5_existingRecord dn_X5_existingRecord rfl hl.1 ⟨by decide, by decide⟩ (Nat.le_of_ble_eq_true rfl) ⟨by decide, by decide⟩ dX5_metClass_3 (fun r_3 T_3 H locs p_3 hW => ?_)
  obtain ⟨q_3, p_3⟩ := p_3
  rw [p_3] at hW
  rw [q_3]
  refine lv_astore (lv' := [(4, .ref (ad 17 m q)), (0, .ref (ad 0 0 0)), (1, .int (nI m)), (2, .int (nI q)), (3, .int z_)]) hx hb dX5_metClass_6 hl (by decide) rfl (fun ls hl => ?_)
  refine lv_iload_n hx hb dX5_metClass_8 rfl (lv_at hl 4 rfl) ?_
  refine lv_if_lt (tgt := 21) hx hb dX5_metClass_9 (by decide) (fun c_9 => ?_) (fun c_9 => ?_)
  · exact kx_throw_IO (tx := "no such index") hST htab hC hz hW hl.1 (by decide +kernel) dX5_metClass_21 dX5_metClass_24 dX5_metClass_25 dX5_metClass_27 dX5_metClass_30 (by decide) (Nat.le_of_ble_eq_true rfl) (Nat.le_of_ble_eq_true rfl) (Nat.le_of_ble_eq_true rfl) (Nat.le_of_ble_eq_true rfl) (Nat.le_of_ble_eq_true rfl)
  · refine lv_iload_n hx hb dX5_metClass_12 rfl (lv_at hl 4 rfl) ?_
    refine lv_aload hx hb dX5_metClass_13 (lv_at hl 0 rfl) ?_
    refine kg_rm_1 hC hW hm hq kf_RX5_198 dX5_metClass_15 ?_
    refine lv_icmp_lt (tgt := 31) hx hb dX5_metClass_18 (by decide) (fun c_18 => absurd c_18 (fun z => hz_ ⟨c_9, z⟩)) (fun c_18 => ?_)
    exact kx_throw_IO (tx := "no such index") hST htab hC hz hW hl.1 (by decide +kernel) dX5_metClass_21 dX5_metClass_24 dX5_metClass_25 dX5_metClass_27 dX5_metClass_30 (by decide) (Nat.le_of_ble_eq_true rfl) (Nat.le_of_ble_eq_true rfl) (Nat.le_of_ble_eq_true rfl) (Nat.le_of_ble_eq_true rfl) (Nat.le_of_ble_eq_true rfl)
