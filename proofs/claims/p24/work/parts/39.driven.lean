/-! the lorry is driven, whole: by program (wip/p24/mi.py) -/
theorem LB_new {cy : Nat → ClassId} {b : Nat} {S1 S2 : cS} {d1 d2 : Int32} {ad a1 : Nat → Nat} {c : rC} {x : Option va_E} (h : LB cy b (fun _ => none) S1 S2 d1 d2 ad c) (w1 : sNr S1 ≤ 8 ∧ sNl S1 ≤ 3) (w2 : sNr S2 ≤ 8 ∧ sNl S2 ≤ 3) (ha : ∀ j, j ≠ 5 → a1 j = ad j) : LB cy b (va_up (fun _ => none) 5 x) S1 S2 d1 d2 a1 (va_up c 5 x) :=
  ⟨TB_congr w1.1 w1.2 h.1 (fun k k1 k2 => ⟨ha k (by omega), va_up_ne _ _ (by omega)⟩), TB_congr w2.1 w2.2 h.2.1 (fun k k1 k2 => ⟨ha k (by omega), va_up_ne _ _ (by omega)⟩), fun k hk => if h5 : k = 5 then (by subst h5; rw [va_up_self, va_up_self]) else (by rw [va_up_ne _ _ h5, va_up_ne _ _ h5]; exact h.2.2 k hk)⟩
theorem LB_drop {cy : Nat → ClassId} {b : Nat} {S1 S2 : cS} {d1 d2 : Int32} {ad : Nat → Nat} {c : rC} {x : Option va_E} (h : LB cy b (va_up (fun _ => none) 5 x) S1 S2 d1 d2 ad c) (w1 : sNr S1 ≤ 8 ∧ sNl S1 ≤ 3) (w2 : sNr S2 ≤ 8 ∧ sNl S2 ≤ 3) : LB cy b (fun _ => none) S1 S2 d1 d2 ad (va_up c 5 none) :=
  ⟨TB_congr w1.1 w1.2 h.1 (fun k k1 k2 => ⟨rfl, va_up_ne _ _ (by omega)⟩), TB_congr w2.1 w2.2 h.2.1 (fun k k1 k2 => ⟨rfl, va_up_ne _ _ (by omega)⟩), fun k hk => if h5 : k = 5 then (by subst h5; rw [va_up_self]) else (by rw [va_up_ne _ _ h5, h.2.2 k hk, va_up_ne _ _ h5])⟩
set_option maxRecDepth 100000 in
set_option maxHeartbeats 4000000 in
theorem c_Law_isDriven (l : Launch) (D : va_G) (cy : Nat → ClassId) (b9 : Nat) (ad : Nat → Nat) (c : rC) (S : cS) (t v h : Nat) (hG : GS S t v h) (ht : t + 24 < 200) (d1 d2 : Int32) (hL : LB cy b9 (fun _ => none) S S d1 d2 ad c) : rMi l D cls (TY cy) NW y_Law_isDriven (Cond.code y_Law_isDriven b_Law_isDriven 12 rt_Law_isDriven :: W0) { frames := 7, cells := 1, slots := 6, locals := 166 } [.ref (ad 128), .ref (ad 256)] ad c (fun r ad' c' => 1 = r ∧ (∀ k, 128 ≤ k → ad' k = ad k) ∧ ∃ S' t' v' h', GS S' t' v' h' ∧ t' ≤ t + 24 ∧ LB cy b9 (fun _ => none) S' S' d1 d2 ad' c') := by
  intro sz
  refine r_of (own := R_Law) rfl (by decide +kernel) (Nat.le_of_ble_eq_true rfl) ?_
  intro p e s m below meth cd hsz X hr hlk hN hin
  have hw := hG.wf (by omega)
  have hnl := hG.nl
  have hG1 := rest_GS hG
  refine r_lv [0, 1] [(0, .ref (ad 128)), (1, .ref (ad 256))] rfl ?_
  obtain ⟨⟨w4_t0, w5_t0, w7_t0, hb_t0⟩, -⟩ := id hL.1
  have hb_t0 : c 128 = some (.inr (6, [.ref (ad 192), .ref b9, .int d1, .ref (ad 129), w4_t0, w5_t0, .ref (ad 130), w7_t0, .int (nI (sNr S)), .int (nI (sNl S)), .int 0, .int ((sWe S).1), .int ((sWe S).2.1), .int ((sWe S).2.2.1), .int ((sWe S).2.2.2.1), .int ((sWe S).2.2.2.2), .int 100, .int 0, .int 0, .int 0, .int 0])) := hb_t0
  obtain ⟨⟨w4_o0, w5_o0, w7_o0, hb_o0⟩, -⟩ := id hL.2.1
  have hb_o0 : c 256 = some (.inr (6, [.ref (ad 320), .ref b9, .int d2, .ref (ad 257), w4_o0, w5_o0, .ref (ad 258), w7_o0, .int (nI (sNr S)), .int (nI (sNl S)), .int 0, .int ((sWe S).1), .int ((sWe S).2.1), .int ((sWe S).2.2.1), .int ((sWe S).2.2.2.1), .int ((sWe S).2.2.2.2), .int 100, .int 0, .int 0, .int 0, .int 0])) := hb_o0
  refine r_aload_n X 0 d_Law_isDriven_0 rfl rfl ?_
  refine r_get X k_Told 0 (by decide) f_Law_14 rfl hb_t0 rfl d_Law_isDriven_1 ?_
  refine r_astore_n X [(2, .ref (ad 192)), (0, .ref (ad 128)), (1, .ref (ad 256))] d_Law_isDriven_4 rfl (by decide) rfl ?_
  refine r_aload_n X 0 d_Law_isDriven_5 rfl rfl ?_
  refine r_iconst X 0 d_Law_isDriven_6 (by decide) ?_
  obtain ⟨J_1, hC_1⟩ := TB_ct hL.1
  have hC_1 : shC 192 c = cont cy (shA 192 ad) S J_1 := hC_1
  refine r_Vi X W0_good hN (As := [.int 0]) (ct_i 192 (S' := restS S 0) (v := (sLo S 0).2.2.2.2.2.2.2.1) hC_1 (c_G_rest l D cy (shA 192 ad) S J_1 hw 0 (by rw [hnl]; decide) hG.nn) (fun r a c' h => ⟨h.1, h.2.1, _, h.2.2⟩)) yv_G_rest m_Law_59 (ct_obj hC_1) k_G.2.1 rfl rfl rfl ⟨by decide, by decide⟩ (Nat.le_of_ble_eq_true rfl) ⟨by decide, by decide⟩ d_Law_isDriven_7 (fun r9_1 ad9_1 c_1 hp9 => ?_)
  obtain ⟨hr_1, rfl, hf_1, Jn_1, hD_1⟩ := hp9
  subst hr_1
  have hL_1 := LB_t hL (wf_2 hw) (S' := restS S 0) rfl hf_1 hD_1
  obtain ⟨⟨w4_t2, w5_t2, w7_t2, hb_t2⟩, -⟩ := id hL_1.1
  have hb_t2 : c_1 128 = some (.inr (6, [.ref (ad 192), .ref b9, .int d1, .ref (ad 129), w4_t2, w5_t2, .ref (ad 130), w7_t2, .int (nI (sNr (restS S 0))), .int (nI (sNl (restS S 0))), .int 0, .int ((sWe (restS S 0)).1), .int ((sWe (restS S 0)).2.1), .int ((sWe (restS S 0)).2.2.1), .int ((sWe (restS S 0)).2.2.2.1), .int ((sWe (restS S 0)).2.2.2.2), .int 100, .int 0, .int 0, .int 0, .int 0])) := hb_t2
  obtain ⟨⟨w4_o2, w5_o2, w7_o2, hb_o2⟩, -⟩ := id hL_1.2.1
  have hb_o2 : c_1 256 = some (.inr (6, [.ref (ad 320), .ref b9, .int d2, .ref (ad 257), w4_o2, w5_o2, .ref (ad 258), w7_o2, .int (nI (sNr S)), .int (nI (sNl S)), .int 0, .int ((sWe S).1), .int ((sWe S).2.1), .int ((sWe S).2.2.1), .int ((sWe S).2.2.2.1), .int ((sWe S).2.2.2.2), .int 100, .int 0, .int 0, .int 0, .int 0])) := hb_o2
  refine r_aload_n X 2 d_Law_isDriven_10 rfl rfl ?_
  refine r_get X k_Told 0 (by decide) f_Law_14 rfl hb_o2 rfl d_Law_isDriven_11 ?_
  refine r_iconst X 0 d_Law_isDriven_14 (by decide) ?_
  obtain ⟨J_3, hC_3⟩ := TB_ct hL_1.2.1
  have hC_3 : shC 320 c_1 = cont cy (shA 320 ad) S J_3 := hC_3
  refine r_Vi X W0_good hN (As := [.int 0]) (ct_i 320 (S' := restS S 0) (v := (sLo S 0).2.2.2.2.2.2.2.1) hC_3 (c_G_rest l D cy (shA 320 ad) S J_3 hw 0 (by rw [hnl]; decide) hG.nn) (fun r a c' h => ⟨h.1, h.2.1, _, h.2.2⟩)) yv_G_rest m_Law_59 (ct_obj hC_3) k_G.2.1 rfl rfl rfl ⟨by decide, by decide⟩ (Nat.le_of_ble_eq_true rfl) ⟨by decide, by decide⟩ d_Law_isDriven_15 (fun r9_3 ad9_3 c_3 hp9 => ?_)
  obtain ⟨hr_3, rfl, hf_3, Jn_3, hD_3⟩ := hp9
  subst hr_3
  have hL_3 := LB_o hL_1 (wf_2 (hG1.wf (by omega))) (S' := restS S 0) rfl hf_3 hD_3
  obtain ⟨⟨w4_t4, w5_t4, w7_t4, hb_t4⟩, -⟩ := id hL_3.1
  have hb_t4 : c_3 128 = some (.inr (6, [.ref (ad 192), .ref b9, .int d1, .ref (ad 129), w4_t4, w5_t4, .ref (ad 130), w7_t4, .int (nI (sNr (restS S 0))), .int (nI (sNl (restS S 0))), .int 0, .int ((sWe (restS S 0)).1), .int ((sWe (restS S 0)).2.1), .int ((sWe (restS S 0)).2.2.1), .int ((sWe (restS S 0)).2.2.2.1), .int ((sWe (restS S 0)).2.2.2.2), .int 100, .int 0, .int 0, .int 0, .int 0])) := hb_t4
  obtain ⟨⟨w4_o4, w5_o4, w7_o4, hb_o4⟩, -⟩ := id hL_3.2.1
  have hb_o4 : c_3 256 = some (.inr (6, [.ref (ad 320), .ref b9, .int d2, .ref (ad 257), w4_o4, w5_o4, .ref (ad 258), w7_o4, .int (nI (sNr (restS S 0))), .int (nI (sNl (restS S 0))), .int 0, .int ((sWe (restS S 0)).1), .int ((sWe (restS S 0)).2.1), .int ((sWe (restS S 0)).2.2.1), .int ((sWe (restS S 0)).2.2.2.1), .int ((sWe (restS S 0)).2.2.2.2), .int 100, .int 0, .int 0, .int 0, .int 0])) := hb_o4
  refine r_icmp_eq X 23 d_Law_isDriven_18 (by decide) (fun _ => ?_) (fun h9 => absurd rfl h9)
  obtain ⟨S1, hS1⟩ : ∃ x, x = restS S 0 := ⟨_, rfl⟩
  have hL1 := hL_3
  rw [← hS1] at hG1 hL1
  have hw1 := hG1.wf (by omega)
  have hnl1 := hG1.nl
  obtain ⟨o9, z9, g, e0, ds, n9, len, b01, b0, b6, bm, bv, bl, be, bg, bF, bn, b24, bls, bc⟩ := best_is hG1
  obtain ⟨ah, hLa⟩ := hG1.2.2.2.2
  have hv7 := hG1.2.2.2.1
  obtain ⟨⟨w4_t5, w5_t5, w7_t5, hb_t5⟩, -⟩ := id hL1.1
  have hb_t5 : c_3 128 = some (.inr (6, [.ref (ad 192), .ref b9, .int d1, .ref (ad 129), w4_t5, w5_t5, .ref (ad 130), w7_t5, .int (nI (sNr S1)), .int (nI (sNl S1)), .int 0, .int ((sWe S1).1), .int ((sWe S1).2.1), .int ((sWe S1).2.2.1), .int ((sWe S1).2.2.2.1), .int ((sWe S1).2.2.2.2), .int 100, .int 0, .int 0, .int 0, .int 0])) := hb_t5
  obtain ⟨⟨w4_o5, w5_o5, w7_o5, hb_o5⟩, -⟩ := id hL1.2.1
  have hb_o5 : c_3 256 = some (.inr (6, [.ref (ad 320), .ref b9, .int d2, .ref (ad 257), w4_o5, w5_o5, .ref (ad 258), w7_o5, .int (nI (sNr S1)), .int (nI (sNl S1)), .int 0, .int ((sWe S1).1), .int ((sWe S1).2.1), .int ((sWe S1).2.2.1), .int ((sWe S1).2.2.2.1), .int ((sWe S1).2.2.2.2), .int 100, .int 0, .int 0, .int 0, .int 0])) := hb_o5
  refine r_aload_n X 0 d_Law_isDriven_23 rfl rfl ?_
  refine r_iconst X 0 d_Law_isDriven_24 (by decide) ?_
  refine r_iconst X 0 d_Law_isDriven_25 (by decide) ?_
  obtain ⟨J_6, hC_6⟩ := TB_ct hL1.1
  have hC_6 : shC 192 c_3 = cont cy (shA 192 ad) S1 J_6 := hC_6
  refine r_Vi X W0_good hN (As := [.int 0, .int 0]) (ct_i 192 (S' := S1) (v := (sLo S1 0).2.2.1) hC_6 (c_G_ofLorry l D cy (shA 192 ad) S1 J_6 hw1 0 0 (by rw [hnl1]; decide) (by decide)) (fun r a c' h => ⟨h.1, h.2.1, _, h.2.2⟩)) yv_G_ofLorry m_Law_62 (ct_obj hC_6) k_G.2.1 rfl rfl rfl ⟨by decide, by decide⟩ (Nat.le_of_ble_eq_true rfl) ⟨by decide, by decide⟩ d_Law_isDriven_26 (fun r9_6 ad9_6 c_6 hp9 => ?_)
  obtain ⟨hr_6, rfl, hf_6, Jn_6, hD_6⟩ := hp9
  subst hr_6
  have hL_6 := LB_t hL1 (wf_2 hw1) (S' := S1) rfl hf_6 hD_6
  obtain ⟨⟨w4_t7, w5_t7, w7_t7, hb_t7⟩, -⟩ := id hL_6.1
  have hb_t7 : c_6 128 = some (.inr (6, [.ref (ad 192), .ref b9, .int d1, .ref (ad 129), w4_t7, w5_t7, .ref (ad 130), w7_t7, .int (nI (sNr S1)), .int (nI (sNl S1)), .int 0, .int ((sWe S1).1), .int ((sWe S1).2.1), .int ((sWe S1).2.2.1), .int ((sWe S1).2.2.2.1), .int ((sWe S1).2.2.2.2), .int 100, .int 0, .int 0, .int 0, .int 0])) := hb_t7
  obtain ⟨⟨w4_o7, w5_o7, w7_o7, hb_o7⟩, -⟩ := id hL_6.2.1
  have hb_o7 : c_6 256 = some (.inr (6, [.ref (ad 320), .ref b9, .int d2, .ref (ad 257), w4_o7, w5_o7, .ref (ad 258), w7_o7, .int (nI (sNr S1)), .int (nI (sNl S1)), .int 0, .int ((sWe S1).1), .int ((sWe S1).2.1), .int ((sWe S1).2.2.1), .int ((sWe S1).2.2.2.1), .int ((sWe S1).2.2.2.2), .int 100, .int 0, .int 0, .int 0, .int 0])) := hb_o7
  refine r_top (y := nI v) hG1.nd ?_
  refine r_istore_n X [(3, .int (nI v)), (2, .ref (ad 192)), (0, .ref (ad 128)), (1, .ref (ad 256))] d_Law_isDriven_29 rfl (by decide) rfl ?_
  refine r_aload_n X 1 d_Law_isDriven_30 rfl rfl ?_
  refine r_iconst X 0 d_Law_isDriven_31 (by decide) ?_
  refine r_iload_n X 0 d_Law_isDriven_32 rfl rfl ?_
  obtain ⟨J_8, hC_8⟩ := TB_ct hL_6.1
  have hC_8 : shC 192 c_6 = cont cy (shA 192 ad) S1 J_8 := hC_8
  refine r_Vi X W0_good hN (As := [.int 0, .int (nI v)]) (ct_i 192 (S' := S1) (v := rbF S1 (nI v)) hC_8 (c_G_bestOrders l D cy (shA 192 ad) S1 J_8 hw1 0 (nI v) (by rw [hnl1]; decide) (inF_in (a := 0) (b := 6) (by omega) (by omega) (by decide))) (fun r a c' h => ⟨h.1, h.2.1, (let ⟨_, _, q⟩ := h.2.2; ⟨_, q⟩)⟩)) yv_G_bestOrders m_Law_65 (ct_obj hC_8) k_G.2.1 rfl rfl rfl ⟨by decide, by decide⟩ (Nat.le_of_ble_eq_true rfl) ⟨by decide, by decide⟩ d_Law_isDriven_33 (fun r9_8 ad9_8 c_8 hp9 => ?_)
  obtain ⟨hr_8, rfl, hf_8, Jn_8, hD_8⟩ := hp9
  subst hr_8
  have hL_8 := LB_t hL_6 (wf_2 hw1) (S' := S1) rfl hf_8 hD_8
  obtain ⟨⟨w4_t9, w5_t9, w7_t9, hb_t9⟩, -⟩ := id hL_8.1
  have hb_t9 : c_8 128 = some (.inr (6, [.ref (ad 192), .ref b9, .int d1, .ref (ad 129), w4_t9, w5_t9, .ref (ad 130), w7_t9, .int (nI (sNr S1)), .int (nI (sNl S1)), .int 0, .int ((sWe S1).1), .int ((sWe S1).2.1), .int ((sWe S1).2.2.1), .int ((sWe S1).2.2.2.1), .int ((sWe S1).2.2.2.2), .int 100, .int 0, .int 0, .int 0, .int 0])) := hb_t9
  obtain ⟨⟨w4_o9, w5_o9, w7_o9, hb_o9⟩, -⟩ := id hL_8.2.1
  have hb_o9 : c_8 256 = some (.inr (6, [.ref (ad 320), .ref b9, .int d2, .ref (ad 257), w4_o9, w5_o9, .ref (ad 258), w7_o9, .int (nI (sNr S1)), .int (nI (sNl S1)), .int 0, .int ((sWe S1).1), .int ((sWe S1).2.1), .int ((sWe S1).2.2.1), .int ((sWe S1).2.2.2.1), .int ((sWe S1).2.2.2.2), .int 100, .int 0, .int 0, .int 0, .int 0])) := hb_o9
  refine r_top (y := nI (digV e0 ds)) bv ?_
  refine r_istore X [(4, .int (nI (digV e0 ds))), (3, .int (nI v)), (2, .ref (ad 192)), (0, .ref (ad 128)), (1, .ref (ad 256))] d_Law_isDriven_36 (by decide) rfl ?_
  refine r_iconst X 0 d_Law_isDriven_38 (by decide) ?_
  refine r_istore X [(5, .int 0), (4, .int (nI (digV e0 ds))), (3, .int (nI v)), (2, .ref (ad 192)), (0, .ref (ad 128)), (1, .ref (ad 256))] d_Law_isDriven_39 (by decide) rfl ?_
  refine r_iload X 1 d_Law_isDriven_41 rfl ?_
  refine r_istore X [(6, .int (nI (digV e0 ds))), (5, .int 0), (4, .int (nI (digV e0 ds))), (3, .int (nI v)), (2, .ref (ad 192)), (0, .ref (ad 128)), (1, .ref (ad 256))] d_Law_isDriven_43 (by decide) rfl ?_
  refine r_lv [0, 1, 2, 3, 4, 6, 5] [(6, .int (nI (digV e0 ds))), (5, .int 0), (4, .int (nI (digV e0 ds))), (3, .int (nI v)), (2, .ref (ad 192)), (1, .ref (ad 256)), (0, .ref (ad 128))] rfl ?_
  refine r_wide 0 0 (by decide) (by decide) ?_
  refine r_show c_8 [(6, .int (nI (digV e0 ds))), (5, .int (nI 0)), (4, .int (nI (digV e0 ds))), (3, .int (nI v)), (2, .ref (ad 192)), (1, .ref (ad 256)), (0, .ref (ad 128))] [] rfl rfl rfl ?_
  refine id_1 (b9 := b9) (d1 := d1) (d2 := d2) (bst := digV e0 ds) (v := v) X hN (by decide) (by decide) (n := ds.length) b01 b6 ?_ ds 0 (Nat.zero_add _) b0 (fun d hd => by have := bm d hd; omega) bl
  refine r_iload X 0 d_Law_isDriven_65 rfl ?_
  have hL2 := hL_8
  refine r_newa (ty := .int) (N := ds.length) X 0 rfl rfl rfl (fun q9 => q9) a_int (nI_pos (by omega)) (nI_clamp (by omega)) (by show ds.length * 4 ≤ 536870912; omega) (by decide) (by show 0 + ds.length ≤ 6; omega) d_Law_isDriven_67 5 (hL2.2.2 5 (by decide)) (fun a9 => [(5, .int (nI ds.length)), (4, .int (nI (digV e0 ds))), (3, .int (nI v)), (2, .ref (a9 192)), (1, .ref (a9 256)), (0, .ref (a9 128))]) (fun _ => []) (fun a9 h9 => by rw [h9 192 (by decide), h9 256 (by decide), h9 128 (by decide)]) (fun _ _ => rfl) (fun a_1 ha_1 => ?_)
  refine r_astore X [(6, .ref (a_1 5)), (5, .int (nI ds.length)), (4, .int (nI (digV e0 ds))), (3, .int (nI v)), (2, .ref (a_1 192)), (1, .ref (a_1 256)), (0, .ref (a_1 128))] d_Law_isDriven_69 (by decide) rfl ?_
  refine r_iload X 1 d_Law_isDriven_71 rfl ?_
  refine r_iconst X 1 d_Law_isDriven_73 (by decide) ?_
  refine r_isub X d_Law_isDriven_74 ?_
  refine r_istore X [(7, .int ((nI ds.length) - 1)), (6, .ref (a_1 5)), (5, .int (nI ds.length)), (4, .int (nI (digV e0 ds))), (3, .int (nI v)), (2, .ref (a_1 192)), (1, .ref (a_1 256)), (0, .ref (a_1 128))] d_Law_isDriven_75 (by decide) rfl ?_
  refine r_iload X 3 d_Law_isDriven_77 rfl ?_
  refine r_istore X [(8, .int (nI (digV e0 ds))), (7, .int ((nI ds.length) - 1)), (6, .ref (a_1 5)), (5, .int (nI ds.length)), (4, .int (nI (digV e0 ds))), (3, .int (nI v)), (2, .ref (a_1 192)), (1, .ref (a_1 256)), (0, .ref (a_1 128))] d_Law_isDriven_79 (by decide) rfl ?_
  refine r_lv [0, 1, 2, 3, 4, 5, 6, 7, 8] [(8, .int (nI (digV e0 ds))), (7, .int ((nI ds.length) - 1)), (6, .ref (a_1 5)), (5, .int (nI ds.length)), (4, .int (nI (digV e0 ds))), (3, .int (nI v)), (2, .ref (a_1 192)), (1, .ref (a_1 256)), (0, .ref (a_1 128))] rfl ?_
  refine r_wide 1 6 (by decide) (by show 0 + ds.length ≤ 6; omega) ?_
  refine id_2 (b9 := b9) (d1 := d1) (d2 := d2) (bst := digV e0 ds) (v := v) X hN (by decide) (by decide) (ad := a_1) (r := ds.reverse) (n := ds.length) (e0 := e0) b6 (fun f9 hf9 => ?_) ds (fun _ => 0) (Nat.le_refl _) (fun d hd => by have := bm d hd; omega) bl (fun j hj => rfl) (fun j j1 j2 => absurd j1 (by omega))
  refine r_iconst X 0 d_Law_isDriven_109 (by decide) ?_
  refine r_istore X [(7, .int 0), (6, .ref (a_1 5)), (5, .int (nI ds.length)), (4, .int (nI (digV e0 ds))), (3, .int (nI v)), (2, .ref (a_1 192)), (1, .ref (a_1 256)), (0, .ref (a_1 128))] d_Law_isDriven_110 (by decide) rfl ?_
  refine r_aload X 1 d_Law_isDriven_112 rfl ?_
  refine r_astore X [(8, .ref (a_1 5)), (7, .int 0), (6, .ref (a_1 5)), (5, .int (nI ds.length)), (4, .int (nI (digV e0 ds))), (3, .int (nI v)), (2, .ref (a_1 192)), (1, .ref (a_1 256)), (0, .ref (a_1 128))] d_Law_isDriven_114 (by decide) rfl ?_
  refine r_aload X 0 d_Law_isDriven_116 rfl ?_
  refine r_alen (v := (nI ds.length)) X 0 rup_self rfl rfl d_Law_isDriven_118 ?_
  refine r_istore X [(9, .int (nI ds.length)), (8, .ref (a_1 5)), (7, .int 0), (6, .ref (a_1 5)), (5, .int (nI ds.length)), (4, .int (nI (digV e0 ds))), (3, .int (nI v)), (2, .ref (a_1 192)), (1, .ref (a_1 256)), (0, .ref (a_1 128))] d_Law_isDriven_119 (by decide) rfl ?_
  refine r_iconst X 0 d_Law_isDriven_121 (by decide) ?_
  refine r_istore X [(10, .int 0), (9, .int (nI ds.length)), (8, .ref (a_1 5)), (7, .int 0), (6, .ref (a_1 5)), (5, .int (nI ds.length)), (4, .int (nI (digV e0 ds))), (3, .int (nI v)), (2, .ref (a_1 192)), (1, .ref (a_1 256)), (0, .ref (a_1 128))] d_Law_isDriven_122 (by decide) rfl ?_
  refine r_lv [0, 1, 2, 3, 4, 5, 6, 7, 8, 9, 10] [(10, .int 0), (9, .int (nI ds.length)), (8, .ref (a_1 5)), (7, .int 0), (6, .ref (a_1 5)), (5, .int (nI ds.length)), (4, .int (nI (digV e0 ds))), (3, .int (nI v)), (2, .ref (a_1 192)), (1, .ref (a_1 256)), (0, .ref (a_1 128))] rfl ?_
  refine r_show _ [(10, .int (nI 0)), (9, .int (nI ds.length)), (8, .ref (a_1 5)), (7, .int (nI (lP g ds.reverse 0))), (6, .ref (a_1 5)), (5, .int (nI ds.length)), (4, .int (nI (digV e0 ds))), (3, .int (nI v)), (2, .ref (a_1 192)), (1, .ref (a_1 256)), (0, .ref (a_1 128))] [] rfl rfl rfl ?_
  refine id_3 (b9 := b9) (d1 := d1) (d2 := d2) (bst := digV e0 ds) (v := v) X hN (by decide) (by decide) (S := S1) (r := ds.reverse) (g := g) (n := ds.length) (f := f9) hw1 hG1.1 hLa (by rw [List.length_reverse]) b6 (fun d hd => bm d (List.mem_reverse.mp hd)) bg hf9 (fun c3 hL3 => ?_) ds.length 0 _ (Nat.zero_add _) (LB_new hL2 (wf_2 hw1) (wf_2 hw1) ha_1)
  obtain ⟨T, hT⟩ : ∃ x, x = oS S1 ds.reverse ds.length := ⟨_, rfl⟩
  obtain ⟨dv1, dv2, dv3, dv4⟩ := drive hG1 b6 be bg bF bn b24
  have hwT := oS_wf (r := ds.reverse) hw1 ds.length (by omega)
  have hnT : sNow (oS S1 ds.reverse ds.length) = nI t := by
    show (sG _).1 = nI t
    rw [(oS_same (S := S1) (r := ds.reverse) ds.length).2.2.2.2]
    exact hG1.2.1
  rw [← hT] at dv1 dv2 dv3 dv4 hwT hnT hL3
  have hlen : lP g ds.reverse ds.length = len := by rw [bls, ← lP_all, List.length_reverse]
  refine r_show c3 [(7, .int (nI len)), (5, .int (nI ds.length)), (4, .int (nI (digV e0 ds))), (3, .int (nI v)), (2, .ref (a_1 192)), (1, .ref (a_1 256)), (0, .ref (a_1 128))] [] rfl (by rw [hlen]) rfl ?_
  refine r_iload X 1 d_Law_isDriven_175 rfl ?_
  refine r_bipush X 6 d_Law_isDriven_177 (by decide) ?_
  refine r_icmp_le X 184 d_Law_isDriven_179 (by decide) (fun _ => ?_) (fun h9 => absurd (nI_le (b := 6) b6 (by decide)) h9)
  refine r_iload X 0 d_Law_isDriven_184 rfl ?_
  refine r_istore X [(8, .int (nI len)), (7, .int (nI len)), (5, .int (nI ds.length)), (4, .int (nI (digV e0 ds))), (3, .int (nI v)), (2, .ref (a_1 192)), (1, .ref (a_1 256)), (0, .ref (a_1 128))] d_Law_isDriven_186 (by decide) rfl ?_
  refine r_lv [0, 1, 3, 4, 5, 6, 7] [(8, .int (nI len)), (7, .int (nI len)), (4, .int (nI (digV e0 ds))), (3, .int (nI v)), (2, .ref (a_1 192)), (1, .ref (a_1 256)), (0, .ref (a_1 128))] rfl ?_
  refine r_drop a_1 (va_up c3 5 none) (fun n9 x9 hn9 => by
    by_cases h9 : n9 = 5
    · subst h9; rw [va_up_self] at hn9; cases hn9
    · rw [va_up_ne _ _ h9] at hn9; exact ⟨hn9, rfl⟩) ?_
  have hL4 := LB_drop hL3 (wf_2 hwT) (wf_2 hwT)
  refine id_4 (b9 := b9) (d1 := d1) (d2 := d2) (bst := digV e0 ds) (v := v) X hN (by decide) (by decide) (T := T) (T2 := T) (t := t) (len := len) hwT hwT hnT (by omega) b24 (fun c4 hL5 => ?_) len 0 (nI len) _ (Nat.zero_le _) (by omega) (fun _ => by rw [Nat.sub_zero]) (fun hh => by rw [← hh]; decide) hL4
  refine r_iconst X 0 d_Law_isDriven_210 (by decide) ?_
  refine r_istore X [(8, .int 0), (7, .int (nI len)), (4, .int (nI (digV e0 ds))), (3, .int (nI v)), (2, .ref (a_1 192)), (1, .ref (a_1 256)), (0, .ref (a_1 128))] d_Law_isDriven_211 (by decide) rfl ?_
  refine r_lv [0, 1, 2, 3, 4, 5, 6] [(8, .int 0), (7, .int (nI len)), (4, .int (nI (digV e0 ds))), (3, .int (nI v)), (2, .ref (a_1 192)), (1, .ref (a_1 256)), (0, .ref (a_1 128))] rfl ?_
  refine r_show c4 [(8, .int (nI 0)), (7, .int (nI len)), (4, .int (nI (digV e0 ds))), (3, .int (nI v)), (2, .ref (a_1 192)), (1, .ref (a_1 256)), (0, .ref (a_1 128))] [] rfl rfl rfl ?_
  have hwU := wf_ps (t := t) (k := len) hwT (by omega) len (Nat.le_refl _)
  refine id_5 (b9 := b9) (d1 := d1) (d2 := d2) (bst := digV e0 ds) (v := v) X hN (by decide) (by decide) (T := T) (T1 := psF T t len) (t := t) (len := len) hwT hwU hnT (by omega) (fun c5 hL6 => ?_) len 0 _ (Nat.zero_add _) hL5
  obtain ⟨U, hU⟩ : ∃ x, x = psF T t len := ⟨_, rfl⟩
  rw [← hU] at dv1 dv2 dv3 dv4 hwU hL6
  have hnlU := dv1.nl
  obtain ⟨⟨w4_t10, w5_t10, w7_t10, hb_t10⟩, -⟩ := id hL6.1
  have hb_t10 : c5 128 = some (.inr (6, [.ref (a_1 192), .ref b9, .int d1, .ref (a_1 129), w4_t10, w5_t10, .ref (a_1 130), w7_t10, .int (nI (sNr U)), .int (nI (sNl U)), .int 0, .int ((sWe U).1), .int ((sWe U).2.1), .int ((sWe U).2.2.1), .int ((sWe U).2.2.2.1), .int ((sWe U).2.2.2.2), .int 100, .int 0, .int 0, .int 0, .int 0])) := hb_t10
  obtain ⟨⟨w4_o10, w5_o10, w7_o10, hb_o10⟩, -⟩ := id hL6.2.1
  have hb_o10 : c5 256 = some (.inr (6, [.ref (a_1 320), .ref b9, .int d2, .ref (a_1 257), w4_o10, w5_o10, .ref (a_1 258), w7_o10, .int (nI (sNr U)), .int (nI (sNl U)), .int 0, .int ((sWe U).1), .int ((sWe U).2.1), .int ((sWe U).2.2.1), .int ((sWe U).2.2.2.1), .int ((sWe U).2.2.2.2), .int 100, .int 0, .int 0, .int 0, .int 0])) := hb_o10
  refine r_aload_n X 3 d_Law_isDriven_235 rfl rfl ?_
  refine r_iconst X 0 d_Law_isDriven_236 (by decide) ?_
  refine r_bipush X 7 d_Law_isDriven_237 (by decide) ?_
  obtain ⟨J_11, hC_11⟩ := TB_ct hL6.1
  have hC_11 : shC 192 c5 = cont cy (shA 192 a_1) U J_11 := hC_11
  refine r_Vi X W0_good hN (As := [.int 0, .int 7]) (ct_i 192 (S' := U) (v := (sLo U 0).2.1) hC_11 (c_G_ofLorry l D cy (shA 192 a_1) U J_11 hwU 0 7 (by rw [hnlU]; decide) (by decide)) (fun r a c' h => ⟨h.1, h.2.1, _, h.2.2⟩)) yv_G_ofLorry m_Law_62 (ct_obj hC_11) k_G.2.1 rfl rfl rfl ⟨by decide, by decide⟩ (Nat.le_of_ble_eq_true rfl) ⟨by decide, by decide⟩ d_Law_isDriven_239 (fun r9_11 ad9_11 c_11 hp9 => ?_)
  obtain ⟨hr_11, rfl, hf_11, Jn_11, hD_11⟩ := hp9
  subst hr_11
  have hL_11 := LB_t hL6 (wf_2 hwU) (S' := U) rfl hf_11 hD_11
  obtain ⟨⟨w4_t12, w5_t12, w7_t12, hb_t12⟩, -⟩ := id hL_11.1
  have hb_t12 : c_11 128 = some (.inr (6, [.ref (a_1 192), .ref b9, .int d1, .ref (a_1 129), w4_t12, w5_t12, .ref (a_1 130), w7_t12, .int (nI (sNr U)), .int (nI (sNl U)), .int 0, .int ((sWe U).1), .int ((sWe U).2.1), .int ((sWe U).2.2.1), .int ((sWe U).2.2.2.1), .int ((sWe U).2.2.2.2), .int 100, .int 0, .int 0, .int 0, .int 0])) := hb_t12
  obtain ⟨⟨w4_o12, w5_o12, w7_o12, hb_o12⟩, -⟩ := id hL_11.2.1
  have hb_o12 : c_11 256 = some (.inr (6, [.ref (a_1 320), .ref b9, .int d2, .ref (a_1 257), w4_o12, w5_o12, .ref (a_1 258), w7_o12, .int (nI (sNr U)), .int (nI (sNl U)), .int 0, .int ((sWe U).1), .int ((sWe U).2.1), .int ((sWe U).2.2.1), .int ((sWe U).2.2.2.1), .int ((sWe U).2.2.2.2), .int 100, .int 0, .int 0, .int 0, .int 0])) := hb_o12
  refine r_top (y := 0) dv1.2.2.2.2.choose_spec.2.2.1 ?_
  refine r_if_ne X 260 d_Law_isDriven_242 (by decide) (fun h9 => absurd h9 (by decide)) (fun _ => ?_)
  refine r_aload_n X 3 d_Law_isDriven_245 rfl rfl ?_
  obtain ⟨J_13, hC_13⟩ := TB_ct hL_11.1
  have hC_13 : shC 192 c_11 = cont cy (shA 192 a_1) U J_13 := hC_13
  refine r_Vl X W0_good hN (As := []) (ct_l 192 (S' := U) (v := digF U) hC_13 (c_G_digest l D cy (shA 192 a_1) U J_13 hwU) (fun r a c' h => ⟨h.1, h.2.1, h.2.2⟩)) yv_G_digest m_Law_34 (ct_obj hC_13) k_G.2.1 rfl rfl rfl ⟨by decide, by decide⟩ (Nat.le_of_ble_eq_true rfl) ⟨by decide, by decide⟩ d_Law_isDriven_246 (fun r9_13 ad9_13 c_13 hp9 => ?_)
  obtain ⟨hr_13, rfl, hf_13, Jn_13, hD_13⟩ := hp9
  subst hr_13
  have hL_13 := LB_t hL_11 (wf_2 hwU) (S' := U) rfl hf_13 hD_13
  obtain ⟨⟨w4_t14, w5_t14, w7_t14, hb_t14⟩, -⟩ := id hL_13.1
  have hb_t14 : c_13 128 = some (.inr (6, [.ref (a_1 192), .ref b9, .int d1, .ref (a_1 129), w4_t14, w5_t14, .ref (a_1 130), w7_t14, .int (nI (sNr U)), .int (nI (sNl U)), .int 0, .int ((sWe U).1), .int ((sWe U).2.1), .int ((sWe U).2.2.1), .int ((sWe U).2.2.2.1), .int ((sWe U).2.2.2.2), .int 100, .int 0, .int 0, .int 0, .int 0])) := hb_t14
  obtain ⟨⟨w4_o14, w5_o14, w7_o14, hb_o14⟩, -⟩ := id hL_13.2.1
  have hb_o14 : c_13 256 = some (.inr (6, [.ref (a_1 320), .ref b9, .int d2, .ref (a_1 257), w4_o14, w5_o14, .ref (a_1 258), w7_o14, .int (nI (sNr U)), .int (nI (sNl U)), .int 0, .int ((sWe U).1), .int ((sWe U).2.1), .int ((sWe U).2.2.1), .int ((sWe U).2.2.2.1), .int ((sWe U).2.2.2.2), .int 100, .int 0, .int 0, .int 0, .int 0])) := hb_o14
  refine r_aload_n X 4 d_Law_isDriven_249 rfl rfl ?_
  refine r_get X k_Told 0 (by decide) f_Law_14 rfl hb_o14 rfl d_Law_isDriven_250 ?_
  obtain ⟨J_15, hC_15⟩ := TB_ct hL_13.2.1
  have hC_15 : shC 320 c_13 = cont cy (shA 320 a_1) U J_15 := hC_15
  refine r_Vl X W0_good hN (As := []) (ct_l 320 (S' := U) (v := digF U) hC_15 (c_G_digest l D cy (shA 320 a_1) U J_15 hwU) (fun r a c' h => ⟨h.1, h.2.1, h.2.2⟩)) yv_G_digest m_Law_34 (ct_obj hC_15) k_G.2.1 rfl rfl rfl ⟨by decide, by decide⟩ (Nat.le_of_ble_eq_true rfl) ⟨by decide, by decide⟩ d_Law_isDriven_253 (fun r9_15 ad9_15 c_15 hp9 => ?_)
  obtain ⟨hr_15, rfl, hf_15, Jn_15, hD_15⟩ := hp9
  subst hr_15
  have hL_15 := LB_o hL_13 (wf_2 hwU) (S' := U) rfl hf_15 hD_15
  obtain ⟨⟨w4_t16, w5_t16, w7_t16, hb_t16⟩, -⟩ := id hL_15.1
  have hb_t16 : c_15 128 = some (.inr (6, [.ref (a_1 192), .ref b9, .int d1, .ref (a_1 129), w4_t16, w5_t16, .ref (a_1 130), w7_t16, .int (nI (sNr U)), .int (nI (sNl U)), .int 0, .int ((sWe U).1), .int ((sWe U).2.1), .int ((sWe U).2.2.1), .int ((sWe U).2.2.2.1), .int ((sWe U).2.2.2.2), .int 100, .int 0, .int 0, .int 0, .int 0])) := hb_t16
  obtain ⟨⟨w4_o16, w5_o16, w7_o16, hb_o16⟩, -⟩ := id hL_15.2.1
  have hb_o16 : c_15 256 = some (.inr (6, [.ref (a_1 320), .ref b9, .int d2, .ref (a_1 257), w4_o16, w5_o16, .ref (a_1 258), w7_o16, .int (nI (sNr U)), .int (nI (sNl U)), .int 0, .int ((sWe U).1), .int ((sWe U).2.1), .int ((sWe U).2.2.1), .int ((sWe U).2.2.2.1), .int ((sWe U).2.2.2.2), .int 100, .int 0, .int 0, .int 0, .int 0])) := hb_o16
  refine r_lcmp X d_Law_isDriven_256 ?_
  refine r_top (y := 0) (lg_self _) ?_
  refine r_if_eq X 262 d_Law_isDriven_257 (by decide) (fun _ => ?_) (fun h9 => absurd h9 (by decide))
  refine r_iconst X 0 d_Law_isDriven_262 (by decide) ?_
  refine r_istore X [(8, .int 0), (7, .int (nI len)), (4, .int (nI (digV e0 ds))), (3, .int (nI v)), (2, .ref (a_1 192)), (1, .ref (a_1 256)), (0, .ref (a_1 128))] d_Law_isDriven_263 (by decide) rfl ?_
  refine r_lv [0, 1, 2, 3, 4, 5, 6] [(8, .int 0), (7, .int (nI len)), (4, .int (nI (digV e0 ds))), (3, .int (nI v)), (2, .ref (a_1 192)), (1, .ref (a_1 256)), (0, .ref (a_1 128))] rfl ?_
  refine r_show c_15 [(8, .int (nI 0)), (7, .int (nI len)), (4, .int (nI (digV e0 ds))), (3, .int (nI v)), (2, .ref (a_1 192)), (1, .ref (a_1 256)), (0, .ref (a_1 128))] [] rfl rfl rfl ?_
  have hcov : 0 < digV e0 ds → 0 < len → ∀ r, r < 5 → (sRc U r).2.2.2.1 = 0 → ∃ w, t < w ∧ w ≤ t + len ∧ las (sRc U r) = nI w := fun hb _ r hr hc => by
    have he0 : e0 = 1 := by
      rcases Nat.eq_zero_or_pos e0 with h | h
      · rw [b0 h, h] at hb; exact absurd hb (Nat.lt_irrefl 0)
      · omega
    exact dv4 r (bc he0 r hr ((rs7_p (dv2 r)).2.2.2.symm.trans hc))
  refine id_6 (b9 := b9) (d1 := d1) (d2 := d2) (bst := digV e0 ds) (v := v) X hN (by decide) (by decide) (T := U) (T2 := U) (t := t) (len := len) hwU hwU dv1.1 dv1.2.1 (by omega) hcov (by omega) (fun c6 hL7 => ?_) 5 0 _ rfl hL_15
  refine r_iconst X 1 d_Law_isDriven_318 (by decide) ?_
  exact r_zret (post := fun r ad' c' => 1 = r ∧ (∀ k, 128 ≤ k → ad' k = ad k) ∧ ∃ S' t' v' h', GS S' t' v' h' ∧ t' ≤ t + 24 ∧ LB cy b9 (fun _ => none) S' S' d1 d2 ad' c') X hr hlk rfl d_Law_isDriven_319 (by decide) (by decide) ⟨rfl, (fun k hk => ha_1 k (by omega)), U, t + len, n9, len, dv1, (by omega), hL7⟩
