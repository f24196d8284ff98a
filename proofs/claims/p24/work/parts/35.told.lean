/-! what is told: its methods; by program (wip/p24/mt.py) -/
set_option maxRecDepth 100000 in
set_option maxHeartbeats 4000000 in
theorem c_Law_below (l : Launch) (D : va_G) (cy : Nat → ClassId) (b9 : Nat) (ad : Nat → Nat) (c : rC) (v : Int32) (n : Nat) (h : 0 < n) (hn : n < 2 ^ 31) : rMi l D cls (TY cy) NW y_Law_below (Cond.code y_Law_below b_Law_below 2 rt_Law_below :: W0) { frames := 0, cells := 0, slots := 0, locals := 0 } [.int v, .int (nI n)] ad c (fun r ad' c' => nI (belF v n) = r ∧ ad = ad' ∧ c = c') := by
  intro sz
  refine r_of (own := R_Law) rfl (by decide +kernel) (Nat.le_of_ble_eq_true rfl) ?_
  intro p e s m below meth cd hsz X hr hlk hN hin
  refine r_lv [0, 1] [(0, .int v), (1, .int (nI n))] rfl ?_
  refine r_iload_n X 0 d_Law_below_0 rfl rfl ?_
  refine r_ldc X q_Law_7 d_Law_below_1 ?_
  refine r_iand X d_Law_below_3 ?_
  refine r_iload_n X 1 d_Law_below_4 rfl rfl ?_
  refine r_irem X d_Law_below_5 (fun z => by have := (nI_eq (by omega) (by decide)).mp (show nI n = nI 0 from z); omega) ?_
  refine r_top (y := nI (belF v n)) (bel_eq h hn) ?_
  exact r_iret (post := fun r ad' c' => nI (belF v n) = r ∧ ad = ad' ∧ c = c') X hr hlk d_Law_below_6 (by decide) (by decide) ⟨rfl, rfl, rfl⟩
set_option maxRecDepth 100000 in
set_option maxHeartbeats 4000000 in
theorem c_Law_cell (l : Launch) (D : va_G) (cy : Nat → ClassId) (b9 L9 : Nat) (xs9 : Nat → Int32) (ad : Nat → Nat) (c : rC) (k : Nat) (hk : k < 2 ^ 31) (hL : L9 < 2 ^ 31) : xMi l D cls (TY cy) NW b9 L9 xs9 y_Law_cell (Cond.code y_Law_cell b_Law_cell 2 rt_Law_cell :: W0) { frames := 0, cells := 0, slots := 0, locals := 0 } [.ref b9, .int (nI k)] ad c (fun r ad' c' => celF xs9 L9 k = r ∧ ad = ad' ∧ c = c') := by
  intro sz
  refine x_of (own := R_Law) rfl (by decide +kernel) (Nat.le_of_ble_eq_true rfl) ?_
  intro p e s m below meth cd hsz X hr hlk hN hE hin
  refine r_lv [0, 1] [(0, .ref b9), (1, .int (nI k))] rfl ?_
  refine r_iload_n X 1 d_Law_cell_0 rfl rfl ?_
  refine r_aload_n X 0 d_Law_cell_1 rfl rfl ?_
  refine x_slen X hE d_Law_cell_2 ?_
  by_cases hkL : k < L9
  · refine r_icmp_ge X 12 d_Law_cell_3 (by decide) (fun h9 => absurd h9 (nI_ge hkL (by omega))) (fun _ => ?_)
    refine r_aload_n X 0 d_Law_cell_6 rfl rfl ?_
    refine r_iload_n X 1 d_Law_cell_7 rfl rfl ?_
    refine x_sld X hE (v := xs9 k) (vp_in_nI hkL (by omega)) (congrArg xs9 (nI_clamp (by omega))) d_Law_cell_8 ?_
    refine r_goto X 18 d_Law_cell_9 (by decide) ?_
    exact r_iret (post := fun r ad' c' => celF xs9 L9 k = r ∧ ad = ad' ∧ c = c') X hr hlk d_Law_cell_18 (by decide) (by decide) ⟨if_pos hkL, rfl, rfl⟩
  · refine r_icmp_ge X 12 d_Law_cell_3 (by decide) (fun _ => ?_) (fun h9 => absurd (nI_le (by omega) (by omega)) h9)
    refine r_ldc X q_Law_8 d_Law_cell_12 ?_
    refine r_iload_n X 1 d_Law_cell_14 rfl rfl ?_
    refine r_iconst X 3 d_Law_cell_15 (by decide) ?_
    refine r_iadd X d_Law_cell_16 ?_
    refine r_imul X d_Law_cell_17 ?_
    exact r_iret (post := fun r ad' c' => celF xs9 L9 k = r ∧ ad = ad' ∧ c = c') X hr hlk d_Law_cell_18 (by decide) (by decide) ⟨if_neg hkL, rfl, rfl⟩
set_option maxRecDepth 100000 in
set_option maxHeartbeats 4000000 in
theorem c_Told_draw (l : Launch) (D : va_G) (cy : Nat → ClassId) (b9 L9 : Nat) (xs9 : Nat → Int32) (ad : Nat → Nat) (c : rC) (S : cS) (d n : Nat) (hd : d < 1000) (hn : 0 < n) (hn2 : n < 1000) (hL : L9 < 2 ^ 31) (hT : TB cy b9 S (nI d) 0 ad c) : xMi l D cls (TY cy) NW b9 L9 xs9 y_Told_draw (Cond.code y_Told_draw b_Told_draw 3 rt_Told_draw :: W0) { frames := 1, cells := 0, slots := 0, locals := 21 } [.ref (ad 0), .int (nI n)] ad c (fun r ad' c' => nI (drw xs9 L9 d n) = r ∧ ad = ad' ∧ TB cy b9 S (nI (d + 1)) 0 ad' c') := by
  intro sz
  refine x_of (own := R_Told) rfl (by decide +kernel) (Nat.le_of_ble_eq_true rfl) ?_
  intro p e s m below meth cd hsz X hr hlk hN hE hin
  refine r_lv [0, 1] [(0, .ref (ad 0)), (1, .int (nI n))] rfl ?_
  obtain ⟨⟨v4, v5, v7, h0⟩, ⟨g1, h1⟩, ⟨g2, h2⟩, hz, J, hC⟩ := id hT
  have h0 : c 0 = some (.inr (6, [.ref (ad 64), .ref b9, .int (nI d), .ref (ad 1), v4, v5, .ref (ad 2), v7, .int (nI (sNr S)), .int (nI (sNl S)), .int 0, .int ((sWe S).1), .int ((sWe S).2.1), .int ((sWe S).2.2.1), .int ((sWe S).2.2.2.1), .int ((sWe S).2.2.2.2), .int 100, .int 0, .int 0, .int 0, .int 0])) := h0
  have h1 : c 1 = some (qE (cy 6) 8 g1) := h1
  have h2 : c 2 = some (qE (cy 6) 3 g2) := h2
  have hC : shC 64 c = cont cy (shA 64 ad) S J := hC
  have h64 := ct_obj hC
  have hz3 : c 3 = none := hz 3 (by decide) (by decide)
  refine r_aload_n X 0 d_Told_draw_0 rfl rfl ?_
  refine r_get X k_Told 1 (by decide) f_Told_42 rfl h0 rfl d_Told_draw_1 ?_
  refine r_aload_n X 0 d_Told_draw_4 rfl rfl ?_
  refine r_get X k_Told 2 (by decide) f_Told_46 rfl h0 rfl d_Told_draw_5 ?_
  refine r_bipush X 24 d_Told_draw_8 (by decide) ?_
  refine r_irem X d_Told_draw_10 (by decide) ?_
  refine r_top (y := nI (d % 24)) (nI_r (b := 24) (by omega) (by decide)) ?_
  refine x_SNi X W0_good hN hE (As := [.ref b9, .int (nI (d % 24))]) (c_Law_cell l D cy b9 L9 xs9 ad (c) (d % 24) (by omega) hL) ys_Law_cell w_Told_49 rfl rfl ⟨by decide, by decide⟩ (Nat.le_of_ble_eq_true rfl) ⟨by decide, by decide⟩ d_Told_draw_11 (fun r9 ad9 c9 hp9 => ?_)
  obtain ⟨rfl, rfl, rfl⟩ := hp9
  refine r_aload_n X 0 d_Told_draw_14 rfl rfl ?_
  refine r_get X k_Told 2 (by decide) f_Told_46 rfl h0 rfl d_Told_draw_15 ?_
  refine r_bipush X 24 d_Told_draw_18 (by decide) ?_
  refine r_idiv X d_Told_draw_20 (by decide) ?_
  refine r_top (y := nI (d / 24)) (nI_d (b := 24) (by omega) (by decide)) ?_
  refine r_bipush X 8 d_Told_draw_21 (by decide) ?_
  refine r_irem X d_Told_draw_23 (by decide) ?_
  refine r_top (y := nI (d / 24 % 8)) (nI_r (b := 8) (by omega) (by decide)) ?_
  refine r_ishr X d_Told_draw_24 ?_
  refine r_sipush X 307 d_Told_draw_25 (by decide) ?_
  refine r_aload_n X 0 d_Told_draw_28 rfl rfl ?_
  refine r_get X k_Told 2 (by decide) f_Told_46 rfl h0 rfl d_Told_draw_29 ?_
  refine r_imul X d_Told_draw_32 ?_
  refine r_iadd X d_Told_draw_33 ?_
  refine r_iload_n X 1 d_Told_draw_34 rfl rfl ?_
  refine r_SNi X W0_good hN (As := [.int (((celF xs9 L9 (d % 24)) >>> ((nI (d / 24 % 8)) &&& 31)) + (307 * (nI d))), .int (nI n)]) (c_Law_below l D cy b9 ad (c) (((celF xs9 L9 (d % 24)) >>> ((nI (d / 24 % 8)) &&& 31)) + (307 * (nI d))) n hn (by omega)) ys_Law_below w_Told_55 rfl rfl ⟨by decide, by decide⟩ (Nat.le_of_ble_eq_true rfl) ⟨by decide, by decide⟩ d_Told_draw_35 (fun r9 ad9 c9 hp9 => ?_)
  obtain ⟨hr9, rfl, rfl⟩ := hp9
  subst hr9
  refine r_top (y := nI (drw xs9 L9 d n)) rfl ?_
  refine r_istore_n X [(2, .int (nI (drw xs9 L9 d n))), (0, .ref (ad 0)), (1, .int (nI n))] d_Told_draw_38 rfl (by decide) rfl ?_
  refine r_aload_n X 1 d_Told_draw_39 rfl rfl ?_
  refine r_dup X d_Told_draw_40 rfl ?_
  refine r_get X k_Told 2 (by decide) f_Told_46 rfl h0 rfl d_Told_draw_41 ?_
  refine r_iconst X 1 d_Told_draw_44 (by decide) ?_
  refine r_iadd X d_Told_draw_45 ?_
  refine r_top (y := nI (d + 1)) (nI_1 d) ?_
  refine r_put X k_Told 2 (by decide) f_Told_46 rfl h0 rfl rfl rfl (Nat.le_of_ble_eq_true rfl) [.ref (ad 64), .ref b9, .int (nI (d + 1)), .ref (ad 1), v4, v5, .ref (ad 2), v7, .int (nI (sNr S)), .int (nI (sNl S)), .int 0, .int ((sWe S).1), .int ((sWe S).2.1), .int ((sWe S).2.2.1), .int ((sWe S).2.2.2.1), .int ((sWe S).2.2.2.2), .int 100, .int 0, .int 0, .int 0, .int 0] rfl (va_up c 0 (some (.inr (6, [.ref (ad 64), .ref b9, .int (nI (d + 1)), .ref (ad 1), v4, v5, .ref (ad 2), v7, .int (nI (sNr S)), .int (nI (sNl S)), .int 0, .int ((sWe S).1), .int ((sWe S).2.1), .int ((sWe S).2.2.1), .int ((sWe S).2.2.2.1), .int ((sWe S).2.2.2.2), .int 100, .int 0, .int 0, .int 0, .int 0])))) rfl d_Told_draw_46 ?_
  refine r_iload_n X 0 d_Told_draw_49 rfl rfl ?_
  exact r_iret (post := fun r ad' c' => nI (drw xs9 L9 d n) = r ∧ ad = ad' ∧ TB cy b9 S (nI (d + 1)) 0 ad' c') X hr hlk d_Told_draw_50 (by decide) (by decide) ⟨rfl, rfl, ⟨v4, v5, v7, rup_self⟩, ⟨g1, rup_ne (by omega) h1⟩, ⟨g2, rup_ne (by omega) h2⟩, fun k k1 k2 => rup_ne (by omega) (hz k k1 k2), J, (shC_congr (fun k k1 k2 => va_up_ne _ _ (by omega))).trans hC⟩
set_option maxRecDepth 100000 in
set_option maxHeartbeats 4000000 in
theorem c_Told_sky (l : Launch) (D : va_G) (cy : Nat → ClassId) (b9 : Nat) (ad : Nat → Nat) (c : rC) (S : cS) (d : Nat) (hS : wfS S) (a z r f v : Int32) (ha : inF a (-20) 20 = 1) (hzz : z = 0 ∨ z = 1) (hr0 : inF r 0 3 = 1) (hf0 : inF f 0 3 = 1) (hv0 : inF v 0 3 = 1) (hT : TB cy b9 S (nI d) 0 ad c) : rMi l D cls (TY cy) NW y_Told_sky (Cond.code y_Told_sky b_Told_sky 7 rt_Told_sky :: W0) { frames := 7, cells := 0, slots := 0, locals := 114 } [.ref (ad 0), .int a, .int z, .int r, .int f, .int v] ad c (fun r9 ad' c' => 1 = r9 ∧ ad = ad' ∧ TB cy b9 (fallS (airS S a z) r f v) (nI d) 0 ad' c') := by
  intro sz
  refine r_of (own := R_Told) rfl (by decide +kernel) (Nat.le_of_ble_eq_true rfl) ?_
  intro p e s m below meth cd hsz X hr hlk hN hin
  refine r_lv [0, 1, 2, 3, 4, 5] [(0, .ref (ad 0)), (1, .int a), (2, .int z), (3, .int r), (4, .int f), (5, .int v)] rfl ?_
  obtain ⟨⟨v4, v5, v7, h0⟩, ⟨g1, h1⟩, ⟨g2, h2⟩, hz, J, hC⟩ := id hT
  have h0 : c 0 = some (.inr (6, [.ref (ad 64), .ref b9, .int (nI d), .ref (ad 1), v4, v5, .ref (ad 2), v7, .int (nI (sNr S)), .int (nI (sNl S)), .int 0, .int ((sWe S).1), .int ((sWe S).2.1), .int ((sWe S).2.2.1), .int ((sWe S).2.2.2.1), .int ((sWe S).2.2.2.2), .int 100, .int 0, .int 0, .int 0, .int 0])) := h0
  have h1 : c 1 = some (qE (cy 6) 8 g1) := h1
  have h2 : c 2 = some (qE (cy 6) 3 g2) := h2
  have hC : shC 64 c = cont cy (shA 64 ad) S J := hC
  have h64 := ct_obj hC
  have hz3 : c 3 = none := hz 3 (by decide) (by decide)
  refine r_aload_n X 0 d_Told_sky_0 rfl rfl ?_
  refine r_get X k_Told 0 (by decide) f_Told_10 rfl h0 rfl d_Told_sky_1 ?_
  refine r_iload_n X 1 d_Told_sky_4 rfl rfl ?_
  refine r_iload_n X 2 d_Told_sky_5 rfl rfl ?_
  refine r_iconst X 1 d_Told_sky_6 (by decide) ?_
  refine r_cut (fun u9 : Int32 => u9 = (if z = 1 then 1 else 0)) (fun _ => c) 15 (fun _ => [(0, .ref (ad 0)), (1, .int a), (2, .int z), (3, .int r), (4, .int f), (5, .int v)]) (fun u9 => [.int u9, .int a, .ref (ad 64)]) (fun J9 => ?_) (fun t_1 ht_1 => ?_)
  · refine r_icmp_ne X 14 d_Told_sky_7 (by decide) (fun h9 => ?_) (fun h9 => ?_)
    · refine r_iconst X 0 d_Told_sky_14 (by decide) ?_
      exact J9 _ (if_neg h9).symm
    · refine r_iconst X 1 d_Told_sky_10 (by decide) ?_
      refine r_goto X 15 d_Told_sky_11 (by decide) ?_
      exact J9 _ (if_pos h9).symm
  subst ht_1
  refine r_top (y := z) (by rcases hzz with rfl | rfl <;> rfl) ?_
  refine r_Vi X W0_good hN (As := [.int a, .int z]) (ct_i 64 (S' := airS S a z) hC (c_G_air l D cy (shA 64 ad) S J hS a z ha hzz) (fun r a c' h => ⟨h.1, h.2.1, _, h.2.2⟩)) yv_G_air m_Told_73 h64 k_G.2.1 rfl rfl rfl ⟨by decide, by decide⟩ (Nat.le_of_ble_eq_true rfl) ⟨by decide, by decide⟩ d_Told_sky_15 (fun r9 ad9 c9 hp9 => ?_)
  obtain ⟨rfl, rfl, hf, J1, hC1⟩ := hp9
  have h64 := ct_obj hC1
  have h0 : c9 0 = some (.inr (6, [.ref (ad 64), .ref b9, .int (nI d), .ref (ad 1), v4, v5, .ref (ad 2), v7, .int (nI (sNr S)), .int (nI (sNl S)), .int 0, .int ((sWe S).1), .int ((sWe S).2.1), .int ((sWe S).2.2.1), .int ((sWe S).2.2.2.1), .int ((sWe S).2.2.2.2), .int 100, .int 0, .int 0, .int 0, .int 0])) := (hf 0 (Or.inl (by decide))).trans h0
  refine r_aload_n X 0 d_Told_sky_18 rfl rfl ?_
  refine r_get X k_Told 11 (by decide) f_Told_35 rfl h0 rfl d_Told_sky_19 ?_
  refine r_icmp_ne X 48 d_Told_sky_22 (by decide) (fun h9 => absurd rfl h9) (fun _ => ?_)
  refine r_aload_n X 0 d_Told_sky_25 rfl rfl ?_
  refine r_get X k_Told 0 (by decide) f_Told_10 rfl h0 rfl d_Told_sky_26 ?_
  refine r_iload_n X 3 d_Told_sky_29 rfl rfl ?_
  refine r_iload X 4 d_Told_sky_30 rfl ?_
  refine r_iload X 5 d_Told_sky_32 rfl ?_
  refine r_Vi X W0_good hN (As := [.int r, .int f, .int v]) (ct_i 64 (S' := fallS (airS S a z) r f v) hC1 (c_G_fall l D cy (shA 64 ad) (airS S a z) J1 (wf_air hS) r f v hr0 hf0 hv0) (fun r a c' h => ⟨h.1, h.2.1, _, h.2.2⟩)) yv_G_fall m_Told_76 h64 k_G.2.1 rfl rfl rfl ⟨by decide, by decide⟩ (Nat.le_of_ble_eq_true rfl) ⟨by decide, by decide⟩ d_Told_sky_34 (fun r9 ad9 c8 hp9 => ?_)
  obtain ⟨hr9, rfl, hf1, J2, hC2⟩ := hp9
  refine r_top (y := (sWe S).2.2.2.2) hr9.symm ?_
  have h0 : c8 0 = some (.inr (6, [.ref (ad 64), .ref b9, .int (nI d), .ref (ad 1), v4, v5, .ref (ad 2), v7, .int (nI (sNr S)), .int (nI (sNl S)), .int 0, .int ((sWe S).1), .int ((sWe S).2.1), .int ((sWe S).2.2.1), .int ((sWe S).2.2.2.1), .int ((sWe S).2.2.2.2), .int 100, .int 0, .int 0, .int 0, .int 0])) := (hf1 0 (Or.inl (by decide))).trans h0
  refine r_aload_n X 0 d_Told_sky_37 rfl rfl ?_
  refine r_get X k_Told 15 (by decide) f_Told_80 rfl h0 rfl d_Told_sky_38 ?_
  refine r_icmp_ne X 48 d_Told_sky_41 (by decide) (fun h9 => absurd rfl h9) (fun _ => ?_)
  refine r_iconst X 1 d_Told_sky_44 (by decide) ?_
  refine r_goto X 49 d_Told_sky_45 (by decide) ?_
  refine r_istore X [(6, .int 1), (0, .ref (ad 0)), (1, .int a), (2, .int z), (3, .int r), (4, .int f), (5, .int v)] d_Told_sky_49 (by decide) rfl ?_
  refine r_aload_n X 1 d_Told_sky_51 rfl rfl ?_
  refine r_iload_n X 2 d_Told_sky_52 rfl rfl ?_
  refine r_put X k_Told 11 (by decide) f_Told_35 rfl h0 rfl rfl rfl (Nat.le_of_ble_eq_true rfl) [.ref (ad 64), .ref b9, .int (nI d), .ref (ad 1), v4, v5, .ref (ad 2), v7, .int (nI (sNr S)), .int (nI (sNl S)), .int 0, .int a, .int ((sWe S).2.1), .int ((sWe S).2.2.1), .int ((sWe S).2.2.2.1), .int ((sWe S).2.2.2.2), .int 100, .int 0, .int 0, .int 0, .int 0] rfl (va_up c8 0 (some (.inr (6, [.ref (ad 64), .ref b9, .int (nI d), .ref (ad 1), v4, v5, .ref (ad 2), v7, .int (nI (sNr S)), .int (nI (sNl S)), .int 0, .int a, .int ((sWe S).2.1), .int ((sWe S).2.2.1), .int ((sWe S).2.2.2.1), .int ((sWe S).2.2.2.2), .int 100, .int 0, .int 0, .int 0, .int 0])))) rfl d_Told_sky_53 ?_
  refine r_aload_n X 1 d_Told_sky_56 rfl rfl ?_
  refine r_iload_n X 3 d_Told_sky_57 rfl rfl ?_
  refine r_put X k_Told 12 (by decide) f_Told_83 rfl rup_self rfl rfl rfl (Nat.le_of_ble_eq_true rfl) [.ref (ad 64), .ref b9, .int (nI d), .ref (ad 1), v4, v5, .ref (ad 2), v7, .int (nI (sNr S)), .int (nI (sNl S)), .int 0, .int a, .int z, .int ((sWe S).2.2.1), .int ((sWe S).2.2.2.1), .int ((sWe S).2.2.2.2), .int 100, .int 0, .int 0, .int 0, .int 0] rfl (va_up c8 0 (some (.inr (6, [.ref (ad 64), .ref b9, .int (nI d), .ref (ad 1), v4, v5, .ref (ad 2), v7, .int (nI (sNr S)), .int (nI (sNl S)), .int 0, .int a, .int z, .int ((sWe S).2.2.1), .int ((sWe S).2.2.2.1), .int ((sWe S).2.2.2.2), .int 100, .int 0, .int 0, .int 0, .int 0])))) rup_up d_Told_sky_58 ?_
  refine r_aload_n X 1 d_Told_sky_61 rfl rfl ?_
  refine r_iload_n X 4 d_Told_sky_62 rfl rfl ?_
  refine r_put X k_Told 13 (by decide) f_Told_86 rfl rup_self rfl rfl rfl (Nat.le_of_ble_eq_true rfl) [.ref (ad 64), .ref b9, .int (nI d), .ref (ad 1), v4, v5, .ref (ad 2), v7, .int (nI (sNr S)), .int (nI (sNl S)), .int 0, .int a, .int z, .int r, .int ((sWe S).2.2.2.1), .int ((sWe S).2.2.2.2), .int 100, .int 0, .int 0, .int 0, .int 0] rfl (va_up c8 0 (some (.inr (6, [.ref (ad 64), .ref b9, .int (nI d), .ref (ad 1), v4, v5, .ref (ad 2), v7, .int (nI (sNr S)), .int (nI (sNl S)), .int 0, .int a, .int z, .int r, .int ((sWe S).2.2.2.1), .int ((sWe S).2.2.2.2), .int 100, .int 0, .int 0, .int 0, .int 0])))) rup_up d_Told_sky_63 ?_
  refine r_aload_n X 1 d_Told_sky_66 rfl rfl ?_
  refine r_iload X 5 d_Told_sky_67 rfl ?_
  refine r_put X k_Told 14 (by decide) f_Told_89 rfl rup_self rfl rfl rfl (Nat.le_of_ble_eq_true rfl) [.ref (ad 64), .ref b9, .int (nI d), .ref (ad 1), v4, v5, .ref (ad 2), v7, .int (nI (sNr S)), .int (nI (sNl S)), .int 0, .int a, .int z, .int r, .int f, .int ((sWe S).2.2.2.2), .int 100, .int 0, .int 0, .int 0, .int 0] rfl (va_up c8 0 (some (.inr (6, [.ref (ad 64), .ref b9, .int (nI d), .ref (ad 1), v4, v5, .ref (ad 2), v7, .int (nI (sNr S)), .int (nI (sNl S)), .int 0, .int a, .int z, .int r, .int f, .int ((sWe S).2.2.2.2), .int 100, .int 0, .int 0, .int 0, .int 0])))) rup_up d_Told_sky_69 ?_
  refine r_aload_n X 1 d_Told_sky_72 rfl rfl ?_
  refine r_iload X 6 d_Told_sky_73 rfl ?_
  refine r_put X k_Told 15 (by decide) f_Told_80 rfl rup_self rfl rfl rfl (Nat.le_of_ble_eq_true rfl) [.ref (ad 64), .ref b9, .int (nI d), .ref (ad 1), v4, v5, .ref (ad 2), v7, .int (nI (sNr S)), .int (nI (sNl S)), .int 0, .int a, .int z, .int r, .int f, .int v, .int 100, .int 0, .int 0, .int 0, .int 0] rfl (va_up c8 0 (some (.inr (6, [.ref (ad 64), .ref b9, .int (nI d), .ref (ad 1), v4, v5, .ref (ad 2), v7, .int (nI (sNr S)), .int (nI (sNl S)), .int 0, .int a, .int z, .int r, .int f, .int v, .int 100, .int 0, .int 0, .int 0, .int 0])))) rup_up d_Told_sky_75 ?_
  refine r_iload X 0 d_Told_sky_78 rfl ?_
  exact r_zret (post := fun r9 ad' c' => 1 = r9 ∧ ad = ad' ∧ TB cy b9 (fallS (airS S a z) r f v) (nI d) 0 ad' c') X hr hlk rfl d_Told_sky_80 (by decide) (by decide) ⟨rfl, rfl, ⟨v4, v5, v7, rup_self⟩, ⟨g1, rup_ne (by omega) ((hf1 1 (Or.inl (by decide))).trans ((hf 1 (Or.inl (by decide))).trans h1))⟩, ⟨g2, rup_ne (by omega) ((hf1 2 (Or.inl (by decide))).trans ((hf 2 (Or.inl (by decide))).trans h2))⟩, fun k k1 k2 => rup_ne (by omega) ((hf1 (0 + k) (by omega)).trans ((hf (0 + k) (by omega)).trans (hz k k1 k2))), J2, (shC_congr (fun k k1 k2 => va_up_ne _ _ (by omega))).trans hC2⟩
set_option maxRecDepth 100000 in
set_option maxHeartbeats 4000000 in
theorem c_Told_lorry (l : Launch) (D : va_G) (cy : Nat → ClassId) (b9 : Nat) (ad : Nat → Nat) (c : rC) (S : cS) (d : Nat) (hS : wfS S) (h3 : sNl S < 3) (hT : TB cy b9 S (nI d) 0 ad c) : rMi l D cls (TY cy) NW y_Told_lorry (Cond.code y_Told_lorry b_Told_lorry 3 rt_Told_lorry :: W0) { frames := 7, cells := 3, slots := 27, locals := 112 } [.ref (ad 0), .int 1] ad c (fun r9 ad' c' => 1 = r9 ∧ (ad' 0 = ad 0 ∧ ad' 64 = ad 64) ∧ TB cy b9 (addL S (lo0 1) (fun _ => 0)) (nI d) 0 ad' c') := by
  intro sz
  refine r_of (own := R_Told) rfl (by decide +kernel) (Nat.le_of_ble_eq_true rfl) ?_
  intro p e s m below meth cd hsz X hr hlk hN hin
  refine r_lv [0, 1] [(0, .ref (ad 0)), (1, .int 1)] rfl ?_
  obtain ⟨⟨v4, v5, v7, h0⟩, ⟨g1, h1⟩, ⟨g2, h2⟩, hz, J, hC⟩ := id hT
  have h0 : c 0 = some (.inr (6, [.ref (ad 64), .ref b9, .int (nI d), .ref (ad 1), v4, v5, .ref (ad 2), v7, .int (nI (sNr S)), .int (nI (sNl S)), .int 0, .int ((sWe S).1), .int ((sWe S).2.1), .int ((sWe S).2.2.1), .int ((sWe S).2.2.2.1), .int ((sWe S).2.2.2.2), .int 100, .int 0, .int 0, .int 0, .int 0])) := h0
  have h1 : c 1 = some (qE (cy 6) 8 g1) := h1
  have h2 : c 2 = some (qE (cy 6) 3 g2) := h2
  have hC : shC 64 c = cont cy (shA 64 ad) S J := hC
  have h64 := ct_obj hC
  have hz3 : c 3 = none := hz 3 (by decide) (by decide)
  refine r_bipush X 9 d_Told_lorry_0 (by decide) ?_
  refine r_newa (ty := .int) (N := 9) X 0 rfl rfl rfl (fun q9 => q9) a_int (by decide) (by decide) (by decide) (Nat.le_of_ble_eq_true rfl) (Nat.le_of_ble_eq_true rfl) d_Told_lorry_2 3 hz3 (fun a9 => [(0, .ref (a9 0)), (1, .int 1)]) (fun a9 => []) (fun a9 h9 => by rw [h9 0 (by decide)]) (fun _ _ => rfl) (fun a_1 ha_1 => ?_)
  have hb_1_0 : c 0 = some (.inr (6, [.ref (a_1 64), .ref b9, .int (nI d), .ref (a_1 1), v4, v5, .ref (a_1 2), v7, .int (nI (sNr S)), .int (nI (sNl S)), .int 0, .int ((sWe S).1), .int ((sWe S).2.1), .int ((sWe S).2.2.1), .int ((sWe S).2.2.2.1), .int ((sWe S).2.2.2.2), .int 100, .int 0, .int 0, .int 0, .int 0])) := by rw [ha_1 64 (by decide), ha_1 1 (by decide), ha_1 2 (by decide)]; exact h0
  refine r_dup X d_Told_lorry_4 rfl ?_
  refine r_iconst X 0 d_Told_lorry_5 (by decide) ?_
  refine r_iconst X 0 d_Told_lorry_6 (by decide) ?_
  refine r_iast X 0 rup_self rfl (by unfold vp_in; decide +kernel) (congrArg (fun q9 => upd _ q9 _) (by decide +kernel : (0 : Int32).toNatClampNeg = 0)) (va_up c 3 (some (.inl (cy 0, 9, .inl (upd (fun _ => 0) 0 0))))) rup_up d_Told_lorry_7 ?_
  refine r_dup X d_Told_lorry_8 rfl ?_
  refine r_iconst X 1 d_Told_lorry_9 (by decide) ?_
  refine r_iconst X (-1) d_Told_lorry_10 (by decide) ?_
  refine r_iast X 0 rup_self rfl (by unfold vp_in; decide +kernel) (congrArg (fun q9 => upd _ q9 _) (by decide +kernel : (1 : Int32).toNatClampNeg = 1)) (va_up c 3 (some (.inl (cy 0, 9, .inl (upd (upd (fun _ => 0) 0 0) 1 (-1)))))) rup_up d_Told_lorry_11 ?_
  refine r_dup X d_Told_lorry_12 rfl ?_
  refine r_iconst X 2 d_Told_lorry_13 (by decide) ?_
  refine r_iconst X 0 d_Told_lorry_14 (by decide) ?_
  refine r_iast X 0 rup_self rfl (by unfold vp_in; decide +kernel) (congrArg (fun q9 => upd _ q9 _) (by decide +kernel : (2 : Int32).toNatClampNeg = 2)) (va_up c 3 (some (.inl (cy 0, 9, .inl (upd (upd (upd (fun _ => 0) 0 0) 1 (-1)) 2 0))))) rup_up d_Told_lorry_15 ?_
  refine r_dup X d_Told_lorry_16 rfl ?_
  refine r_iconst X 3 d_Told_lorry_17 (by decide) ?_
  refine r_iconst X 0 d_Told_lorry_18 (by decide) ?_
  refine r_iast X 0 rup_self rfl (by unfold vp_in; decide +kernel) (congrArg (fun q9 => upd _ q9 _) (by decide +kernel : (3 : Int32).toNatClampNeg = 3)) (va_up c 3 (some (.inl (cy 0, 9, .inl (upd (upd (upd (upd (fun _ => 0) 0 0) 1 (-1)) 2 0) 3 0))))) rup_up d_Told_lorry_19 ?_
  refine r_dup X d_Told_lorry_20 rfl ?_
  refine r_iconst X 4 d_Told_lorry_21 (by decide) ?_
  refine r_iconst X 2 d_Told_lorry_22 (by decide) ?_
  refine r_iast X 0 rup_self rfl (by unfold vp_in; decide +kernel) (congrArg (fun q9 => upd _ q9 _) (by decide +kernel : (4 : Int32).toNatClampNeg = 4)) (va_up c 3 (some (.inl (cy 0, 9, .inl (upd (upd (upd (upd (upd (fun _ => 0) 0 0) 1 (-1)) 2 0) 3 0) 4 2))))) rup_up d_Told_lorry_23 ?_
  refine r_dup X d_Told_lorry_24 rfl ?_
  refine r_iconst X 5 d_Told_lorry_25 (by decide) ?_
  refine r_iload_n X 1 d_Told_lorry_26 rfl rfl ?_
  refine r_if_eq X 34 d_Told_lorry_27 (by decide) (fun h9 => absurd h9 (by decide)) (fun _ => ?_)
  refine r_iconst X 1 d_Told_lorry_30 (by decide) ?_
  refine r_goto X 35 d_Told_lorry_31 (by decide) ?_
  refine r_iast X 0 rup_self rfl (by unfold vp_in; decide +kernel) (congrArg (fun q9 => upd _ q9 _) (by decide +kernel : (5 : Int32).toNatClampNeg = 5)) (va_up c 3 (some (.inl (cy 0, 9, .inl (upd (upd (upd (upd (upd (upd (fun _ => 0) 0 0) 1 (-1)) 2 0) 3 0) 4 2) 5 1))))) rup_up d_Told_lorry_35 ?_
  refine r_dup X d_Told_lorry_36 rfl ?_
  refine r_bipush X 6 d_Told_lorry_37 (by decide) ?_
  refine r_iconst X 0 d_Told_lorry_39 (by decide) ?_
  refine r_iast X 0 rup_self rfl (by unfold vp_in; decide +kernel) (congrArg (fun q9 => upd _ q9 _) (by decide +kernel : (6 : Int32).toNatClampNeg = 6)) (va_up c 3 (some (.inl (cy 0, 9, .inl (upd (upd (upd (upd (upd (upd (upd (fun _ => 0) 0 0) 1 (-1)) 2 0) 3 0) 4 2) 5 1) 6 0))))) rup_up d_Told_lorry_40 ?_
  refine r_dup X d_Told_lorry_41 rfl ?_
  refine r_bipush X 7 d_Told_lorry_42 (by decide) ?_
  refine r_iconst X 0 d_Told_lorry_44 (by decide) ?_
  refine r_iast X 0 rup_self rfl (by unfold vp_in; decide +kernel) (congrArg (fun q9 => upd _ q9 _) (by decide +kernel : (7 : Int32).toNatClampNeg = 7)) (va_up c 3 (some (.inl (cy 0, 9, .inl (upd (upd (upd (upd (upd (upd (upd (upd (fun _ => 0) 0 0) 1 (-1)) 2 0) 3 0) 4 2) 5 1) 6 0) 7 0))))) rup_up d_Told_lorry_45 ?_
  refine r_dup X d_Told_lorry_46 rfl ?_
  refine r_bipush X 8 d_Told_lorry_47 (by decide) ?_
  refine r_iconst X 0 d_Told_lorry_49 (by decide) ?_
  refine r_iast X 0 rup_self rfl (by unfold vp_in; decide +kernel) (congrArg (fun q9 => upd _ q9 _) (by decide +kernel : (8 : Int32).toNatClampNeg = 8)) (va_up c 3 (some (.inl (cy 0, 9, .inl (upd (upd (upd (upd (upd (upd (upd (upd (upd (fun _ => 0) 0 0) 1 (-1)) 2 0) 3 0) 4 2) 5 1) 6 0) 7 0) 8 0))))) rup_up d_Told_lorry_50 ?_
  refine r_astore_n X [(2, .ref (a_1 3)), (0, .ref (a_1 0)), (1, .int 1)] d_Told_lorry_51 rfl (by decide) rfl ?_
  refine r_aload_n X 1 d_Told_lorry_52 rfl rfl ?_
  refine r_get X k_Told 6 (by decide) f_Told_29 rfl (rup_ne (by omega) (hb_1_0)) rfl d_Told_lorry_53 ?_
  refine r_aload_n X 1 d_Told_lorry_56 rfl rfl ?_
  refine r_dup X d_Told_lorry_57 rfl ?_
  refine r_get X k_Told 9 (by decide) f_Told_66 rfl (rup_ne (by omega) (hb_1_0)) rfl d_Told_lorry_58 ?_
  refine r_dup_x1 X d_Told_lorry_61 rfl rfl ?_
  refine r_iconst X 1 d_Told_lorry_62 (by decide) ?_
  refine r_iadd X d_Told_lorry_63 ?_
  refine r_top (y := nI (sNl S + 1)) (nI_1 _) ?_
  refine r_put X k_Told 9 (by decide) f_Told_66 rfl (rup_ne (by omega) (hb_1_0)) rfl rfl rfl (Nat.le_of_ble_eq_true rfl) [.ref (a_1 64), .ref b9, .int (nI d), .ref (a_1 1), v4, v5, .ref (a_1 2), v7, .int (nI (sNr S)), .int (nI (sNl S + 1)), .int 0, .int ((sWe S).1), .int ((sWe S).2.1), .int ((sWe S).2.2.1), .int ((sWe S).2.2.2.1), .int ((sWe S).2.2.2.2), .int 100, .int 0, .int 0, .int 0, .int 0] rfl (va_up (va_up c 3 (some (.inl (cy 0, 9, .inl (upd (upd (upd (upd (upd (upd (upd (upd (upd (fun _ => 0) 0 0) 1 (-1)) 2 0) 3 0) 4 2) 5 1) 6 0) 7 0) 8 0))))) 0 (some (.inr (6, [.ref (a_1 64), .ref b9, .int (nI d), .ref (a_1 1), v4, v5, .ref (a_1 2), v7, .int (nI (sNr S)), .int (nI (sNl S + 1)), .int 0, .int ((sWe S).1), .int ((sWe S).2.1), .int ((sWe S).2.2.1), .int ((sWe S).2.2.2.1), .int ((sWe S).2.2.2.2), .int 100, .int 0, .int 0, .int 0, .int 0])))) rfl d_Told_lorry_64 ?_
  refine r_aload_n X 0 d_Told_lorry_67 rfl rfl ?_
  refine x_aastI X hN 6 0 (rup_ne (by omega) (rup_ne (by omega) (h2))) rfl (rup_ne (by omega) (rup_self)) rfl (vp_in_nI h3 (by decide)) rfl (va_up (va_up (va_up c 3 (some (.inl (cy 0, 9, .inl (upd (upd (upd (upd (upd (upd (upd (upd (upd (fun _ => 0) 0 0) 1 (-1)) 2 0) 3 0) 4 2) 5 1) 6 0) 7 0) 8 0))))) 0 (some (.inr (6, [.ref (a_1 64), .ref b9, .int (nI d), .ref (a_1 1), v4, v5, .ref (a_1 2), v7, .int (nI (sNr S)), .int (nI (sNl S + 1)), .int 0, .int ((sWe S).1), .int ((sWe S).2.1), .int ((sWe S).2.2.1), .int ((sWe S).2.2.2.1), .int ((sWe S).2.2.2.2), .int 100, .int 0, .int 0, .int 0, .int 0])))) 2 (some (.inl (cy 6, 3, .inr (.inr (.inr (.inr (va_up g2 (nI (sNl S)).toNatClampNeg (some (a_1 3)))))))))) rfl d_Told_lorry_68 ?_
  refine r_aload_n X 1 d_Told_lorry_69 rfl rfl ?_
  refine r_get X k_Told 0 (by decide) f_Told_10 rfl (rup_ne (by omega) (rup_self)) rfl d_Told_lorry_70 ?_
  refine r_iload_n X 2 d_Told_lorry_73 rfl rfl ?_
  have hC1 : shC 64 (va_up (va_up (va_up c 3 (some (.inl (cy 0, 9, .inl (upd (upd (upd (upd (upd (upd (upd (upd (upd (fun _ => 0) 0 0) 1 (-1)) 2 0) 3 0) 4 2) 5 1) 6 0) 7 0) 8 0))))) 0 (some (.inr (6, [.ref (a_1 64), .ref b9, .int (nI d), .ref (a_1 1), v4, v5, .ref (a_1 2), v7, .int (nI (sNr S)), .int (nI (sNl S + 1)), .int 0, .int ((sWe S).1), .int ((sWe S).2.1), .int ((sWe S).2.2.1), .int ((sWe S).2.2.2.1), .int ((sWe S).2.2.2.2), .int 100, .int 0, .int 0, .int 0, .int 0])))) 2 (some (.inl (cy 6, 3, .inr (.inr (.inr (.inr (va_up g2 (nI (sNl S)).toNatClampNeg (some (a_1 3)))))))))) = cont cy (shA 64 a_1) S J := (shC_congr (fun k k1 k2 => by rw [va_up_ne _ _ (by omega)]; rw [va_up_ne _ _ (by omega)]; rw [va_up_ne _ _ (by omega)])).trans (hC.trans (ct_same hS.1 hS.2.1 (fun k hk => (ha_1 (64 + k) (by omega)))).symm)
  have h64 := ct_obj hC1
  refine r_Vi X W0_good hN (As := [.int 1]) (ct_m 64 (S' := addL S (lo0 1) (fun _ => 0)) hS.1 h3 hC1 (c_G_lorry l D cy (shA 64 a_1) S J hS h3 1 (Or.inr rfl)) (fun r a c' h => ⟨h.1, h.2.1 0 (by omega) (by omega), _, h.2.2⟩)) yv_G_lorry m_Told_69 h64 k_G.2.1 rfl rfl rfl ⟨by decide, by decide⟩ (Nat.le_of_ble_eq_true rfl) ⟨by decide, by decide⟩ d_Told_lorry_74 (fun r9 ad9 c9 hp9 => ?_)
  obtain ⟨rfl, h649, hf, J1, hC2⟩ := hp9
  have h09 : c9 0 = some (.inr (6, [.ref (ad9 64), .ref b9, .int (nI d), .ref (ad9 1), v4, v5, .ref (ad9 2), v7, .int (nI (sNr S)), .int (nI (sNl S + 1)), .int 0, .int ((sWe S).1), .int ((sWe S).2.1), .int ((sWe S).2.2.1), .int ((sWe S).2.2.2.1), .int ((sWe S).2.2.2.2), .int 100, .int 0, .int 0, .int 0, .int 0])) := by rw [(hf 0 (Or.inl (by decide))).2, h649, (hf 1 (Or.inl (by decide))).1, (hf 2 (Or.inl (by decide))).1]; exact rup_ne (by omega) (rup_self)
  have h19 : ∃ f9, c9 1 = some (qE (cy 6) 8 f9) := ⟨_, (hf 1 (Or.inl (by decide))).2.trans (rup_ne (by omega) (rup_ne (by omega) (rup_ne (by omega) (h1))))⟩
  have h29 : ∃ f9, c9 2 = some (qE (cy 6) 3 f9) := ⟨_, (hf 2 (Or.inl (by decide))).2.trans (rup_self)⟩
  have hz9 : ∀ k, 4 ≤ k → k < 64 → c9 k = none := fun k k1 k2 => (hf k (Or.inl k2)).2.trans (by rw [va_up_ne _ _ (by omega)]; rw [va_up_ne _ _ (by omega)]; rw [va_up_ne _ _ (by omega)]; have := hz k (by omega) k2; rwa [Nat.zero_add] at this)
  refine r_show c9 [(2, .ref (ad9 3)), (0, .ref (ad9 0)), (1, .int 1)] [.int (nI (sNl S))] rfl (by rw [(hf 3 (Or.inl (by decide))).1, (hf 0 (Or.inl (by decide))).1]) rfl ?_
  refine r_aload_n X 1 d_Told_lorry_77 rfl rfl ?_
  refine r_get X k_Told 9 (by decide) f_Told_66 rfl h09 rfl d_Told_lorry_78 ?_
  refine r_iconst X 1 d_Told_lorry_81 (by decide) ?_
  refine r_isub X d_Told_lorry_82 ?_
  refine r_top (y := nI (sNl S)) (nI_pred _) ?_
  refine r_icmp_ne X 90 d_Told_lorry_83 (by decide) (fun h9 => absurd rfl h9) (fun _ => ?_)
  refine r_iconst X 1 d_Told_lorry_86 (by decide) ?_
  refine r_goto X 91 d_Told_lorry_87 (by decide) ?_
  refine r_drop ad9 (va_up c9 3 none) (fun n9 x9 hn9 => by
    by_cases h9 : n9 = 3
    · subst h9; rw [va_up_self] at hn9; cases hn9
    · rw [va_up_ne _ _ h9] at hn9; exact ⟨hn9, rfl⟩) ?_
  exact r_zret (post := fun r9 ad' c' => 1 = r9 ∧ (ad' 0 = ad 0 ∧ ad' 64 = ad 64) ∧ TB cy b9 (addL S (lo0 1) (fun _ => 0)) (nI d) 0 ad' c') X hr hlk rfl d_Told_lorry_91 (by decide) (by decide) ⟨rfl, ⟨(hf 0 (Or.inl (by decide))).1.trans (ha_1 0 (by decide)), h649.trans (ha_1 64 (by decide))⟩, ⟨v4, v5, v7, (va_up_ne _ _ (by decide)).trans h09⟩, (let ⟨f9, h9⟩ := h19; ⟨f9, (va_up_ne _ _ (by decide)).trans h9⟩), (let ⟨f9, h9⟩ := h29; ⟨f9, (va_up_ne _ _ (by decide)).trans h9⟩), (fun k k1 k2 => by rw [Nat.zero_add]; exact (if h3 : k = 3 then (by subst h3; exact va_up_self _ _ _) else ((va_up_ne _ _ h3).trans (hz9 k (by omega) k2)))), J1, (shC_congr (fun k k1 k2 => va_up_ne _ _ (by omega))).trans hC2⟩
set_option maxRecDepth 100000 in
set_option maxHeartbeats 4000000 in
theorem c_Told_road (l : Launch) (D : va_G) (cy : Nat → ClassId) (b9 : Nat) (ad : Nat → Nat) (c : rC) (S : cS) (d : Nat) (hS : wfS S) (h8 : sNr S < 8) (one oth len ran hei sha bri : Int32) (q1 : inF one 0 6 = 1) (q2 : inF oth 0 6 = 1) (hne : ¬ one = oth) (q4 : inF len 1 6 = 1) (q5 : inF ran 0 2 = 1) (q6 : inF hei 0 9 = 1) (q7 : inF sha 0 2 = 1) (hzz : bri = 0 ∨ bri = 1) (hT : TB cy b9 S (nI d) 0 ad c) : rMi l D cls (TY cy) NW y_Told_road (Cond.code y_Told_road b_Told_road 9 rt_Told_road :: W0) { frames := 7, cells := 5, slots := 435, locals := 118 } [.ref (ad 0), .int one, .int oth, .int len, .int ran, .int hei, .int sha, .int bri] ad c (fun r9 ad' c' => 1 = r9 ∧ (ad' 0 = ad 0 ∧ ad' 64 = ad 64) ∧ TB cy b9 (addR S (rc0 one oth len ran hei sha bri) sf0 (fun _ => 0) (fun _ => 0)) (nI d) 0 ad' c') := by
  intro sz
  refine r_of (own := R_Told) rfl (by decide +kernel) (Nat.le_of_ble_eq_true rfl) ?_
  intro p e s m below meth cd hsz X hr hlk hN hin
  refine r_lv [0, 1, 2, 3, 4, 5, 6, 7] [(0, .ref (ad 0)), (1, .int one), (2, .int oth), (3, .int len), (4, .int ran), (5, .int hei), (6, .int sha), (7, .int bri)] rfl ?_
  obtain ⟨⟨v4, v5, v7, h0⟩, ⟨g1, h1⟩, ⟨g2, h2⟩, hz, J, hC⟩ := id hT
  have h0 : c 0 = some (.inr (6, [.ref (ad 64), .ref b9, .int (nI d), .ref (ad 1), v4, v5, .ref (ad 2), v7, .int (nI (sNr S)), .int (nI (sNl S)), .int 0, .int ((sWe S).1), .int ((sWe S).2.1), .int ((sWe S).2.2.1), .int ((sWe S).2.2.2.1), .int ((sWe S).2.2.2.2), .int 100, .int 0, .int 0, .int 0, .int 0])) := h0
  have h1 : c 1 = some (qE (cy 6) 8 g1) := h1
  have h2 : c 2 = some (qE (cy 6) 3 g2) := h2
  have hC : shC 64 c = cont cy (shA 64 ad) S J := hC
  have h64 := ct_obj hC
  have hz3 : c 3 = none := hz 3 (by decide) (by decide)
  refine r_bipush X 15 d_Told_road_0 (by decide) ?_
  refine r_newa (ty := .int) (N := 15) X 0 rfl rfl rfl (fun q9 => q9) a_int (by decide) (by decide) (by decide) (Nat.le_of_ble_eq_true rfl) (Nat.le_of_ble_eq_true rfl) d_Told_road_2 3 hz3 (fun a9 => [(0, .ref (a9 0)), (1, .int one), (2, .int oth), (3, .int len), (4, .int ran), (5, .int hei), (6, .int sha), (7, .int bri)]) (fun a9 => []) (fun a9 h9 => by rw [h9 0 (by decide)]) (fun _ _ => rfl) (fun a_1 ha_1 => ?_)
  have hb_1_0 : c 0 = some (.inr (6, [.ref (a_1 64), .ref b9, .int (nI d), .ref (a_1 1), v4, v5, .ref (a_1 2), v7, .int (nI (sNr S)), .int (nI (sNl S)), .int 0, .int ((sWe S).1), .int ((sWe S).2.1), .int ((sWe S).2.2.1), .int ((sWe S).2.2.2.1), .int ((sWe S).2.2.2.2), .int 100, .int 0, .int 0, .int 0, .int 0])) := by rw [ha_1 64 (by decide), ha_1 1 (by decide), ha_1 2 (by decide)]; exact h0
  refine r_dup X d_Told_road_4 rfl ?_
  refine r_iconst X 0 d_Told_road_5 (by decide) ?_
  refine r_iload_n X 1 d_Told_road_6 rfl rfl ?_
  refine r_iast X 0 rup_self rfl (by unfold vp_in; decide +kernel) (congrArg (fun q9 => upd _ q9 _) (by decide +kernel : (0 : Int32).toNatClampNeg = 0)) (va_up c 3 (some (.inl (cy 0, 15, .inl (upd (fun _ => 0) 0 one))))) rup_up d_Told_road_7 ?_
  refine r_dup X d_Told_road_8 rfl ?_
  refine r_iconst X 1 d_Told_road_9 (by decide) ?_
  refine r_iload_n X 2 d_Told_road_10 rfl rfl ?_
  refine r_iast X 0 rup_self rfl (by unfold vp_in; decide +kernel) (congrArg (fun q9 => upd _ q9 _) (by decide +kernel : (1 : Int32).toNatClampNeg = 1)) (va_up c 3 (some (.inl (cy 0, 15, .inl (upd (upd (fun _ => 0) 0 one) 1 oth))))) rup_up d_Told_road_11 ?_
  refine r_dup X d_Told_road_12 rfl ?_
  refine r_iconst X 2 d_Told_road_13 (by decide) ?_
  refine r_iload_n X 3 d_Told_road_14 rfl rfl ?_
  refine r_iast X 0 rup_self rfl (by unfold vp_in; decide +kernel) (congrArg (fun q9 => upd _ q9 _) (by decide +kernel : (2 : Int32).toNatClampNeg = 2)) (va_up c 3 (some (.inl (cy 0, 15, .inl (upd (upd (upd (fun _ => 0) 0 one) 1 oth) 2 len))))) rup_up d_Told_road_15 ?_
  refine r_dup X d_Told_road_16 rfl ?_
  refine r_iconst X 3 d_Told_road_17 (by decide) ?_
  refine r_iload X 4 d_Told_road_18 rfl ?_
  refine r_iast X 0 rup_self rfl (by unfold vp_in; decide +kernel) (congrArg (fun q9 => upd _ q9 _) (by decide +kernel : (3 : Int32).toNatClampNeg = 3)) (va_up c 3 (some (.inl (cy 0, 15, .inl (upd (upd (upd (upd (fun _ => 0) 0 one) 1 oth) 2 len) 3 ran))))) rup_up d_Told_road_20 ?_
  refine r_dup X d_Told_road_21 rfl ?_
  refine r_iconst X 4 d_Told_road_22 (by decide) ?_
  refine r_iload X 5 d_Told_road_23 rfl ?_
  refine r_iast X 0 rup_self rfl (by unfold vp_in; decide +kernel) (congrArg (fun q9 => upd _ q9 _) (by decide +kernel : (4 : Int32).toNatClampNeg = 4)) (va_up c 3 (some (.inl (cy 0, 15, .inl (upd (upd (upd (upd (upd (fun _ => 0) 0 one) 1 oth) 2 len) 3 ran) 4 hei))))) rup_up d_Told_road_25 ?_
  refine r_dup X d_Told_road_26 rfl ?_
  refine r_iconst X 5 d_Told_road_27 (by decide) ?_
  refine r_iload X 6 d_Told_road_28 rfl ?_
  refine r_iast X 0 rup_self rfl (by unfold vp_in; decide +kernel) (congrArg (fun q9 => upd _ q9 _) (by decide +kernel : (5 : Int32).toNatClampNeg = 5)) (va_up c 3 (some (.inl (cy 0, 15, .inl (upd (upd (upd (upd (upd (upd (fun _ => 0) 0 one) 1 oth) 2 len) 3 ran) 4 hei) 5 sha))))) rup_up d_Told_road_30 ?_
  refine r_dup X d_Told_road_31 rfl ?_
  refine r_bipush X 6 d_Told_road_32 (by decide) ?_
  refine r_iload X 7 d_Told_road_34 rfl ?_
  refine r_cut (fun u9 : Int32 => u9 = (if bri = 0 then 0 else 1)) (fun _ => va_up c 3 (some (.inl (cy 0, 15, .inl (upd (upd (upd (upd (upd (upd (fun _ => 0) 0 one) 1 oth) 2 len) 3 ran) 4 hei) 5 sha))))) 44 (fun _ => [(0, .ref (a_1 0)), (1, .int one), (2, .int oth), (3, .int len), (4, .int ran), (5, .int hei), (6, .int sha), (7, .int bri)]) (fun u9 => [.int u9, .int 6, .ref (a_1 3), .ref (a_1 3)]) (fun J9 => ?_) (fun t_2 ht_2 => ?_)
  · refine r_if_eq X 43 d_Told_road_36 (by decide) (fun h9 => ?_) (fun h9 => ?_)
    · refine r_iconst X 0 d_Told_road_43 (by decide) ?_
      exact J9 _ (if_pos h9).symm
    · refine r_iconst X 1 d_Told_road_39 (by decide) ?_
      refine r_goto X 44 d_Told_road_40 (by decide) ?_
      exact J9 _ (if_neg h9).symm
  subst ht_2
  refine r_iast X 0 rup_self rfl (by unfold vp_in; decide +kernel) (congrArg (fun q9 => upd _ q9 _) (by decide +kernel : (6 : Int32).toNatClampNeg = 6)) (va_up c 3 (some (.inl (cy 0, 15, .inl (upd (upd (upd (upd (upd (upd (upd (fun _ => 0) 0 one) 1 oth) 2 len) 3 ran) 4 hei) 5 sha) 6 (if bri = 0 then 0 else 1)))))) rup_up d_Told_road_44 ?_
  refine r_dup X d_Told_road_45 rfl ?_
  refine r_bipush X 7 d_Told_road_46 (by decide) ?_
  refine r_iconst X 3 d_Told_road_48 (by decide) ?_
  refine r_iast X 0 rup_self rfl (by unfold vp_in; decide +kernel) (congrArg (fun q9 => upd _ q9 _) (by decide +kernel : (7 : Int32).toNatClampNeg = 7)) (va_up c 3 (some (.inl (cy 0, 15, .inl (upd (upd (upd (upd (upd (upd (upd (upd (fun _ => 0) 0 one) 1 oth) 2 len) 3 ran) 4 hei) 5 sha) 6 (if bri = 0 then 0 else 1)) 7 3))))) rup_up d_Told_road_49 ?_
  refine r_dup X d_Told_road_50 rfl ?_
  refine r_bipush X 8 d_Told_road_51 (by decide) ?_
  refine r_iconst X 0 d_Told_road_53 (by decide) ?_
  refine r_iast X 0 rup_self rfl (by unfold vp_in; decide +kernel) (congrArg (fun q9 => upd _ q9 _) (by decide +kernel : (8 : Int32).toNatClampNeg = 8)) (va_up c 3 (some (.inl (cy 0, 15, .inl (upd (upd (upd (upd (upd (upd (upd (upd (upd (fun _ => 0) 0 one) 1 oth) 2 len) 3 ran) 4 hei) 5 sha) 6 (if bri = 0 then 0 else 1)) 7 3) 8 0))))) rup_up d_Told_road_54 ?_
  refine r_dup X d_Told_road_55 rfl ?_
  refine r_bipush X 9 d_Told_road_56 (by decide) ?_
  refine r_iconst X 0 d_Told_road_58 (by decide) ?_
  refine r_iast X 0 rup_self rfl (by unfold vp_in; decide +kernel) (congrArg (fun q9 => upd _ q9 _) (by decide +kernel : (9 : Int32).toNatClampNeg = 9)) (va_up c 3 (some (.inl (cy 0, 15, .inl (upd (upd (upd (upd (upd (upd (upd (upd (upd (upd (fun _ => 0) 0 one) 1 oth) 2 len) 3 ran) 4 hei) 5 sha) 6 (if bri = 0 then 0 else 1)) 7 3) 8 0) 9 0))))) rup_up d_Told_road_59 ?_
  refine r_dup X d_Told_road_60 rfl ?_
  refine r_bipush X 10 d_Told_road_61 (by decide) ?_
  refine r_iconst X 0 d_Told_road_63 (by decide) ?_
  refine r_iast X 0 rup_self rfl (by unfold vp_in; decide +kernel) (congrArg (fun q9 => upd _ q9 _) (by decide +kernel : (10 : Int32).toNatClampNeg = 10)) (va_up c 3 (some (.inl (cy 0, 15, .inl (upd (upd (upd (upd (upd (upd (upd (upd (upd (upd (upd (fun _ => 0) 0 one) 1 oth) 2 len) 3 ran) 4 hei) 5 sha) 6 (if bri = 0 then 0 else 1)) 7 3) 8 0) 9 0) 10 0))))) rup_up d_Told_road_64 ?_
  refine r_dup X d_Told_road_65 rfl ?_
  refine r_bipush X 11 d_Told_road_66 (by decide) ?_
  refine r_iconst X 0 d_Told_road_68 (by decide) ?_
  refine r_iast X 0 rup_self rfl (by unfold vp_in; decide +kernel) (congrArg (fun q9 => upd _ q9 _) (by decide +kernel : (11 : Int32).toNatClampNeg = 11)) (va_up c 3 (some (.inl (cy 0, 15, .inl (upd (upd (upd (upd (upd (upd (upd (upd (upd (upd (upd (upd (fun _ => 0) 0 one) 1 oth) 2 len) 3 ran) 4 hei) 5 sha) 6 (if bri = 0 then 0 else 1)) 7 3) 8 0) 9 0) 10 0) 11 0))))) rup_up d_Told_road_69 ?_
  refine r_dup X d_Told_road_70 rfl ?_
  refine r_bipush X 12 d_Told_road_71 (by decide) ?_
  refine r_iconst X 0 d_Told_road_73 (by decide) ?_
  refine r_iast X 0 rup_self rfl (by unfold vp_in; decide +kernel) (congrArg (fun q9 => upd _ q9 _) (by decide +kernel : (12 : Int32).toNatClampNeg = 12)) (va_up c 3 (some (.inl (cy 0, 15, .inl (upd (upd (upd (upd (upd (upd (upd (upd (upd (upd (upd (upd (upd (fun _ => 0) 0 one) 1 oth) 2 len) 3 ran) 4 hei) 5 sha) 6 (if bri = 0 then 0 else 1)) 7 3) 8 0) 9 0) 10 0) 11 0) 12 0))))) rup_up d_Told_road_74 ?_
  refine r_dup X d_Told_road_75 rfl ?_
  refine r_bipush X 13 d_Told_road_76 (by decide) ?_
  refine r_iconst X 0 d_Told_road_78 (by decide) ?_
  refine r_iast X 0 rup_self rfl (by unfold vp_in; decide +kernel) (congrArg (fun q9 => upd _ q9 _) (by decide +kernel : (13 : Int32).toNatClampNeg = 13)) (va_up c 3 (some (.inl (cy 0, 15, .inl (upd (upd (upd (upd (upd (upd (upd (upd (upd (upd (upd (upd (upd (upd (fun _ => 0) 0 one) 1 oth) 2 len) 3 ran) 4 hei) 5 sha) 6 (if bri = 0 then 0 else 1)) 7 3) 8 0) 9 0) 10 0) 11 0) 12 0) 13 0))))) rup_up d_Told_road_79 ?_
  refine r_dup X d_Told_road_80 rfl ?_
  refine r_bipush X 14 d_Told_road_81 (by decide) ?_
  refine r_iconst X (-1) d_Told_road_83 (by decide) ?_
  refine r_iast X 0 rup_self rfl (by unfold vp_in; decide +kernel) (congrArg (fun q9 => upd _ q9 _) (by decide +kernel : (14 : Int32).toNatClampNeg = 14)) (va_up c 3 (some (.inl (cy 0, 15, .inl (upd (upd (upd (upd (upd (upd (upd (upd (upd (upd (upd (upd (upd (upd (upd (fun _ => 0) 0 one) 1 oth) 2 len) 3 ran) 4 hei) 5 sha) 6 (if bri = 0 then 0 else 1)) 7 3) 8 0) 9 0) 10 0) 11 0) 12 0) 13 0) 14 (-1)))))) rup_up d_Told_road_84 ?_
  refine r_astore X [(8, .ref (a_1 3)), (0, .ref (a_1 0)), (1, .int one), (2, .int oth), (3, .int len), (4, .int ran), (5, .int hei), (6, .int sha), (7, .int bri)] d_Told_road_85 (by decide) rfl ?_
  refine r_aload_n X 1 d_Told_road_87 rfl rfl ?_
  refine r_get X k_Told 3 (by decide) f_Told_18 rfl (rup_ne (by omega) (hb_1_0)) rfl d_Told_road_88 ?_
  refine r_aload_n X 1 d_Told_road_91 rfl rfl ?_
  refine r_dup X d_Told_road_92 rfl ?_
  refine r_get X k_Told 8 (by decide) f_Told_59 rfl (rup_ne (by omega) (hb_1_0)) rfl d_Told_road_93 ?_
  refine r_dup_x1 X d_Told_road_96 rfl rfl ?_
  refine r_iconst X 1 d_Told_road_97 (by decide) ?_
  refine r_iadd X d_Told_road_98 ?_
  refine r_top (y := nI (sNr S + 1)) (nI_1 _) ?_
  refine r_put X k_Told 8 (by decide) f_Told_59 rfl (rup_ne (by omega) (hb_1_0)) rfl rfl rfl (Nat.le_of_ble_eq_true rfl) [.ref (a_1 64), .ref b9, .int (nI d), .ref (a_1 1), v4, v5, .ref (a_1 2), v7, .int (nI (sNr S + 1)), .int (nI (sNl S)), .int 0, .int ((sWe S).1), .int ((sWe S).2.1), .int ((sWe S).2.2.1), .int ((sWe S).2.2.2.1), .int ((sWe S).2.2.2.2), .int 100, .int 0, .int 0, .int 0, .int 0] rfl (va_up (va_up c 3 (some (.inl (cy 0, 15, .inl (upd (upd (upd (upd (upd (upd (upd (upd (upd (upd (upd (upd (upd (upd (upd (fun _ => 0) 0 one) 1 oth) 2 len) 3 ran) 4 hei) 5 sha) 6 (if bri = 0 then 0 else 1)) 7 3) 8 0) 9 0) 10 0) 11 0) 12 0) 13 0) 14 (-1)))))) 0 (some (.inr (6, [.ref (a_1 64), .ref b9, .int (nI d), .ref (a_1 1), v4, v5, .ref (a_1 2), v7, .int (nI (sNr S + 1)), .int (nI (sNl S)), .int 0, .int ((sWe S).1), .int ((sWe S).2.1), .int ((sWe S).2.2.1), .int ((sWe S).2.2.2.1), .int ((sWe S).2.2.2.2), .int 100, .int 0, .int 0, .int 0, .int 0])))) rfl d_Told_road_99 ?_
  refine r_aload X 0 d_Told_road_102 rfl ?_
  refine x_aastI X hN 6 0 (rup_ne (by omega) (rup_ne (by omega) (h1))) rfl (rup_ne (by omega) (rup_self)) rfl (vp_in_nI h8 (by decide)) rfl (va_up (va_up (va_up c 3 (some (.inl (cy 0, 15, .inl (upd (upd (upd (upd (upd (upd (upd (upd (upd (upd (upd (upd (upd (upd (upd (fun _ => 0) 0 one) 1 oth) 2 len) 3 ran) 4 hei) 5 sha) 6 (if bri = 0 then 0 else 1)) 7 3) 8 0) 9 0) 10 0) 11 0) 12 0) 13 0) 14 (-1)))))) 0 (some (.inr (6, [.ref (a_1 64), .ref b9, .int (nI d), .ref (a_1 1), v4, v5, .ref (a_1 2), v7, .int (nI (sNr S + 1)), .int (nI (sNl S)), .int 0, .int ((sWe S).1), .int ((sWe S).2.1), .int ((sWe S).2.2.1), .int ((sWe S).2.2.2.1), .int ((sWe S).2.2.2.2), .int 100, .int 0, .int 0, .int 0, .int 0])))) 1 (some (.inl (cy 6, 8, .inr (.inr (.inr (.inr (va_up g1 (nI (sNr S)).toNatClampNeg (some (a_1 3)))))))))) rfl d_Told_road_104 ?_
  refine r_aload_n X 1 d_Told_road_105 rfl rfl ?_
  refine r_get X k_Told 0 (by decide) f_Told_10 rfl (rup_ne (by omega) (rup_self)) rfl d_Told_road_106 ?_
  refine r_iload_n X 2 d_Told_road_109 rfl rfl ?_
  refine r_iload_n X 3 d_Told_road_110 rfl rfl ?_
  refine r_iload_n X 4 d_Told_road_111 rfl rfl ?_
  refine r_iload X 5 d_Told_road_112 rfl ?_
  refine r_iload X 6 d_Told_road_114 rfl ?_
  refine r_iload X 7 d_Told_road_116 rfl ?_
  refine r_iload X 8 d_Told_road_118 rfl ?_
  have hC1 : shC 64 (va_up (va_up (va_up c 3 (some (.inl (cy 0, 15, .inl (upd (upd (upd (upd (upd (upd (upd (upd (upd (upd (upd (upd (upd (upd (upd (fun _ => 0) 0 one) 1 oth) 2 len) 3 ran) 4 hei) 5 sha) 6 (if bri = 0 then 0 else 1)) 7 3) 8 0) 9 0) 10 0) 11 0) 12 0) 13 0) 14 (-1)))))) 0 (some (.inr (6, [.ref (a_1 64), .ref b9, .int (nI d), .ref (a_1 1), v4, v5, .ref (a_1 2), v7, .int (nI (sNr S + 1)), .int (nI (sNl S)), .int 0, .int ((sWe S).1), .int ((sWe S).2.1), .int ((sWe S).2.2.1), .int ((sWe S).2.2.2.1), .int ((sWe S).2.2.2.2), .int 100, .int 0, .int 0, .int 0, .int 0])))) 1 (some (.inl (cy 6, 8, .inr (.inr (.inr (.inr (va_up g1 (nI (sNr S)).toNatClampNeg (some (a_1 3)))))))))) = cont cy (shA 64 a_1) S J := (shC_congr (fun k k1 k2 => by rw [va_up_ne _ _ (by omega)]; rw [va_up_ne _ _ (by omega)]; rw [va_up_ne _ _ (by omega)])).trans (hC.trans (ct_same hS.1 hS.2.1 (fun k hk => (ha_1 (64 + k) (by omega)))).symm)
  have h64 := ct_obj hC1
  refine r_Vi X W0_good hN (As := [.int one, .int oth, .int len, .int ran, .int hei, .int sha, .int bri]) (ct_m 64 (S' := addR S (rc0 one oth len ran hei sha bri) sf0 (fun _ => 0) (fun _ => 0)) h8 hS.2.1 hC1 (c_G_road l D cy (shA 64 a_1) S J hS h8 one oth len ran hei sha bri q1 q2 hne q4 q5 q6 q7 hzz) (fun r a c' h => ⟨h.1, h.2.1 0 (by omega), _, h.2.2⟩)) yv_G_road m_Told_62 h64 k_G.2.1 rfl rfl rfl ⟨by decide, by decide⟩ (Nat.le_of_ble_eq_true rfl) ⟨by decide, by decide⟩ d_Told_road_120 (fun r9 ad9 c9 hp9 => ?_)
  obtain ⟨rfl, h649, hf, J1, hC2⟩ := hp9
  have h09 : c9 0 = some (.inr (6, [.ref (ad9 64), .ref b9, .int (nI d), .ref (ad9 1), v4, v5, .ref (ad9 2), v7, .int (nI (sNr S + 1)), .int (nI (sNl S)), .int 0, .int ((sWe S).1), .int ((sWe S).2.1), .int ((sWe S).2.2.1), .int ((sWe S).2.2.2.1), .int ((sWe S).2.2.2.2), .int 100, .int 0, .int 0, .int 0, .int 0])) := by rw [(hf 0 (Or.inl (by decide))).2, h649, (hf 1 (Or.inl (by decide))).1, (hf 2 (Or.inl (by decide))).1]; exact rup_ne (by omega) (rup_self)
  have h19 : ∃ f9, c9 1 = some (qE (cy 6) 8 f9) := ⟨_, (hf 1 (Or.inl (by decide))).2.trans (rup_self)⟩
  have h29 : ∃ f9, c9 2 = some (qE (cy 6) 3 f9) := ⟨_, (hf 2 (Or.inl (by decide))).2.trans (rup_ne (by omega) (rup_ne (by omega) (rup_ne (by omega) (h2))))⟩
  have hz9 : ∀ k, 4 ≤ k → k < 64 → c9 k = none := fun k k1 k2 => (hf k (Or.inl k2)).2.trans (by rw [va_up_ne _ _ (by omega)]; rw [va_up_ne _ _ (by omega)]; rw [va_up_ne _ _ (by omega)]; have := hz k (by omega) k2; rwa [Nat.zero_add] at this)
  refine r_show c9 [(8, .ref (ad9 3)), (0, .ref (ad9 0)), (1, .int one), (2, .int oth), (3, .int len), (4, .int ran), (5, .int hei), (6, .int sha), (7, .int bri)] [.int (nI (sNr S))] rfl (by rw [(hf 3 (Or.inl (by decide))).1, (hf 0 (Or.inl (by decide))).1]) rfl ?_
  refine r_aload_n X 1 d_Told_road_123 rfl rfl ?_
  refine r_get X k_Told 8 (by decide) f_Told_59 rfl h09 rfl d_Told_road_124 ?_
  refine r_iconst X 1 d_Told_road_127 (by decide) ?_
  refine r_isub X d_Told_road_128 ?_
  refine r_top (y := nI (sNr S)) (nI_pred _) ?_
  refine r_icmp_ne X 136 d_Told_road_129 (by decide) (fun h9 => absurd rfl h9) (fun _ => ?_)
  refine r_iconst X 1 d_Told_road_132 (by decide) ?_
  refine r_goto X 137 d_Told_road_133 (by decide) ?_
  refine r_drop ad9 (va_up c9 3 none) (fun n9 x9 hn9 => by
    by_cases h9 : n9 = 3
    · subst h9; rw [va_up_self] at hn9; cases hn9
    · rw [va_up_ne _ _ h9] at hn9; exact ⟨hn9, rfl⟩) ?_
  exact r_zret (post := fun r9 ad' c' => 1 = r9 ∧ (ad' 0 = ad 0 ∧ ad' 64 = ad 64) ∧ TB cy b9 (addR S (rc0 one oth len ran hei sha bri) sf0 (fun _ => 0) (fun _ => 0)) (nI d) 0 ad' c') X hr hlk rfl d_Told_road_137 (by decide) (by decide) ⟨rfl, ⟨(hf 0 (Or.inl (by decide))).1.trans (ha_1 0 (by decide)), h649.trans (ha_1 64 (by decide))⟩, ⟨v4, v5, v7, (va_up_ne _ _ (by decide)).trans h09⟩, (let ⟨f9, h9⟩ := h19; ⟨f9, (va_up_ne _ _ (by decide)).trans h9⟩), (let ⟨f9, h9⟩ := h29; ⟨f9, (va_up_ne _ _ (by decide)).trans h9⟩), (fun k k1 k2 => by rw [Nat.zero_add]; exact (if h3 : k = 3 then (by subst h3; exact va_up_self _ _ _) else ((va_up_ne _ _ h3).trans (hz9 k (by omega) k2)))), J1, (shC_congr (fun k k1 k2 => va_up_ne _ _ (by omega))).trans hC2⟩
theorem sh_made {e : va_E} {c : rC} (h : ∀ k, 64 ≤ k → k < 128 → c k = none) : shC 64 (va_up c 64 (some e)) = va_up (fun _ => none) 0 (some e) := by
  funext k
  unfold shC
  by_cases h0 : k = 0
  · subst h0
    rw [if_pos (by decide), va_up_self, va_up_self]
  · rw [va_up_ne _ _ h0]
    by_cases hk : k < 64
    · rw [if_pos hk, va_up_ne _ _ (by omega)]
      exact h _ (by omega) (by omega)
    · rw [if_neg hk]
set_option maxRecDepth 100000 in
set_option maxHeartbeats 4000000 in
theorem c_Told_init (l : Launch) (D : va_G) (cy : Nat → ClassId) (b9 : Nat) (ad : Nat → Nat) (c : rC) (d : Int32) (h0 : c 0 = some (.inr (6, [.null, .null, .int 0, .null, .null, .null, .null, .null, .int 0, .int 0, .int 0, .int 0, .int 0, .int 0, .int 0, .int 0, .int 0, .int 0, .int 0, .int 0, .int 0]))) (hz : ∀ k, 0 < k → k < 128 → c k = none) : rMv l D cls (TY cy) NW y_Told_init (Cond.code y_Told_init b_Told_init 3 none :: W0) { frames := 3, cells := 48, slots := 5500, locals := 60 } [.ref (ad 0), .ref b9, .int d] ad c (fun ad' c' => ad' 0 = ad 0 ∧ TB cy b9 S00 d 0 ad' c') := by
  intro sz
  refine r_of (own := R_Told) rfl (by decide +kernel) (Nat.le_of_ble_eq_true rfl) ?_
  intro p e s m below meth cd hsz X hr hlk hN hin
  refine r_lv [0, 1, 2] [(0, .ref (ad 0)), (1, .ref b9), (2, .int d)] rfl ?_
  have h0 : c 0 = some (.inr (6, [.null, .null, .int 0, .null, .null, .null, .null, .null, .int 0, .int 0, .int 0, .int 0, .int 0, .int 0, .int 0, .int 0, .int 0, .int 0, .int 0, .int 0, .int 0])) := h0
  refine r_aload_n X 0 d_Told_init_0 rfl rfl ?_
  refine r_obj X m_Told_1 s_obj cd_obj ⟨by decide, by decide⟩ (Nat.le_of_ble_eq_true rfl) d_Told_init_1 ?_
  refine r_aload_n X 0 d_Told_init_4 rfl rfl ?_
  refine r_new X k_G c_Told_7 n_G i_G (fs := [.null, .null, .null, .null, .null, .null, .null, .null, .int 0, .int 0, .int 0, .int 0, .int 0, .int 0, .int 0, .int 0]) (by intro j hj; obtain rfl | rfl | rfl | rfl | rfl | rfl | rfl | rfl | rfl | rfl | rfl | rfl | rfl | rfl | rfl | rfl : j = 0 ∨ j = 1 ∨ j = 2 ∨ j = 3 ∨ j = 4 ∨ j = 5 ∨ j = 6 ∨ j = 7 ∨ j = 8 ∨ j = 9 ∨ j = 10 ∨ j = 11 ∨ j = 12 ∨ j = 13 ∨ j = 14 ∨ j = 15 := (by omega); all_goals rfl) (Nat.le_of_ble_eq_true rfl) (Nat.le_of_ble_eq_true rfl) d_Told_init_5 64 (hz 64 (by decide) (by decide)) (fun a9 => [(0, .ref (a9 0)), (1, .ref b9), (2, .int d)]) (fun a9 => [.ref (a9 0)]) (fun a9 h9 => by rw [h9 0 (by decide)]) (fun a9 h9 => by rw [h9 0 (by decide)]) (fun a_1 ha_1 => ?_)
  refine r_dup X d_Told_init_8 rfl ?_
  have hC0 : shC 64 (va_up c 64 (some (.inr (5, [.null, .null, .null, .null, .null, .null, .null, .null, .int 0, .int 0, .int 0, .int 0, .int 0, .int 0, .int 0, .int 0])))) = va_up (fun _ => none) 0 (some (.inr (5, [.null, .null, .null, .null, .null, .null, .null, .null, .int 0, .int 0, .int 0, .int 0, .int 0, .int 0, .int 0, .int 0]))) := sh_made (fun k k1 k2 => hz k (by omega) (by omega))
  refine r_Iv X W0_good hN (As := []) (sub_v 64 (by rw [hC0]; exact c_G_init l D cy (shA 64 a_1))) yi_G_init m_Told_9 rfl rfl ⟨by decide, by decide⟩ (Nat.le_of_ble_eq_true rfl) ⟨by decide, by decide⟩ d_Told_init_9 (fun ad9 c9 hp9 => ?_)
  obtain ⟨q1, q2, ⟨hg1, hg2⟩, e1, e2⟩ := hp9
  have had : ∀ k, k < 64 → ad9 k = a_1 k := fun k hk => by rw [e1]; exact jnA_out (Or.inl hk)
  have h649 : ad9 64 = a_1 64 := by rw [e1]; exact (jnA_in (k := 0) (by decide)).trans (hg1 0 (Or.inl rfl))
  have hC9 : shC 64 c9 = cont cy (shA 64 ad9) S00 J00 := by rw [e2, jn_in hg2]; refine (ct_same (by decide) (by decide) (fun k hk => ?_)).symm; rw [e1]; exact jnA_in hk
  have hcf : ∀ k, k < 64 → c9 k = c k := fun k hk => by rw [e2, jn_out (Or.inl hk), va_up_ne _ _ (by omega)]
  clear e1 e2 hg1 hg2 q1 q2
  have h09 : c9 0 = some (.inr (6, [.null, .null, .int 0, .null, .null, .null, .null, .null, .int 0, .int 0, .int 0, .int 0, .int 0, .int 0, .int 0, .int 0, .int 0, .int 0, .int 0, .int 0, .int 0])) := (hcf 0 (by decide)).trans h0
  refine r_show c9 [(0, .ref (ad9 0)), (1, .ref b9), (2, .int d)] [.ref (ad9 64), .ref (ad9 0)] rfl (by rw [had 0 (by decide)]) (by rw [h649, had 0 (by decide)]) ?_
  refine r_putF X k_Told 0 (by decide) f_Told_10 rfl h09 rfl rfl hin rfl rfl (Nat.le_of_ble_eq_true rfl) [.ref (ad9 64), .null, .int 0, .null, .null, .null, .null, .null, .int 0, .int 0, .int 0, .int 0, .int 0, .int 0, .int 0, .int 0, .int 0, .int 0, .int 0, .int 0, .int 0] rfl (va_up c9 0 (some (.inr (6, [.ref (ad9 64), .null, .int 0, .null, .null, .null, .null, .null, .int 0, .int 0, .int 0, .int 0, .int 0, .int 0, .int 0, .int 0, .int 0, .int 0, .int 0, .int 0, .int 0])))) rfl d_Told_init_12 ?_
  refine r_aload_n X 0 d_Told_init_15 rfl rfl ?_
  refine r_bipush X 8 d_Told_init_16 (by decide) ?_
  refine r_bipush X 15 d_Told_init_18 (by decide) ?_
  refine x_mnaI X hN 6 rfl c_Told_16 a_int (N := 8) (K := 15) (by decide) (by decide) (by decide) (by decide) (by decide) (by decide) (Nat.le_of_ble_eq_true rfl) (Nat.le_of_ble_eq_true rfl) d_Told_init_20 1 (rup_ne (by decide) ((hcf 1 (by decide)).trans (hz 1 (by decide) (by decide)))) (fun a9 => [(0, .ref (a9 0)), (1, .ref b9), (2, .int d)]) (fun a9 => [.ref (a9 0)]) (fun a9 h9 => by rw [h9 0 (by decide)]) (fun a9 h9 => by rw [h9 0 (by decide)]) (fun a_2 f_2 ha_2 => ?_)
  refine r_c (va_up (va_up c9 0 (some (.inr (6, [.ref (a_2 64), .null, .int 0, .null, .null, .null, .null, .null, .int 0, .int 0, .int 0, .int 0, .int 0, .int 0, .int 0, .int 0, .int 0, .int 0, .int 0, .int 0, .int 0])))) 1 (some (.inl (cy 6, 8, .inr (.inr (.inr (.inr f_2))))))) (by rw [ha_2 64 (by decide)]) ?_
  refine r_putF X k_Told 3 (by decide) f_Told_18 rfl (rup_ne (by omega) (rup_self)) rfl rfl hin rfl rfl (Nat.le_of_ble_eq_true rfl) [.ref (a_2 64), .null, .int 0, .ref (a_2 1), .null, .null, .null, .null, .int 0, .int 0, .int 0, .int 0, .int 0, .int 0, .int 0, .int 0, .int 0, .int 0, .int 0, .int 0, .int 0] rfl (va_up (va_up c9 0 (some (.inr (6, [.ref (a_2 64), .null, .int 0, .ref (a_2 1), .null, .null, .null, .null, .int 0, .int 0, .int 0, .int 0, .int 0, .int 0, .int 0, .int 0, .int 0, .int 0, .int 0, .int 0, .int 0])))) 1 (some (.inl (cy 6, 8, .inr (.inr (.inr (.inr f_2))))))) (rup_in (by omega) rup_up rfl) d_Told_init_24 ?_
  refine r_aload_n X 0 d_Told_init_27 rfl rfl ?_
  refine r_bipush X 8 d_Told_init_28 (by decide) ?_
  refine r_sipush X 200 d_Told_init_30 (by decide) ?_
  refine x_mnaZ X hN 7 rfl c_Told_21 a_boolean (N := 8) (K := 200) (by decide) (by decide) (by decide) (by decide) (by decide) (by decide) (Nat.le_of_ble_eq_true rfl) (Nat.le_of_ble_eq_true rfl) d_Told_init_33 3 (rup_ne (by decide) (rup_ne (by decide) ((hcf 3 (by decide)).trans (hz 3 (by decide) (by decide))))) (fun a9 => [(0, .ref (a9 0)), (1, .ref b9), (2, .int d)]) (fun a9 => [.ref (a9 0)]) (fun a9 h9 => by rw [h9 0 (by decide)]) (fun a9 h9 => by rw [h9 0 (by decide)]) (fun a_3 f_3 ha_3 => ?_)
  refine r_c (va_up (va_up (va_up c9 0 (some (.inr (6, [.ref (a_3 64), .null, .int 0, .ref (a_3 1), .null, .null, .null, .null, .int 0, .int 0, .int 0, .int 0, .int 0, .int 0, .int 0, .int 0, .int 0, .int 0, .int 0, .int 0, .int 0])))) 1 (some (.inl (cy 6, 8, .inr (.inr (.inr (.inr f_2))))))) 3 (some (.inl (cy 7, 8, .inr (.inr (.inr (.inr f_3))))))) (by rw [ha_3 64 (by decide), ha_3 1 (by decide)]) ?_
  refine r_putF X k_Told 4 (by decide) f_Told_23 rfl (rup_ne (by omega) (rup_ne (by omega) (rup_self))) rfl rfl hin rfl rfl (Nat.le_of_ble_eq_true rfl) [.ref (a_3 64), .null, .int 0, .ref (a_3 1), .ref (a_3 3), .null, .null, .null, .int 0, .int 0, .int 0, .int 0, .int 0, .int 0, .int 0, .int 0, .int 0, .int 0, .int 0, .int 0, .int 0] rfl (va_up (va_up (va_up c9 0 (some (.inr (6, [.ref (a_3 64), .null, .int 0, .ref (a_3 1), .ref (a_3 3), .null, .null, .null, .int 0, .int 0, .int 0, .int 0, .int 0, .int 0, .int 0, .int 0, .int 0, .int 0, .int 0, .int 0, .int 0])))) 1 (some (.inl (cy 6, 8, .inr (.inr (.inr (.inr f_2))))))) 3 (some (.inl (cy 7, 8, .inr (.inr (.inr (.inr f_3))))))) (rup_in (by omega) (rup_in (by omega) rup_up rfl) rfl) d_Told_init_37 ?_
  refine r_aload_n X 0 d_Told_init_40 rfl rfl ?_
  refine r_bipush X 8 d_Told_init_41 (by decide) ?_
  refine r_sipush X 200 d_Told_init_43 (by decide) ?_
  refine x_mnaZ X hN 7 rfl c_Told_21 a_boolean (N := 8) (K := 200) (by decide) (by decide) (by decide) (by decide) (by decide) (by decide) (Nat.le_of_ble_eq_true rfl) (Nat.le_of_ble_eq_true rfl) d_Told_init_46 4 (rup_ne (by decide) (rup_ne (by decide) (rup_ne (by decide) ((hcf 4 (by decide)).trans (hz 4 (by decide) (by decide)))))) (fun a9 => [(0, .ref (a9 0)), (1, .ref b9), (2, .int d)]) (fun a9 => [.ref (a9 0)]) (fun a9 h9 => by rw [h9 0 (by decide)]) (fun a9 h9 => by rw [h9 0 (by decide)]) (fun a_4 f_4 ha_4 => ?_)
  refine r_c (va_up (va_up (va_up (va_up c9 0 (some (.inr (6, [.ref (a_4 64), .null, .int 0, .ref (a_4 1), .ref (a_4 3), .null, .null, .null, .int 0, .int 0, .int 0, .int 0, .int 0, .int 0, .int 0, .int 0, .int 0, .int 0, .int 0, .int 0, .int 0])))) 1 (some (.inl (cy 6, 8, .inr (.inr (.inr (.inr f_2))))))) 3 (some (.inl (cy 7, 8, .inr (.inr (.inr (.inr f_3))))))) 4 (some (.inl (cy 7, 8, .inr (.inr (.inr (.inr f_4))))))) (by rw [ha_4 64 (by decide), ha_4 1 (by decide), ha_4 3 (by decide)]) ?_
  refine r_putF X k_Told 5 (by decide) f_Told_26 rfl (rup_ne (by omega) (rup_ne (by omega) (rup_ne (by omega) (rup_self)))) rfl rfl hin rfl rfl (Nat.le_of_ble_eq_true rfl) [.ref (a_4 64), .null, .int 0, .ref (a_4 1), .ref (a_4 3), .ref (a_4 4), .null, .null, .int 0, .int 0, .int 0, .int 0, .int 0, .int 0, .int 0, .int 0, .int 0, .int 0, .int 0, .int 0, .int 0] rfl (va_up (va_up (va_up (va_up c9 0 (some (.inr (6, [.ref (a_4 64), .null, .int 0, .ref (a_4 1), .ref (a_4 3), .ref (a_4 4), .null, .null, .int 0, .int 0, .int 0, .int 0, .int 0, .int 0, .int 0, .int 0, .int 0, .int 0, .int 0, .int 0, .int 0])))) 1 (some (.inl (cy 6, 8, .inr (.inr (.inr (.inr f_2))))))) 3 (some (.inl (cy 7, 8, .inr (.inr (.inr (.inr f_3))))))) 4 (some (.inl (cy 7, 8, .inr (.inr (.inr (.inr f_4))))))) (rup_in (by omega) (rup_in (by omega) (rup_in (by omega) rup_up rfl) rfl) rfl) d_Told_init_50 ?_
  refine r_aload_n X 0 d_Told_init_53 rfl rfl ?_
  refine r_iconst X 3 d_Told_init_54 (by decide) ?_
  refine r_bipush X 9 d_Told_init_55 (by decide) ?_
  refine x_mnaI X hN 6 rfl c_Told_16 a_int (N := 3) (K := 9) (by decide) (by decide) (by decide) (by decide) (by decide) (by decide) (Nat.le_of_ble_eq_true rfl) (Nat.le_of_ble_eq_true rfl) d_Told_init_57 2 (rup_ne (by decide) (rup_ne (by decide) (rup_ne (by decide) (rup_ne (by decide) ((hcf 2 (by decide)).trans (hz 2 (by decide) (by decide))))))) (fun a9 => [(0, .ref (a9 0)), (1, .ref b9), (2, .int d)]) (fun a9 => [.ref (a9 0)]) (fun a9 h9 => by rw [h9 0 (by decide)]) (fun a9 h9 => by rw [h9 0 (by decide)]) (fun a_5 f_5 ha_5 => ?_)
  refine r_c (va_up (va_up (va_up (va_up (va_up c9 0 (some (.inr (6, [.ref (a_5 64), .null, .int 0, .ref (a_5 1), .ref (a_5 3), .ref (a_5 4), .null, .null, .int 0, .int 0, .int 0, .int 0, .int 0, .int 0, .int 0, .int 0, .int 0, .int 0, .int 0, .int 0, .int 0])))) 1 (some (.inl (cy 6, 8, .inr (.inr (.inr (.inr f_2))))))) 3 (some (.inl (cy 7, 8, .inr (.inr (.inr (.inr f_3))))))) 4 (some (.inl (cy 7, 8, .inr (.inr (.inr (.inr f_4))))))) 2 (some (.inl (cy 6, 3, .inr (.inr (.inr (.inr f_5))))))) (by rw [ha_5 64 (by decide), ha_5 1 (by decide), ha_5 3 (by decide), ha_5 4 (by decide)]) ?_
  refine r_putF X k_Told 6 (by decide) f_Told_29 rfl (rup_ne (by omega) (rup_ne (by omega) (rup_ne (by omega) (rup_ne (by omega) (rup_self))))) rfl rfl hin rfl rfl (Nat.le_of_ble_eq_true rfl) [.ref (a_5 64), .null, .int 0, .ref (a_5 1), .ref (a_5 3), .ref (a_5 4), .ref (a_5 2), .null, .int 0, .int 0, .int 0, .int 0, .int 0, .int 0, .int 0, .int 0, .int 0, .int 0, .int 0, .int 0, .int 0] rfl (va_up (va_up (va_up (va_up (va_up c9 0 (some (.inr (6, [.ref (a_5 64), .null, .int 0, .ref (a_5 1), .ref (a_5 3), .ref (a_5 4), .ref (a_5 2), .null, .int 0, .int 0, .int 0, .int 0, .int 0, .int 0, .int 0, .int 0, .int 0, .int 0, .int 0, .int 0, .int 0])))) 1 (some (.inl (cy 6, 8, .inr (.inr (.inr (.inr f_2))))))) 3 (some (.inl (cy 7, 8, .inr (.inr (.inr (.inr f_3))))))) 4 (some (.inl (cy 7, 8, .inr (.inr (.inr (.inr f_4))))))) 2 (some (.inl (cy 6, 3, .inr (.inr (.inr (.inr f_5))))))) (rup_in (by omega) (rup_in (by omega) (rup_in (by omega) (rup_in (by omega) rup_up rfl) rfl) rfl) rfl) d_Told_init_61 ?_
  refine r_aload_n X 0 d_Told_init_64 rfl rfl ?_
  refine r_iconst X 3 d_Told_init_65 (by decide) ?_
  refine r_bipush X 8 d_Told_init_66 (by decide) ?_
  refine x_mnaI X hN 6 rfl c_Told_16 a_int (N := 3) (K := 8) (by decide) (by decide) (by decide) (by decide) (by decide) (by decide) (Nat.le_of_ble_eq_true rfl) (Nat.le_of_ble_eq_true rfl) d_Told_init_68 5 (rup_ne (by decide) (rup_ne (by decide) (rup_ne (by decide) (rup_ne (by decide) (rup_ne (by decide) ((hcf 5 (by decide)).trans (hz 5 (by decide) (by decide)))))))) (fun a9 => [(0, .ref (a9 0)), (1, .ref b9), (2, .int d)]) (fun a9 => [.ref (a9 0)]) (fun a9 h9 => by rw [h9 0 (by decide)]) (fun a9 h9 => by rw [h9 0 (by decide)]) (fun a_6 f_6 ha_6 => ?_)
  refine r_c (va_up (va_up (va_up (va_up (va_up (va_up c9 0 (some (.inr (6, [.ref (a_6 64), .null, .int 0, .ref (a_6 1), .ref (a_6 3), .ref (a_6 4), .ref (a_6 2), .null, .int 0, .int 0, .int 0, .int 0, .int 0, .int 0, .int 0, .int 0, .int 0, .int 0, .int 0, .int 0, .int 0])))) 1 (some (.inl (cy 6, 8, .inr (.inr (.inr (.inr f_2))))))) 3 (some (.inl (cy 7, 8, .inr (.inr (.inr (.inr f_3))))))) 4 (some (.inl (cy 7, 8, .inr (.inr (.inr (.inr f_4))))))) 2 (some (.inl (cy 6, 3, .inr (.inr (.inr (.inr f_5))))))) 5 (some (.inl (cy 6, 3, .inr (.inr (.inr (.inr f_6))))))) (by rw [ha_6 64 (by decide), ha_6 1 (by decide), ha_6 3 (by decide), ha_6 4 (by decide), ha_6 2 (by decide)]) ?_
  refine r_putF X k_Told 7 (by decide) f_Told_32 rfl (rup_ne (by omega) (rup_ne (by omega) (rup_ne (by omega) (rup_ne (by omega) (rup_ne (by omega) (rup_self)))))) rfl rfl hin rfl rfl (Nat.le_of_ble_eq_true rfl) [.ref (a_6 64), .null, .int 0, .ref (a_6 1), .ref (a_6 3), .ref (a_6 4), .ref (a_6 2), .ref (a_6 5), .int 0, .int 0, .int 0, .int 0, .int 0, .int 0, .int 0, .int 0, .int 0, .int 0, .int 0, .int 0, .int 0] rfl (va_up (va_up (va_up (va_up (va_up (va_up c9 0 (some (.inr (6, [.ref (a_6 64), .null, .int 0, .ref (a_6 1), .ref (a_6 3), .ref (a_6 4), .ref (a_6 2), .ref (a_6 5), .int 0, .int 0, .int 0, .int 0, .int 0, .int 0, .int 0, .int 0, .int 0, .int 0, .int 0, .int 0, .int 0])))) 1 (some (.inl (cy 6, 8, .inr (.inr (.inr (.inr f_2))))))) 3 (some (.inl (cy 7, 8, .inr (.inr (.inr (.inr f_3))))))) 4 (some (.inl (cy 7, 8, .inr (.inr (.inr (.inr f_4))))))) 2 (some (.inl (cy 6, 3, .inr (.inr (.inr (.inr f_5))))))) 5 (some (.inl (cy 6, 3, .inr (.inr (.inr (.inr f_6))))))) (rup_in (by omega) (rup_in (by omega) (rup_in (by omega) (rup_in (by omega) (rup_in (by omega) rup_up rfl) rfl) rfl) rfl) rfl) d_Told_init_72 ?_
  refine r_aload_n X 0 d_Told_init_75 rfl rfl ?_
  refine r_iconst X 5 d_Told_init_76 (by decide) ?_
  refine r_put X k_Told 11 (by decide) f_Told_35 rfl (rup_ne (by omega) (rup_ne (by omega) (rup_ne (by omega) (rup_ne (by omega) (rup_ne (by omega) (rup_self)))))) rfl rfl rfl (Nat.le_of_ble_eq_true rfl) [.ref (a_6 64), .null, .int 0, .ref (a_6 1), .ref (a_6 3), .ref (a_6 4), .ref (a_6 2), .ref (a_6 5), .int 0, .int 0, .int 0, .int 5, .int 0, .int 0, .int 0, .int 0, .int 0, .int 0, .int 0, .int 0, .int 0] rfl (va_up (va_up (va_up (va_up (va_up (va_up c9 0 (some (.inr (6, [.ref (a_6 64), .null, .int 0, .ref (a_6 1), .ref (a_6 3), .ref (a_6 4), .ref (a_6 2), .ref (a_6 5), .int 0, .int 0, .int 0, .int 5, .int 0, .int 0, .int 0, .int 0, .int 0, .int 0, .int 0, .int 0, .int 0])))) 1 (some (.inl (cy 6, 8, .inr (.inr (.inr (.inr f_2))))))) 3 (some (.inl (cy 7, 8, .inr (.inr (.inr (.inr f_3))))))) 4 (some (.inl (cy 7, 8, .inr (.inr (.inr (.inr f_4))))))) 2 (some (.inl (cy 6, 3, .inr (.inr (.inr (.inr f_5))))))) 5 (some (.inl (cy 6, 3, .inr (.inr (.inr (.inr f_6))))))) (rup_in (by omega) (rup_in (by omega) (rup_in (by omega) (rup_in (by omega) (rup_in (by omega) rup_up rfl) rfl) rfl) rfl) rfl) d_Told_init_77 ?_
  refine r_aload_n X 0 d_Told_init_80 rfl rfl ?_
  refine r_bipush X 100 d_Told_init_81 (by decide) ?_
  refine r_put X k_Told 16 (by decide) f_Told_39 rfl (rup_ne (by omega) (rup_ne (by omega) (rup_ne (by omega) (rup_ne (by omega) (rup_ne (by omega) (rup_self)))))) rfl rfl rfl (Nat.le_of_ble_eq_true rfl) [.ref (a_6 64), .null, .int 0, .ref (a_6 1), .ref (a_6 3), .ref (a_6 4), .ref (a_6 2), .ref (a_6 5), .int 0, .int 0, .int 0, .int 5, .int 0, .int 0, .int 0, .int 0, .int 100, .int 0, .int 0, .int 0, .int 0] rfl (va_up (va_up (va_up (va_up (va_up (va_up c9 0 (some (.inr (6, [.ref (a_6 64), .null, .int 0, .ref (a_6 1), .ref (a_6 3), .ref (a_6 4), .ref (a_6 2), .ref (a_6 5), .int 0, .int 0, .int 0, .int 5, .int 0, .int 0, .int 0, .int 0, .int 100, .int 0, .int 0, .int 0, .int 0])))) 1 (some (.inl (cy 6, 8, .inr (.inr (.inr (.inr f_2))))))) 3 (some (.inl (cy 7, 8, .inr (.inr (.inr (.inr f_3))))))) 4 (some (.inl (cy 7, 8, .inr (.inr (.inr (.inr f_4))))))) 2 (some (.inl (cy 6, 3, .inr (.inr (.inr (.inr f_5))))))) 5 (some (.inl (cy 6, 3, .inr (.inr (.inr (.inr f_6))))))) (rup_in (by omega) (rup_in (by omega) (rup_in (by omega) (rup_in (by omega) (rup_in (by omega) rup_up rfl) rfl) rfl) rfl) rfl) d_Told_init_83 ?_
  refine r_aload_n X 0 d_Told_init_86 rfl rfl ?_
  refine r_aload_n X 1 d_Told_init_87 rfl rfl ?_
  refine r_putF X k_Told 1 (by decide) f_Told_42 rfl (rup_ne (by omega) (rup_ne (by omega) (rup_ne (by omega) (rup_ne (by omega) (rup_ne (by omega) (rup_self)))))) rfl rfl hin rfl rfl (Nat.le_of_ble_eq_true rfl) [.ref (a_6 64), .ref b9, .int 0, .ref (a_6 1), .ref (a_6 3), .ref (a_6 4), .ref (a_6 2), .ref (a_6 5), .int 0, .int 0, .int 0, .int 5, .int 0, .int 0, .int 0, .int 0, .int 100, .int 0, .int 0, .int 0, .int 0] rfl (va_up (va_up (va_up (va_up (va_up (va_up c9 0 (some (.inr (6, [.ref (a_6 64), .ref b9, .int 0, .ref (a_6 1), .ref (a_6 3), .ref (a_6 4), .ref (a_6 2), .ref (a_6 5), .int 0, .int 0, .int 0, .int 5, .int 0, .int 0, .int 0, .int 0, .int 100, .int 0, .int 0, .int 0, .int 0])))) 1 (some (.inl (cy 6, 8, .inr (.inr (.inr (.inr f_2))))))) 3 (some (.inl (cy 7, 8, .inr (.inr (.inr (.inr f_3))))))) 4 (some (.inl (cy 7, 8, .inr (.inr (.inr (.inr f_4))))))) 2 (some (.inl (cy 6, 3, .inr (.inr (.inr (.inr f_5))))))) 5 (some (.inl (cy 6, 3, .inr (.inr (.inr (.inr f_6))))))) (rup_in (by omega) (rup_in (by omega) (rup_in (by omega) (rup_in (by omega) (rup_in (by omega) rup_up rfl) rfl) rfl) rfl) rfl) d_Told_init_88 ?_
  refine r_aload_n X 0 d_Told_init_91 rfl rfl ?_
  refine r_iload_n X 2 d_Told_init_92 rfl rfl ?_
  refine r_put X k_Told 2 (by decide) f_Told_46 rfl (rup_ne (by omega) (rup_ne (by omega) (rup_ne (by omega) (rup_ne (by omega) (rup_ne (by omega) (rup_self)))))) rfl rfl rfl (Nat.le_of_ble_eq_true rfl) [.ref (a_6 64), .ref b9, .int d, .ref (a_6 1), .ref (a_6 3), .ref (a_6 4), .ref (a_6 2), .ref (a_6 5), .int 0, .int 0, .int 0, .int 5, .int 0, .int 0, .int 0, .int 0, .int 100, .int 0, .int 0, .int 0, .int 0] rfl (va_up (va_up (va_up (va_up (va_up (va_up c9 0 (some (.inr (6, [.ref (a_6 64), .ref b9, .int d, .ref (a_6 1), .ref (a_6 3), .ref (a_6 4), .ref (a_6 2), .ref (a_6 5), .int 0, .int 0, .int 0, .int 5, .int 0, .int 0, .int 0, .int 0, .int 100, .int 0, .int 0, .int 0, .int 0])))) 1 (some (.inl (cy 6, 8, .inr (.inr (.inr (.inr f_2))))))) 3 (some (.inl (cy 7, 8, .inr (.inr (.inr (.inr f_3))))))) 4 (some (.inl (cy 7, 8, .inr (.inr (.inr (.inr f_4))))))) 2 (some (.inl (cy 6, 3, .inr (.inr (.inr (.inr f_5))))))) 5 (some (.inl (cy 6, 3, .inr (.inr (.inr (.inr f_6))))))) (rup_in (by omega) (rup_in (by omega) (rup_in (by omega) (rup_in (by omega) (rup_in (by omega) rup_up rfl) rfl) rfl) rfl) rfl) d_Told_init_93 ?_
  have hch : ∀ k, 6 ≤ k → a_6 k = ad9 k := fun j hj => ((ha_6 j (by omega)).trans ((ha_5 j (by omega)).trans ((ha_4 j (by omega)).trans ((ha_3 j (by omega)).trans (ha_2 j (by omega))))))
  have hch0 : a_6 0 = ad9 0 := ((ha_6 0 (by decide)).trans ((ha_5 0 (by decide)).trans ((ha_4 0 (by decide)).trans ((ha_3 0 (by decide)).trans (ha_2 0 (by decide))))))
  refine r_drop a_6 (fun k9 => if k9 = 3 ∨ k9 = 4 ∨ k9 = 5 then none else (va_up (va_up (va_up (va_up (va_up (va_up c9 0 (some (.inr (6, [.ref (a_6 64), .ref b9, .int d, .ref (a_6 1), .ref (a_6 3), .ref (a_6 4), .ref (a_6 2), .ref (a_6 5), .int 0, .int 0, .int 0, .int 5, .int 0, .int 0, .int 0, .int 0, .int 100, .int 0, .int 0, .int 0, .int 0])))) 1 (some (.inl (cy 6, 8, .inr (.inr (.inr (.inr f_2))))))) 3 (some (.inl (cy 7, 8, .inr (.inr (.inr (.inr f_3))))))) 4 (some (.inl (cy 7, 8, .inr (.inr (.inr (.inr f_4))))))) 2 (some (.inl (cy 6, 3, .inr (.inr (.inr (.inr f_5))))))) 5 (some (.inl (cy 6, 3, .inr (.inr (.inr (.inr f_6))))))) k9) (fun n9 x9 hn9 => by
    by_cases h9 : n9 = 3 ∨ n9 = 4 ∨ n9 = 5
    · rw [if_pos h9] at hn9; cases hn9
    · rw [if_neg h9] at hn9; exact ⟨hn9, rfl⟩) ?_
  exact r_vret (post := fun ad' c' => ad' 0 = ad 0 ∧ TB cy b9 S00 d 0 ad' c') X hr hlk d_Told_init_96 (by decide) (by decide) ⟨hch0.trans ((had 0 (by decide)).trans (ha_1 0 (by decide))), ⟨_, _, _, (if_neg (by decide)).trans (rup_ne (by omega) (rup_ne (by omega) (rup_ne (by omega) (rup_ne (by omega) (rup_ne (by omega) (rup_self))))))⟩, ⟨_, (if_neg (by decide)).trans (rup_ne (by omega) (rup_ne (by omega) (rup_ne (by omega) (rup_ne (by omega) (rup_self)))))⟩, ⟨_, (if_neg (by decide)).trans (rup_ne (by omega) (rup_self))⟩, (fun k k1 k2 => by rw [Nat.zero_add]; exact (if h9 : k = 3 ∨ k = 4 ∨ k = 5 then (if_pos h9) else ((if_neg h9).trans (rup_ne (by omega) (rup_ne (by omega) (rup_ne (by omega) (rup_ne (by omega) (rup_ne (by omega) (rup_ne (by omega) ((hcf k k2).trans (hz k (by omega) (by omega)))))))))))), J00, (shC_congr (fun k k1 k2 => (if_neg (by omega)).trans (by rw [va_up_ne _ _ (by omega)]; rw [va_up_ne _ _ (by omega)]; rw [va_up_ne _ _ (by omega)]; rw [va_up_ne _ _ (by omega)]; rw [va_up_ne _ _ (by omega)]; rw [va_up_ne _ _ (by omega)]))).trans (hC9.trans (ct_same (by decide) (by decide) (fun k hk => hch (64 + k) (by omega))).symm)⟩
