/-! road and lorry, told within their bounds -/
def lo0 (z : Int32) : lo9 := (z, 0, 0, 0, 0, 0, 2, 0, 0)
def rc0 (one oth len ran hei sha bri : Int32) : rc9 := (one, oth, len, ran, hei, sha, bri, 0, -1)
def sf0 : sf8 := (3, 0, 0, 0, 0, 0, 0, 0)
theorem wf_addL {S : cS} {z : Int32} (hS : wfS S) (h3 : sNl S < 3) : wfS (addL S (lo0 z) (fun _ => 0)) := by
  refine ⟨hS.1, h3, hS.2.2.1, fun i hi => ?_⟩
  show ∃ q : Nat, q ≤ 8 ∧ (va_up (sLo S) (sNl S) (lo0 z) i).2.1 = nI q
  by_cases hij : i = sNl S
  · subst hij
    rw [va_up_self]
    exact ⟨0, by decide, rfl⟩
  · rw [va_up_ne _ _ hij]
    exact hS.2.2.2 i (by have h9 : i < sNl S + 1 := hi; omega)
theorem wf_addR {S : cS} {x : rc9} {f : sf8} {sl tr : Nat → Int32} (hS : wfS S) (h8 : sNr S < 8) : wfS (addR S x f sl tr) := ⟨h8, hS.2.1, hS.2.2.1, hS.2.2.2⟩
set_option maxRecDepth 100000 in
set_option maxHeartbeats 4000000 in
/-- G_lorry -/
theorem c_G_lorry (l : Launch) (D : va_G) (cy : Nat → ClassId) (ad : Nat → Nat)  (S : cS) (J : jS) (hS : wfS S) (h3 : sNl S < 3) (z : Int32) (hz : z = 0 ∨ z = 1) : rMi l D cls (TY cy) NW y_G_lorry (Cond.code y_G_lorry b_G_lorry 3 rt_G_lorry :: W0) { frames := 6, cells := 2, slots := 18, locals := 90 } [.ref (ad 0), .int z] ad (cont cy ad S J) (fun r ad' c' => nI (sNl S) = r ∧ (∀ j, j ≠ 48 + 2 * sNl S → j ≠ 49 + 2 * sNl S → ad' j = ad j) ∧ cont cy ad' (addL S (lo0 z) (fun _ => 0)) J = c') := by
  intro sz
  refine r_of (own := R_G) rfl (by decide +kernel) (Nat.le_of_ble_eq_true rfl) ?_
  intro p e s m below meth cd hsz X hr hlk hN hin
  have h8 := hS.1
  refine r_lv [0, 1] [(0, .ref (ad 0)), (1, .int z)] rfl ?_
  refine r_aload_n X 0 d_G_lorry_0 rfl rfl ?_
  refine r_get X k_G 9 (by decide) f_G_155 rfl (ct_lo (by decide)) rfl d_G_lorry_1 ?_
  refine r_istore_n X [(2, .int (nI (sNl S))), (0, .ref (ad 0)), (1, .int z)] d_G_lorry_4 rfl (by decide) rfl ?_
  refine r_iload_n X 0 d_G_lorry_5 rfl rfl ?_
  refine r_aload_n X 1 d_G_lorry_6 rfl rfl ?_
  refine r_get X k_G 1 (by decide) f_G_17 rfl (ct_lo (by decide)) rfl d_G_lorry_7 ?_
  refine r_alen (v := nI 3) X 3 (ct_lo (by decide)) rfl rfl d_G_lorry_10 ?_
  refine r_icmp_lt X 24 d_G_lorry_11 (by decide) (fun _ => ?_) (fun h9 => absurd (nI_lt h3 (by decide)) h9)
  refine r_aload_n X 1 d_G_lorry_24 rfl rfl ?_
  refine r_get X k_G 1 (by decide) f_G_17 rfl (ct_lo (by decide)) rfl d_G_lorry_25 ?_
  refine r_iload_n X 0 d_G_lorry_28 rfl rfl ?_
  refine r_new X k_Lor c_G_15 n_Lor i_Lor (fs := [.int 0, .null, .int 0, .int 0, .int 0, .int 0, .int 0, .int 0, .int 0, .int 0]) (by intro j hj; obtain rfl | rfl | rfl | rfl | rfl | rfl | rfl | rfl | rfl | rfl : j = 0 ∨ j = 1 ∨ j = 2 ∨ j = 3 ∨ j = 4 ∨ j = 5 ∨ j = 6 ∨ j = 7 ∨ j = 8 ∨ j = 9 := (by omega); all_goals rfl) (Nat.le_of_ble_eq_true rfl) (Nat.le_of_ble_eq_true rfl) d_G_lorry_29 (48 + 2 * sNl S) (ct_nL h3 (by decide : 0 < 2)) (fun a9 => [(2, .int (nI (sNl S))), (0, .ref (a9 0)), (1, .int z)]) (fun a9 => [.int (nI (sNl S)), .ref (a9 2)]) (fun a9 h9 => by rw [h9 0 (by omega)]) (fun a9 h9 => by rw [h9 2 (by omega)]) (fun a_1 ha_1 => ?_)
  refine r_c (va_up (cont cy a_1 S J) (48 + 2 * sNl S) (some (.inr (3, [.int 0, .null, .int 0, .int 0, .int 0, .int 0, .int 0, .int 0, .int 0, .int 0])))) (by rw [(cont_ad (fun n9 hn9 => ha_1 n9 (by omega)) : cont cy a_1 S J = cont cy ad S J)]) ?_
  refine r_dup X d_G_lorry_32 rfl ?_
  refine r_iload_n X 2 d_G_lorry_33 rfl rfl ?_
  refine r_Iv X W0_good hN (c_Lor_init l D cy a_1 (va_up (cont cy a_1 S J) (48 + 2 * sNl S) (some (.inr (3, [.int 0, .null, .int 0, .int 0, .int 0, .int 0, .int 0, .int 0, .int 0, .int 0])))) (48 + 2 * sNl S) (49 + 2 * sNl S) rup_self (rup_ne (by omega) (ct_nL h3 (by decide : 1 < 2))) (by omega) z hz) yi_Lor_init m_G_160 rfl rfl ⟨by decide, by decide⟩ (Nat.le_of_ble_eq_true rfl) ⟨by decide, by decide⟩ d_G_lorry_34 (fun ad9 c9 hp9 => ?_)
  obtain ⟨hb8, rfl⟩ := hp9
  refine r_c (va_up (va_up (cont cy a_1 S J) (48 + 2 * sNl S) (some (.inr (3, [.int z, .ref (ad9 (49 + 2 * sNl S)), .int 0, .int 0, .int 0, .int 0, .int 0, .int 2, .int 0, .int 0])))) (49 + 2 * sNl S) (some (.inl (cy 0, 8, .inl (fun _ => 0))))) (rup_in (by omega) rup_up rfl) ?_
  refine r_show (va_up (va_up (cont cy ad9 S J) (48 + 2 * sNl S) (some (.inr (3, [.int z, .ref (ad9 (49 + 2 * sNl S)), .int 0, .int 0, .int 0, .int 0, .int 0, .int 2, .int 0, .int 0])))) (49 + 2 * sNl S) (some (.inl (cy 0, 8, .inl (fun _ => 0))))) [(2, .int (nI (sNl S))), (0, .ref (ad9 0)), (1, .int z)] [.ref (ad9 (48 + 2 * sNl S)), .int (nI (sNl S)), .ref (ad9 2)] (by rw [(cont_ad (fun n9 hn9 => hb8 n9 (by omega)) : cont cy ad9 S J = cont cy a_1 S J)]) (by rw [hb8 0 (by omega)]) (by rw [hb8 (48 + 2 * sNl S) (by omega), hb8 2 (by omega)]) ?_
  refine r_aast X 3 (rup_ne (by omega) (rup_ne (by omega) ((ct_lo (by decide))))) rfl (rup_ne (by omega) (rup_self)) rfl (vp_in_nI h3 (by decide)) (lRf_1 (by omega)) (va_up (va_up (va_up (cont cy ad9 S J) (48 + 2 * sNl S) (some (.inr (3, [.int z, .ref (ad9 (49 + 2 * sNl S)), .int 0, .int 0, .int 0, .int 0, .int 0, .int 2, .int 0, .int 0])))) (49 + 2 * sNl S) (some (.inl (cy 0, 8, .inl (fun _ => 0))))) 2 (some (.inl (cy 3, 3, .inr (.inr (.inr (.inr (lRf ad9 (sNl S + 1))))))))) rfl d_G_lorry_37 ?_
  refine r_aload_n X 1 d_G_lorry_38 rfl rfl ?_
  refine r_iload_n X 0 d_G_lorry_39 rfl rfl ?_
  refine r_iconst X 1 d_G_lorry_40 (by decide) ?_
  refine r_iadd X d_G_lorry_41 ?_
  refine r_top (y := nI (sNl S + 1)) (nI_1 _) ?_
  refine r_put X k_G 9 (by decide) f_G_155 rfl (rup_ne (by omega) (rup_ne (by omega) (rup_ne (by omega) ((ct_lo (by decide)))))) rfl rfl rfl (Nat.le_of_ble_eq_true rfl) [.ref (ad9 1), .ref (ad9 2), .ref (ad9 3), .ref (ad9 4), .ref (ad9 5), .ref (ad9 6), .ref (ad9 7), .ref (ad9 8), .int (nI (sNr S)), .int (nI (sNl S + 1)), .int 0, .int ((sG S).1), .int ((sG S).2.1), .int ((sG S).2.2.1), .int ((sG S).2.2.2.1), .int ((sG S).2.2.2.2)] rfl (va_up (va_up (va_up (va_up (cont cy ad9 S J) (48 + 2 * sNl S) (some (.inr (3, [.int z, .ref (ad9 (49 + 2 * sNl S)), .int 0, .int 0, .int 0, .int 0, .int 0, .int 2, .int 0, .int 0])))) (49 + 2 * sNl S) (some (.inl (cy 0, 8, .inl (fun _ => 0))))) 2 (some (.inl (cy 3, 3, .inr (.inr (.inr (.inr (lRf ad9 (sNl S + 1))))))))) 0 (some (.inr (5, [.ref (ad9 1), .ref (ad9 2), .ref (ad9 3), .ref (ad9 4), .ref (ad9 5), .ref (ad9 6), .ref (ad9 7), .ref (ad9 8), .int (nI (sNr S)), .int (nI (sNl S + 1)), .int 0, .int ((sG S).1), .int ((sG S).2.1), .int ((sG S).2.2.1), .int ((sG S).2.2.2.1), .int ((sG S).2.2.2.2)])))) rfl d_G_lorry_42 ?_
  refine r_iload_n X 0 d_G_lorry_45 rfl rfl ?_
  refine r_c (cont cy ad9 (addL S (lo0 z) (fun _ => 0)) J) (ct_addL (x := lo0 z) (od := fun _ => 0) h8 h3) ?_
  exact r_iret (post := fun r ad' c' => nI (sNl S) = r ∧ (∀ j, j ≠ 48 + 2 * sNl S → j ≠ 49 + 2 * sNl S → ad' j = ad j) ∧ cont cy ad' (addL S (lo0 z) (fun _ => 0)) J = c') X hr hlk d_G_lorry_46 (by decide) (by decide) ⟨rfl, (fun j h1 h2 => (hb8 j h2).trans (ha_1 j h1)), rfl⟩
set_option maxRecDepth 100000 in
set_option maxHeartbeats 4000000 in
/-- G_road -/
theorem c_G_road (l : Launch) (D : va_G) (cy : Nat → ClassId) (ad : Nat → Nat)  (S : cS) (J : jS) (hS : wfS S) (h8 : sNr S < 8) (one oth len ran hei sha bri : Int32) (h1 : inF one 0 6 = 1) (h2 : inF oth 0 6 = 1) (hne : ¬ one = oth) (h4 : inF len 1 6 = 1) (h5 : inF ran 0 2 = 1) (h6 : inF hei 0 9 = 1) (h7 : inF sha 0 2 = 1) (hz : bri = 0 ∨ bri = 1) : rMi l D cls (TY cy) NW y_G_road (Cond.code y_G_road b_G_road 9 rt_G_road :: W0) { frames := 6, cells := 4, slots := 420, locals := 90 } [.ref (ad 0), .int one, .int oth, .int len, .int ran, .int hei, .int sha, .int bri] ad (cont cy ad S J) (fun r ad' c' => nI (sNr S) = r ∧ (∀ j, (j < 16 + 4 * sNr S ∨ 20 + 4 * sNr S ≤ j) → ad' j = ad j) ∧ cont cy ad' (addR S (rc0 one oth len ran hei sha bri) sf0 (fun _ => 0) (fun _ => 0)) J = c') := by
  intro sz
  refine r_of (own := R_G) rfl (by decide +kernel) (Nat.le_of_ble_eq_true rfl) ?_
  intro p e s m below meth cd hsz X hr hlk hN hin
  have h3 := hS.2.1
  refine r_lv [0, 1, 2, 3, 4, 5, 6, 7] [(0, .ref (ad 0)), (1, .int one), (2, .int oth), (3, .int len), (4, .int ran), (5, .int hei), (6, .int sha), (7, .int bri)] rfl ?_
  refine r_iload_n X 1 d_G_road_0 rfl rfl ?_
  refine r_Si X W0_good hN (c_G_isNode l D cy ad (cont cy ad S J) one) ys_G_isNode m_G_62 rfl rfl ⟨by decide, by decide⟩ (Nat.le_of_ble_eq_true rfl) ⟨by decide, by decide⟩ d_G_road_1 (fun r9 ad9 c9 hp9 => ?_)
  obtain ⟨rfl, rfl, rfl⟩ := hp9
  refine r_top (y := 1) h1 ?_
  refine r_if_eq X 14 d_G_road_4 (by decide) (fun h9 => absurd h9 (by decide)) (fun _ => ?_)
  refine r_iload_n X 2 d_G_road_7 rfl rfl ?_
  refine r_Si X W0_good hN (c_G_isNode l D cy ad (cont cy ad S J) oth) ys_G_isNode m_G_62 rfl rfl ⟨by decide, by decide⟩ (Nat.le_of_ble_eq_true rfl) ⟨by decide, by decide⟩ d_G_road_8 (fun r9 ad9 c9 hp9 => ?_)
  obtain ⟨rfl, rfl, rfl⟩ := hp9
  refine r_top (y := 1) h2 ?_
  refine r_if_ne X 24 d_G_road_11 (by decide) (fun _ => ?_) (fun h9 => absurd h9 (by decide))
  refine r_iload_n X 1 d_G_road_24 rfl rfl ?_
  refine r_iload_n X 2 d_G_road_25 rfl rfl ?_
  refine r_icmp_ne X 39 d_G_road_26 (by decide) (fun _ => ?_) (fun h9 => absurd h9 hne)
  refine r_iload_n X 3 d_G_road_39 rfl rfl ?_
  refine r_iconst X 1 d_G_road_40 (by decide) ?_
  refine r_bipush X 6 d_G_road_41 (by decide) ?_
  refine r_Si X W0_good hN (c_G_isWithin l D cy ad (cont cy ad S J) len 1 6) ys_G_isWithin m_G_78 rfl rfl ⟨by decide, by decide⟩ (Nat.le_of_ble_eq_true rfl) ⟨by decide, by decide⟩ d_G_road_43 (fun r9 ad9 c9 hp9 => ?_)
  obtain ⟨rfl, rfl, rfl⟩ := hp9
  refine r_top (y := 1) h4 ?_
  refine r_if_eq X 80 d_G_road_46 (by decide) (fun h9 => absurd h9 (by decide)) (fun _ => ?_)
  refine r_iload X 4 d_G_road_49 rfl ?_
  refine r_iconst X 0 d_G_road_51 (by decide) ?_
  refine r_iconst X 2 d_G_road_52 (by decide) ?_
  refine r_Si X W0_good hN (c_G_isWithin l D cy ad (cont cy ad S J) ran 0 2) ys_G_isWithin m_G_78 rfl rfl ⟨by decide, by decide⟩ (Nat.le_of_ble_eq_true rfl) ⟨by decide, by decide⟩ d_G_road_53 (fun r9 ad9 c9 hp9 => ?_)
  obtain ⟨rfl, rfl, rfl⟩ := hp9
  refine r_top (y := 1) h5 ?_
  refine r_if_eq X 80 d_G_road_56 (by decide) (fun h9 => absurd h9 (by decide)) (fun _ => ?_)
  refine r_iload X 5 d_G_road_59 rfl ?_
  refine r_iconst X 0 d_G_road_61 (by decide) ?_
  refine r_bipush X 9 d_G_road_62 (by decide) ?_
  refine r_Si X W0_good hN (c_G_isWithin l D cy ad (cont cy ad S J) hei 0 9) ys_G_isWithin m_G_78 rfl rfl ⟨by decide, by decide⟩ (Nat.le_of_ble_eq_true rfl) ⟨by decide, by decide⟩ d_G_road_64 (fun r9 ad9 c9 hp9 => ?_)
  obtain ⟨rfl, rfl, rfl⟩ := hp9
  refine r_top (y := 1) h6 ?_
  refine r_if_eq X 80 d_G_road_67 (by decide) (fun h9 => absurd h9 (by decide)) (fun _ => ?_)
  refine r_iload X 6 d_G_road_70 rfl ?_
  refine r_iconst X 0 d_G_road_72 (by decide) ?_
  refine r_iconst X 2 d_G_road_73 (by decide) ?_
  refine r_Si X W0_good hN (c_G_isWithin l D cy ad (cont cy ad S J) sha 0 2) ys_G_isWithin m_G_78 rfl rfl ⟨by decide, by decide⟩ (Nat.le_of_ble_eq_true rfl) ⟨by decide, by decide⟩ d_G_road_74 (fun r9 ad9 c9 hp9 => ?_)
  obtain ⟨rfl, rfl, rfl⟩ := hp9
  refine r_top (y := 1) h7 ?_
  refine r_if_ne X 90 d_G_road_77 (by decide) (fun _ => ?_) (fun h9 => absurd h9 (by decide))
  refine r_aload_n X 0 d_G_road_90 rfl rfl ?_
  refine r_get X k_G 8 (by decide) f_G_84 rfl (ct_lo (by decide)) rfl d_G_road_91 ?_
  refine r_istore X [(8, .int (nI (sNr S))), (0, .ref (ad 0)), (1, .int one), (2, .int oth), (3, .int len), (4, .int ran), (5, .int hei), (6, .int sha), (7, .int bri)] d_G_road_94 (by decide) rfl ?_
  refine r_iload X 0 d_G_road_96 rfl ?_
  refine r_aload_n X 1 d_G_road_98 rfl rfl ?_
  refine r_get X k_G 0 (by decide) f_G_11 rfl (ct_lo (by decide)) rfl d_G_road_99 ?_
  refine r_alen (v := nI 8) X 2 (ct_lo (by decide)) rfl rfl d_G_road_102 ?_
  refine r_icmp_lt X 116 d_G_road_103 (by decide) (fun _ => ?_) (fun h9 => absurd (nI_lt h8 (by decide)) h9)
  refine r_aload_n X 1 d_G_road_116 rfl rfl ?_
  refine r_get X k_G 0 (by decide) f_G_11 rfl (ct_lo (by decide)) rfl d_G_road_117 ?_
  refine r_iload X 0 d_G_road_120 rfl ?_
  refine r_new X k_Road c_G_9 n_Road i_Road (fs := [.int 0, .int 0, .int 0, .int 0, .int 0, .int 0, .int 0, .null, .null, .null, .int 0, .int 0]) (by intro j hj; obtain rfl | rfl | rfl | rfl | rfl | rfl | rfl | rfl | rfl | rfl | rfl | rfl : j = 0 ∨ j = 1 ∨ j = 2 ∨ j = 3 ∨ j = 4 ∨ j = 5 ∨ j = 6 ∨ j = 7 ∨ j = 8 ∨ j = 9 ∨ j = 10 ∨ j = 11 := (by omega); all_goals rfl) (Nat.le_of_ble_eq_true rfl) (Nat.le_of_ble_eq_true rfl) d_G_road_122 (16 + 4 * sNr S) (ct_nR h8 (by decide : 0 < 4)) (fun a9 => [(8, .int (nI (sNr S))), (0, .ref (a9 0)), (1, .int one), (2, .int oth), (3, .int len), (4, .int ran), (5, .int hei), (6, .int sha), (7, .int bri)]) (fun a9 => [.int (nI (sNr S)), .ref (a9 1)]) (fun a9 h9 => by rw [h9 0 (by omega)]) (fun a9 h9 => by rw [h9 1 (by omega)]) (fun a_1 ha_1 => ?_)
  refine r_c (va_up (cont cy a_1 S J) (16 + 4 * sNr S) (some (.inr (2, [.int 0, .int 0, .int 0, .int 0, .int 0, .int 0, .int 0, .null, .null, .null, .int 0, .int 0])))) (by rw [(cont_ad (fun n9 hn9 => ha_1 n9 (by omega)) : cont cy a_1 S J = cont cy ad S J)]) ?_
  refine r_dup X d_G_road_125 rfl ?_
  refine r_iload_n X 2 d_G_road_126 rfl rfl ?_
  refine r_iload_n X 3 d_G_road_127 rfl rfl ?_
  refine r_iload_n X 4 d_G_road_128 rfl rfl ?_
  refine r_iload X 5 d_G_road_129 rfl ?_
  refine r_iload X 6 d_G_road_131 rfl ?_
  refine r_iload X 7 d_G_road_133 rfl ?_
  refine r_iload X 8 d_G_road_135 rfl ?_
  refine r_Iv X W0_good hN (c_Road_init l D cy a_1 (va_up (cont cy a_1 S J) (16 + 4 * sNr S) (some (.inr (2, [.int 0, .int 0, .int 0, .int 0, .int 0, .int 0, .int 0, .null, .null, .null, .int 0, .int 0])))) (16 + 4 * sNr S) (17 + 4 * sNr S) (18 + 4 * sNr S) (19 + 4 * sNr S) rup_self (rup_ne (by omega) (ct_nR h8 (by decide : 1 < 4))) (rup_ne (by omega) (ct_nR h8 (by decide : 2 < 4))) (rup_ne (by omega) (ct_nR h8 (by decide : 3 < 4))) (by omega) (by omega) (by omega) (by omega) (by omega) (by omega) one oth len ran hei sha bri hz) yi_Road_init m_G_92 rfl rfl ⟨by decide, by decide⟩ (Nat.le_of_ble_eq_true rfl) ⟨by decide, by decide⟩ d_G_road_137 (fun ad9 c9 hp9 => ?_)
  obtain ⟨hb8, rfl⟩ := hp9
  have hb7 := hb8
  clear hb8
  have hb8 : ∀ j, (j ≠ 17 + 4 * sNr S ∧ j ≠ 18 + 4 * sNr S ∧ j ≠ 19 + 4 * sNr S) → ad9 j = a_1 j := fun j hj => hb7 j hj.1 hj.2.1 hj.2.2
  refine r_c (va_up (va_up (va_up (va_up (cont cy a_1 S J) (16 + 4 * sNr S) (some (.inr (2, [.int one, .int oth, .int len, .int ran, .int hei, .int sha, .int bri, .ref (ad9 (17 + 4 * sNr S)), .ref (ad9 (18 + 4 * sNr S)), .ref (ad9 (19 + 4 * sNr S)), .int 0, .int (-1)])))) (17 + 4 * sNr S) (some (.inr (0, [.int 3, .int 0, .int 0, .int 0, .int 0, .int 0, .int 0, .int 0])))) (18 + 4 * sNr S) (some (.inl (cy 1, 200, .inl (fun _ => 0))))) (19 + 4 * sNr S) (some (.inl (cy 1, 200, .inl (fun _ => 0))))) (congrArg (fun q9 => va_up q9 (19 + 4 * sNr S) (some (.inl (cy 1, 200, .inl (fun _ => 0))))) (congrArg (fun q9 => va_up q9 (18 + 4 * sNr S) (some (.inl (cy 1, 200, .inl (fun _ => 0))))) (rup_in (by omega) rup_up rfl))) ?_
  refine r_show (va_up (va_up (va_up (va_up (cont cy ad9 S J) (16 + 4 * sNr S) (some (.inr (2, [.int one, .int oth, .int len, .int ran, .int hei, .int sha, .int bri, .ref (ad9 (17 + 4 * sNr S)), .ref (ad9 (18 + 4 * sNr S)), .ref (ad9 (19 + 4 * sNr S)), .int 0, .int (-1)])))) (17 + 4 * sNr S) (some (.inr (0, [.int 3, .int 0, .int 0, .int 0, .int 0, .int 0, .int 0, .int 0])))) (18 + 4 * sNr S) (some (.inl (cy 1, 200, .inl (fun _ => 0))))) (19 + 4 * sNr S) (some (.inl (cy 1, 200, .inl (fun _ => 0))))) [(8, .int (nI (sNr S))), (0, .ref (ad9 0)), (1, .int one), (2, .int oth), (3, .int len), (4, .int ran), (5, .int hei), (6, .int sha), (7, .int bri)] [.ref (ad9 (16 + 4 * sNr S)), .int (nI (sNr S)), .ref (ad9 1)] (by rw [(cont_ad (fun n9 hn9 => hb8 n9 (by omega)) : cont cy ad9 S J = cont cy a_1 S J)]) (by rw [hb8 0 (by omega)]) (by rw [hb8 (16 + 4 * sNr S) (by omega), hb8 1 (by omega)]) ?_
  refine r_aast X 2 (rup_ne (by omega) (rup_ne (by omega) (rup_ne (by omega) (rup_ne (by omega) ((ct_lo (by decide))))))) rfl (rup_ne (by omega) (rup_ne (by omega) (rup_ne (by omega) (rup_self)))) rfl (vp_in_nI h8 (by decide)) (rRf_1 (by omega)) (va_up (va_up (va_up (va_up (va_up (cont cy ad9 S J) (16 + 4 * sNr S) (some (.inr (2, [.int one, .int oth, .int len, .int ran, .int hei, .int sha, .int bri, .ref (ad9 (17 + 4 * sNr S)), .ref (ad9 (18 + 4 * sNr S)), .ref (ad9 (19 + 4 * sNr S)), .int 0, .int (-1)])))) (17 + 4 * sNr S) (some (.inr (0, [.int 3, .int 0, .int 0, .int 0, .int 0, .int 0, .int 0, .int 0])))) (18 + 4 * sNr S) (some (.inl (cy 1, 200, .inl (fun _ => 0))))) (19 + 4 * sNr S) (some (.inl (cy 1, 200, .inl (fun _ => 0))))) 1 (some (.inl (cy 2, 8, .inr (.inr (.inr (.inr (rRf ad9 (sNr S + 1))))))))) rfl d_G_road_140 ?_
  refine r_aload_n X 1 d_G_road_141 rfl rfl ?_
  refine r_iload X 0 d_G_road_142 rfl ?_
  refine r_iconst X 1 d_G_road_144 (by decide) ?_
  refine r_iadd X d_G_road_145 ?_
  refine r_top (y := nI (sNr S + 1)) (nI_1 _) ?_
  refine r_put X k_G 8 (by decide) f_G_84 rfl (rup_ne (by omega) (rup_ne (by omega) (rup_ne (by omega) (rup_ne (by omega) (rup_ne (by omega) ((ct_lo (by decide)))))))) rfl rfl rfl (Nat.le_of_ble_eq_true rfl) [.ref (ad9 1), .ref (ad9 2), .ref (ad9 3), .ref (ad9 4), .ref (ad9 5), .ref (ad9 6), .ref (ad9 7), .ref (ad9 8), .int (nI (sNr S + 1)), .int (nI (sNl S)), .int 0, .int ((sG S).1), .int ((sG S).2.1), .int ((sG S).2.2.1), .int ((sG S).2.2.2.1), .int ((sG S).2.2.2.2)] rfl (va_up (va_up (va_up (va_up (va_up (va_up (cont cy ad9 S J) (16 + 4 * sNr S) (some (.inr (2, [.int one, .int oth, .int len, .int ran, .int hei, .int sha, .int bri, .ref (ad9 (17 + 4 * sNr S)), .ref (ad9 (18 + 4 * sNr S)), .ref (ad9 (19 + 4 * sNr S)), .int 0, .int (-1)])))) (17 + 4 * sNr S) (some (.inr (0, [.int 3, .int 0, .int 0, .int 0, .int 0, .int 0, .int 0, .int 0])))) (18 + 4 * sNr S) (some (.inl (cy 1, 200, .inl (fun _ => 0))))) (19 + 4 * sNr S) (some (.inl (cy 1, 200, .inl (fun _ => 0))))) 1 (some (.inl (cy 2, 8, .inr (.inr (.inr (.inr (rRf ad9 (sNr S + 1))))))))) 0 (some (.inr (5, [.ref (ad9 1), .ref (ad9 2), .ref (ad9 3), .ref (ad9 4), .ref (ad9 5), .ref (ad9 6), .ref (ad9 7), .ref (ad9 8), .int (nI (sNr S + 1)), .int (nI (sNl S)), .int 0, .int ((sG S).1), .int ((sG S).2.1), .int ((sG S).2.2.1), .int ((sG S).2.2.2.1), .int ((sG S).2.2.2.2)])))) rfl d_G_road_146 ?_
  refine r_iload X 0 d_G_road_149 rfl ?_
  refine r_c (cont cy ad9 (addR S (rc0 one oth len ran hei sha bri) sf0 (fun _ => 0) (fun _ => 0)) J) (ct_addR (x := rc0 one oth len ran hei sha bri) (f := sf0) (sl := fun _ => 0) (tr := fun _ => 0) h8 h3) ?_
  exact r_iret (post := fun r ad' c' => nI (sNr S) = r ∧ (∀ j, (j < 16 + 4 * sNr S ∨ 20 + 4 * sNr S ≤ j) → ad' j = ad j) ∧ cont cy ad' (addR S (rc0 one oth len ran hei sha bri) sf0 (fun _ => 0) (fun _ => 0)) J = c') X hr hlk d_G_road_151 (by decide) (by decide) ⟨rfl, (fun j hj9 => (hb8 j ⟨by omega, by omega, by omega⟩).trans (ha_1 j (by omega))), rfl⟩
