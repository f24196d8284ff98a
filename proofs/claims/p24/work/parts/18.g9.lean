/-! the face, asked within its bounds -/
def airS (S : cS) (a z : Int32) : cS := setWe S (a, z, (sWe S).2.2.1, (sWe S).2.2.2.1, (sWe S).2.2.2.2)
def fallS (S : cS) (r f w : Int32) : cS := setWe S ((sWe S).1, (sWe S).2.1, r, f, w)
def loO (x : lo9) (c : Int32) : lo9 := (x.1, c, x.2.2.1, x.2.2.2.1, x.2.2.2.2.1, x.2.2.2.2.2.1, x.2.2.2.2.2.2.1, x.2.2.2.2.2.2.2.1, x.2.2.2.2.2.2.2.2)
def loR (x : lo9) : lo9 := (x.1, 0, x.2.2.1, x.2.2.2.1, x.2.2.2.2.1, x.2.2.2.2.2.1, x.2.2.2.2.2.2.1, 0, x.2.2.2.2.2.2.2.2)
def ordS (S : cS) (j qc : Nat) (ro : Int32) : cS := setLo (setOd S j (upd (sOd S j) qc ro)) j (loO (sLo S j) (nI (qc + 1)))
def restS (S : cS) (j : Nat) : cS := setLo S j (loR (sLo S j))
theorem cu_ord {cy : Nat → ClassId} {ad : Nat → Nat} {S : cS} {J : jS} {j qc : Nat} {ro : Int32} (h3 : sNl S ≤ 3) (hj : j < sNl S) : va_up (va_up (cont cy ad S J) (49 + 2 * j) (some (iE (cy 0) 8 (upd (sOd S j) qc ro)))) (48 + 2 * j) (some (lorE ad j (loO (sLo S j) (nI (qc + 1))))) = cont cy ad (ordS S j qc ro) J := by
  rw [cu_od h3 hj]
  exact cu_lo (S := setOd S j (upd (sOd S j) qc ro)) h3 hj
theorem wf_ord {S : cS} {j qc : Nat} {ro : Int32} (hS : wfS S) (h : qc < 8) : wfS (ordS S j qc ro) := wf_lo (S := setOd S j (upd (sOd S j) qc ro)) (x := loO (sLo S j) (nI (qc + 1))) hS ⟨qc + 1, by omega, rfl⟩
theorem wf_rest {S : cS} {j : Nat} (hS : wfS S) : wfS (restS S j) := wf_lo (x := loR (sLo S j)) hS ⟨0, by omega, rfl⟩
theorem wf_air {S : cS} {a z : Int32} (hS : wfS S) : wfS (airS S a z) := hS
theorem wf_fall {S : cS} {r f w : Int32} (hS : wfS S) : wfS (fallS S r f w) := hS
set_option maxRecDepth 100000 in
set_option maxHeartbeats 4000000 in
/-- G_air -/
theorem c_G_air (l : Launch) (D : va_G) (cy : Nat → ClassId) (ad : Nat → Nat)  (S : cS) (J : jS) (hS : wfS S) (a z : Int32) (ha : inF a (-20) 20 = 1) (hz : z = 0 ∨ z = 1) : rMi l D cls (TY cy) NW y_G_air (Cond.code y_G_air b_G_air 4 rt_G_air :: W0) { frames := 6, cells := 0, slots := 0, locals := 90 } [.ref (ad 0), .int a, .int z] ad (cont cy ad S J) (fun r ad' c' => (sWe S).1 = r ∧ ad = ad' ∧ cont cy ad (airS S a z) J = c') := by
  intro sz
  refine r_of (own := R_G) rfl (by decide +kernel) (Nat.le_of_ble_eq_true rfl) ?_
  intro p e s m below meth cd hsz X hr hlk hN hin
  refine r_lv [0, 1, 2] [(0, .ref (ad 0)), (1, .int a), (2, .int z)] rfl ?_
  refine r_iload_n X 1 d_G_air_0 rfl rfl ?_
  refine r_Si X W0_good hN (c_G_isAir l D cy ad (cont cy ad S J) a) ys_G_isAir m_G_95 rfl rfl ⟨by decide, by decide⟩ (Nat.le_of_ble_eq_true rfl) ⟨by decide, by decide⟩ d_G_air_1 (fun r9 ad9 c9 hp9 => ?_)
  obtain ⟨rfl, rfl, rfl⟩ := hp9
  refine r_top (y := 1) ha ?_
  refine r_if_ne X 17 d_G_air_4 (by decide) (fun _ => ?_) (fun h9 => absurd h9 (by decide))
  refine r_aload_n X 0 d_G_air_17 rfl rfl ?_
  refine r_get X k_G 4 (by decide) f_G_36 rfl (ct_lo (by decide)) rfl d_G_air_18 ?_
  refine r_get X k_Wea 0 (by decide) f_G_100 rfl (ct_lo (by decide)) rfl d_G_air_21 ?_
  refine r_istore_n X [(3, .int ((sWe S).1)), (0, .ref (ad 0)), (1, .int a), (2, .int z)] d_G_air_24 rfl (by decide) rfl ?_
  refine r_aload_n X 1 d_G_air_25 rfl rfl ?_
  refine r_get X k_G 4 (by decide) f_G_36 rfl (ct_lo (by decide)) rfl d_G_air_26 ?_
  refine r_iload_n X 2 d_G_air_29 rfl rfl ?_
  refine r_put X k_Wea 0 (by decide) f_G_100 rfl (ct_lo (by decide)) rfl rfl rfl (Nat.le_of_ble_eq_true rfl) [.int a, .int ((sWe S).2.1), .int ((sWe S).2.2.1), .int ((sWe S).2.2.2.1), .int ((sWe S).2.2.2.2)] rfl (va_up (cont cy ad S J) 5 (some (.inr (1, [.int a, .int ((sWe S).2.1), .int ((sWe S).2.2.1), .int ((sWe S).2.2.2.1), .int ((sWe S).2.2.2.2)])))) rfl d_G_air_30 ?_
  refine r_aload_n X 1 d_G_air_33 rfl rfl ?_
  refine r_get X k_G 4 (by decide) f_G_36 rfl (rup_ne (by omega) ((ct_lo (by decide)))) rfl d_G_air_34 ?_
  refine r_iload_n X 3 d_G_air_37 rfl rfl ?_
  refine r_put X k_Wea 1 (by decide) f_G_103 rfl rup_self rfl (nb_bit hz) (fb_bit hz) (Nat.le_of_ble_eq_true rfl) [.int a, .int z, .int ((sWe S).2.2.1), .int ((sWe S).2.2.2.1), .int ((sWe S).2.2.2.2)] rfl (va_up (cont cy ad S J) 5 (some (.inr (1, [.int a, .int z, .int ((sWe S).2.2.1), .int ((sWe S).2.2.2.1), .int ((sWe S).2.2.2.2)])))) rup_up d_G_air_38 ?_
  refine r_iload_n X 0 d_G_air_41 rfl rfl ?_
  refine r_c (cont cy ad (airS S a z) J) (cu_we (w := (a, z, (sWe S).2.2.1, (sWe S).2.2.2.1, (sWe S).2.2.2.2))) ?_
  exact r_iret (post := fun r ad' c' => (sWe S).1 = r ∧ ad = ad' ∧ cont cy ad (airS S a z) J = c') X hr hlk d_G_air_42 (by decide) (by decide) ⟨rfl, rfl, rfl⟩
set_option maxRecDepth 100000 in
set_option maxHeartbeats 4000000 in
/-- G_fall -/
theorem c_G_fall (l : Launch) (D : va_G) (cy : Nat → ClassId) (ad : Nat → Nat)  (S : cS) (J : jS) (hS : wfS S) (a f v : Int32) (h0 : inF a 0 3 = 1) (h1 : inF f 0 3 = 1) (h2 : inF v 0 3 = 1) : rMi l D cls (TY cy) NW y_G_fall (Cond.code y_G_fall b_G_fall 5 rt_G_fall :: W0) { frames := 6, cells := 0, slots := 0, locals := 90 } [.ref (ad 0), .int a, .int f, .int v] ad (cont cy ad S J) (fun r ad' c' => (sWe S).2.2.2.2 = r ∧ ad = ad' ∧ cont cy ad (fallS S a f v) J = c') := by
  intro sz
  refine r_of (own := R_G) rfl (by decide +kernel) (Nat.le_of_ble_eq_true rfl) ?_
  intro p e s m below meth cd hsz X hr hlk hN hin
  refine r_lv [0, 1, 2, 3] [(0, .ref (ad 0)), (1, .int a), (2, .int f), (3, .int v)] rfl ?_
  refine r_iload_n X 1 d_G_fall_0 rfl rfl ?_
  refine r_iconst X 0 d_G_fall_1 (by decide) ?_
  refine r_iconst X 3 d_G_fall_2 (by decide) ?_
  refine r_Si X W0_good hN (c_G_isWithin l D cy ad (cont cy ad S J) a 0 3) ys_G_isWithin m_G_78 rfl rfl ⟨by decide, by decide⟩ (Nat.le_of_ble_eq_true rfl) ⟨by decide, by decide⟩ d_G_fall_3 (fun r9 ad9 c9 hp9 => ?_)
  obtain ⟨rfl, rfl, rfl⟩ := hp9
  refine r_top (y := 1) h0 ?_
  refine r_if_eq X 27 d_G_fall_6 (by decide) (fun h9 => absurd h9 (by decide)) (fun _ => ?_)
  refine r_iload_n X 2 d_G_fall_9 rfl rfl ?_
  refine r_iconst X 0 d_G_fall_10 (by decide) ?_
  refine r_iconst X 3 d_G_fall_11 (by decide) ?_
  refine r_Si X W0_good hN (c_G_isWithin l D cy ad (cont cy ad S J) f 0 3) ys_G_isWithin m_G_78 rfl rfl ⟨by decide, by decide⟩ (Nat.le_of_ble_eq_true rfl) ⟨by decide, by decide⟩ d_G_fall_12 (fun r9 ad9 c9 hp9 => ?_)
  obtain ⟨rfl, rfl, rfl⟩ := hp9
  refine r_top (y := 1) h1 ?_
  refine r_if_eq X 27 d_G_fall_15 (by decide) (fun h9 => absurd h9 (by decide)) (fun _ => ?_)
  refine r_iload_n X 3 d_G_fall_18 rfl rfl ?_
  refine r_iconst X 0 d_G_fall_19 (by decide) ?_
  refine r_iconst X 3 d_G_fall_20 (by decide) ?_
  refine r_Si X W0_good hN (c_G_isWithin l D cy ad (cont cy ad S J) v 0 3) ys_G_isWithin m_G_78 rfl rfl ⟨by decide, by decide⟩ (Nat.le_of_ble_eq_true rfl) ⟨by decide, by decide⟩ d_G_fall_21 (fun r9 ad9 c9 hp9 => ?_)
  obtain ⟨rfl, rfl, rfl⟩ := hp9
  refine r_top (y := 1) h2 ?_
  refine r_if_ne X 37 d_G_fall_24 (by decide) (fun _ => ?_) (fun h9 => absurd h9 (by decide))
  refine r_aload_n X 0 d_G_fall_37 rfl rfl ?_
  refine r_get X k_G 4 (by decide) f_G_36 rfl (ct_lo (by decide)) rfl d_G_fall_38 ?_
  refine r_get X k_Wea 4 (by decide) f_G_109 rfl (ct_lo (by decide)) rfl d_G_fall_41 ?_
  refine r_istore X [(4, .int ((sWe S).2.2.2.2)), (0, .ref (ad 0)), (1, .int a), (2, .int f), (3, .int v)] d_G_fall_44 (by decide) rfl ?_
  refine r_aload_n X 1 d_G_fall_46 rfl rfl ?_
  refine r_get X k_G 4 (by decide) f_G_36 rfl (ct_lo (by decide)) rfl d_G_fall_47 ?_
  refine r_iload_n X 2 d_G_fall_50 rfl rfl ?_
  refine r_put X k_Wea 2 (by decide) f_G_112 rfl (ct_lo (by decide)) rfl rfl rfl (Nat.le_of_ble_eq_true rfl) [.int ((sWe S).1), .int ((sWe S).2.1), .int a, .int ((sWe S).2.2.2.1), .int ((sWe S).2.2.2.2)] rfl (va_up (cont cy ad S J) 5 (some (.inr (1, [.int ((sWe S).1), .int ((sWe S).2.1), .int a, .int ((sWe S).2.2.2.1), .int ((sWe S).2.2.2.2)])))) rfl d_G_fall_51 ?_
  refine r_aload_n X 1 d_G_fall_54 rfl rfl ?_
  refine r_get X k_G 4 (by decide) f_G_36 rfl (rup_ne (by omega) ((ct_lo (by decide)))) rfl d_G_fall_55 ?_
  refine r_iload_n X 3 d_G_fall_58 rfl rfl ?_
  refine r_put X k_Wea 3 (by decide) f_G_115 rfl rup_self rfl rfl rfl (Nat.le_of_ble_eq_true rfl) [.int ((sWe S).1), .int ((sWe S).2.1), .int a, .int f, .int ((sWe S).2.2.2.2)] rfl (va_up (cont cy ad S J) 5 (some (.inr (1, [.int ((sWe S).1), .int ((sWe S).2.1), .int a, .int f, .int ((sWe S).2.2.2.2)])))) rup_up d_G_fall_59 ?_
  refine r_aload_n X 1 d_G_fall_62 rfl rfl ?_
  refine r_get X k_G 4 (by decide) f_G_36 rfl (rup_ne (by omega) ((ct_lo (by decide)))) rfl d_G_fall_63 ?_
  refine r_iload_n X 4 d_G_fall_66 rfl rfl ?_
  refine r_put X k_Wea 4 (by decide) f_G_109 rfl rup_self rfl rfl rfl (Nat.le_of_ble_eq_true rfl) [.int ((sWe S).1), .int ((sWe S).2.1), .int a, .int f, .int v] rfl (va_up (cont cy ad S J) 5 (some (.inr (1, [.int ((sWe S).1), .int ((sWe S).2.1), .int a, .int f, .int v])))) rup_up d_G_fall_67 ?_
  refine r_iload X 0 d_G_fall_70 rfl ?_
  refine r_c (cont cy ad (fallS S a f v) J) (cu_we (w := ((sWe S).1, (sWe S).2.1, a, f, v))) ?_
  exact r_iret (post := fun r ad' c' => (sWe S).2.2.2.2 = r ∧ ad = ad' ∧ cont cy ad (fallS S a f v) J = c') X hr hlk d_G_fall_72 (by decide) (by decide) ⟨rfl, rfl, rfl⟩
set_option maxRecDepth 100000 in
set_option maxHeartbeats 4000000 in
/-- G_order -/
theorem c_G_order (l : Launch) (D : va_G) (cy : Nat → ClassId) (ad : Nat → Nat)  (S : cS) (J : jS) (hS : wfS S) (j q qc : Nat) (hj : j < sNl S) (hq : q < sNr S) (hqc : qc < 8) (hqe : (sLo S j).2.1 = nI qc) : rMi l D cls (TY cy) NW y_G_order (Cond.code y_G_order b_G_order 4 rt_G_order :: W0) { frames := 6, cells := 0, slots := 0, locals := 90 } [.ref (ad 0), .int (nI j), .int (nI q)] ad (cont cy ad S J) (fun r ad' c' => nI (qc + 1) = r ∧ ad = ad' ∧ cont cy ad (ordS S j qc (nI q)) J = c') := by
  intro sz
  refine r_of (own := R_G) rfl (by decide +kernel) (Nat.le_of_ble_eq_true rfl) ?_
  intro p e s m below meth cd hsz X hr hlk hN hin
  have h3 := hS.2.1
  refine r_lv [0, 1, 2] [(0, .ref (ad 0)), (1, .int (nI j)), (2, .int (nI q))] rfl ?_
  refine r_aload_n X 0 d_G_order_0 rfl rfl ?_
  refine r_iload_n X 1 d_G_order_1 rfl rfl ?_
  refine r_Vq X W0_good hN (c_G_lorryAt_y l D cy ad S J hS j hj) yv_G_lorryAt m_G_163 (ct_lo (by decide)) k_G.2.1 rfl rfl rfl ⟨by decide, by decide⟩ (Nat.le_of_ble_eq_true rfl) ⟨by decide, by decide⟩ d_G_order_2 (fun r9 ad9 c9 hp9 => ?_)
  obtain ⟨rfl, rfl, rfl⟩ := hp9
  refine r_astore_n X [(3, .ref (ad (48 + 2 * j))), (0, .ref (ad 0)), (1, .int (nI j)), (2, .int (nI q))] d_G_order_5 rfl (by decide) rfl ?_
  refine r_aload_n X 0 d_G_order_6 rfl rfl ?_
  refine r_ifnull X d_G_order_7 ?_
  refine r_aload_n X 1 d_G_order_10 rfl rfl ?_
  refine r_iload_n X 3 d_G_order_11 rfl rfl ?_
  refine r_Vq X W0_good hN (c_G_roadAt_y l D cy ad S J hS q hq) yv_G_roadAt m_G_174 (ct_lo (by decide)) k_G.2.1 rfl rfl rfl ⟨by decide, by decide⟩ (Nat.le_of_ble_eq_true rfl) ⟨by decide, by decide⟩ d_G_order_12 (fun r9 ad9 c9 hp9 => ?_)
  obtain ⟨rfl, rfl, rfl⟩ := hp9
  refine r_ifnonnull X 28 d_G_order_15 (by decide) ?_
  refine r_aload_n X 0 d_G_order_28 rfl rfl ?_
  refine r_get X k_Lor 2 (by decide) f_G_180 rfl (ct_lor hS.2.1 hj) rfl d_G_order_29 ?_
  refine r_top (y := nI qc) hqe ?_
  refine r_bipush X 8 d_G_order_32 (by decide) ?_
  refine r_top (y := nI 8) (by decide) ?_
  refine r_icmp_lt X 47 d_G_order_34 (by decide) (fun _ => ?_) (fun h9 => absurd (nI_lt hqc (by decide)) h9)
  refine r_aload_n X 0 d_G_order_47 rfl rfl ?_
  refine r_iload_n X 3 d_G_order_48 rfl rfl ?_
  refine r_Vv X W0_good hN (c_Lor_addOrder l D cy ad (cont cy ad S J) (48 + 2 * j) (49 + 2 * j) (by omega) ((sLo S j).1) ((sLo S j).2.2.1) ((sLo S j).2.2.2.1) ((sLo S j).2.2.2.2.1) ((sLo S j).2.2.2.2.2.1) ((sLo S j).2.2.2.2.2.2.1) ((sLo S j).2.2.2.2.2.2.2.1) ((sLo S j).2.2.2.2.2.2.2.2) (sOd S j) qc hqc (nI q) (by rw [← hqe]; exact (ct_lor hS.2.1 hj)) (ct_od hS.2.1 hj)) yv_Lor_addOrder m_G_185 (ct_lor hS.2.1 hj) k_Lor.2.1 rfl rfl rfl ⟨by decide, by decide⟩ (Nat.le_of_ble_eq_true rfl) ⟨by decide, by decide⟩ d_G_order_49 (fun ad9 c9 hp9 => ?_)
  obtain ⟨rfl, rfl⟩ := hp9
  refine r_aload_n X 0 d_G_order_52 rfl rfl ?_
  refine r_get X k_Lor 2 (by decide) f_G_180 rfl rup_self rfl d_G_order_53 ?_
  refine r_c (cont cy ad (ordS S j qc (nI q)) J) (cu_ord h3 hj) ?_
  exact r_iret (post := fun r ad' c' => nI (qc + 1) = r ∧ ad = ad' ∧ cont cy ad (ordS S j qc (nI q)) J = c') X hr hlk d_G_order_56 (by decide) (by decide) ⟨rfl, rfl, rfl⟩
set_option maxRecDepth 100000 in
set_option maxHeartbeats 4000000 in
/-- G_rest -/
theorem c_G_rest (l : Launch) (D : va_G) (cy : Nat → ClassId) (ad : Nat → Nat)  (S : cS) (J : jS) (hS : wfS S) (j : Nat) (hj : j < sNl S) (hno : ¬ (sLo S j).2.2.1 = -1) : rMi l D cls (TY cy) NW y_G_rest (Cond.code y_G_rest b_G_rest 4 rt_G_rest :: W0) { frames := 6, cells := 0, slots := 0, locals := 90 } [.ref (ad 0), .int (nI j)] ad (cont cy ad S J) (fun r ad' c' => (sLo S j).2.2.2.2.2.2.2.1 = r ∧ ad = ad' ∧ cont cy ad (restS S j) J = c') := by
  intro sz
  refine r_of (own := R_G) rfl (by decide +kernel) (Nat.le_of_ble_eq_true rfl) ?_
  intro p e s m below meth cd hsz X hr hlk hN hin
  have h3 := hS.2.1
  refine r_lv [0, 1] [(0, .ref (ad 0)), (1, .int (nI j))] rfl ?_
  refine r_aload_n X 0 d_G_rest_0 rfl rfl ?_
  refine r_iload_n X 1 d_G_rest_1 rfl rfl ?_
  refine r_Vq X W0_good hN (c_G_lorryAt_y l D cy ad S J hS j hj) yv_G_lorryAt m_G_163 (ct_lo (by decide)) k_G.2.1 rfl rfl rfl ⟨by decide, by decide⟩ (Nat.le_of_ble_eq_true rfl) ⟨by decide, by decide⟩ d_G_rest_2 (fun r9 ad9 c9 hp9 => ?_)
  obtain ⟨rfl, rfl, rfl⟩ := hp9
  refine r_astore_n X [(2, .ref (ad (48 + 2 * j))), (0, .ref (ad 0)), (1, .int (nI j))] d_G_rest_5 rfl (by decide) rfl ?_
  refine r_aload_n X 0 d_G_rest_6 rfl rfl ?_
  refine r_ifnonnull X 20 d_G_rest_7 (by decide) ?_
  refine r_aload_n X 0 d_G_rest_20 rfl rfl ?_
  refine r_get X k_Lor 3 (by decide) f_G_189 rfl (ct_lor hS.2.1 hj) rfl d_G_rest_21 ?_
  refine r_iconst X (-1) d_G_rest_24 (by decide) ?_
  refine r_icmp_ne X 38 d_G_rest_25 (by decide) (fun _ => ?_) (fun h9 => absurd h9 hno)
  refine r_aload_n X 0 d_G_rest_38 rfl rfl ?_
  refine r_get X k_Lor 8 (by decide) f_G_205 rfl (ct_lor hS.2.1 hj) rfl d_G_rest_39 ?_
  refine r_istore_n X [(3, .int ((sLo S j).2.2.2.2.2.2.2.1)), (2, .ref (ad (48 + 2 * j))), (0, .ref (ad 0)), (1, .int (nI j))] d_G_rest_42 rfl (by decide) rfl ?_
  refine r_aload_n X 1 d_G_rest_43 rfl rfl ?_
  refine r_iconst X 0 d_G_rest_44 (by decide) ?_
  refine r_put X k_Lor 8 (by decide) f_G_205 rfl (ct_lor hS.2.1 hj) rfl rfl rfl (Nat.le_of_ble_eq_true rfl) [.int ((sLo S j).1), .ref (ad (49 + 2 * j)), .int ((sLo S j).2.1), .int ((sLo S j).2.2.1), .int ((sLo S j).2.2.2.1), .int ((sLo S j).2.2.2.2.1), .int ((sLo S j).2.2.2.2.2.1), .int ((sLo S j).2.2.2.2.2.2.1), .int 0, .int ((sLo S j).2.2.2.2.2.2.2.2)] rfl (va_up (cont cy ad S J) (48 + 2 * j) (some (.inr (3, [.int ((sLo S j).1), .ref (ad (49 + 2 * j)), .int ((sLo S j).2.1), .int ((sLo S j).2.2.1), .int ((sLo S j).2.2.2.1), .int ((sLo S j).2.2.2.2.1), .int ((sLo S j).2.2.2.2.2.1), .int ((sLo S j).2.2.2.2.2.2.1), .int 0, .int ((sLo S j).2.2.2.2.2.2.2.2)])))) rfl d_G_rest_45 ?_
  refine r_aload_n X 1 d_G_rest_48 rfl rfl ?_
  refine r_iconst X 0 d_G_rest_49 (by decide) ?_
  refine r_put X k_Lor 2 (by decide) f_G_180 rfl rup_self rfl rfl rfl (Nat.le_of_ble_eq_true rfl) [.int ((sLo S j).1), .ref (ad (49 + 2 * j)), .int 0, .int ((sLo S j).2.2.1), .int ((sLo S j).2.2.2.1), .int ((sLo S j).2.2.2.2.1), .int ((sLo S j).2.2.2.2.2.1), .int ((sLo S j).2.2.2.2.2.2.1), .int 0, .int ((sLo S j).2.2.2.2.2.2.2.2)] rfl (va_up (cont cy ad S J) (48 + 2 * j) (some (.inr (3, [.int ((sLo S j).1), .ref (ad (49 + 2 * j)), .int 0, .int ((sLo S j).2.2.1), .int ((sLo S j).2.2.2.1), .int ((sLo S j).2.2.2.2.1), .int ((sLo S j).2.2.2.2.2.1), .int ((sLo S j).2.2.2.2.2.2.1), .int 0, .int ((sLo S j).2.2.2.2.2.2.2.2)])))) rup_up d_G_rest_50 ?_
  refine r_iload_n X 0 d_G_rest_53 rfl rfl ?_
  refine r_c (cont cy ad (restS S j) J) (cu_lo (x := loR (sLo S j)) h3 hj) ?_
  exact r_iret (post := fun r ad' c' => (sLo S j).2.2.2.2.2.2.2.1 = r ∧ ad = ad' ∧ cont cy ad (restS S j) J = c') X hr hlk d_G_rest_54 (by decide) (by decide) ⟨rfl, rfl, rfl⟩
theorem in_14 : ∀ k : Nat, k < 15 → inF (nI k) 0 14 = 1 := by decide +kernel
theorem in_8 : ∀ k : Nat, k < 9 → inF (nI k) 0 8 = 1 := by decide +kernel
theorem in_24 : ∀ k : Nat, k < 25 → 1 ≤ k → inF (nI k) 1 24 = 1 := by decide +kernel
set_option maxRecDepth 100000 in
set_option maxHeartbeats 4000000 in
/-- G_ofRoad -/
theorem c_G_ofRoad (l : Launch) (D : va_G) (cy : Nat → ClassId) (ad : Nat → Nat)  (S : cS) (J : jS) (hS : wfS S) (q k : Nat) (hq : q < sNr S) (hk : k ≤ 14) : rMi l D cls (TY cy) NW y_G_ofRoad (Cond.code y_G_ofRoad b_G_ofRoad 4 rt_G_ofRoad :: W0) { frames := 6, cells := 0, slots := 0, locals := 90 } [.ref (ad 0), .int (nI q), .int (nI k)] ad (cont cy ad S J) (fun r ad' c' => rfS S q k = r ∧ ad = ad' ∧ (cont cy ad S J) = c') := by
  intro sz
  refine r_of (own := R_G) rfl (by decide +kernel) (Nat.le_of_ble_eq_true rfl) ?_
  intro p e s m below meth cd hsz X hr hlk hN hin
  have h8 := hS.1
  refine r_lv [0, 1, 2] [(0, .ref (ad 0)), (1, .int (nI q)), (2, .int (nI k))] rfl ?_
  refine r_aload_n X 0 d_G_ofRoad_0 rfl rfl ?_
  refine r_iload_n X 1 d_G_ofRoad_1 rfl rfl ?_
  refine r_Vq X W0_good hN (c_G_roadAt_y l D cy ad S J hS q hq) yv_G_roadAt m_G_174 (ct_lo (by decide)) k_G.2.1 rfl rfl rfl ⟨by decide, by decide⟩ (Nat.le_of_ble_eq_true rfl) ⟨by decide, by decide⟩ d_G_ofRoad_2 (fun r9 ad9 c9 hp9 => ?_)
  obtain ⟨rfl, rfl, rfl⟩ := hp9
  refine r_astore_n X [(3, .ref (ad (16 + 4 * q))), (0, .ref (ad 0)), (1, .int (nI q)), (2, .int (nI k))] d_G_ofRoad_5 rfl (by decide) rfl ?_
  refine r_aload_n X 0 d_G_ofRoad_6 rfl rfl ?_
  refine r_ifnonnull X 20 d_G_ofRoad_7 (by decide) ?_
  refine r_iload_n X 3 d_G_ofRoad_20 rfl rfl ?_
  refine r_iconst X 0 d_G_ofRoad_21 (by decide) ?_
  refine r_bipush X 14 d_G_ofRoad_22 (by decide) ?_
  refine r_Si X W0_good hN (c_G_isWithin l D cy ad (cont cy ad S J) (nI k) 0 14) ys_G_isWithin m_G_78 rfl rfl ⟨by decide, by decide⟩ (Nat.le_of_ble_eq_true rfl) ⟨by decide, by decide⟩ d_G_ofRoad_24 (fun r9 ad9 c9 hp9 => ?_)
  obtain ⟨rfl, rfl, rfl⟩ := hp9
  refine r_top (y := 1) (in_14 k (by omega)) ?_
  refine r_if_ne X 40 d_G_ofRoad_27 (by decide) (fun _ => ?_) (fun h9 => absurd h9 (by decide))
  refine r_aload_n X 0 d_G_ofRoad_40 rfl rfl ?_
  refine r_iload_n X 3 d_G_ofRoad_41 rfl rfl ?_
  refine r_Vi X W0_good hN (c_Road_fact l D cy ad (cont cy ad S J) (16 + 4 * q) (17 + 4 * q) (18 + 4 * q) (19 + 4 * q) ((sRc S q).1) ((sRc S q).2.1) ((sRc S q).2.2.1) ((sRc S q).2.2.2.1) ((sRc S q).2.2.2.2.1) ((sRc S q).2.2.2.2.2.1) ((sRc S q).2.2.2.2.2.2.1) ((sRc S q).2.2.2.2.2.2.2.1) ((sRc S q).2.2.2.2.2.2.2.2) (ct_road hS.1 hq) ((sSf S q).1) ((sSf S q).2.1) ((sSf S q).2.2.1) ((sSf S q).2.2.2.1) ((sSf S q).2.2.2.2.1) ((sSf S q).2.2.2.2.2.1) ((sSf S q).2.2.2.2.2.2.1) ((sSf S q).2.2.2.2.2.2.2) (ct_surf hS.1 hq) k hk) yv_Road_fact m_G_232 (ct_road hS.1 hq) k_Road.2.1 rfl rfl rfl ⟨by decide, by decide⟩ (Nat.le_of_ble_eq_true rfl) ⟨by decide, by decide⟩ d_G_ofRoad_42 (fun r9 ad9 c9 hp9 => ?_)
  obtain ⟨rfl, rfl, rfl⟩ := hp9
  exact r_iret (post := fun r ad' c' => rfS S q k = r ∧ ad = ad' ∧ (cont cy ad S J) = c') X hr hlk d_G_ofRoad_45 (by decide) (by decide) ⟨rfl, rfl, rfl⟩
set_option maxRecDepth 100000 in
set_option maxHeartbeats 4000000 in
/-- G_ofLorry -/
theorem c_G_ofLorry (l : Launch) (D : va_G) (cy : Nat → ClassId) (ad : Nat → Nat)  (S : cS) (J : jS) (hS : wfS S) (j k : Nat) (hj : j < sNl S) (hk : k ≤ 8) : rMi l D cls (TY cy) NW y_G_ofLorry (Cond.code y_G_ofLorry b_G_ofLorry 4 rt_G_ofLorry :: W0) { frames := 6, cells := 0, slots := 0, locals := 90 } [.ref (ad 0), .int (nI j), .int (nI k)] ad (cont cy ad S J) (fun r ad' c' => lfS S j k = r ∧ ad = ad' ∧ (cont cy ad S J) = c') := by
  intro sz
  refine r_of (own := R_G) rfl (by decide +kernel) (Nat.le_of_ble_eq_true rfl) ?_
  intro p e s m below meth cd hsz X hr hlk hN hin
  have h3 := hS.2.1
  refine r_lv [0, 1, 2] [(0, .ref (ad 0)), (1, .int (nI j)), (2, .int (nI k))] rfl ?_
  refine r_aload_n X 0 d_G_ofLorry_0 rfl rfl ?_
  refine r_iload_n X 1 d_G_ofLorry_1 rfl rfl ?_
  refine r_Vq X W0_good hN (c_G_lorryAt_y l D cy ad S J hS j hj) yv_G_lorryAt m_G_163 (ct_lo (by decide)) k_G.2.1 rfl rfl rfl ⟨by decide, by decide⟩ (Nat.le_of_ble_eq_true rfl) ⟨by decide, by decide⟩ d_G_ofLorry_2 (fun r9 ad9 c9 hp9 => ?_)
  obtain ⟨rfl, rfl, rfl⟩ := hp9
  refine r_astore_n X [(3, .ref (ad (48 + 2 * j))), (0, .ref (ad 0)), (1, .int (nI j)), (2, .int (nI k))] d_G_ofLorry_5 rfl (by decide) rfl ?_
  refine r_aload_n X 0 d_G_ofLorry_6 rfl rfl ?_
  refine r_ifnonnull X 20 d_G_ofLorry_7 (by decide) ?_
  refine r_iload_n X 3 d_G_ofLorry_20 rfl rfl ?_
  refine r_iconst X 0 d_G_ofLorry_21 (by decide) ?_
  refine r_bipush X 8 d_G_ofLorry_22 (by decide) ?_
  refine r_Si X W0_good hN (c_G_isWithin l D cy ad (cont cy ad S J) (nI k) 0 8) ys_G_isWithin m_G_78 rfl rfl ⟨by decide, by decide⟩ (Nat.le_of_ble_eq_true rfl) ⟨by decide, by decide⟩ d_G_ofLorry_24 (fun r9 ad9 c9 hp9 => ?_)
  obtain ⟨rfl, rfl, rfl⟩ := hp9
  refine r_top (y := 1) (in_8 k (by omega)) ?_
  refine r_if_ne X 40 d_G_ofLorry_27 (by decide) (fun _ => ?_) (fun h9 => absurd h9 (by decide))
  refine r_aload_n X 0 d_G_ofLorry_40 rfl rfl ?_
  refine r_iload_n X 3 d_G_ofLorry_41 rfl rfl ?_
  refine r_Vi X W0_good hN (c_Lor_fact l D cy ad (cont cy ad S J) (48 + 2 * j) (49 + 2 * j) (by omega) ((sLo S j).1) ((sLo S j).2.1) ((sLo S j).2.2.1) ((sLo S j).2.2.2.1) ((sLo S j).2.2.2.2.1) ((sLo S j).2.2.2.2.2.1) ((sLo S j).2.2.2.2.2.2.1) ((sLo S j).2.2.2.2.2.2.2.1) ((sLo S j).2.2.2.2.2.2.2.2) (sOd S j) (ct_lor hS.2.1 hj) (ct_od hS.2.1 hj) k hk) yv_Lor_fact m_G_238 (ct_lor hS.2.1 hj) k_Lor.2.1 rfl rfl rfl ⟨by decide, by decide⟩ (Nat.le_of_ble_eq_true rfl) ⟨by decide, by decide⟩ d_G_ofLorry_42 (fun r9 ad9 c9 hp9 => ?_)
  obtain ⟨rfl, rfl, rfl⟩ := hp9
  exact r_iret (post := fun r ad' c' => lfS S j k = r ∧ ad = ad' ∧ (cont cy ad S J) = c') X hr hlk d_G_ofLorry_45 (by decide) (by decide) ⟨rfl, rfl, rfl⟩
set_option maxRecDepth 100000 in
set_option maxHeartbeats 4000000 in
/-- G_many -/
theorem c_G_many (l : Launch) (D : va_G) (cy : Nat → ClassId) (ad : Nat → Nat)  (S : cS) (J : jS) (hS : wfS S) (k : Nat) (hk : k ≤ 14) : rMi l D cls (TY cy) NW y_G_many (Cond.code y_G_many b_G_many 2 rt_G_many :: W0) { frames := 6, cells := 0, slots := 0, locals := 90 } [.ref (ad 0), .int (nI k)] ad (cont cy ad S J) (fun r ad' c' => cntF S k = r ∧ ad = ad' ∧ (cont cy ad S J) = c') := by
  intro sz
  refine r_of (own := R_G) rfl (by decide +kernel) (Nat.le_of_ble_eq_true rfl) ?_
  intro p e s m below meth cd hsz X hr hlk hN hin
  refine r_lv [0, 1] [(0, .ref (ad 0)), (1, .int (nI k))] rfl ?_
  refine r_iload_n X 1 d_G_many_0 rfl rfl ?_
  refine r_iconst X 0 d_G_many_1 (by decide) ?_
  refine r_bipush X 14 d_G_many_2 (by decide) ?_
  refine r_Si X W0_good hN (c_G_isWithin l D cy ad (cont cy ad S J) (nI k) 0 14) ys_G_isWithin m_G_78 rfl rfl ⟨by decide, by decide⟩ (Nat.le_of_ble_eq_true rfl) ⟨by decide, by decide⟩ d_G_many_4 (fun r9 ad9 c9 hp9 => ?_)
  obtain ⟨rfl, rfl, rfl⟩ := hp9
  refine r_top (y := 1) (in_14 k (by omega)) ?_
  refine r_if_ne X 20 d_G_many_7 (by decide) (fun _ => ?_) (fun h9 => absurd h9 (by decide))
  refine r_aload_n X 0 d_G_many_20 rfl rfl ?_
  refine r_iload_n X 1 d_G_many_21 rfl rfl ?_
  refine r_Vi X W0_good hN (c_G_countOf l D cy ad S J hS k hk) yv_G_countOf m_G_239 (ct_lo (by decide)) k_G.2.1 rfl rfl rfl ⟨by decide, by decide⟩ (Nat.le_of_ble_eq_true rfl) ⟨by decide, by decide⟩ d_G_many_22 (fun r9 ad9 c9 hp9 => ?_)
  obtain ⟨rfl, rfl, rfl⟩ := hp9
  exact r_iret (post := fun r ad' c' => cntF S k = r ∧ ad = ad' ∧ (cont cy ad S J) = c') X hr hlk d_G_many_25 (by decide) (by decide) ⟨rfl, rfl, rfl⟩
set_option maxRecDepth 100000 in
set_option maxHeartbeats 4000000 in
/-- G_slipperyIn -/
theorem c_G_slipperyIn (l : Launch) (D : va_G) (cy : Nat → ClassId) (ad : Nat → Nat)  (S : cS) (J : jS) (hS : wfS S) (q k : Nat) (hq : q < sNr S) (hk1 : 1 ≤ k) (hk : k ≤ 24) : rMi l D cls (TY cy) NW y_G_slipperyIn (Cond.code y_G_slipperyIn b_G_slipperyIn 4 rt_G_slipperyIn :: W0) { frames := 6, cells := 0, slots := 0, locals := 91 } [.ref (ad 0), .int (nI q), .int (nI k)] ad (cont cy ad S J) (fun r ad' c' => fsR S q 0 k = r ∧ ad = ad' ∧ ∃ x9, cont cy ad S (x9, J.2) = c') := by
  intro sz
  refine r_of (own := R_G) rfl (by decide +kernel) (Nat.le_of_ble_eq_true rfl) ?_
  intro p e s m below meth cd hsz X hr hlk hN hin
  have h8 := hS.1
  refine r_lv [0, 1, 2] [(0, .ref (ad 0)), (1, .int (nI q)), (2, .int (nI k))] rfl ?_
  refine r_aload_n X 0 d_G_slipperyIn_0 rfl rfl ?_
  refine r_iload_n X 1 d_G_slipperyIn_1 rfl rfl ?_
  refine r_Vq X W0_good hN (c_G_roadAt_y l D cy ad S J hS q hq) yv_G_roadAt m_G_174 (ct_lo (by decide)) k_G.2.1 rfl rfl rfl ⟨by decide, by decide⟩ (Nat.le_of_ble_eq_true rfl) ⟨by decide, by decide⟩ d_G_slipperyIn_2 (fun r9 ad9 c9 hp9 => ?_)
  obtain ⟨rfl, rfl, rfl⟩ := hp9
  refine r_astore_n X [(3, .ref (ad (16 + 4 * q))), (0, .ref (ad 0)), (1, .int (nI q)), (2, .int (nI k))] d_G_slipperyIn_5 rfl (by decide) rfl ?_
  refine r_aload_n X 0 d_G_slipperyIn_6 rfl rfl ?_
  refine r_ifnonnull X 20 d_G_slipperyIn_7 (by decide) ?_
  refine r_iload_n X 3 d_G_slipperyIn_20 rfl rfl ?_
  refine r_iconst X 1 d_G_slipperyIn_21 (by decide) ?_
  refine r_bipush X 24 d_G_slipperyIn_22 (by decide) ?_
  refine r_Si X W0_good hN (c_G_isWithin l D cy ad (cont cy ad S J) (nI k) 1 24) ys_G_isWithin m_G_78 rfl rfl ⟨by decide, by decide⟩ (Nat.le_of_ble_eq_true rfl) ⟨by decide, by decide⟩ d_G_slipperyIn_24 (fun r9 ad9 c9 hp9 => ?_)
  obtain ⟨rfl, rfl, rfl⟩ := hp9
  refine r_top (y := 1) (in_24 k (by omega) hk1) ?_
  refine r_if_ne X 40 d_G_slipperyIn_27 (by decide) (fun _ => ?_) (fun h9 => absurd h9 (by decide))
  refine r_aload_n X 1 d_G_slipperyIn_40 rfl rfl ?_
  refine r_aload_n X 0 d_G_slipperyIn_41 rfl rfl ?_
  refine r_iconst X 0 d_G_slipperyIn_42 (by decide) ?_
  refine r_iload_n X 3 d_G_slipperyIn_43 rfl rfl ?_
  refine r_Vi X W0_good hN (c_G_firstSlippery l D cy ad S J hS q hq 0 k (by omega)) yv_G_firstSlippery m_G_253 (ct_lo (by decide)) k_G.2.1 rfl rfl rfl ⟨by decide, by decide⟩ (Nat.le_of_ble_eq_true rfl) ⟨by decide, by decide⟩ d_G_slipperyIn_44 (fun r9 ad9 c9 hp9 => ?_)
  obtain ⟨rfl, rfl, x9, rfl⟩ := hp9
  exact r_iret (post := fun r ad' c' => fsR S q 0 k = r ∧ ad = ad' ∧ ∃ x9, cont cy ad S (x9, J.2) = c') X hr hlk d_G_slipperyIn_47 (by decide) (by decide) ⟨rfl, rfl, x9, rfl⟩
set_option maxRecDepth 100000 in
set_option maxHeartbeats 4000000 in
/-- G_saltFor -/
theorem c_G_saltFor (l : Launch) (D : va_G) (cy : Nat → ClassId) (ad : Nat → Nat)  (S : cS) (J : jS) (hS : wfS S) (q k : Nat) (hq : q < sNr S) (hk1 : 1 ≤ k) (hk : k ≤ 24) : rMi l D cls (TY cy) NW y_G_saltFor (Cond.code y_G_saltFor b_G_saltFor 4 rt_G_saltFor :: W0) { frames := 6, cells := 0, slots := 0, locals := 114 } [.ref (ad 0), .int (nI q), .int (nI k)] ad (cont cy ad S J) (fun r ad' c' => lsF S q k 61 0 = r ∧ ad = ad' ∧ ∃ x9, cont cy ad S (x9, J.2) = c') := by
  intro sz
  refine r_of (own := R_G) rfl (by decide +kernel) (Nat.le_of_ble_eq_true rfl) ?_
  intro p e s m below meth cd hsz X hr hlk hN hin
  have h8 := hS.1
  refine r_lv [0, 1, 2] [(0, .ref (ad 0)), (1, .int (nI q)), (2, .int (nI k))] rfl ?_
  refine r_aload_n X 0 d_G_saltFor_0 rfl rfl ?_
  refine r_iload_n X 1 d_G_saltFor_1 rfl rfl ?_
  refine r_Vq X W0_good hN (c_G_roadAt_y l D cy ad S J hS q hq) yv_G_roadAt m_G_174 (ct_lo (by decide)) k_G.2.1 rfl rfl rfl ⟨by decide, by decide⟩ (Nat.le_of_ble_eq_true rfl) ⟨by decide, by decide⟩ d_G_saltFor_2 (fun r9 ad9 c9 hp9 => ?_)
  obtain ⟨rfl, rfl, rfl⟩ := hp9
  refine r_astore_n X [(3, .ref (ad (16 + 4 * q))), (0, .ref (ad 0)), (1, .int (nI q)), (2, .int (nI k))] d_G_saltFor_5 rfl (by decide) rfl ?_
  refine r_aload_n X 0 d_G_saltFor_6 rfl rfl ?_
  refine r_ifnonnull X 20 d_G_saltFor_7 (by decide) ?_
  refine r_iload_n X 3 d_G_saltFor_20 rfl rfl ?_
  refine r_iconst X 1 d_G_saltFor_21 (by decide) ?_
  refine r_bipush X 24 d_G_saltFor_22 (by decide) ?_
  refine r_Si X W0_good hN (c_G_isWithin l D cy ad (cont cy ad S J) (nI k) 1 24) ys_G_isWithin m_G_78 rfl rfl ⟨by decide, by decide⟩ (Nat.le_of_ble_eq_true rfl) ⟨by decide, by decide⟩ d_G_saltFor_24 (fun r9 ad9 c9 hp9 => ?_)
  obtain ⟨rfl, rfl, rfl⟩ := hp9
  refine r_top (y := 1) (in_24 k (by omega) hk1) ?_
  refine r_if_ne X 40 d_G_saltFor_27 (by decide) (fun _ => ?_) (fun h9 => absurd h9 (by decide))
  refine r_aload_n X 1 d_G_saltFor_40 rfl rfl ?_
  refine r_aload_n X 0 d_G_saltFor_41 rfl rfl ?_
  refine r_iload_n X 3 d_G_saltFor_42 rfl rfl ?_
  refine r_Vi X W0_good hN (c_G_leastSalt l D cy ad S J hS q hq k (by omega)) yv_G_leastSalt m_G_257 (ct_lo (by decide)) k_G.2.1 rfl rfl rfl ⟨by decide, by decide⟩ (Nat.le_of_ble_eq_true rfl) ⟨by decide, by decide⟩ d_G_saltFor_43 (fun r9 ad9 c9 hp9 => ?_)
  obtain ⟨rfl, rfl, x9, rfl⟩ := hp9
  exact r_iret (post := fun r ad' c' => lsF S q k 61 0 = r ∧ ad = ad' ∧ ∃ x9, cont cy ad S (x9, J.2) = c') X hr hlk d_G_saltFor_46 (by decide) (by decide) ⟨rfl, rfl, x9, rfl⟩
set_option maxRecDepth 100000 in
set_option maxHeartbeats 4000000 in
/-- G_bestOrders -/
theorem c_G_bestOrders (l : Launch) (D : va_G) (cy : Nat → ClassId) (ad : Nat → Nat)  (S : cS) (J : jS) (hS : wfS S) (j : Nat) (a : Int32) (hj : j < sNl S) (ha : inF a 0 6 = 1) : rMi l D cls (TY cy) NW y_G_bestOrders (Cond.code y_G_bestOrders b_G_bestOrders 3 rt_G_bestOrders :: W0) { frames := 6, cells := 0, slots := 0, locals := 104 } [.ref (ad 0), .int (nI j), .int a] ad (cont cy ad S J) (fun r ad' c' => rbF S a = r ∧ ad = ad' ∧ ∃ K9 L9, cont cy ad S (J.1, J.2.1, K9, L9) = c') := by
  intro sz
  refine r_of (own := R_G) rfl (by decide +kernel) (Nat.le_of_ble_eq_true rfl) ?_
  intro p e s m below meth cd hsz X hr hlk hN hin
  refine r_lv [0, 1, 2] [(0, .ref (ad 0)), (1, .int (nI j)), (2, .int a)] rfl ?_
  refine r_aload_n X 0 d_G_bestOrders_0 rfl rfl ?_
  refine r_iload_n X 1 d_G_bestOrders_1 rfl rfl ?_
  refine r_Vq X W0_good hN (c_G_lorryAt_y l D cy ad S J hS j hj) yv_G_lorryAt m_G_163 (ct_lo (by decide)) k_G.2.1 rfl rfl rfl ⟨by decide, by decide⟩ (Nat.le_of_ble_eq_true rfl) ⟨by decide, by decide⟩ d_G_bestOrders_2 (fun r9 ad9 c9 hp9 => ?_)
  obtain ⟨rfl, rfl, rfl⟩ := hp9
  refine r_ifnull X d_G_bestOrders_5 ?_
  refine r_iload_n X 2 d_G_bestOrders_8 rfl rfl ?_
  refine r_Si X W0_good hN (c_G_isNode l D cy ad (cont cy ad S J) a) ys_G_isNode m_G_62 rfl rfl ⟨by decide, by decide⟩ (Nat.le_of_ble_eq_true rfl) ⟨by decide, by decide⟩ d_G_bestOrders_9 (fun r9 ad9 c9 hp9 => ?_)
  obtain ⟨rfl, rfl, rfl⟩ := hp9
  refine r_top (y := 1) ha ?_
  refine r_if_ne X 26 d_G_bestOrders_12 (by decide) (fun _ => ?_) (fun h9 => absurd h9 (by decide))
  refine r_aload_n X 0 d_G_bestOrders_26 rfl rfl ?_
  refine r_get X k_G 7 (by decide) f_G_54 rfl (ct_lo (by decide)) rfl d_G_bestOrders_27 ?_
  refine r_aload_n X 0 d_G_bestOrders_30 rfl rfl ?_
  refine r_get X k_G 0 (by decide) f_G_11 rfl (ct_lo (by decide)) rfl d_G_bestOrders_31 ?_
  refine r_iload_n X 2 d_G_bestOrders_34 rfl rfl ?_
  refine r_Vi X W0_good hN (c_Rows_best l D cy ad S J hS a) yv_Rows_best m_G_262 (ct_lo (by decide)) k_Rows.2.1 rfl rfl rfl ⟨by decide, by decide⟩ (Nat.le_of_ble_eq_true rfl) ⟨by decide, by decide⟩ d_G_bestOrders_35 (fun r9 ad9 c9 hp9 => ?_)
  obtain ⟨rfl, rfl, K9, L9, rfl⟩ := hp9
  exact r_iret (post := fun r ad' c' => rbF S a = r ∧ ad = ad' ∧ ∃ K9 L9, cont cy ad S (J.1, J.2.1, K9, L9) = c') X hr hlk d_G_bestOrders_38 (by decide) (by decide) ⟨rfl, rfl, K9, L9, rfl⟩
