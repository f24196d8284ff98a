/-! constructors -/
set_option maxRecDepth 100000 in
set_option maxHeartbeats 4000000 in
/-- Surf_init -/
theorem c_Surf_init (l : Launch) (D : va_G) (cy : Nat → ClassId) (ad : Nat → Nat) (c : rC) (n : Nat) (hc : c n = some (.inr (0, [.int 0, .int 0, .int 0, .int 0, .int 0, .int 0, .int 0, .int 0]))) : rMv l D cls (TY cy) NW y_Surf_init (Cond.code y_Surf_init b_Surf_init 1 none :: W0) { frames := 1, cells := 0, slots := 0, locals := 20 } [.ref (ad n)] ad c (fun ad' c' => ad = ad' ∧ va_up c n (some (.inr (0, [.int 3, .int 0, .int 0, .int 0, .int 0, .int 0, .int 0, .int 0]))) = c') := by
  intro sz
  refine r_of (own := R_Surf) rfl (by decide +kernel) (Nat.le_of_ble_eq_true rfl) ?_
  intro p e s m below meth cd hsz X hr hlk hN hin
  refine r_lv [0] [(0, .ref (ad n))] rfl ?_
  refine r_aload_n X 0 d_Surf_init_0 rfl rfl ?_
  refine r_obj X m_Surf_3 s_obj cd_obj ⟨by decide, by decide⟩ (Nat.le_of_ble_eq_true rfl) d_Surf_init_1 ?_
  refine r_aload_n X 0 d_Surf_init_4 rfl rfl ?_
  refine r_iconst X 3 d_Surf_init_5 (by decide) ?_
  refine r_put X k_Surf 0 (by decide) f_Surf_9 rfl hc rfl rfl rfl (Nat.le_of_ble_eq_true rfl) [.int 3, .int 0, .int 0, .int 0, .int 0, .int 0, .int 0, .int 0] rfl (va_up c n (some (.inr (0, [.int 3, .int 0, .int 0, .int 0, .int 0, .int 0, .int 0, .int 0])))) rfl d_Surf_init_6 ?_
  exact r_vret (post := fun ad' c' => ad = ad' ∧ va_up c n (some (.inr (0, [.int 3, .int 0, .int 0, .int 0, .int 0, .int 0, .int 0, .int 0]))) = c') X hr hlk d_Surf_init_9 (by decide) (by decide) ⟨rfl, rfl⟩
set_option maxRecDepth 100000 in
set_option maxHeartbeats 4000000 in
/-- Wea_init -/
theorem c_Wea_init (l : Launch) (D : va_G) (cy : Nat → ClassId) (ad : Nat → Nat) (c : rC) (n : Nat) (hc : c n = some (.inr (1, [.int 0, .int 0, .int 0, .int 0, .int 0]))) : rMv l D cls (TY cy) NW y_Wea_init (Cond.code y_Wea_init b_Wea_init 1 none :: W0) { frames := 1, cells := 0, slots := 0, locals := 20 } [.ref (ad n)] ad c (fun ad' c' => ad = ad' ∧ va_up c n (some (.inr (1, [.int 5, .int 0, .int 0, .int 0, .int 0]))) = c') := by
  intro sz
  refine r_of (own := R_Wea) rfl (by decide +kernel) (Nat.le_of_ble_eq_true rfl) ?_
  intro p e s m below meth cd hsz X hr hlk hN hin
  refine r_lv [0] [(0, .ref (ad n))] rfl ?_
  refine r_aload_n X 0 d_Wea_init_0 rfl rfl ?_
  refine r_obj X m_Wea_1 s_obj cd_obj ⟨by decide, by decide⟩ (Nat.le_of_ble_eq_true rfl) d_Wea_init_1 ?_
  refine r_aload_n X 0 d_Wea_init_4 rfl rfl ?_
  refine r_iconst X 5 d_Wea_init_5 (by decide) ?_
  refine r_put X k_Wea 0 (by decide) f_Wea_7 rfl hc rfl rfl rfl (Nat.le_of_ble_eq_true rfl) [.int 5, .int 0, .int 0, .int 0, .int 0] rfl (va_up c n (some (.inr (1, [.int 5, .int 0, .int 0, .int 0, .int 0])))) rfl d_Wea_init_6 ?_
  exact r_vret (post := fun ad' c' => ad = ad' ∧ va_up c n (some (.inr (1, [.int 5, .int 0, .int 0, .int 0, .int 0]))) = c') X hr hlk d_Wea_init_9 (by decide) (by decide) ⟨rfl, rfl⟩
set_option maxRecDepth 100000 in
set_option maxHeartbeats 4000000 in
/-- Rows_init -/
theorem c_Rows_init (l : Launch) (D : va_G) (cy : Nat → ClassId) (ad : Nat → Nat) (c : rC) (n ka kb : Nat) (hc : c n = some (.inr (4, [.null, .null]))) (hka : c ka = none) (hkb : c kb = none) (hnnka : n ≠ ka) (hnnkb : n ≠ kb) (hnkakb : ka ≠ kb) : rMv l D cls (TY cy) NW y_Rows_init (Cond.code y_Rows_init b_Rows_init 1 none :: W0) { frames := 1, cells := 2, slots := 896, locals := 20 } [.ref (ad n)] ad c (fun ad' c' => (∀ j, j ≠ ka → j ≠ kb → ad' j = ad j) ∧ va_up (va_up (va_up c ka (some (.inl (cy 0, 448, .inl (fun _ => 0))))) n (some (.inr (4, [.ref (ad' ka), .ref (ad' kb)])))) kb (some (.inl (cy 0, 448, .inl (fun _ => 0)))) = c') := by
  intro sz
  refine r_of (own := R_Rows) rfl (by decide +kernel) (Nat.le_of_ble_eq_true rfl) ?_
  intro p e s m below meth cd hsz X hr hlk hN hin
  refine r_lv [0] [(0, .ref (ad n))] rfl ?_
  refine r_aload_n X 0 d_Rows_init_0 rfl rfl ?_
  refine r_obj X m_Rows_3 s_obj cd_obj ⟨by decide, by decide⟩ (Nat.le_of_ble_eq_true rfl) d_Rows_init_1 ?_
  refine r_aload_n X 0 d_Rows_init_4 rfl rfl ?_
  refine r_sipush X 448 d_Rows_init_5 (by decide) ?_
  refine r_newa (ty := .int) (N := 448) X 0 rfl rfl rfl (fun q9 => q9) a_int (by decide) (by decide) (by decide) (Nat.le_of_ble_eq_true rfl) (Nat.le_of_ble_eq_true rfl) d_Rows_init_8 ka hka (fun a9 => [(0, .ref (a9 n))]) (fun a9 => [.ref (a9 n)]) (fun a9 h9 => by rw [h9 n (by omega)]) (fun a9 h9 => by rw [h9 n (by omega)]) (fun a_1 ha_1 => ?_)
  refine r_put X k_Rows 0 (by decide) f_Rows_9 rfl (rup_ne (by omega) (hc)) rfl rfl rfl (Nat.le_of_ble_eq_true rfl) [.ref (a_1 ka), .null] rfl (va_up (va_up c ka (some (.inl (cy 0, 448, .inl (fun _ => 0))))) n (some (.inr (4, [.ref (a_1 ka), .null])))) rfl d_Rows_init_10 ?_
  refine r_aload_n X 0 d_Rows_init_13 rfl rfl ?_
  refine r_sipush X 448 d_Rows_init_14 (by decide) ?_
  refine r_newa (ty := .int) (N := 448) X 0 rfl rfl rfl (fun q9 => q9) a_int (by decide) (by decide) (by decide) (Nat.le_of_ble_eq_true rfl) (Nat.le_of_ble_eq_true rfl) d_Rows_init_17 kb (rup_ne (by omega) (rup_ne (by omega) hkb)) (fun a9 => [(0, .ref (a9 n))]) (fun a9 => [.ref (a9 n)]) (fun a9 h9 => by rw [h9 n (by omega)]) (fun a9 h9 => by rw [h9 n (by omega)]) (fun a_2 ha_2 => ?_)
  refine r_c (va_up (va_up (va_up c ka (some (.inl (cy 0, 448, .inl (fun _ => 0))))) n (some (.inr (4, [.ref (a_2 ka), .null])))) kb (some (.inl (cy 0, 448, .inl (fun _ => 0))))) (by rw [ha_2 ka (by omega)]) ?_
  refine r_put X k_Rows 1 (by decide) f_Rows_15 rfl (rup_ne (by omega) (rup_self)) rfl rfl rfl (Nat.le_of_ble_eq_true rfl) [.ref (a_2 ka), .ref (a_2 kb)] rfl (va_up (va_up (va_up c ka (some (.inl (cy 0, 448, .inl (fun _ => 0))))) n (some (.inr (4, [.ref (a_2 ka), .ref (a_2 kb)])))) kb (some (.inl (cy 0, 448, .inl (fun _ => 0))))) (rup_in (by omega) rup_up rfl) d_Rows_init_19 ?_
  exact r_vret (post := fun ad' c' => (∀ j, j ≠ ka → j ≠ kb → ad' j = ad j) ∧ va_up (va_up (va_up c ka (some (.inl (cy 0, 448, .inl (fun _ => 0))))) n (some (.inr (4, [.ref (ad' ka), .ref (ad' kb)])))) kb (some (.inl (cy 0, 448, .inl (fun _ => 0)))) = c') X hr hlk d_Rows_init_22 (by decide) (by decide) ⟨(fun j h0 h1 => (ha_2 j h1).trans (ha_1 j h0)), rfl⟩
set_option maxRecDepth 100000 in
set_option maxHeartbeats 4000000 in
/-- Lor_init -/
theorem c_Lor_init (l : Launch) (D : va_G) (cy : Nat → ClassId) (ad : Nat → Nat) (c : rC) (n ko : Nat) (hc : c n = some (.inr (3, [.int 0, .null, .int 0, .int 0, .int 0, .int 0, .int 0, .int 0, .int 0, .int 0]))) (hko : c ko = none) (hnnko : n ≠ ko) (z : Int32) (hz : z = 0 ∨ z = 1) : rMv l D cls (TY cy) NW y_Lor_init (Cond.code y_Lor_init b_Lor_init 2 none :: W0) { frames := 1, cells := 1, slots := 8, locals := 20 } [.ref (ad n), .int z] ad c (fun ad' c' => (∀ j, j ≠ ko → ad' j = ad j) ∧ va_up (va_up c ko (some (.inl (cy 0, 8, .inl (fun _ => 0))))) n (some (.inr (3, [.int z, .ref (ad' ko), .int 0, .int 0, .int 0, .int 0, .int 0, .int 2, .int 0, .int 0]))) = c') := by
  intro sz
  refine r_of (own := R_Lor) rfl (by decide +kernel) (Nat.le_of_ble_eq_true rfl) ?_
  intro p e s m below meth cd hsz X hr hlk hN hin
  refine r_lv [0, 1] [(0, .ref (ad n)), (1, .int z)] rfl ?_
  refine r_aload_n X 0 d_Lor_init_0 rfl rfl ?_
  refine r_obj X m_Lor_3 s_obj cd_obj ⟨by decide, by decide⟩ (Nat.le_of_ble_eq_true rfl) d_Lor_init_1 ?_
  refine r_aload_n X 0 d_Lor_init_4 rfl rfl ?_
  refine r_bipush X 8 d_Lor_init_5 (by decide) ?_
  refine r_newa (ty := .int) (N := 8) X 0 rfl rfl rfl (fun q9 => q9) a_int (by decide) (by decide) (by decide) (Nat.le_of_ble_eq_true rfl) (Nat.le_of_ble_eq_true rfl) d_Lor_init_7 ko hko (fun a9 => [(0, .ref (a9 n)), (1, .int z)]) (fun a9 => [.ref (a9 n)]) (fun a9 h9 => by rw [h9 n (by omega)]) (fun a9 h9 => by rw [h9 n (by omega)]) (fun a_1 ha_1 => ?_)
  refine r_putF X k_Lor 1 (by decide) f_Lor_9 rfl (rup_ne (by omega) (hc)) rfl rfl hin rfl rfl (Nat.le_of_ble_eq_true rfl) [.int 0, .ref (a_1 ko), .int 0, .int 0, .int 0, .int 0, .int 0, .int 0, .int 0, .int 0] rfl (va_up (va_up c ko (some (.inl (cy 0, 8, .inl (fun _ => 0))))) n (some (.inr (3, [.int 0, .ref (a_1 ko), .int 0, .int 0, .int 0, .int 0, .int 0, .int 0, .int 0, .int 0])))) rfl d_Lor_init_9 ?_
  refine r_aload_n X 0 d_Lor_init_12 rfl rfl ?_
  refine r_iconst X 2 d_Lor_init_13 (by decide) ?_
  refine r_put X k_Lor 7 (by decide) f_Lor_15 rfl rup_self rfl rfl rfl (Nat.le_of_ble_eq_true rfl) [.int 0, .ref (a_1 ko), .int 0, .int 0, .int 0, .int 0, .int 0, .int 2, .int 0, .int 0] rfl (va_up (va_up c ko (some (.inl (cy 0, 8, .inl (fun _ => 0))))) n (some (.inr (3, [.int 0, .ref (a_1 ko), .int 0, .int 0, .int 0, .int 0, .int 0, .int 2, .int 0, .int 0])))) rup_up d_Lor_init_14 ?_
  refine r_aload_n X 0 d_Lor_init_17 rfl rfl ?_
  refine r_iload_n X 1 d_Lor_init_18 rfl rfl ?_
  refine r_putF X k_Lor 0 (by decide) f_Lor_19 rfl rup_self rfl rfl hin (nb_bit hz) (fb_bit hz) (Nat.le_of_ble_eq_true rfl) [.int z, .ref (a_1 ko), .int 0, .int 0, .int 0, .int 0, .int 0, .int 2, .int 0, .int 0] rfl (va_up (va_up c ko (some (.inl (cy 0, 8, .inl (fun _ => 0))))) n (some (.inr (3, [.int z, .ref (a_1 ko), .int 0, .int 0, .int 0, .int 0, .int 0, .int 2, .int 0, .int 0])))) rup_up d_Lor_init_19 ?_
  exact r_vret (post := fun ad' c' => (∀ j, j ≠ ko → ad' j = ad j) ∧ va_up (va_up c ko (some (.inl (cy 0, 8, .inl (fun _ => 0))))) n (some (.inr (3, [.int z, .ref (ad' ko), .int 0, .int 0, .int 0, .int 0, .int 0, .int 2, .int 0, .int 0]))) = c') X hr hlk d_Lor_init_22 (by decide) (by decide) ⟨(fun j h0 => ha_1 j h0), rfl⟩
set_option maxRecDepth 100000 in
set_option maxHeartbeats 4000000 in
/-- Road_init -/
theorem c_Road_init (l : Launch) (D : va_G) (cy : Nat → ClassId) (ad : Nat → Nat) (c : rC) (n ks kl kt : Nat) (hc : c n = some (.inr (2, [.int 0, .int 0, .int 0, .int 0, .int 0, .int 0, .int 0, .null, .null, .null, .int 0, .int 0]))) (hks : c ks = none) (hkl : c kl = none) (hkt : c kt = none) (hnnks : n ≠ ks) (hnnkl : n ≠ kl) (hnnkt : n ≠ kt) (hnkskl : ks ≠ kl) (hnkskt : ks ≠ kt) (hnklkt : kl ≠ kt) (one oth len ran hei sha bri : Int32) (hz : bri = 0 ∨ bri = 1) : rMv l D cls (TY cy) NW y_Road_init (Cond.code y_Road_init b_Road_init 8 none :: W0) { frames := 2, cells := 3, slots := 408, locals := 40 } [.ref (ad n), .int one, .int oth, .int len, .int ran, .int hei, .int sha, .int bri] ad c (fun ad' c' => (∀ j, j ≠ ks → j ≠ kl → j ≠ kt → ad' j = ad j) ∧ va_up (va_up (va_up (va_up c ks (some (.inr (0, [.int 3, .int 0, .int 0, .int 0, .int 0, .int 0, .int 0, .int 0])))) n (some (.inr (2, [.int one, .int oth, .int len, .int ran, .int hei, .int sha, .int bri, .ref (ad' ks), .ref (ad' kl), .ref (ad' kt), .int 0, .int (-1)])))) kl (some (.inl (cy 1, 200, .inl (fun _ => 0))))) kt (some (.inl (cy 1, 200, .inl (fun _ => 0)))) = c') := by
  intro sz
  refine r_of (own := R_Road) rfl (by decide +kernel) (Nat.le_of_ble_eq_true rfl) ?_
  intro p e s m below meth cd hsz X hr hlk hN hin
  refine r_lv [0, 1, 2, 3, 4, 5, 6, 7] [(0, .ref (ad n)), (1, .int one), (2, .int oth), (3, .int len), (4, .int ran), (5, .int hei), (6, .int sha), (7, .int bri)] rfl ?_
  refine r_aload_n X 0 d_Road_init_0 rfl rfl ?_
  refine r_obj X m_Road_3 s_obj cd_obj ⟨by decide, by decide⟩ (Nat.le_of_ble_eq_true rfl) d_Road_init_1 ?_
  refine r_aload_n X 0 d_Road_init_4 rfl rfl ?_
  refine r_new X k_Surf c_Road_9 n_Surf i_Surf (fs := [.int 0, .int 0, .int 0, .int 0, .int 0, .int 0, .int 0, .int 0]) (by intro j hj; obtain rfl | rfl | rfl | rfl | rfl | rfl | rfl | rfl : j = 0 ∨ j = 1 ∨ j = 2 ∨ j = 3 ∨ j = 4 ∨ j = 5 ∨ j = 6 ∨ j = 7 := (by omega); all_goals rfl) (Nat.le_of_ble_eq_true rfl) (Nat.le_of_ble_eq_true rfl) d_Road_init_5 ks hks (fun a9 => [(0, .ref (a9 n)), (1, .int one), (2, .int oth), (3, .int len), (4, .int ran), (5, .int hei), (6, .int sha), (7, .int bri)]) (fun a9 => [.ref (a9 n)]) (fun a9 h9 => by rw [h9 n (by omega)]) (fun a9 h9 => by rw [h9 n (by omega)]) (fun a_1 ha_1 => ?_)
  refine r_dup X d_Road_init_8 rfl ?_
  refine r_INv X W0_good hN (c_Surf_init l D cy a_1 (va_up c ks (some (.inr (0, [.int 0, .int 0, .int 0, .int 0, .int 0, .int 0, .int 0, .int 0])))) ks rup_self) yi_Surf_init w_Road_11 rfl rfl ⟨by decide, by decide⟩ (Nat.le_of_ble_eq_true rfl) ⟨by decide, by decide⟩ d_Road_init_9 (fun ad9 c9 hp9 => ?_)
  obtain ⟨rfl, rfl⟩ := hp9
  refine r_c (va_up c ks (some (.inr (0, [.int 3, .int 0, .int 0, .int 0, .int 0, .int 0, .int 0, .int 0])))) rup_up ?_
  refine r_putF X k_Road 7 (by decide) f_Road_12 rfl (rup_ne (by omega) (hc)) rfl rfl hin rfl rfl (Nat.le_of_ble_eq_true rfl) [.int 0, .int 0, .int 0, .int 0, .int 0, .int 0, .int 0, .ref (a_1 ks), .null, .null, .int 0, .int 0] rfl (va_up (va_up c ks (some (.inr (0, [.int 3, .int 0, .int 0, .int 0, .int 0, .int 0, .int 0, .int 0])))) n (some (.inr (2, [.int 0, .int 0, .int 0, .int 0, .int 0, .int 0, .int 0, .ref (a_1 ks), .null, .null, .int 0, .int 0])))) rfl d_Road_init_12 ?_
  refine r_aload_n X 0 d_Road_init_15 rfl rfl ?_
  refine r_sipush X 200 d_Road_init_16 (by decide) ?_
  refine r_newa (ty := .boolean) (N := 200) X 1 rfl rfl rfl (fun q9 => q9) a_boolean (by decide) (by decide) (by decide) (Nat.le_of_ble_eq_true rfl) (Nat.le_of_ble_eq_true rfl) d_Road_init_19 kl (rup_ne (by omega) (rup_ne (by omega) hkl)) (fun a9 => [(0, .ref (a9 n)), (1, .int one), (2, .int oth), (3, .int len), (4, .int ran), (5, .int hei), (6, .int sha), (7, .int bri)]) (fun a9 => [.ref (a9 n)]) (fun a9 h9 => by rw [h9 n (by omega)]) (fun a9 h9 => by rw [h9 n (by omega)]) (fun a_2 ha_2 => ?_)
  refine r_c (va_up (va_up (va_up c ks (some (.inr (0, [.int 3, .int 0, .int 0, .int 0, .int 0, .int 0, .int 0, .int 0])))) n (some (.inr (2, [.int 0, .int 0, .int 0, .int 0, .int 0, .int 0, .int 0, .ref (a_2 ks), .null, .null, .int 0, .int 0])))) kl (some (.inl (cy 1, 200, .inl (fun _ => 0))))) (by rw [ha_2 ks (by omega)]) ?_
  refine r_putF X k_Road 8 (by decide) f_Road_18 rfl (rup_ne (by omega) (rup_self)) rfl rfl hin rfl rfl (Nat.le_of_ble_eq_true rfl) [.int 0, .int 0, .int 0, .int 0, .int 0, .int 0, .int 0, .ref (a_2 ks), .ref (a_2 kl), .null, .int 0, .int 0] rfl (va_up (va_up (va_up c ks (some (.inr (0, [.int 3, .int 0, .int 0, .int 0, .int 0, .int 0, .int 0, .int 0])))) n (some (.inr (2, [.int 0, .int 0, .int 0, .int 0, .int 0, .int 0, .int 0, .ref (a_2 ks), .ref (a_2 kl), .null, .int 0, .int 0])))) kl (some (.inl (cy 1, 200, .inl (fun _ => 0))))) (rup_in (by omega) rup_up rfl) d_Road_init_21 ?_
  refine r_aload_n X 0 d_Road_init_24 rfl rfl ?_
  refine r_sipush X 200 d_Road_init_25 (by decide) ?_
  refine r_newa (ty := .boolean) (N := 200) X 1 rfl rfl rfl (fun q9 => q9) a_boolean (by decide) (by decide) (by decide) (Nat.le_of_ble_eq_true rfl) (Nat.le_of_ble_eq_true rfl) d_Road_init_28 kt (rup_ne (by omega) (rup_ne (by omega) (rup_ne (by omega) hkt))) (fun a9 => [(0, .ref (a9 n)), (1, .int one), (2, .int oth), (3, .int len), (4, .int ran), (5, .int hei), (6, .int sha), (7, .int bri)]) (fun a9 => [.ref (a9 n)]) (fun a9 h9 => by rw [h9 n (by omega)]) (fun a9 h9 => by rw [h9 n (by omega)]) (fun a_3 ha_3 => ?_)
  refine r_c (va_up (va_up (va_up (va_up c ks (some (.inr (0, [.int 3, .int 0, .int 0, .int 0, .int 0, .int 0, .int 0, .int 0])))) n (some (.inr (2, [.int 0, .int 0, .int 0, .int 0, .int 0, .int 0, .int 0, .ref (a_3 ks), .ref (a_3 kl), .null, .int 0, .int 0])))) kl (some (.inl (cy 1, 200, .inl (fun _ => 0))))) kt (some (.inl (cy 1, 200, .inl (fun _ => 0))))) (by rw [ha_3 ks (by omega), ha_3 kl (by omega)]) ?_
  refine r_putF X k_Road 9 (by decide) f_Road_22 rfl (rup_ne (by omega) (rup_ne (by omega) (rup_self))) rfl rfl hin rfl rfl (Nat.le_of_ble_eq_true rfl) [.int 0, .int 0, .int 0, .int 0, .int 0, .int 0, .int 0, .ref (a_3 ks), .ref (a_3 kl), .ref (a_3 kt), .int 0, .int 0] rfl (va_up (va_up (va_up (va_up c ks (some (.inr (0, [.int 3, .int 0, .int 0, .int 0, .int 0, .int 0, .int 0, .int 0])))) n (some (.inr (2, [.int 0, .int 0, .int 0, .int 0, .int 0, .int 0, .int 0, .ref (a_3 ks), .ref (a_3 kl), .ref (a_3 kt), .int 0, .int 0])))) kl (some (.inl (cy 1, 200, .inl (fun _ => 0))))) kt (some (.inl (cy 1, 200, .inl (fun _ => 0))))) (rup_in (by omega) (rup_in (by omega) rup_up rfl) rfl) d_Road_init_30 ?_
  refine r_aload_n X 0 d_Road_init_33 rfl rfl ?_
  refine r_iconst X (-1) d_Road_init_34 (by decide) ?_
  refine r_put X k_Road 11 (by decide) f_Road_25 rfl (rup_ne (by omega) (rup_ne (by omega) (rup_self))) rfl rfl rfl (Nat.le_of_ble_eq_true rfl) [.int 0, .int 0, .int 0, .int 0, .int 0, .int 0, .int 0, .ref (a_3 ks), .ref (a_3 kl), .ref (a_3 kt), .int 0, .int (-1)] rfl (va_up (va_up (va_up (va_up c ks (some (.inr (0, [.int 3, .int 0, .int 0, .int 0, .int 0, .int 0, .int 0, .int 0])))) n (some (.inr (2, [.int 0, .int 0, .int 0, .int 0, .int 0, .int 0, .int 0, .ref (a_3 ks), .ref (a_3 kl), .ref (a_3 kt), .int 0, .int (-1)])))) kl (some (.inl (cy 1, 200, .inl (fun _ => 0))))) kt (some (.inl (cy 1, 200, .inl (fun _ => 0))))) (rup_in (by omega) (rup_in (by omega) rup_up rfl) rfl) d_Road_init_35 ?_
  refine r_aload_n X 0 d_Road_init_38 rfl rfl ?_
  refine r_iload_n X 1 d_Road_init_39 rfl rfl ?_
  refine r_putF X k_Road 0 (by decide) f_Road_29 rfl (rup_ne (by omega) (rup_ne (by omega) (rup_self))) rfl rfl hin rfl rfl (Nat.le_of_ble_eq_true rfl) [.int one, .int 0, .int 0, .int 0, .int 0, .int 0, .int 0, .ref (a_3 ks), .ref (a_3 kl), .ref (a_3 kt), .int 0, .int (-1)] rfl (va_up (va_up (va_up (va_up c ks (some (.inr (0, [.int 3, .int 0, .int 0, .int 0, .int 0, .int 0, .int 0, .int 0])))) n (some (.inr (2, [.int one, .int 0, .int 0, .int 0, .int 0, .int 0, .int 0, .ref (a_3 ks), .ref (a_3 kl), .ref (a_3 kt), .int 0, .int (-1)])))) kl (some (.inl (cy 1, 200, .inl (fun _ => 0))))) kt (some (.inl (cy 1, 200, .inl (fun _ => 0))))) (rup_in (by omega) (rup_in (by omega) rup_up rfl) rfl) d_Road_init_40 ?_
  refine r_aload_n X 0 d_Road_init_43 rfl rfl ?_
  refine r_iload_n X 2 d_Road_init_44 rfl rfl ?_
  refine r_putF X k_Road 1 (by decide) f_Road_32 rfl (rup_ne (by omega) (rup_ne (by omega) (rup_self))) rfl rfl hin rfl rfl (Nat.le_of_ble_eq_true rfl) [.int one, .int oth, .int 0, .int 0, .int 0, .int 0, .int 0, .ref (a_3 ks), .ref (a_3 kl), .ref (a_3 kt), .int 0, .int (-1)] rfl (va_up (va_up (va_up (va_up c ks (some (.inr (0, [.int 3, .int 0, .int 0, .int 0, .int 0, .int 0, .int 0, .int 0])))) n (some (.inr (2, [.int one, .int oth, .int 0, .int 0, .int 0, .int 0, .int 0, .ref (a_3 ks), .ref (a_3 kl), .ref (a_3 kt), .int 0, .int (-1)])))) kl (some (.inl (cy 1, 200, .inl (fun _ => 0))))) kt (some (.inl (cy 1, 200, .inl (fun _ => 0))))) (rup_in (by omega) (rup_in (by omega) rup_up rfl) rfl) d_Road_init_45 ?_
  refine r_aload_n X 0 d_Road_init_48 rfl rfl ?_
  refine r_iload_n X 3 d_Road_init_49 rfl rfl ?_
  refine r_putF X k_Road 2 (by decide) f_Road_35 rfl (rup_ne (by omega) (rup_ne (by omega) (rup_self))) rfl rfl hin rfl rfl (Nat.le_of_ble_eq_true rfl) [.int one, .int oth, .int len, .int 0, .int 0, .int 0, .int 0, .ref (a_3 ks), .ref (a_3 kl), .ref (a_3 kt), .int 0, .int (-1)] rfl (va_up (va_up (va_up (va_up c ks (some (.inr (0, [.int 3, .int 0, .int 0, .int 0, .int 0, .int 0, .int 0, .int 0])))) n (some (.inr (2, [.int one, .int oth, .int len, .int 0, .int 0, .int 0, .int 0, .ref (a_3 ks), .ref (a_3 kl), .ref (a_3 kt), .int 0, .int (-1)])))) kl (some (.inl (cy 1, 200, .inl (fun _ => 0))))) kt (some (.inl (cy 1, 200, .inl (fun _ => 0))))) (rup_in (by omega) (rup_in (by omega) rup_up rfl) rfl) d_Road_init_50 ?_
  refine r_aload_n X 0 d_Road_init_53 rfl rfl ?_
  refine r_iload X 4 d_Road_init_54 rfl ?_
  refine r_putF X k_Road 3 (by decide) f_Road_38 rfl (rup_ne (by omega) (rup_ne (by omega) (rup_self))) rfl rfl hin rfl rfl (Nat.le_of_ble_eq_true rfl) [.int one, .int oth, .int len, .int ran, .int 0, .int 0, .int 0, .ref (a_3 ks), .ref (a_3 kl), .ref (a_3 kt), .int 0, .int (-1)] rfl (va_up (va_up (va_up (va_up c ks (some (.inr (0, [.int 3, .int 0, .int 0, .int 0, .int 0, .int 0, .int 0, .int 0])))) n (some (.inr (2, [.int one, .int oth, .int len, .int ran, .int 0, .int 0, .int 0, .ref (a_3 ks), .ref (a_3 kl), .ref (a_3 kt), .int 0, .int (-1)])))) kl (some (.inl (cy 1, 200, .inl (fun _ => 0))))) kt (some (.inl (cy 1, 200, .inl (fun _ => 0))))) (rup_in (by omega) (rup_in (by omega) rup_up rfl) rfl) d_Road_init_56 ?_
  refine r_aload_n X 0 d_Road_init_59 rfl rfl ?_
  refine r_iload X 5 d_Road_init_60 rfl ?_
  refine r_putF X k_Road 4 (by decide) f_Road_41 rfl (rup_ne (by omega) (rup_ne (by omega) (rup_self))) rfl rfl hin rfl rfl (Nat.le_of_ble_eq_true rfl) [.int one, .int oth, .int len, .int ran, .int hei, .int 0, .int 0, .ref (a_3 ks), .ref (a_3 kl), .ref (a_3 kt), .int 0, .int (-1)] rfl (va_up (va_up (va_up (va_up c ks (some (.inr (0, [.int 3, .int 0, .int 0, .int 0, .int 0, .int 0, .int 0, .int 0])))) n (some (.inr (2, [.int one, .int oth, .int len, .int ran, .int hei, .int 0, .int 0, .ref (a_3 ks), .ref (a_3 kl), .ref (a_3 kt), .int 0, .int (-1)])))) kl (some (.inl (cy 1, 200, .inl (fun _ => 0))))) kt (some (.inl (cy 1, 200, .inl (fun _ => 0))))) (rup_in (by omega) (rup_in (by omega) rup_up rfl) rfl) d_Road_init_62 ?_
  refine r_aload_n X 0 d_Road_init_65 rfl rfl ?_
  refine r_iload X 6 d_Road_init_66 rfl ?_
  refine r_putF X k_Road 5 (by decide) f_Road_44 rfl (rup_ne (by omega) (rup_ne (by omega) (rup_self))) rfl rfl hin rfl rfl (Nat.le_of_ble_eq_true rfl) [.int one, .int oth, .int len, .int ran, .int hei, .int sha, .int 0, .ref (a_3 ks), .ref (a_3 kl), .ref (a_3 kt), .int 0, .int (-1)] rfl (va_up (va_up (va_up (va_up c ks (some (.inr (0, [.int 3, .int 0, .int 0, .int 0, .int 0, .int 0, .int 0, .int 0])))) n (some (.inr (2, [.int one, .int oth, .int len, .int ran, .int hei, .int sha, .int 0, .ref (a_3 ks), .ref (a_3 kl), .ref (a_3 kt), .int 0, .int (-1)])))) kl (some (.inl (cy 1, 200, .inl (fun _ => 0))))) kt (some (.inl (cy 1, 200, .inl (fun _ => 0))))) (rup_in (by omega) (rup_in (by omega) rup_up rfl) rfl) d_Road_init_68 ?_
  refine r_aload_n X 0 d_Road_init_71 rfl rfl ?_
  refine r_iload X 7 d_Road_init_72 rfl ?_
  refine r_putF X k_Road 6 (by decide) f_Road_47 rfl (rup_ne (by omega) (rup_ne (by omega) (rup_self))) rfl rfl hin (nb_bit hz) (fb_bit hz) (Nat.le_of_ble_eq_true rfl) [.int one, .int oth, .int len, .int ran, .int hei, .int sha, .int bri, .ref (a_3 ks), .ref (a_3 kl), .ref (a_3 kt), .int 0, .int (-1)] rfl (va_up (va_up (va_up (va_up c ks (some (.inr (0, [.int 3, .int 0, .int 0, .int 0, .int 0, .int 0, .int 0, .int 0])))) n (some (.inr (2, [.int one, .int oth, .int len, .int ran, .int hei, .int sha, .int bri, .ref (a_3 ks), .ref (a_3 kl), .ref (a_3 kt), .int 0, .int (-1)])))) kl (some (.inl (cy 1, 200, .inl (fun _ => 0))))) kt (some (.inl (cy 1, 200, .inl (fun _ => 0))))) (rup_in (by omega) (rup_in (by omega) rup_up rfl) rfl) d_Road_init_74 ?_
  exact r_vret (post := fun ad' c' => (∀ j, j ≠ ks → j ≠ kl → j ≠ kt → ad' j = ad j) ∧ va_up (va_up (va_up (va_up c ks (some (.inr (0, [.int 3, .int 0, .int 0, .int 0, .int 0, .int 0, .int 0, .int 0])))) n (some (.inr (2, [.int one, .int oth, .int len, .int ran, .int hei, .int sha, .int bri, .ref (ad' ks), .ref (ad' kl), .ref (ad' kt), .int 0, .int (-1)])))) kl (some (.inl (cy 1, 200, .inl (fun _ => 0))))) kt (some (.inl (cy 1, 200, .inl (fun _ => 0)))) = c') X hr hlk d_Road_init_77 (by decide) (by decide) ⟨(fun j h0 h1 h2 => ((ha_3 j h2).trans (ha_2 j h1)).trans (ha_1 j h0)), rfl⟩
